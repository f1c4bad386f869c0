import java.io.IOException;
import java.nio.file.Files;
import java.nio.file.Path;
import java.util.regex.Matcher;
import java.util.regex.Pattern;

/** What the source of the class tells of the rules of LANGUAGE.md; it is run in the project's directory. */
public final class LanguageTest {
    private static final Path SOURCE = Path.of("src", "main", "java", "FourWayKernel.java");
    // Rules 2, 4, 5, 6 and 13: what may not stand in the source. The class needs
    // nothing of the library, so no name of it is let through.
    private static final String[] RULED_OUT = {
        "\\bpackage\\b", "\\bimport\\b", "\\bjava\\.", "\\bthrows?\\b", "\\btry\\b", "\\bcatch\\b", "\\bfinally\\b",
        "\\bsynchronized\\b", "\\bassert\\b", "->", "::", "@", "\\bstatic \\{",
        "\\b(equals|hashCode|toString|getClass|wait|notify|finalize)\\(",
        "\\b(System|Math|Arrays|Integer|Long|String|StringBuilder|Object|Thread|Random)\\b"
    };
    private static final int MOST_LINES_OF_A_METHOD = 60;
    private static final Due due = new Due();

    public static void main(String[] args) throws IOException {
        String code = withoutComments(Files.readString(SOURCE));
        for (String pattern : RULED_OUT) {
            Matcher found = Pattern.compile(pattern).matcher(code);
            due.is(pattern + " stands in the source", found.find() ? 1 : 0, 0);
        }
        methodsAreShort(code);
        due.end();
    }

    private static String withoutComments(String source) {
        return source.replaceAll("(?s)/\\*.*?\\*/", "").replaceAll("//[^\n]*", "");
    }

    /** A method or a constructor begins and ends with the indentation of its class's members. */
    private static void methodsAreShort(String code) {
        Pattern method = Pattern.compile("(?m)^( {4}| {8})(?!.*\\bclass\\b)\\S.*\\) \\{\n((?:.*\n)*?)\\1\\}$");
        Matcher found = method.matcher(code);
        int methods = 0;
        while (found.find()) {
            methods++;
            int lines = (int) found.group(2).lines().count();
            due.is("lines beyond sixty in " + found.group().strip().split("\n")[0],
                Math.max(lines - MOST_LINES_OF_A_METHOD, 0), 0);
        }
        due.is("no methods found", methods == 0 ? 1 : 0, 0);
    }
}
