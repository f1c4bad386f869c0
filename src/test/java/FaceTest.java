import java.lang.reflect.Constructor;
import java.lang.reflect.Field;
import java.lang.reflect.Method;
import java.lang.reflect.Modifier;
import java.util.Arrays;
import java.util.TreeSet;

/**
 * The public face of the document: those members, and no others; and what the
 * compiled class tells of rules 1, 2, 5 and 11 of LANGUAGE.md.
 */
public final class FaceTest {
    private static final String[] METHODS = {
        "thread int", "load int int", "store int int int", "map int int int boolean",
        "unmap int int int", "protect int int int", "move int int", "step int", "run int int",
        "result int int", "current int", "phase int", "queued int int", "mail int", "table int",
        "translation int int", "word int", "spare int", "tickets", "steps"
    };
    private static final Due due = new Due();

    public static void main(String[] args) throws IllegalAccessException {
        Class<?> face = FourWayKernel.class;
        due.is("public and final", face.getModifiers(), Modifier.PUBLIC | Modifier.FINAL);
        due.is("extends nothing", face.getSuperclass() == Object.class ? 1 : 0, 1);
        due.is("implements nothing", face.getInterfaces().length, 0);
        constructorIsAsDue(face);
        constantsAreAsDue(face);
        methodsAreAsDue(face);
        keepsToTheRules(face);
        Class<?>[] classes = face.getDeclaredClasses();
        due.is("classes beyond twelve", Math.max(1 + classes.length - 12, 0), 0);
        for (Class<?> inside : classes) {
            int modifiers = inside.getModifiers();
            due.is(inside + " is static", Modifier.isStatic(modifiers) ? 1 : 0, 1);
            due.is(inside + " is of the face", modifiers & (Modifier.PUBLIC | Modifier.PROTECTED), 0);
            keepsToTheRules(inside);
        }
        due.end();
    }

    private static void keepsToTheRules(Class<?> where) {
        noPrivateMethodHasAPublicName(where);
        int fields = 0;
        for (Field field : where.getDeclaredFields()) {
            boolean isStatic = Modifier.isStatic(field.getModifiers());
            due.is(field + " can change", isStatic && !Modifier.isFinal(field.getModifiers()) ? 1 : 0, 0);
            fields += isStatic ? 0 : 1;
        }
        due.is("fields of " + where + " beyond twenty", Math.max(fields - 20, 0), 0);
        for (Method method : where.getDeclaredMethods()) {
            due.is("parameters of " + method + " beyond seven", Math.max(method.getParameterCount() - 7, 0), 0);
        }
    }

    private static void constructorIsAsDue(Class<?> face) {
        Constructor<?>[] constructors = face.getDeclaredConstructors();
        due.is("constructors", constructors.length, 1);
        due.is("its parameters", constructors[0].getParameterCount(), 0);
        due.is("it is public", constructors[0].getModifiers(), Modifier.PUBLIC);
    }

    private static void constantsAreAsDue(Class<?> face) throws IllegalAccessException {
        TreeSet<String> seen = new TreeSet<>();
        for (Field field : face.getDeclaredFields()) {
            if (!Modifier.isPrivate(field.getModifiers())) {
                seen.add(field.getName() + " " + field.get(null));
                int constant = Modifier.PUBLIC | Modifier.STATIC | Modifier.FINAL;
                due.is(field + " is a constant", field.getModifiers(), constant);
                due.is(field + " is an int", field.getType() == int.class ? 1 : 0, 1);
            }
        }
        sameNames(seen, new TreeSet<>(Arrays.asList("NONE -1", "FAULT -2", "REFUSED -3")));
    }

    private static void methodsAreAsDue(Class<?> face) {
        TreeSet<String> seen = new TreeSet<>();
        for (Method method : face.getDeclaredMethods()) {
            if (!Modifier.isPrivate(method.getModifiers())) {
                StringBuilder text = new StringBuilder(method.getName());
                for (Class<?> parameter : method.getParameterTypes()) {
                    text.append(' ').append(parameter.getName());
                }
                seen.add(text.toString());
                due.is(method + " is public alone", method.getModifiers(), Modifier.PUBLIC);
                due.is(method + " answers an int", method.getReturnType() == int.class ? 1 : 0, 1);
            }
        }
        sameNames(seen, new TreeSet<>(Arrays.asList(METHODS)));
    }

    private static void noPrivateMethodHasAPublicName(Class<?> where) {
        TreeSet<String> names = new TreeSet<>();
        for (String method : METHODS) {
            names.add(method.split(" ")[0]);
        }
        for (Method method : where.getDeclaredMethods()) {
            boolean face = where == FourWayKernel.class && Modifier.isPublic(method.getModifiers());
            due.is(method + " has a public name", !face && names.contains(method.getName()) ? 1 : 0, 0);
        }
    }

    private static void sameNames(TreeSet<String> seen, TreeSet<String> wanted) {
        due.is("members " + seen + " are " + wanted, seen.equals(wanted) ? 1 : 0, 1);
    }
}
