import java.util.TreeSet;

/**
 * All promises: runs of calls drawn by a fixed seed, each answered by the class
 * and by the model. Some objects are asked a drawn question now and then until
 * their last promised call; the others are asked everything after a drawn call.
 */
public final class ModelTest {
    private static final int OBJECTS = 20000;
    private static final int CALLS = 512;
    private static final int QUESTIONS = 6 * (3 + 10 + 18) + 18 * 3 + 10 * 12 + 2;
    private static final Due due = new Due();
    private static final TreeSet<Integer> codesSeen = new TreeSet<>();

    public static void main(String[] args) {
        for (int object = 0; object < OBJECTS && due.wrongSoFar() == 0; object++) {
            new ModelTest(object).play();
        }
        if (due.wrongSoFar() == 0) {
            everyCodeWasSeen();
        }
        due.end();
    }

    private final int seed;
    private final FourWayKernel x = new FourWayKernel();
    private final Model m = new Model();
    private final Draw draw;
    private int calls = 0;
    private Call last = null;

    private ModelTest(int seed) {
        this.seed = seed;
        draw = new Draw(seed, m);
    }

    private void play() {
        boolean asksAll = draw.percent(50);
        int drawn = asksAll ? draw.below(CALLS - QUESTIONS + 1) : CALLS;
        for (int i = 0; i < drawn && due.wrongSoFar() == 0; i++) {
            boolean asks = !asksAll && draw.percent(40);
            Call call = asks ? draw.question() : draw.call();
            makes(draw.percent(5) ? draw.spoiled(call) : call);
        }
        if (asksAll) {
            compareAll();
        }
        due.is("calls of object " + seed + " beyond the limit", Math.max(calls - CALLS, 0), 0);
    }

    private void makes(Call call) {
        calls++;
        int want = call.of(m);
        due.is(() -> "object " + seed + ", call " + calls + ", after " + last + ": " + call, call.of(x), want);
        if (call.method().equals("step")) {
            codesSeen.add(want);
        }
        last = call;
    }

    private void compareAll() {
        for (int p = -1; p <= 4; p++) {
            makes(new Call("current", p));
            makes(new Call("phase", p));
            makes(new Call("mail", p));
            for (int k = -1; k <= 8; k++) {
                makes(new Call("queued", p, k));
            }
            for (int page = -1; page <= 16; page++) {
                makes(new Call("translation", p, page));
            }
        }
        for (int a = -1; a <= 16; a++) {
            makes(new Call("table", a));
            makes(new Call("word", a));
            makes(new Call("spare", a));
        }
        for (int t = -1; t <= 8; t++) {
            for (int k = -1; k <= 10; k++) {
                makes(new Call("result", t, k));
            }
        }
        makes(new Call("tickets"));
        makes(new Call("steps"));
    }

    /** Guards the drawing itself: runs that never reach a phase test nothing of it. */
    private static void everyCodeWasSeen() {
        int[] codes = {-1, 0, 1, 2, 3, 4, 5, 6, 7, 8, 9, 10, 11, 12, 13, 20, 21, 22, 30, 31};
        for (int code : codes) {
            due.is("code " + code + " was seen", codesSeen.contains(code) ? 1 : 0, 1);
        }
        due.is("codes seen", codesSeen.size(), codes.length);
    }
}
