import java.util.Random;
import java.util.TreeSet;

/**
 * All promises: runs of calls drawn by a fixed seed, each answered by the class
 * and by the model. Some objects are asked a drawn question now and then until
 * their last promised call; the others are asked everything after a drawn call.
 */
public final class ModelTest {
    private static final int OBJECTS = 20000;
    private static final int CALLS = 512;
    private static final int QUESTIONS = 6 * (3 + 10 + 18) + 18 * 3 + 10 * 12 + 2;
    private static final int[] ODD = {-1, 4, 5, 8, 10, 16, 17, 1000, Integer.MIN_VALUE, Integer.MAX_VALUE,
        Integer.MAX_VALUE - 2};
    private static final Due due = new Due();
    private static final TreeSet<Integer> codesSeen = new TreeSet<>();

    public static void main(String[] args) {
        for (int object = 0; object < OBJECTS && due.wrongSoFar() == 0; object++) {
            new ModelTest(object).play();
        }
        if (due.wrongSoFar() == 0) {
            everyCodeWasSeen();
        }
        due.end();
    }

    private final int seed;
    private final Random random;
    private final FourWayKernel x = new FourWayKernel();
    private final Model m = new Model();
    // Fewer pages make more orders meet; more steps let more orders end.
    private final int pages;
    private final int stepShare;
    private final int questionShare;
    private final int finalProcessors;
    private int calls = 0;
    private String call = "the constructor";

    private ModelTest(int seed) {
        this.seed = seed;
        random = new Random(seed);
        pages = new int[] {3, 5, 8, 16}[random.nextInt(4)];
        stepShare = 40 + random.nextInt(55);
        questionShare = random.nextInt(2) * 40;
        finalProcessors = 1 + random.nextInt(4);
    }

    private void play() {
        boolean asksAll = questionShare == 0;
        int drawn = asksAll ? random.nextInt(CALLS - QUESTIONS + 1) : CALLS;
        for (int i = 0; i < drawn && due.wrongSoFar() == 0; i++) {
            drawCall();
        }
        if (asksAll) {
            compareAll();
        }
        due.is("calls of object " + seed + " beyond the limit", Math.max(calls - CALLS, 0), 0);
    }

    private void answers(String question, int got, int want) {
        calls++;
        due.is("object " + seed + ", call " + calls + ", after " + call + ": " + question, got, want);
    }

    private void drawCall() {
        if (random.nextInt(100) < questionShare) {
            drawQuestion();
        } else if (random.nextInt(100) < stepShare) {
            drawStep();
        } else {
            drawOrder();
        }
    }

    private void drawStep() {
        if (random.nextInt(4) == 0) {
            int n = random.nextInt(12) == 0 ? ODD[random.nextInt(ODD.length)] : 1 + random.nextInt(16);
            int schedule = random.nextInt();
            call = "run(" + schedule + ", " + n + ")";
            answers("it", x.run(schedule, n), m.run(schedule, n));
            return;
        }
        int p = odd() ? ODD[random.nextInt(ODD.length)] : random.nextInt(finalProcessors);
        if (random.nextInt(5) == 0) {
            p = random.nextInt(4);
        }
        call = "step(" + p + ")";
        int code = m.step(p);
        codesSeen.add(code);
        answers("it", x.step(p), code);
    }

    private void drawOrder() {
        int t = odd() ? ODD[random.nextInt(ODD.length)] : random.nextInt(m.threads.size() + 1);
        int page = odd() ? ODD[random.nextInt(ODD.length)] : random.nextInt(pages);
        int n = odd() ? ODD[random.nextInt(ODD.length)] : random.nextInt(5);
        int value = odd() ? ODD[random.nextInt(ODD.length)] : random.nextInt(1000);
        int p = odd() ? ODD[random.nextInt(ODD.length)] : random.nextInt(4);
        boolean writable = random.nextInt(4) != 0;
        String range = t + ", " + page + ", " + n;
        switch (random.nextInt(8)) {
            case 0:
                call = "thread(" + p + ")";
                answers("it", x.thread(p), m.thread(p));
                break;
            case 1:
                call = "load(" + t + ", " + page + ")";
                answers("it", x.load(t, page), m.order(Model.Kind.LOAD, t, page, 1, 0, false, 0));
                break;
            case 2:
                call = "store(" + t + ", " + page + ", " + value + ")";
                answers("it", x.store(t, page, value), m.order(Model.Kind.STORE, t, page, 1, value, false, 0));
                break;
            case 3:
            case 4:
                call = "map(" + range + ", " + writable + ")";
                answers("it", x.map(t, page, n, writable), m.order(Model.Kind.MAP, t, page, n, 0, writable, 0));
                break;
            case 5:
                call = "unmap(" + range + ")";
                answers("it", x.unmap(t, page, n), m.order(Model.Kind.UNMAP, t, page, n, 0, false, 0));
                break;
            case 6:
                call = "protect(" + range + ")";
                answers("it", x.protect(t, page, n), m.order(Model.Kind.PROTECT, t, page, n, 0, false, 0));
                break;
            default:
                call = "move(" + t + ", " + p + ")";
                answers("it", x.move(t, p), m.order(Model.Kind.MOVE, t, 0, 1, 0, false, p));
                break;
        }
    }

    private boolean odd() {
        return random.nextInt(25) == 0;
    }

    private void drawQuestion() {
        int a = odd() ? ODD[random.nextInt(ODD.length)] : random.nextInt(4);
        int b = odd() ? ODD[random.nextInt(ODD.length)] : random.nextInt(10);
        int t = odd() ? ODD[random.nextInt(ODD.length)] : random.nextInt(8);
        int page = odd() ? ODD[random.nextInt(ODD.length)] : random.nextInt(pages);
        switch (random.nextInt(11)) {
            case 0: answers("result", x.result(t, b), m.result(t, b)); break;
            case 1: answers("current", x.current(a), m.current(a)); break;
            case 2: answers("phase", x.phase(a), m.phase(a)); break;
            case 3: answers("queued", x.queued(a, b / 2), m.queued(a, b / 2)); break;
            case 4: answers("mail", x.mail(a), m.mail(a)); break;
            case 5: answers("table", x.table(page), m.table(page)); break;
            case 6: answers("translation", x.translation(a, page), m.translation(a, page)); break;
            case 7: answers("word", x.word(b), m.word(b)); break;
            case 8: answers("spare", x.spare(a), m.spare(a)); break;
            case 9: answers("tickets", x.tickets(), m.tickets()); break;
            default: answers("steps", x.steps(), m.steps()); break;
        }
    }

    private void compareAll() {
        for (int p = -1; p <= 4; p++) {
            answers("current " + p, x.current(p), m.current(p));
            answers("phase " + p, x.phase(p), m.phase(p));
            answers("mail " + p, x.mail(p), m.mail(p));
            for (int k = -1; k <= 8; k++) {
                answers("queued " + p + " " + k, x.queued(p, k), m.queued(p, k));
            }
            for (int page = -1; page <= 16; page++) {
                answers("translation " + p + " " + page, x.translation(p, page), m.translation(p, page));
            }
        }
        for (int a = -1; a <= 16; a++) {
            answers("table " + a, x.table(a), m.table(a));
            answers("word " + a, x.word(a), m.word(a));
            answers("spare " + a, x.spare(a), m.spare(a));
        }
        for (int t = -1; t <= 8; t++) {
            for (int k = -1; k <= 10; k++) {
                answers("result " + t + " " + k, x.result(t, k), m.result(t, k));
            }
        }
        answers("tickets", x.tickets(), m.tickets());
        answers("steps", x.steps(), m.steps());
    }

    /** Guards the drawing itself: runs that never reach a phase test nothing of it. */
    private static void everyCodeWasSeen() {
        int[] codes = {-1, 0, 1, 2, 3, 4, 5, 6, 7, 8, 9, 10, 11, 12, 13, 20, 21, 22, 30, 31};
        for (int code : codes) {
            due.is("code " + code + " was seen", codesSeen.contains(code) ? 1 : 0, 1);
        }
        due.is("codes seen", codesSeen.size(), codes.length);
    }
}
