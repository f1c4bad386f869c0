import java.util.Random;
import java.util.TreeSet;

/**
 * All promises: long runs of calls drawn by a fixed seed, each answered by the
 * class and by the model, with everything that can be asked compared after it.
 */
public final class ModelTest {
    private static final int OBJECTS = 400;
    private static final int CALLS = 512;
    private static final int[] ODD = {-1, 4, 5, 8, 10, 16, 17, 1000, Integer.MIN_VALUE, Integer.MAX_VALUE,
        Integer.MAX_VALUE - 2};
    private static final Due due = new Due();
    private static final TreeSet<Integer> codesSeen = new TreeSet<>();

    public static void main(String[] args) {
        for (int object = 0; object < OBJECTS && due.wrongSoFar() == 0; object++) {
            new ModelTest(object).play();
        }
        if (due.wrongSoFar() == 0) {
            everyCodeWasSeen();
        }
        due.end();
    }

    private final int seed;
    private final Random random;
    private final FourWayKernel x = new FourWayKernel();
    private final Model m = new Model();
    // Fewer pages make more orders meet; more steps let more orders end.
    private final int pages;
    private final int stepShare;
    private final int finalProcessors;
    private String call;

    private ModelTest(int seed) {
        this.seed = seed;
        random = new Random(seed);
        pages = new int[] {3, 5, 8, 16}[random.nextInt(4)];
        stepShare = 40 + random.nextInt(55);
        finalProcessors = 1 + random.nextInt(4);
    }

    private void play() {
        for (int i = 0; i < CALLS && due.wrongSoFar() == 0; i++) {
            if (random.nextInt(100) < stepShare) {
                drawStep();
            } else {
                drawOrder();
            }
            compareAll("object " + seed + ", call " + i + ", after " + call);
        }
    }

    private void drawStep() {
        if (random.nextInt(4) == 0) {
            int n = random.nextInt(12) == 0 ? ODD[random.nextInt(ODD.length)] : 1 + random.nextInt(16);
            int schedule = random.nextInt();
            call = "run(" + schedule + ", " + n + ")";
            due.is(call, x.run(schedule, n), m.run(schedule, n));
            return;
        }
        int p = odd() ? ODD[random.nextInt(ODD.length)] : random.nextInt(finalProcessors);
        if (random.nextInt(5) == 0) {
            p = random.nextInt(4);
        }
        call = "step(" + p + ")";
        int code = m.step(p);
        codesSeen.add(code);
        due.is(call, x.step(p), code);
    }

    private void drawOrder() {
        int t = odd() ? ODD[random.nextInt(ODD.length)] : random.nextInt(m.threads.size() + 1);
        int page = odd() ? ODD[random.nextInt(ODD.length)] : random.nextInt(pages);
        int n = odd() ? ODD[random.nextInt(ODD.length)] : random.nextInt(5);
        int value = odd() ? ODD[random.nextInt(ODD.length)] : random.nextInt(1000);
        int p = odd() ? ODD[random.nextInt(ODD.length)] : random.nextInt(4);
        boolean writable = random.nextInt(4) != 0;
        String range = t + ", " + page + ", " + n;
        switch (random.nextInt(8)) {
            case 0:
                call = "thread(" + p + ")";
                due.is(call, x.thread(p), m.thread(p));
                break;
            case 1:
                call = "load(" + t + ", " + page + ")";
                due.is(call, x.load(t, page), m.order(Model.Kind.LOAD, t, page, 1, 0, false, 0));
                break;
            case 2:
                call = "store(" + t + ", " + page + ", " + value + ")";
                due.is(call, x.store(t, page, value), m.order(Model.Kind.STORE, t, page, 1, value, false, 0));
                break;
            case 3:
            case 4:
                call = "map(" + range + ", " + writable + ")";
                due.is(call, x.map(t, page, n, writable), m.order(Model.Kind.MAP, t, page, n, 0, writable, 0));
                break;
            case 5:
                call = "unmap(" + range + ")";
                due.is(call, x.unmap(t, page, n), m.order(Model.Kind.UNMAP, t, page, n, 0, false, 0));
                break;
            case 6:
                call = "protect(" + range + ")";
                due.is(call, x.protect(t, page, n), m.order(Model.Kind.PROTECT, t, page, n, 0, false, 0));
                break;
            default:
                call = "move(" + t + ", " + p + ")";
                due.is(call, x.move(t, p), m.order(Model.Kind.MOVE, t, 0, 1, 0, false, p));
                break;
        }
    }

    private boolean odd() {
        return random.nextInt(25) == 0;
    }

    private void compareAll(String when) {
        for (int p = -1; p <= 4; p++) {
            due.is(when + ": current " + p, x.current(p), m.current(p));
            due.is(when + ": phase " + p, x.phase(p), m.phase(p));
            due.is(when + ": mail " + p, x.mail(p), m.mail(p));
            for (int k = -1; k <= 8; k++) {
                due.is(when + ": queued " + p + " " + k, x.queued(p, k), m.queued(p, k));
            }
            for (int page = -1; page <= 16; page++) {
                due.is(when + ": translation " + p + " " + page, x.translation(p, page), m.translation(p, page));
            }
        }
        for (int a = -1; a <= 16; a++) {
            due.is(when + ": table " + a, x.table(a), m.table(a));
            due.is(when + ": word " + a, x.word(a), m.word(a));
            due.is(when + ": spare " + a, x.spare(a), m.spare(a));
        }
        for (int t = -1; t <= 8; t++) {
            for (int k = -1; k <= 10; k++) {
                due.is(when + ": result " + t + " " + k, x.result(t, k), m.result(t, k));
            }
        }
        due.is(when + ": tickets", x.tickets(), m.tickets());
        due.is(when + ": steps", x.steps(), m.steps());
    }

    /** Guards the drawing itself: runs that never reach a phase test nothing of it. */
    private static void everyCodeWasSeen() {
        int[] codes = {-1, 0, 1, 2, 3, 4, 5, 6, 7, 8, 9, 10, 11, 12, 13, 20, 21, 22, 30, 31};
        for (int code : codes) {
            due.is("code " + code + " was seen", codesSeen.contains(code) ? 1 : 0, 1);
        }
        due.is("codes seen", codesSeen.size(), codes.length);
    }
}
