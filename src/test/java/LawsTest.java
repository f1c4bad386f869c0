import java.util.Arrays;

/**
 * What follows from the document at every moment, asked after drawn runs and
 * without the model's answers: where threads and frames can be, who has the
 * lock, and that "revoked translations are dropped everywhere before their
 * frames are used again".
 */
public final class LawsTest {
    private static final int NONE = FourWayKernel.NONE;
    private static final int OBJECTS = 20000;
    private static final int MOST_CALLS = 512;
    private static final int WAIT = 8;
    private static final int CHECK = 9;
    private static final int CHANGE = 10;
    private static final int SEND = 11;
    private static final int AWAIT = 12;
    private static final int RELEASE = 13;
    private static final int UNLOCK = 14;
    private static final Due due = new Due();

    public static void main(String[] args) {
        for (int seed = 0; seed < OBJECTS && due.wrongSoFar() == 0; seed++) {
            new LawsTest(seed).play();
        }
        due.end();
    }

    private final int seed;
    private final FourWayKernel x = new FourWayKernel();
    private final Draw draw;
    // The model is there for the drawing alone.
    private final Model m = new Model();
    private final int[] given = new int[8];
    private final int[] done = new int[8];
    private int finished = 0;
    private int steps = 0;
    private final int[] phases = new int[4];
    private final int[] table = new int[16];

    private LawsTest(int seed) {
        this.seed = seed;
        draw = new Draw(seed, m);
    }

    private void play() {
        int length = draw.below(MOST_CALLS - State.CALLS + 1);
        for (int i = 0; i < length; i++) {
            Call call = draw.call();
            call.of(m);
            count(call, call.of(x));
        }
        // From here on no more is asked than State asks.
        Arrays.setAll(phases, p -> x.phase(p));
        Arrays.setAll(table, page -> x.table(page));
        ordersAreFinishedInTheirOrder();
        threadsAreInOnePlace();
        theLockHasOneHolder();
        requestsAreOfTheHolder();
        translationsAreDroppedInTime();
        framesAreInOnePlace();
        wordsAreInTheirBounds();
        law("steps", x.steps() == steps);
    }

    private void law(String words, boolean holds) {
        due.is(() -> "object " + seed + ": " + words, holds ? 1 : 0, 1);
    }

    private void count(Call call, int answer) {
        switch (call.method()) {
            case "thread":
                break;
            case "step":
                steps++;
                finished += answer >= 16 ? 1 : 0;
                break;
            case "run":
                steps += call.arguments()[1];
                finished += answer;
                break;
            default:
                given[call.arguments()[0]] += answer == NONE ? 0 : 1;
                break;
        }
    }

    /** How many processors have a current phase from the first to the last of these. */
    private int processorsIn(int first, int last) {
        return (int) Arrays.stream(phases).filter(phase -> first <= phase && phase <= last).count();
    }

    private void ordersAreFinishedInTheirOrder() {
        for (int t = 0; t < 8; t++) {
            for (int k = 0; k < 10; k++) {
                if (x.result(t, k) != NONE) {
                    law("order " + k + " of " + t + " is the next to be finished", k == done[t] && k < given[t]);
                    done[t]++;
                }
            }
        }
        law("finished orders", Arrays.stream(done).sum() == finished);
    }

    private void threadsAreInOnePlace() {
        int[] places = new int[8];
        for (int p = 0; p < 4; p++) {
            int current = x.current(p);
            law("phase of " + p, (phases[p] == NONE) == (current == NONE));
            if (current != NONE) {
                places[current]++;
            }
            for (int k = 0; k < 8; k++) {
                int queued = x.queued(p, k);
                if (queued != NONE) {
                    places[queued]++;
                }
            }
        }
        for (int t = 0; t < 8; t++) {
            law("places of thread " + t, places[t] == (done[t] < given[t] ? 1 : 0));
        }
    }

    private void theLockHasOneHolder() {
        law("one has the lock", processorsIn(CHECK, UNLOCK) <= 1);
        law("tickets", x.tickets() == processorsIn(WAIT, UNLOCK));
    }

    private void requestsAreOfTheHolder() {
        for (int p = 0; p < 4; p++) {
            int mail = x.mail(p);
            law("mail of " + p, mail == 0 || (mail == 1 && processorsIn(SEND, AWAIT) == 1));
        }
    }

    /** Until the lock's holder has all answers, a translation may be of a page that it took or made unwritable. */
    private void translationsAreDroppedInTime() {
        boolean revoking = processorsIn(CHANGE, AWAIT) == 1;
        for (int p = 0; p < 4; p++) {
            int found = 0;
            for (int page = 0; page < 16; page++) {
                int entry = x.translation(p, page);
                if (entry != NONE) {
                    found++;
                    boolean revoked = table[page] == NONE || table[page] == (entry & ~1);
                    law("translation " + p + " " + page, entry == table[page] || (revoking && revoked));
                    law("frame of translation " + p + " " + page, !otherPageHas(entry / 2, page));
                }
            }
            law("translations of " + p, found <= 3);
        }
    }

    private boolean otherPageHas(int frame, int page) {
        for (int other = 0; other < 16; other++) {
            if (other != page && table[other] != NONE && table[other] / 2 == frame) {
                return true;
            }
        }
        return false;
    }

    /** What frames an order keeps can't be asked; there are none but from its first CHANGE to its last RELEASE. */
    private void framesAreInOnePlace() {
        int found = 0;
        for (int page = 0; page < 16; page++) {
            if (table[page] != NONE) {
                found++;
                law("frame of page " + page, table[page] / 2 < 10 && !otherPageHas(table[page] / 2, page));
            }
        }
        for (int where = 0; where < 5; where++) {
            int spare = x.spare(where);
            found += spare;
            law("spare " + where, spare >= 0 && spare <= (where < 4 ? 2 : 10));
        }
        boolean keeps = processorsIn(CHANGE, RELEASE) == 1;
        law("frames in all", keeps ? found >= 6 && found <= 10 : found == 10);
    }

    private void wordsAreInTheirBounds() {
        for (int frame = 0; frame < 10; frame++) {
            int word = x.word(frame);
            law("word of " + frame, word >= 0 && word <= 999);
        }
    }
}
