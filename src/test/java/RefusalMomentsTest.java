import java.util.ArrayList;
import java.util.List;
import java.util.TreeSet;

/**
 * 'A call that is refused changes nothing', in drawn runs: an object with a
 * refused call before each of its calls is held against one without them. Some
 * objects get calls that only ask instead. Every reason to refuse a call must
 * have met every kind of moment in the end.
 */
public final class RefusalMomentsTest {
    private static final int NONE = FourWayKernel.NONE;
    private static final int OBJECTS = 20000;
    private static final int MOST_CALLS = 512;
    private static final int MOST_CALLS_OF_A_RUN = (MOST_CALLS - State.CALLS - 1) / 2;
    private static final int LOWEST = Draw.LOWEST;
    private static final int HIGHEST = Draw.HIGHEST;
    private static final int[] NO_PROCESSORS = {-1, 4, 5, 8, LOWEST, HIGHEST};
    private static final int[] NO_PAGES = {-1, 16, 17, LOWEST, HIGHEST};
    private static final int[] NO_VALUES = {-1, 1000, LOWEST, HIGHEST};
    private static final int[] NO_NUMBERS = {0, -1, 5, 16, LOWEST, HIGHEST};
    private static final int[] NO_RUNS = {0, -1, 17, 32, LOWEST, HIGHEST};
    private static final List<String> OF_NO_THREAD = reasonsOfNoThread();
    private static final List<String> OF_A_THREAD = reasonsOfAThread();
    private static final TreeSet<String> met = new TreeSet<>();
    private static final Due due = new Due();

    public static void main(String[] args) {
        due.sentence("A call that is refused changes nothing");
        for (int seed = 0; seed < OBJECTS && due.wrongSoFar() == 0; seed++) {
            new RefusalMomentsTest(seed).play();
        }
        if (due.wrongSoFar() == 0) {
            everyReasonMetEveryMoment();
        }
        due.end();
    }

    private static List<String> reasonsOfNoThread() {
        List<String> reasons = new ArrayList<>(List.of(
            "thread: processor", "thread: eight threads", "step: processor", "run: n"));
        for (String method : Draw.ORDERS) {
            reasons.add(method + ": no such thread");
        }
        return reasons;
    }

    private static List<String> reasonsOfAThread() {
        List<String> reasons = new ArrayList<>(List.of(
            "load: page", "store: page", "store: value", "move: processor"));
        for (String method : Draw.ORDERS) {
            reasons.add(method + ": ten orders");
        }
        for (String method : new String[] {"map", "unmap", "protect"}) {
            reasons.add(method + ": n");
            reasons.add(method + ": range");
        }
        return reasons;
    }

    private final int seed;
    private final FourWayKernel plain = new FourWayKernel();
    private final FourWayKernel tried = new FourWayKernel();
    private final Model m = new Model();
    private final Draw draw;
    private final boolean asks;
    private int calls = 0;

    private RefusalMomentsTest(int seed) {
        this.seed = seed;
        draw = new Draw(seed, m);
        asks = seed % 4 == 0;
    }

    private void play() {
        int length = draw.below(MOST_CALLS_OF_A_RUN + 1);
        for (int i = 0; i < length; i++) {
            tryCall();
            Call call = draw.call();
            calls++;
            call.of(m);
            due.is(() -> about() + call, call.of(tried), call.of(plain));
        }
        tryCall();
        String difference = new State(tried).differenceFrom(new State(plain));
        due.is(() -> about() + difference, difference.isEmpty() ? 0 : 1, 0);
        due.is("calls of object " + seed + " beyond the limit", Math.max(calls + State.CALLS - MOST_CALLS, 0), 0);
    }

    private String about() {
        return "object " + seed + ", call " + calls + ": ";
    }

    private void tryCall() {
        calls++;
        if (asks) {
            Call question = draw.question();
            (draw.percent(10) ? draw.spoiled(question) : question).of(tried);
            return;
        }
        String reason = drawReason();
        Call refused = refusedCall(reason);
        noteMoment(reason, refused);
        due.is(() -> about() + refused, refused.of(tried), NONE);
    }

    /** A reason for which a call can be refused at this moment. */
    private String drawReason() {
        boolean someFull = !threadsThatTake(false).isEmpty();
        boolean someTake = !threadsThatTake(true).isEmpty();
        List<String> reasons = new ArrayList<>();
        for (String reason : OF_NO_THREAD) {
            if (!reason.endsWith("eight threads") || m.threads.size() == 8) {
                reasons.add(reason);
            }
        }
        for (String reason : OF_A_THREAD) {
            if (reason.endsWith("ten orders") ? someFull : someTake) {
                reasons.add(reason);
            }
        }
        return reasons.get(draw.below(reasons.size()));
    }

    private List<Integer> threadsThatTake(boolean further) {
        List<Integer> found = new ArrayList<>();
        for (int t = 0; t < m.threads.size(); t++) {
            if (m.threads.get(t).orders.size() < 10 == further) {
                found.add(t);
            }
        }
        return found;
    }

    private int oneThat(boolean takesFurther) {
        List<Integer> found = threadsThatTake(takesFurther);
        return found.get(draw.below(found.size()));
    }

    /** A call that is refused for the reason, and for no other one where that can be. */
    private Call refusedCall(String reason) {
        String method = reason.substring(0, reason.indexOf(':'));
        String wrong = reason.substring(method.length() + 2);
        return switch (reason) {
            case "thread: processor", "step: processor" -> new Call(method, draw.one(NO_PROCESSORS));
            case "thread: eight threads" -> new Call("thread", draw.below(4));
            case "run: n" -> new Call("run", draw.one(0, -1, Machines.IN_TURN), draw.one(NO_RUNS));
            default -> refusedOrder(method, wrong);
        };
    }

    private Call refusedOrder(String method, String wrong) {
        return switch (wrong) {
            case "no such thread" -> draw.order(method, draw.one(-1, m.threads.size(), 8, LOWEST, HIGHEST));
            case "ten orders" -> draw.order(method, oneThat(false));
            default -> wrongOrder(method, wrong);
        };
    }

    private Call wrongOrder(String method, String wrong) {
        Call order = draw.order(method, oneThat(true));
        int[] a = order.arguments();
        switch (wrong) {
            case "page":
                a[1] = draw.one(NO_PAGES);
                break;
            case "value":
                a[2] = draw.one(NO_VALUES);
                break;
            case "processor":
                a[1] = draw.one(NO_PROCESSORS);
                break;
            case "n":
                a[2] = draw.one(NO_NUMBERS);
                break;
            default:
                int n = a[2];
                a[1] = draw.one(-1, -n, 17 - n, 16, LOWEST, HIGHEST, HIGHEST - n + 1);
                break;
        }
        return order;
    }

    private void noteMoment(String reason, Call refused) {
        for (int p = 0; p < 4; p++) {
            met.add(reason + ", processor " + p + " in phase " + m.phase(p));
            if (m.mail(p) > 0) {
                met.add(reason + ", processor " + p + " with mail");
            }
        }
        if (OF_A_THREAD.contains(reason)) {
            met.add(reason + ", thread " + placeOf(refused.arguments()[0]));
        }
    }

    private String placeOf(int t) {
        for (int p = 0; p < 4; p++) {
            if (m.current(p) == t) {
                return "in phase " + m.phase(p);
            }
        }
        return m.threads.get(t).first() == null ? "parked" : "in a queue";
    }

    private static void everyReasonMetEveryMoment() {
        List<String> all = new ArrayList<>(OF_NO_THREAD);
        all.addAll(OF_A_THREAD);
        for (String reason : all) {
            for (int p = 0; p < 4; p++) {
                wasMet(reason + ", processor " + p + " with mail");
                wasMet(reason + ", processor " + p + " in phase " + NONE);
                for (int phase = 4; phase <= 15; phase++) {
                    wasMet(reason + ", processor " + p + " in phase " + phase);
                }
            }
        }
        for (String reason : OF_A_THREAD) {
            wasMet(reason + ", thread parked");
            wasMet(reason + ", thread in a queue");
            for (int phase = 4; phase <= 15; phase++) {
                wasMet(reason + ", thread in phase " + phase);
            }
        }
    }

    private static void wasMet(String moment) {
        due.is(() -> moment + " was met", met.contains(moment) ? 1 : 0, 1);
    }
}
