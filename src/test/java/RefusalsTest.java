import java.util.ArrayList;
import java.util.List;
import java.util.TreeSet;

/**
 * 'A call that is refused changes nothing', for each method that can be refused
 * with each of its reasons and for each thread, at every moment of a run in
 * which every phase is the current one; and the same of calls that only ask. An
 * object with such a call in its run is held against one without it.
 */
public final class RefusalsTest {
    private static final int NONE = FourWayKernel.NONE;
    private static final int LOWEST = Integer.MIN_VALUE;
    private static final int HIGHEST = Integer.MAX_VALUE;
    private static final int MOST_CALLS = 512;
    private static final Due due = new Due();

    public static void main(String[] args) {
        RefusalsTest test = new RefusalsTest();
        int calls = test.script.size() + 1 + State.CALLS;
        due.is("more calls of an object than are promised", calls <= MOST_CALLS ? 0 : 1, 0);
        test.everyPhaseIsReached();
        due.sentence("A call that is refused changes nothing");
        for (int moment = 0; moment <= test.script.size(); moment++) {
            for (Call refused : refusedCalls(test.modelAt(moment))) {
                test.changesNothing(moment, refused, true);
            }
        }
        due.sentence("calls that only ask change nothing");
        for (int moment = 0; moment <= test.script.size(); moment++) {
            for (Call question : questions()) {
                test.changesNothing(moment, question, false);
            }
        }
        due.end();
    }

    private final List<Call> script = script();
    private final List<State> states = new ArrayList<>();
    private final int[] answers = new int[script.size()];

    /** Each state is asked of an object of its own, since asking takes calls too. */
    private RefusalsTest() {
        for (int moment = 0; moment <= script.size(); moment++) {
            states.add(new State(playedUntil(moment)));
        }
        FourWayKernel x = new FourWayKernel();
        for (int i = 0; i < answers.length; i++) {
            answers[i] = script.get(i).of(x);
        }
    }

    private FourWayKernel playedUntil(int moment) {
        FourWayKernel x = new FourWayKernel();
        for (int i = 0; i < moment; i++) {
            script.get(i).of(x);
        }
        return x;
    }

    private Model modelAt(int moment) {
        Model m = new Model();
        for (int i = 0; i < moment; i++) {
            script.get(i).of(m);
        }
        return m;
    }

    private static List<Call> script() {
        List<Call> script = new ArrayList<>(List.of(
            new Call("thread", 0),
            new Call("map", 0, 0, 4, 1),
            new Call("store", 0, 0, 999),
            new Call("load", 0, 0),
            new Call("protect", 0, 0, 2),
            new Call("store", 0, 0, 5),
            new Call("unmap", 0, 0, 4),
            new Call("load", 0, 1),
            new Call("map", 0, 2, 2, 0),
            new Call("move", 0, 1)));
        script.add(new Call("load", 0, 2));
        for (int t = 1; t < 8; t++) {
            script.add(new Call("thread", t % 4));
        }
        for (int t = 1; t < 7; t++) {
            script.add(new Call("load", t, t % 4));
            script.add(new Call("store", t, 1, t));
        }
        script.add(new Call("map", 7, 8, 1, 1));
        script.add(new Call("protect", 7, 8, 2));
        for (int i = 0; i < 40; i++) {
            script.add(new Call("step", i * i % 4));
            script.add(new Call("run", 0x1B0C7A4E * (i + 1), 1 + i % 7));
        }
        addMoves(script);
        addEnd(script);
        return script;
    }

    /** Threads of all processors move, some with a further order and some without, one step at a time. */
    private static void addMoves(List<Call> script) {
        addRuns(script);
        for (int t = 1; t < 8; t++) {
            script.add(new Call("move", t, t * 3 % 4));
            if (t % 2 == 0) {
                script.add(new Call("move", t, t / 2));
            }
        }
        for (int i = 0; i < 16; i++) {
            script.add(new Call("step", i % 4));
        }
    }

    /** New orders tell by their numbers how many there were, and by their queues where threads were parked. */
    private static void addEnd(List<Call> script) {
        addRuns(script);
        for (int t = 1; t < 8; t++) {
            script.add(new Call("load", t, 2));
        }
        addRuns(script);
    }

    private static void addRuns(List<Call> script) {
        for (int i = 0; i < 4; i++) {
            script.add(new Call("run", Machines.IN_TURN, 16));
        }
    }

    /** Guards the run itself: a phase that is never the current one is not tested. */
    private void everyPhaseIsReached() {
        TreeSet<String> reached = new TreeSet<>();
        for (int moment = 0; moment <= script.size(); moment++) {
            FourWayKernel x = playedUntil(moment);
            for (int p = 0; p < 4; p++) {
                reached.add("phase " + x.phase(p));
                reached.add("phase " + x.phase(p) + " at " + p);
            }
        }
        for (int phase = 4; phase <= 15; phase++) {
            due.is("a moment with phase " + phase, reached.contains("phase " + phase) ? 1 : 0, 1);
        }
        for (int p = 0; p < 4; p++) {
            due.is("a moment with MOVE at " + p, reached.contains("phase 15 at " + p) ? 1 : 0, 1);
        }
    }

    /** Calls of which each is refused at the moment, for one reason alone where that can be. */
    private static List<Call> refusedCalls(Model m) {
        List<Call> calls = new ArrayList<>();
        int threads = m.threads.size();
        for (int p : new int[] {-1, 4, LOWEST, HIGHEST}) {
            calls.add(new Call("thread", p));
            calls.add(new Call("step", p));
        }
        for (int p = 0; p < 4 && threads == 8; p++) {
            calls.add(new Call("thread", p));
        }
        for (int n : new int[] {0, -1, 17, LOWEST, HIGHEST}) {
            calls.add(new Call("run", 0, n));
            calls.add(new Call("run", -1, n));
        }
        for (int t : new int[] {-1, threads, 8, LOWEST, HIGHEST}) {
            addOrders(calls, t);
        }
        for (int t = 0; t < threads; t++) {
            if (m.threads.get(t).orders.size() == 10) {
                addOrders(calls, t);
            } else {
                addWrongOrders(calls, t);
            }
        }
        return calls;
    }

    /** Orders with which nothing is wrong but the thread. */
    private static void addOrders(List<Call> calls, int t) {
        calls.add(new Call("load", t, 0));
        calls.add(new Call("store", t, 0, 1));
        calls.add(new Call("map", t, 8, 1, 1));
        calls.add(new Call("unmap", t, 0, 4));
        calls.add(new Call("protect", t, 0, 4));
        calls.add(new Call("move", t, 3));
    }

    /** Orders of a thread that could take them, if they were right. */
    private static void addWrongOrders(List<Call> calls, int t) {
        for (int page : new int[] {-1, 16, LOWEST, HIGHEST}) {
            calls.add(new Call("load", t, page));
            calls.add(new Call("store", t, page, 1));
        }
        for (int value : new int[] {-1, 1000, LOWEST, HIGHEST}) {
            calls.add(new Call("store", t, 1, value));
        }
        for (int p : new int[] {-1, 4, LOWEST, HIGHEST}) {
            calls.add(new Call("move", t, p));
        }
        int[][] ranges = {{0, 0}, {0, -1}, {0, 5}, {0, LOWEST}, {0, HIGHEST}, {-1, 1}, {-1, 4}, {16, 1}, {15, 2},
            {13, 4}, {LOWEST, 1}, {LOWEST, 4}, {HIGHEST, 1}, {HIGHEST, 2}, {HIGHEST - 2, 4}};
        for (int[] range : ranges) {
            calls.add(new Call("map", t, range[0], range[1], 1));
            calls.add(new Call("unmap", t, range[0], range[1]));
            calls.add(new Call("protect", t, range[0], range[1]));
        }
    }

    private static List<Call> questions() {
        List<Call> calls = new ArrayList<>(List.of(new Call("tickets"), new Call("steps")));
        for (int a : new int[] {0, 1, 3, 4, 7, 9, 15, -1, LOWEST, HIGHEST}) {
            for (String method : new String[] {"current", "phase", "mail", "table", "word", "spare"}) {
                calls.add(new Call(method, a));
            }
            calls.add(new Call("result", a, 0));
            calls.add(new Call("result", 0, a));
            calls.add(new Call("queued", a, 0));
            calls.add(new Call("queued", 1, a));
            calls.add(new Call("translation", a, 1));
            calls.add(new Call("translation", 1, a));
        }
        return calls;
    }

    /** Looks at the state right after the call, and at the answers and the state of the rest of the run. */
    private void changesNothing(int moment, Call call, boolean refused) {
        FourWayKernel asked = playedUntil(moment);
        int answer = call.of(asked);
        if (refused) {
            due.is(() -> call + " before call " + moment, answer, NONE);
        }
        sameState(moment, call, asked, moment);
        FourWayKernel x = playedUntil(moment);
        call.of(x);
        for (int i = moment; i < answers.length; i++) {
            Call later = script.get(i);
            due.is(() -> call + " before call " + moment + ": " + later, later.of(x), answers[i]);
        }
        sameState(moment, call, x, answers.length);
    }

    private void sameState(int moment, Call call, FourWayKernel x, int now) {
        String difference = new State(x).differenceFrom(states.get(now));
        due.is(() -> call + " before call " + moment + ": before call " + now + " " + difference,
            difference.isEmpty() ? 0 : 1, 0);
    }
}
