import java.util.ArrayList;
import java.util.List;
import java.util.function.ToIntFunction;

/**
 * 'A call that is refused changes nothing', for each method that can be refused
 * with each of its reasons, at every moment of a run in which all kinds of
 * orders are done; and the same of calls that only ask. An object with such a
 * call in its run is held against one without it.
 */
public final class RefusalsTest {
    private static final int NONE = FourWayKernel.NONE;
    private static final int LOWEST = Integer.MIN_VALUE;
    private static final int HIGHEST = Integer.MAX_VALUE;
    private static final int MOST_CALLS = 512;
    private static final Due due = new Due();

    private record Call(String name, ToIntFunction<FourWayKernel> body) {
    }

    public static void main(String[] args) {
        RefusalsTest test = new RefusalsTest();
        int calls = test.script.size() + 1 + State.CALLS;
        due.is("more calls of an object than are promised", calls <= MOST_CALLS ? 0 : 1, 0);
        due.sentence("A call that is refused changes nothing");
        for (int moment = 0; moment <= test.script.size(); moment++) {
            for (Call refused : test.refusedCalls(moment)) {
                due.is(refused.name() + " before call " + moment, test.answerAt(moment, refused), NONE);
                test.changesNothing(moment, refused);
            }
        }
        due.sentence("calls that only ask change nothing");
        for (int moment = 0; moment <= test.script.size(); moment++) {
            for (Call question : questions()) {
                test.changesNothing(moment, question);
            }
        }
        due.end();
    }

    // Thread 0 has all its ten orders when this many calls of the run are made.
    private static final int TEN_ORDERS_AT = 11;

    private final List<Call> script = script();
    private final List<State> states = new ArrayList<>();
    private final int[] answers = new int[script.size()];

    /** Each state is asked of an object of its own, since asking takes calls too. */
    private RefusalsTest() {
        for (int moment = 0; moment <= script.size(); moment++) {
            states.add(new State(playedUntil(moment)));
        }
        FourWayKernel x = new FourWayKernel();
        for (int i = 0; i < answers.length; i++) {
            answers[i] = script.get(i).body().applyAsInt(x);
        }
    }

    private FourWayKernel playedUntil(int moment) {
        FourWayKernel x = new FourWayKernel();
        for (int i = 0; i < moment; i++) {
            script.get(i).body().applyAsInt(x);
        }
        return x;
    }

    private int threadsAt(int moment) {
        int threads = 0;
        for (int i = 0; i < moment; i++) {
            threads += script.get(i).name().equals("thread") ? 1 : 0;
        }
        return threads;
    }

    private static List<Call> script() {
        List<Call> script = new ArrayList<>();
        add(script, "thread", x -> x.thread(0));
        add(script, "map", x -> x.map(0, 0, 4, true));
        add(script, "store", x -> x.store(0, 0, 999));
        add(script, "load", x -> x.load(0, 0));
        add(script, "protect", x -> x.protect(0, 0, 2));
        add(script, "store", x -> x.store(0, 0, 5));
        add(script, "unmap", x -> x.unmap(0, 0, 4));
        add(script, "load", x -> x.load(0, 1));
        add(script, "map", x -> x.map(0, 2, 2, false));
        add(script, "move", x -> x.move(0, 1));
        add(script, "load", x -> x.load(0, 2));
        for (int t = 1; t < 8; t++) {
            int place = t % 4;
            add(script, "thread", x -> x.thread(place));
        }
        for (int t = 1; t < 7; t++) {
            int thread = t;
            add(script, "load", x -> x.load(thread, thread % 4));
            add(script, "store", x -> x.store(thread, 1, thread));
        }
        add(script, "map", x -> x.map(7, 8, 1, true));
        add(script, "protect", x -> x.protect(7, 8, 2));
        for (int i = 0; i < 40; i++) {
            int processor = i * i % 4;
            add(script, "step", x -> x.step(processor));
            int schedule = 0x1B0C7A4E * (i + 1);
            int n = 1 + i % 7;
            add(script, "run", x -> x.run(schedule, n));
        }
        addEnd(script);
        return script;
    }

    /** New orders tell by their numbers how many there were, and by their queues where threads were parked. */
    private static void addEnd(List<Call> script) {
        for (int i = 0; i < 4; i++) {
            add(script, "run", x -> x.run(Machines.IN_TURN, 16));
        }
        for (int t = 1; t < 8; t++) {
            int thread = t;
            add(script, "load", x -> x.load(thread, 2));
        }
        for (int i = 0; i < 4; i++) {
            add(script, "run", x -> x.run(Machines.IN_TURN, 16));
        }
    }

    private static void add(List<Call> calls, String name, ToIntFunction<FourWayKernel> body) {
        calls.add(new Call(name, body));
    }

    /** Calls of which each is refused at the moment, for one reason alone where that can be. */
    private List<Call> refusedCalls(int moment) {
        List<Call> calls = new ArrayList<>();
        int threads = threadsAt(moment);
        for (int p : new int[] {-1, 4, LOWEST, HIGHEST}) {
            add(calls, "thread(" + p + ")", x -> x.thread(p));
            add(calls, "step(" + p + ")", x -> x.step(p));
        }
        for (int p = 0; p < 4 && threads == 8; p++) {
            int processor = p;
            add(calls, "ninth thread", x -> x.thread(processor));
        }
        for (int n : new int[] {0, -1, 17, LOWEST, HIGHEST}) {
            add(calls, "run(0, " + n + ")", x -> x.run(0, n));
            add(calls, "run(-1, " + n + ")", x -> x.run(-1, n));
        }
        for (int t : new int[] {-1, threads, 8, LOWEST, HIGHEST}) {
            addOrders(calls, "no such thread " + t, t);
        }
        if (moment >= TEN_ORDERS_AT) {
            addOrders(calls, "thread with ten orders", 0);
        }
        if (threads == 8) {
            addWrongOrders(calls, 7);
            addWrongOrders(calls, 1);
        } else if (threads > 0 && moment < TEN_ORDERS_AT) {
            addWrongOrders(calls, 0);
        }
        return calls;
    }

    /** Orders with which nothing is wrong but, maybe, the thread. */
    private static void addOrders(List<Call> calls, String reason, int t) {
        add(calls, "load, " + reason, x -> x.load(t, 0));
        add(calls, "store, " + reason, x -> x.store(t, 0, 1));
        add(calls, "map, " + reason, x -> x.map(t, 8, 1, true));
        add(calls, "unmap, " + reason, x -> x.unmap(t, 0, 4));
        add(calls, "protect, " + reason, x -> x.protect(t, 0, 4));
        add(calls, "move, " + reason, x -> x.move(t, 3));
    }

    /** Orders of a thread that could take them, if they were right. */
    private static void addWrongOrders(List<Call> calls, int t) {
        for (int page : new int[] {-1, 16, LOWEST, HIGHEST}) {
            add(calls, "load of page " + page, x -> x.load(t, page));
            add(calls, "store of page " + page, x -> x.store(t, page, 1));
        }
        for (int value : new int[] {-1, 1000, LOWEST, HIGHEST}) {
            add(calls, "store of " + value, x -> x.store(t, 1, value));
        }
        for (int p : new int[] {-1, 4, LOWEST, HIGHEST}) {
            add(calls, "move to " + p, x -> x.move(t, p));
        }
        int[][] ranges = {{0, 0}, {0, -1}, {0, 5}, {0, LOWEST}, {0, HIGHEST}, {-1, 1}, {-1, 4}, {16, 1}, {15, 2},
            {13, 4}, {LOWEST, 1}, {LOWEST, 4}, {HIGHEST, 1}, {HIGHEST, 2}, {HIGHEST - 2, 4}};
        for (int[] range : ranges) {
            int page = range[0];
            int n = range[1];
            add(calls, "map of " + n + " from " + page, x -> x.map(t, page, n, true));
            add(calls, "unmap of " + n + " from " + page, x -> x.unmap(t, page, n));
            add(calls, "protect of " + n + " from " + page, x -> x.protect(t, page, n));
        }
    }

    private static List<Call> questions() {
        List<Call> calls = new ArrayList<>();
        for (int a : new int[] {0, 1, 3, 4, 7, 9, 15, -1, LOWEST, HIGHEST}) {
            add(calls, "result(" + a + ", 0)", x -> x.result(a, 0));
            add(calls, "result(0, " + a + ")", x -> x.result(0, a));
            add(calls, "current(" + a + ")", x -> x.current(a));
            add(calls, "phase(" + a + ")", x -> x.phase(a));
            add(calls, "queued(" + a + ", 0)", x -> x.queued(a, 0));
            add(calls, "queued(1, " + a + ")", x -> x.queued(1, a));
            add(calls, "mail(" + a + ")", x -> x.mail(a));
            add(calls, "table(" + a + ")", x -> x.table(a));
            add(calls, "translation(" + a + ", 1)", x -> x.translation(a, 1));
            add(calls, "translation(1, " + a + ")", x -> x.translation(1, a));
            add(calls, "word(" + a + ")", x -> x.word(a));
            add(calls, "spare(" + a + ")", x -> x.spare(a));
        }
        add(calls, "tickets()", x -> x.tickets());
        add(calls, "steps()", x -> x.steps());
        return calls;
    }

    private int answerAt(int moment, Call call) {
        return call.body().applyAsInt(playedUntil(moment));
    }

    /** Looks at the state right after the call, and at the answers and the state of the rest of the run. */
    private void changesNothing(int moment, Call call) {
        String about = call.name() + " before call " + moment + " of the run";
        FourWayKernel asked = playedUntil(moment);
        call.body().applyAsInt(asked);
        sameState(about, asked, states.get(moment));
        FourWayKernel x = playedUntil(moment);
        call.body().applyAsInt(x);
        for (int i = moment; i < answers.length; i++) {
            due.is(about + ": " + script.get(i).name() + " " + i, script.get(i).body().applyAsInt(x), answers[i]);
        }
        sameState(about + ", at the end", x, states.get(answers.length));
    }

    private static void sameState(String about, FourWayKernel x, State state) {
        String difference = new State(x).differenceFrom(state);
        due.is(about + " changed " + difference, difference.isEmpty() ? 0 : 1, 0);
    }
}
