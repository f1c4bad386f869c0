import java.util.Arrays;

/** The boundary cases that 'Terms' names of threads, orders, queues, the choice of a micro-step and MOVE. */
public final class ThreadBoundsTest {
    private static final int NONE = FourWayKernel.NONE;
    private static final Due due = new Due();

    public static void main(String[] args) {
        threadsAreAtMostEight();
        ordersAreAtMostTen();
        ordersAreDoneInTheirOrder();
        parkedThreadGoesToTheEnd();
        waitingThreadKeepsItsPlace();
        currentThreadGoesToNoQueue();
        queueWithNoneOneAndTwo();
        choiceOfAThread();
        requestComesBeforeAThread();
        requestComesBeforeAThreadOfAnother();
        requestComesBeforeRest();
        requestComesBeforeThePhase();
        finishedWithNoFurtherOrder();
        finishedWithAFurtherOrderAndAQueue();
        finishedWithAFurtherOrderAndNoQueue();
        nextOrderIsInItsFirstPhase();
        takenThreadBelongsToItsTaker();
        moveWithNoFurtherOrder();
        moveWithAFurtherOrder();
        due.end();
    }

    private static void threadsAreAtMostEight() {
        due.sentence("THREADS 0, 1, .. are at most eight");
        for (int p = 0; p < 4; p++) {
            FourWayKernel x = new FourWayKernel();
            for (int t = 0; t < 8; t++) {
                due.is("no order before thread " + t, x.load(t, 0), NONE);
                due.is("thread " + t, x.thread(p), t);
                due.is("order of thread " + t, x.load(t, 0), 0);
            }
            for (int q = 0; q < 4; q++) {
                due.is("ninth thread", x.thread(q), NONE);
            }
            due.is("order of the ninth", x.load(8, 0), NONE);
            due.queue("all eight in one queue", x, p, 0, 1, 2, 3, 4, 5, 6, 7);
        }
    }

    private static void ordersAreAtMostTen() {
        due.sentence("each has a list of at most ten ORDERS, numbered from 0");
        for (int kind = 0; kind < 6; kind++) {
            FourWayKernel x = Machines.withThreads(0, 0);
            for (int k = 0; k < 10; k++) {
                due.is("order " + k + " of kind " + kind, give(x, 0, kind), k);
            }
            for (int other = 0; other < 6; other++) {
                due.is("eleventh, of kind " + other, give(x, 0, other), NONE);
            }
            due.is("first of the other thread", give(x, 1, kind), 0);
        }
    }

    /** An order of each kind, on pages that are never mapped here. */
    private static int give(FourWayKernel x, int thread, int kind) {
        switch (kind) {
            case 0: return x.load(thread, 15);
            case 1: return x.store(thread, 15, 1);
            case 2: return x.map(thread, 12, 1, true);
            case 3: return x.unmap(thread, 12, 1);
            case 4: return x.protect(thread, 12, 1);
            default: return x.move(thread, 0);
        }
    }

    private static void ordersAreDoneInTheirOrder() {
        due.sentence("ORDERS, numbered from 0, which are done in their order");
        FourWayKernel x = Machines.withThreads(0);
        x.map(0, 0, 1, true);
        for (int k = 1; k < 10; k++) {
            x.store(0, 0, 100 * k);
        }
        due.codes("map", x, 0, 2, 7, 8, 9, 10, 30, 4, 5, 6);
        due.is("map", x.result(0, 0), 1);
        for (int k = 1; k < 10; k++) {
            due.is("not finished", x.result(0, k), NONE);
            due.codes("store " + k, x, 0, 20);
            due.is("what the one before stored", x.result(0, k), 100 * (k - 1));
            due.is("word", x.word(0), 100 * k);
        }
        due.codes("all ten are done", x, 0, 0);
    }

    private static void parkedThreadGoesToTheEnd() {
        due.sentence("When a parked thread gets an order, it goes to the end of that processor's queue");
        for (int kind = 0; kind < 6; kind++) {
            FourWayKernel x = Machines.withThreads(2, 2, 2, 1);
            due.queue("all are parked", x, 2);
            give(x, 1, kind);
            due.queue("to an empty queue", x, 2, 1);
            give(x, 2, kind);
            due.queue("to a queue of one", x, 2, 1, 2);
            give(x, 0, kind);
            due.queue("to a queue of two", x, 2, 1, 2, 0);
            give(x, 3, kind);
            due.queue("to that of its own processor", x, 1, 3);
            due.is("no thread becomes current by it", x.current(2), NONE);
        }
    }

    private static void waitingThreadKeepsItsPlace() {
        due.sentence("A thread with an order not yet finished is either in one queue ..: once");
        FourWayKernel x = Machines.withThreads(3, 3);
        x.load(0, 0);
        x.load(1, 0);
        for (int kind = 0; kind < 6; kind++) {
            due.is("further order", give(x, 0, kind), kind + 1);
            due.queue("keeps its place", x, 3, 0, 1);
        }
    }

    private static void currentThreadGoesToNoQueue() {
        due.sentence("A thread with an order not yet finished is .. or the current thread of one processor");
        FourWayKernel x = Machines.withThreads(3, 3);
        x.load(0, 0);
        due.codes("taken", x, 3, 2);
        for (int kind = 0; kind < 6; kind++) {
            due.is("further order", give(x, 0, kind), kind + 1);
            due.queue("in no queue", x, 3);
            due.is("current", x.current(3), 0);
            due.is("phase of its first order", x.phase(3), 4);
        }
    }

    private static void queueWithNoneOneAndTwo() {
        due.sentence("[2] If p has no current thread and its queue has one: the first thread of the queue"
            + " becomes the current one");
        for (int p = 0; p < 4; p++) {
            FourWayKernel x = Machines.withThreads(p, p);
            due.codes("none", x, p, 0);
            due.is("no current", x.current(p), NONE);
            x.load(1, 0);
            due.codes("one", x, p, 2);
            due.is("that one", x.current(p), 1);
            due.queue("queue of one", x, p);
            x = Machines.withThreads(p, p);
            x.load(1, 0);
            x.load(0, 0);
            due.codes("two", x, p, 2);
            due.is("the first", x.current(p), 1);
            due.queue("queue of two", x, p, 0);
        }
    }

    private static void choiceOfAThread() {
        due.sentence("[3] .. the last thread of the longest queue (of several longest, that of the lowest processor)");
        for (int code = 0; code < 9 * 9 * 9 * 9; code++) {
            int[] lengths = {code % 9, code / 9 % 9, code / 81 % 9, code / 729};
            if (Arrays.stream(lengths).sum() <= 8) {
                for (int p = 0; p < 4; p++) {
                    chooseThread(lengths, p);
                }
            }
        }
    }

    private static void chooseThread(int[] lengths, int p) {
        String about = "queues of " + Arrays.toString(lengths) + ", step of " + p;
        FourWayKernel x = new FourWayKernel();
        int[] firsts = new int[4];
        int next = 0;
        for (int q = 0; q < 4; q++) {
            firsts[q] = next;
            for (int i = 0; i < lengths[q]; i++) {
                x.thread(q);
                x.load(next, 0);
                next++;
            }
        }
        int from = 0;
        for (int q = 1; q < 4; q++) {
            from = lengths[q] > lengths[from] ? q : from;
        }
        if (lengths[p] > 0) {
            due.codes(about, x, p, 2);
            due.is(about + ": current", x.current(p), firsts[p]);
            due.is(about + ": next of the queue", x.queued(p, 0), lengths[p] > 1 ? firsts[p] + 1 : NONE);
        } else if (lengths[from] >= 2) {
            int last = lengths[from] - 1;
            due.codes(about, x, p, 3);
            due.is(about + ": current", x.current(p), firsts[from] + last);
            due.is(about + ": last of the queue", x.queued(from, last - 1), firsts[from] + last - 1);
            due.is(about + ": end of the queue", x.queued(from, last), NONE);
        } else {
            due.codes(about, x, p, 0);
            due.is(about + ": current", x.current(p), NONE);
        }
    }

    /** Thread 0 has sent its requests from processor 0; all other mailboxes have one. */
    private static FourWayKernel withMail(int... places) {
        FourWayKernel x = Machines.withThreads(0);
        for (int place : places) {
            x.thread(place);
        }
        x.map(0, 0, 1, true);
        x.unmap(0, 0, 1);
        due.codes("until await", x, 0, 2, 7, 8, 9, 10, 30, 7, 8, 10, 11, 11, 11, 11);
        return x;
    }

    private static void requestComesBeforeAThread() {
        due.sentence("the first of these that can be made: [1] before [2]");
        FourWayKernel x = withMail(1);
        x.load(1, 0);
        due.codes("request", x, 1, 1);
        due.is("no thread is taken", x.current(1), NONE);
        due.queue("queue", x, 1, 1);
        due.codes("thread", x, 1, 2);
    }

    private static void requestComesBeforeAThreadOfAnother() {
        due.sentence("the first of these that can be made: [1] before [3]");
        FourWayKernel x = withMail(1, 1);
        x.load(1, 0);
        x.load(2, 0);
        due.codes("request", x, 3, 1);
        due.is("no thread is taken", x.current(3), NONE);
        due.queue("queue", x, 1, 1, 2);
        due.codes("thread", x, 3, 3);
        due.is("thread of another", x.current(3), 2);
    }

    private static void requestComesBeforeRest() {
        due.sentence("the first of these that can be made: [1] before [0]");
        FourWayKernel x = withMail();
        for (int p = 1; p < 4; p++) {
            due.codes("request", x, p, 1, 0);
        }
    }

    private static void requestComesBeforeThePhase() {
        due.sentence("the first of these that can be made: [1] before the phase");
        int[][] phases = {{4, 5, 6, 20}, {7, 8, 8}, {31}};
        for (int order = 0; order < phases.length; order++) {
            for (int made = 0; made < phases[order].length; made++) {
                requestBetweenPhases(order, phases[order], made);
            }
        }
    }

    /** Processor 1 gets a request when it has made some phases of a load, a protect or a move. */
    private static void requestBetweenPhases(int order, int[] phases, int made) {
        FourWayKernel x = Machines.withThreads(0, 1);
        x.map(0, 0, 2, true);
        x.protect(0, 0, 1);
        switch (order) {
            case 0: x.load(1, 1); break;
            case 1: x.protect(1, 12, 1); break;
            default: x.move(1, 0); break;
        }
        due.codes("until send", x, 0, 2, 7, 8, 9, 10, 10, 30, 7, 8, 10, 11);
        due.codes("taken", x, 1, 2);
        due.codes("phases before", x, 1, Arrays.copyOf(phases, made));
        due.codes("send", x, 0, 11);
        int phase = x.phase(1);
        due.codes("request", x, 1, 1);
        due.is("the order stays in its phase", x.phase(1), phase);
        due.codes("phase", x, 1, phases[made]);
    }

    // What thread 0 does at processor 1 until the last step, which finishes its order.
    private static final int[][] ENDS = {{4, 5, 6, 20}, {4, 21}, {4, 5, 22}, {7, 8, 10, 30}};

    /**
     * Thread 0 is current at processor 1 with its first order, which ends as the
     * row of ENDS says, and as many other threads are in the queue.
     */
    private static FourWayKernel beforeEnd(int end, int others) {
        FourWayKernel x = Machines.withThreads(1, 1, 1, 0);
        x.map(3, 0, 1, true);
        Machines.finishOne(x);
        switch (end) {
            case 0: x.load(0, 0); break;
            case 1: x.load(0, 8); break;
            case 2: x.load(0, 1); break;
            default: x.unmap(0, 12, 1); break;
        }
        due.codes("taken", x, 1, 2);
        for (int t = 1; t <= others; t++) {
            x.load(t, 8);
        }
        return x;
    }

    private static int[] queueOf(int others, boolean thenZero) {
        int[] queue = new int[others + (thenZero ? 1 : 0)];
        for (int i = 0; i < others; i++) {
            queue[i] = i + 1;
        }
        return queue;
    }

    private static void finishedWithNoFurtherOrder() {
        due.sentence("If the thread has no further order, it is parked, at p");
        for (int end = 0; end < ENDS.length; end++) {
            for (int others = 0; others <= 2; others++) {
                FourWayKernel x = beforeEnd(end, others);
                due.codes("order", x, 1, ENDS[end]);
                due.is("no current", x.current(1), NONE);
                due.is("no phase", x.phase(1), NONE);
                due.queue("parked", x, 1, queueOf(others, false));
                x.load(0, 8);
                due.queue("parked at p", x, 1, queueOf(others, true));
            }
        }
    }

    private static void finishedWithAFurtherOrderAndAQueue() {
        due.sentence("else, if there are threads in p's queue, it goes to the end of p's queue");
        for (int end = 0; end < ENDS.length; end++) {
            for (int others = 1; others <= 2; others++) {
                FourWayKernel x = beforeEnd(end, others);
                x.load(0, 8);
                due.codes("order", x, 1, ENDS[end]);
                due.is("no current", x.current(1), NONE);
                due.queue("at the end", x, 1, queueOf(others, true));
                due.codes("the next thread", x, 1, 2);
                due.is("the next thread", x.current(1), 1);
            }
        }
    }

    private static void finishedWithAFurtherOrderAndNoQueue() {
        due.sentence("Else it stays current");
        for (int end = 0; end < ENDS.length; end++) {
            FourWayKernel x = beforeEnd(end, 0);
            x.load(0, 8);
            x.load(3, 8);
            due.codes("order", x, 1, ENDS[end]);
            due.is("stays current", x.current(1), 0);
            due.queue("in no queue", x, 1);
            due.queue("another's queue does not count", x, 0, 3);
            due.codes("goes on at once", x, 1, 4, 21);
        }
    }

    private static void nextOrderIsInItsFirstPhase() {
        due.sentence("Else it stays current, and its next order is in its first phase");
        int[] firstPhases = {4, 4, 7, 7, 7, 15};
        for (int end = 0; end < ENDS.length; end++) {
            for (int kind = 0; kind < 6; kind++) {
                FourWayKernel x = beforeEnd(end, 0);
                give(x, 0, kind);
                due.codes("order", x, 1, ENDS[end]);
                due.is("first phase of kind " + kind, x.phase(1), firstPhases[kind]);
            }
        }
    }

    private static void takenThreadBelongsToItsTaker() {
        due.sentence("it is parked, at p; else .. it goes to the end of p's queue: also a thread of another's queue");
        FourWayKernel x = Machines.withThreads(0, 0, 2);
        x.load(0, 0);
        x.load(1, 0);
        x.load(1, 0);
        due.codes("taken over", x, 2, 3, 4);
        x.load(2, 0);
        due.codes("finished", x, 2, 21);
        due.queue("goes to the taker's queue", x, 2, 2, 1);
        due.queue("not to its own", x, 0, 0);
        due.codes("thread 2", x, 2, 2, 4, 21);
        due.codes("thread 1", x, 2, 2, 4, 21);
        due.queue("parked", x, 2);
        x.load(1, 0);
        due.queue("parked at the taker", x, 2, 1);
    }

    private static void moveWithNoFurtherOrder() {
        due.sentence("MOVE: the thread is parked at q if it has no further order (q may be p)");
        for (int p = 0; p < 4; p++) {
            for (int q = 0; q < 4; q++) {
                for (int others = 0; others <= 1; others++) {
                    FourWayKernel x = beforeMove(p, q, false, others);
                    due.codes("move", x, p, 31);
                    due.is("result", x.result(0, 0), 0);
                    due.is("no current", x.current(p), NONE);
                    queuesAre("parked", x, p, q, others, false);
                    x.load(0, 0);
                    queuesAre("parked at q", x, p, q, others, true);
                }
            }
        }
    }

    private static void moveWithAFurtherOrder() {
        due.sentence("MOVE: else it goes to the end of q's queue; in both cases p has no current thread"
            + " then (q may be p)");
        for (int p = 0; p < 4; p++) {
            for (int q = 0; q < 4; q++) {
                for (int others = 0; others <= 1; others++) {
                    FourWayKernel x = beforeMove(p, q, true, others);
                    due.codes("move", x, p, 31);
                    due.is("result", x.result(0, 0), 0);
                    due.is("no current", x.current(p), NONE);
                    queuesAre("in q's queue", x, p, q, others, true);
                }
            }
        }
    }

    /** Thread 0 is current at p and about to move to q; threads 1 and 2 may be in their queues. */
    private static FourWayKernel beforeMove(int p, int q, boolean further, int others) {
        FourWayKernel x = Machines.withThreads(p, p, q);
        x.move(0, q);
        if (further) {
            x.load(0, 0);
        }
        due.codes("taken", x, p, 2);
        due.is("phase", x.phase(p), 15);
        if (others == 1) {
            x.load(1, 0);
            x.load(2, 0);
        }
        return x;
    }

    private static void queuesAre(String about, FourWayKernel x, int p, int q, int others, boolean zeroWaits) {
        String move = about + " of move from " + p + " to " + q;
        int[] atP = others == 0 ? new int[] {} : new int[] {1};
        int[] atQ = others == 0 ? new int[] {} : new int[] {2};
        if (p == q) {
            atQ = others == 0 ? new int[] {} : new int[] {1, 2};
        } else {
            due.queue(move, x, p, atP);
        }
        int[] all = Arrays.copyOf(atQ, atQ.length + (zeroWaits ? 1 : 0));
        due.queue(move, x, q, all);
    }
}
