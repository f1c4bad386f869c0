/** Promises 1 to 8: a new object, new threads, and which orders they take. */
public final class OrdersTest {
    private static final int NONE = FourWayKernel.NONE;
    private static final int[] NO_PROCESSORS = {-1, 4, Integer.MIN_VALUE, Integer.MAX_VALUE};
    private static final int[] NO_PAGES = {-1, 16, Integer.MIN_VALUE, Integer.MAX_VALUE};
    private static final Due due = new Due();

    public static void main(String[] args) {
        newObjectIsEmpty(new FourWayKernel());
        objectsAreApart();
        threadsAreNumbered();
        threadIsRefused();
        refusedThreadChangesNothing();
        loadIsRefused();
        storeIsRefused();
        mapIsRefused();
        unmapIsRefused();
        protectIsRefused();
        moveIsRefused();
        refusedOrdersChangeNothing();
        everyThreadHasTenOrders();
        ordersStayCountedWhenFinished();
        parkedThreadGoesToQueueOnce();
        threadIsParkedWhereItFinished();
        orderReachesCurrentThread();
        due.end();
    }

    private static void newObjectIsEmpty(FourWayKernel x) {
        due.is("new: steps", x.steps(), 0);
        due.is("new: tickets", x.tickets(), 0);
        for (int p = 0; p < 4; p++) {
            due.is("new: current " + p, x.current(p), NONE);
            due.is("new: phase " + p, x.phase(p), NONE);
            due.is("new: queued " + p, x.queued(p, 0), NONE);
            due.is("new: mail " + p, x.mail(p), 0);
            due.is("new: spare " + p, x.spare(p), 0);
            for (int page = 0; page < 16; page++) {
                due.is("new: translation " + p + " " + page, x.translation(p, page), NONE);
            }
        }
        due.is("new: spare 4", x.spare(4), 10);
        for (int page = 0; page < 16; page++) {
            due.is("new: table " + page, x.table(page), NONE);
        }
        for (int frame = 0; frame < 10; frame++) {
            due.is("new: word " + frame, x.word(frame), 0);
        }
        for (int t = 0; t < 8; t++) {
            due.is("new: result " + t, x.result(t, 0), NONE);
            due.is("new: load of thread " + t, x.load(t, 0), NONE);
        }
    }

    private static void objectsAreApart() {
        FourWayKernel x = new FourWayKernel();
        x.thread(0);
        x.map(0, 0, 4, true);
        x.store(0, 0, 5);
        x.run(0, 16);
        newObjectIsEmpty(new FourWayKernel());
    }

    private static void threadsAreNumbered() {
        FourWayKernel x = new FourWayKernel();
        for (int t = 0; t < 8; t++) {
            due.is("thread " + t, x.thread(t % 4), t);
        }
        due.is("ninth thread", x.thread(0), NONE);
        due.is("order of the ninth", x.load(8, 0), NONE);
        for (int t = 0; t < 8; t++) {
            due.is("first order of " + t, x.load(t, 0), 0);
            due.is("place of thread " + t, x.queued(t % 4, t / 4), t);
        }
    }

    private static void threadIsRefused() {
        FourWayKernel x = new FourWayKernel();
        for (int p : NO_PROCESSORS) {
            due.is("thread at " + p, x.thread(p), NONE);
        }
    }

    private static void refusedThreadChangesNothing() {
        FourWayKernel x = new FourWayKernel();
        x.thread(-1);
        x.thread(4);
        newObjectIsEmpty(x);
        due.is("thread after refused ones", x.thread(3), 0);
    }

    private static FourWayKernel withThread() {
        FourWayKernel x = new FourWayKernel();
        x.thread(2);
        return x;
    }

    private static void loadIsRefused() {
        FourWayKernel x = withThread();
        due.is("load of thread 1", x.load(1, 0), NONE);
        due.is("load of thread -1", x.load(-1, 0), NONE);
        for (int page : NO_PAGES) {
            due.is("load of page " + page, x.load(0, page), NONE);
        }
        due.is("load of page 0", x.load(0, 0), 0);
        due.is("load of page 15", x.load(0, 15), 1);
    }

    private static void storeIsRefused() {
        FourWayKernel x = withThread();
        due.is("store of thread 1", x.store(1, 0, 0), NONE);
        due.is("store of thread -1", x.store(-1, 0, 0), NONE);
        for (int page : NO_PAGES) {
            due.is("store of page " + page, x.store(0, page, 0), NONE);
        }
        due.is("store of value -1", x.store(0, 0, -1), NONE);
        due.is("store of value 1000", x.store(0, 0, 1000), NONE);
        due.is("store of value 0", x.store(0, 0, 0), 0);
        due.is("store of value 999", x.store(0, 15, 999), 1);
    }

    private static void mapIsRefused() {
        FourWayKernel x = withThread();
        due.is("map of thread 1", x.map(1, 0, 1, true), NONE);
        due.is("map of thread -1", x.map(-1, 0, 1, true), NONE);
        for (int[] range : wrongRanges()) {
            due.is("map of " + text(range), x.map(0, range[0], range[1], true), NONE);
        }
        int number = 0;
        for (int[] range : rightRanges()) {
            due.is("map of " + text(range), x.map(0, range[0], range[1], false), number++);
        }
    }

    private static void unmapIsRefused() {
        FourWayKernel x = withThread();
        due.is("unmap of thread 1", x.unmap(1, 0, 1), NONE);
        due.is("unmap of thread -1", x.unmap(-1, 0, 1), NONE);
        for (int[] range : wrongRanges()) {
            due.is("unmap of " + text(range), x.unmap(0, range[0], range[1]), NONE);
        }
        int number = 0;
        for (int[] range : rightRanges()) {
            due.is("unmap of " + text(range), x.unmap(0, range[0], range[1]), number++);
        }
    }

    private static void protectIsRefused() {
        FourWayKernel x = withThread();
        due.is("protect of thread 1", x.protect(1, 0, 1), NONE);
        due.is("protect of thread -1", x.protect(-1, 0, 1), NONE);
        for (int[] range : wrongRanges()) {
            due.is("protect of " + text(range), x.protect(0, range[0], range[1]), NONE);
        }
        int number = 0;
        for (int[] range : rightRanges()) {
            due.is("protect of " + text(range), x.protect(0, range[0], range[1]), number++);
        }
    }

    private static void moveIsRefused() {
        FourWayKernel x = withThread();
        due.is("move of thread 1", x.move(1, 0), NONE);
        due.is("move of thread -1", x.move(-1, 0), NONE);
        for (int p : NO_PROCESSORS) {
            due.is("move to " + p, x.move(0, p), NONE);
        }
        for (int p = 0; p < 4; p++) {
            due.is("move to " + p, x.move(0, p), p);
        }
    }

    private static void refusedOrdersChangeNothing() {
        FourWayKernel x = withThread();
        x.load(0, 16);
        x.store(0, 0, 1000);
        x.map(0, 13, 4, true);
        x.unmap(0, 0, 5);
        x.protect(0, 0, 0);
        x.move(0, 4);
        due.is("queue after refused orders", x.queued(2, 0), NONE);
        due.is("step after refused orders", x.step(2), 0);
        due.is("order after refused ones", x.load(0, 0), 0);
        due.is("queue after a taken order", x.queued(2, 0), 0);
    }

    private static void everyThreadHasTenOrders() {
        FourWayKernel x = new FourWayKernel();
        for (int t = 0; t < 8; t++) {
            x.thread(0);
            for (int k = 0; k < 10; k++) {
                due.is("order " + k + " of " + t, x.move(t, 1), k);
            }
            due.is("11th load", x.load(t, 0), NONE);
            due.is("11th store", x.store(t, 0, 0), NONE);
            due.is("11th map", x.map(t, 0, 1, true), NONE);
            due.is("11th unmap", x.unmap(t, 0, 1), NONE);
            due.is("11th protect", x.protect(t, 0, 1), NONE);
            due.is("11th move", x.move(t, 0), NONE);
        }
    }

    private static void ordersStayCountedWhenFinished() {
        FourWayKernel x = withThread();
        for (int k = 0; k < 10; k++) {
            due.is("order " + k, x.move(0, 2), k);
            due.codes("move " + k, x, 2, 2, 31, 0);
        }
        due.is("order after ten finished ones", x.move(0, 2), NONE);
        due.is("queue after ten finished ones", x.queued(2, 0), NONE);
    }

    private static void parkedThreadGoesToQueueOnce() {
        FourWayKernel x = withThread();
        due.is("parked: queue", x.queued(2, 0), NONE);
        x.load(0, 0);
        x.load(0, 1);
        due.is("one place in the queue", x.queued(2, 0), 0);
        due.is("no second place in the queue", x.queued(2, 1), NONE);
    }

    private static void threadIsParkedWhereItFinished() {
        FourWayKernel x = new FourWayKernel();
        x.thread(0);
        x.thread(0);
        x.load(0, 0);
        x.load(1, 0);
        due.codes("taken over", x, 3, 3, 4, 21, 0);
        x.load(1, 0);
        due.is("parked at the processor that took it over", x.queued(3, 0), 1);
        due.is("not where it was made", x.queued(0, 1), NONE);
        x.move(0, 2);
        due.codes("moved", x, 0, 2, 4, 21, 31);
        x.load(0, 0);
        due.is("parked at the processor it moved to", x.queued(2, 0), 0);
    }

    private static void orderReachesCurrentThread() {
        FourWayKernel x = withThread();
        x.load(0, 0);
        due.codes("first order", x, 2, 2, 4);
        due.is("second order of a current thread", x.load(0, 8), 1);
        due.is("it is in no queue", x.queued(2, 0), NONE);
        due.codes("both orders", x, 2, 21, 4, 21, 0);
    }

    private static int[][] wrongRanges() {
        int top = Integer.MAX_VALUE;
        return new int[][] {
            {0, 0}, {0, -1}, {0, 5}, {0, Integer.MIN_VALUE}, {0, top}, {-1, 1}, {-1, 4}, {16, 1},
            {15, 2}, {14, 3}, {13, 4}, {top, 1}, {top, 4}, {top - 2, 4}, {Integer.MIN_VALUE, 1}
        };
    }

    private static int[][] rightRanges() {
        return new int[][] {{0, 1}, {0, 4}, {15, 1}, {14, 2}, {13, 3}, {12, 4}, {2, 4}};
    }

    private static String text(int[] range) {
        return range[1] + " pages from " + range[0];
    }
}
