/** Promises 9 and 10: micro-steps, what each phase does, and runs of steps. */
public final class StepsTest {
    private static final int NONE = FourWayKernel.NONE;
    private static final int FAULT = FourWayKernel.FAULT;
    private static final int REFUSED = FourWayKernel.REFUSED;
    private static final Due due = new Due();

    public static void main(String[] args) {
        stepIsRefused();
        idleStepsDoNothing();
        ownQueueComesFirst();
        lastOfLongestQueueIsTaken();
        lowestOfLongestQueuesIsTaken();
        queueOfOneIsLeft();
        threadsTakeTurns();
        loneThreadStaysCurrent();
        loadFaultsAtTopAndLeaf();
        groupStaysEntered();
        storeFaultsAtLeafAndLook();
        loadReadsWhatStoreWrote();
        bufferHoldsThree();
        ticketsAreServedInTurn();
        mapIsRefusedAtCheck();
        mapIsRefusedForWantOfFrames();
        otherStoreRoomsDoNotCount();
        storeRoomComesBeforePool();
        framesAreReleasedInOrder();
        mappedWordBecomesZero();
        unmapCountsPagesOfTheTable();
        protectCountsWritablePages();
        unmapOfNothingSendsNothing();
        sendGoesFromProcessorToProcessor();
        mailComesFirst();
        answerDuringSendCounts();
        requestDropsItsRangeAlone();
        revokedTranslationServesUntilDropped();
        moveGoesElsewhere();
        moveToOwnProcessor();
        runNamesProcessorsByBits();
        runCountsFinishedOrders();
        runIsRefused();
        due.end();
    }

    private static void stepIsRefused() {
        FourWayKernel x = Machines.withThreads(0);
        x.load(0, 0);
        for (int p : new int[] {-1, 4, Integer.MIN_VALUE, Integer.MAX_VALUE}) {
            due.is("step of " + p, x.step(p), NONE);
        }
        due.is("refused steps are not made", x.steps(), 0);
        due.is("refused steps take no thread", x.queued(0, 0), 0);
    }

    private static void idleStepsDoNothing() {
        FourWayKernel x = Machines.withThreads(0, 1, 2, 3);
        for (int p = 0; p < 4; p++) {
            due.codes("idle", x, p, 0, 0);
            due.is("idle current", x.current(p), NONE);
        }
        due.is("idle steps count", x.steps(), 8);
    }

    private static void ownQueueComesFirst() {
        FourWayKernel x = Machines.withThreads(0, 0, 0, 1, 1);
        for (int t = 0; t < 5; t++) {
            x.load(t, 0);
        }
        due.codes("own queue", x, 1, 2);
        due.is("first of the own queue", x.current(1), 3);
        due.is("rest of the own queue", x.queued(1, 0), 4);
        due.is("longer queue is whole", x.queued(0, 2), 2);
    }

    private static void lastOfLongestQueueIsTaken() {
        FourWayKernel x = Machines.withThreads(0, 0, 2, 2, 2);
        for (int t = 0; t < 5; t++) {
            x.load(t, 0);
        }
        due.codes("longest", x, 3, 3);
        due.is("last of the longest", x.current(3), 4);
        due.is("the longest is shorter", x.queued(2, 2), NONE);
        due.is("its others stay", x.queued(2, 1), 3);
    }

    private static void lowestOfLongestQueuesIsTaken() {
        FourWayKernel x = Machines.withThreads(3, 3, 1, 1, 2, 2);
        for (int t = 0; t < 6; t++) {
            x.load(t, 0);
        }
        due.codes("equal queues", x, 0, 3);
        due.is("that of the lowest processor", x.current(0), 3);
        due.is("queue 1", x.queued(1, 1), NONE);
        due.is("queue 2", x.queued(2, 1), 5);
        due.is("queue 3", x.queued(3, 1), 1);
    }

    private static void queueOfOneIsLeft() {
        FourWayKernel x = Machines.withThreads(0, 1);
        x.load(0, 0);
        x.load(1, 0);
        due.codes("queues of one", x, 2, 0);
        due.is("none taken", x.current(2), NONE);
        due.is("queue 0", x.queued(0, 0), 0);
        due.is("queue 1", x.queued(1, 0), 1);
    }

    private static void threadsTakeTurns() {
        FourWayKernel x = Machines.withThreads(0, 0, 0);
        for (int t = 0; t < 3; t++) {
            x.load(t, 0);
            x.load(t, 1);
        }
        for (int t = 0; t < 3; t++) {
            due.codes("first orders", x, 0, 2, 4, 21);
            due.is("goes to the end", x.queued(0, 2), t);
            due.is("none current", x.current(0), NONE);
        }
        due.codes("second order of 0", x, 0, 2, 4, 21);
        due.is("parked", x.queued(0, 2), NONE);
        due.is("next is 1", x.queued(0, 0), 1);
    }

    private static void loneThreadStaysCurrent() {
        FourWayKernel x = Machines.withThreads(0);
        x.load(0, 0);
        x.map(0, 0, 1, true);
        due.codes("first order", x, 0, 2, 4, 21);
        due.is("stays current", x.current(0), 0);
        due.is("in the next order's first phase", x.phase(0), 7);
        due.codes("second order", x, 0, 7, 8, 9, 10, 30, 0);
        due.is("parked", x.current(0), NONE);
    }

    private static void loadFaultsAtTopAndLeaf() {
        FourWayKernel x = Machines.withThreads(0);
        x.load(0, 4);
        x.map(0, 4, 1, true);
        x.load(0, 7);
        x.load(0, 3);
        due.codes("group not entered", x, 0, 2, 4, 21);
        due.codes("map", x, 0, 7, 8, 9, 10, 30);
        due.codes("page not in the table", x, 0, 4, 5, 22);
        due.codes("other group not entered", x, 0, 4, 21, 0);
        due.is("fault at top", x.result(0, 0), FAULT);
        due.is("fault at leaf", x.result(0, 2), FAULT);
        due.is("fault at top again", x.result(0, 3), FAULT);
    }

    private static void groupStaysEntered() {
        FourWayKernel x = Machines.withThreads(0, 1);
        x.map(0, 3, 2, true);
        x.unmap(0, 3, 2);
        Machines.settle(x);
        for (int page = 0; page < 8; page++) {
            x.load(1, page);
        }
        due.is("page 0 goes to the queue", x.step(1), 2);
        for (int page = 0; page < 8; page++) {
            due.codes("page " + page, x, 1, 4, 5, 22);
        }
        x.load(0, 8);
        due.codes("page 8", x, 0, 2, 4, 21);
    }

    private static void storeFaultsAtLeafAndLook() {
        FourWayKernel x = Machines.withThreads(0);
        x.map(0, 0, 1, false);
        x.store(0, 0, 9);
        x.load(0, 0);
        x.store(0, 0, 9);
        due.codes("map", x, 0, 2, 7, 8, 9, 10, 30);
        due.is("not writable", x.table(0), 0);
        due.codes("store at leaf", x, 0, 4, 5, 22);
        due.is("nothing in the buffer", x.translation(0, 0), NONE);
        due.codes("load", x, 0, 4, 5, 6, 20);
        due.is("not writable in the buffer", x.translation(0, 0), 0);
        due.codes("store at look", x, 0, 20);
        due.is("store at leaf", x.result(0, 1), FAULT);
        due.is("load", x.result(0, 2), 0);
        due.is("store at look", x.result(0, 3), FAULT);
        due.is("word", x.word(0), 0);
    }

    private static void loadReadsWhatStoreWrote() {
        FourWayKernel x = Machines.withThreads(0, 1);
        x.map(0, 6, 2, true);
        Machines.settle(x);
        x.store(0, 7, 999);
        x.store(0, 7, 0);
        x.store(0, 7, 12);
        x.load(1, 7);
        x.load(1, 7);
        x.load(1, 6);
        due.codes("first store", x, 0, 2, 4, 5, 6, 20);
        due.codes("load of another processor", x, 1, 2, 4, 5, 6, 20);
        due.codes("other stores", x, 0, 20, 20, 0);
        due.codes("loads after them", x, 1, 20, 4, 5, 6, 20, 0);
        due.is("first store", x.result(0, 1), 0);
        due.is("second store", x.result(0, 2), 999);
        due.is("third store", x.result(0, 3), 0);
        due.is("load after the first store", x.result(1, 0), 999);
        due.is("load after the third store", x.result(1, 1), 12);
        due.is("load of the other page", x.result(1, 2), 0);
        due.is("word 0", x.word(0), 0);
        due.is("word 1", x.word(1), 12);
    }

    private static void bufferHoldsThree() {
        FourWayKernel x = Machines.withThreads(0);
        x.map(0, 0, 4, true);
        x.load(0, 2);
        x.load(0, 0);
        x.load(0, 3);
        x.load(0, 2);
        x.load(0, 1);
        x.load(0, 2);
        due.codes("map", x, 0, 2, 7, 8, 9, 10, 10, 10, 10, 30);
        due.codes("page 2", x, 0, 4, 5, 6, 20);
        due.codes("page 0", x, 0, 4, 5, 6, 20);
        due.codes("page 3", x, 0, 4, 5, 6, 20);
        due.codes("page 2 is there", x, 0, 20);
        due.codes("page 1", x, 0, 4, 5, 6);
        due.is("the earliest put in went out", x.translation(0, 2), NONE);
        due.is("page 0 stays", x.translation(0, 0), 1);
        due.is("page 3 stays", x.translation(0, 3), 7);
        due.is("page 1 came", x.translation(0, 1), 3);
        due.codes("page 1 is there", x, 0, 20);
        due.codes("page 2 comes again", x, 0, 4, 5, 6, 20);
        due.is("page 0 went out", x.translation(0, 0), NONE);
    }

    private static void ticketsAreServedInTurn() {
        FourWayKernel x = Machines.withThreads(0, 1, 2);
        x.map(0, 0, 1, true);
        x.map(1, 1, 1, true);
        x.protect(2, 9, 1);
        due.codes("2 is first", x, 2, 2, 7);
        due.codes("0 is second", x, 0, 2, 7, 8, 8);
        due.codes("1 is third", x, 1, 2, 7, 8);
        due.is("three tickets", x.tickets(), 3);
        due.codes("2 is served", x, 2, 8, 10, 30);
        due.is("two tickets", x.tickets(), 2);
        due.codes("1 waits", x, 1, 8, 8);
        due.is("1 stays in wait", x.phase(1), 8);
        due.codes("0 is served", x, 0, 8, 9, 10, 30);
        due.codes("1 is served", x, 1, 8, 9, 10, 30);
        due.is("no tickets", x.tickets(), 0);
        due.is("frame of page 0", x.table(0), 1);
        due.is("frame of page 1", x.table(1), 3);
    }

    private static void mapIsRefusedAtCheck() {
        FourWayKernel x = Machines.withThreads(0);
        x.map(0, 4, 1, false);
        x.map(0, 1, 4, true);
        x.map(0, 4, 4, true);
        x.map(0, 5, 2, true);
        due.codes("first", x, 0, 2, 7, 8, 9, 10, 30);
        due.codes("last page is in the table", x, 0, 7, 8, 9);
        due.is("no result yet", x.result(0, 1), NONE);
        due.codes("unlock", x, 0, 30);
        due.is("refused", x.result(0, 1), REFUSED);
        due.is("nothing mapped", x.table(1), NONE);
        due.is("no frame taken", x.spare(4), 9);
        due.codes("first page is in the table", x, 0, 7, 8, 9, 30);
        due.is("refused", x.result(0, 2), REFUSED);
        due.codes("pages beside it", x, 0, 7, 8, 9, 10, 10, 30, 0);
        due.is("mapped", x.result(0, 3), 2);
        due.is("page 4 as it was", x.table(4), 0);
    }

    private static void mapIsRefusedForWantOfFrames() {
        FourWayKernel x = Machines.withThreads(0);
        x.map(0, 0, 4, true);
        x.map(0, 4, 4, true);
        x.map(0, 8, 3, true);
        x.map(0, 8, 2, true);
        x.map(0, 12, 1, true);
        Machines.settle(x);
        due.is("three of two", x.result(0, 2), REFUSED);
        due.is("two of two", x.result(0, 3), 2);
        due.is("one of none", x.result(0, 4), REFUSED);
        for (int page = 0; page < 10; page++) {
            due.is("frame of page " + page, x.table(page), 2 * page + 1);
        }
        due.is("page 10", x.table(10), NONE);
        due.is("pool", x.spare(4), 0);
    }

    private static void otherStoreRoomsDoNotCount() {
        FourWayKernel x = Machines.withThreads(0, 1);
        x.map(0, 0, 4, true);
        x.map(0, 4, 4, true);
        x.map(0, 8, 2, true);
        x.unmap(0, 0, 3);
        Machines.settle(x);
        due.is("store-room 0", x.spare(0), 2);
        due.is("pool", x.spare(4), 1);
        x.map(1, 12, 2, true);
        Machines.settle(x);
        due.is("processor 1 has but the pool", x.result(1, 0), REFUSED);
        x.map(0, 12, 3, true);
        Machines.settle(x);
        due.is("processor 0 has both", x.result(0, 4), 3);
        due.is("last of the store-room", x.table(12), 3);
        due.is("first of the store-room", x.table(13), 1);
        due.is("the pool's", x.table(14), 5);
    }

    private static void storeRoomComesBeforePool() {
        FourWayKernel x = Machines.withThreads(0);
        x.map(0, 0, 2, true);
        x.unmap(0, 0, 1);
        x.unmap(0, 1, 1);
        Machines.settle(x);
        due.is("store-room", x.spare(0), 2);
        x.map(0, 8, 3, true);
        Machines.settle(x);
        due.is("put in last", x.table(8), 3);
        due.is("put in first", x.table(9), 1);
        due.is("first of the pool", x.table(10), 5);
        due.is("store-room is empty", x.spare(0), 0);
        due.is("pool", x.spare(4), 7);
    }

    private static void framesAreReleasedInOrder() {
        FourWayKernel x = Machines.withThreads(0);
        x.map(0, 0, 4, true);
        x.map(0, 4, 4, true);
        x.unmap(0, 1, 4);
        Machines.settle(x);
        due.is("store-room", x.spare(0), 2);
        due.is("pool", x.spare(4), 4);
        x.map(0, 8, 4, true);
        x.map(0, 12, 2, true);
        Machines.settle(x);
        due.is("page 8", x.table(8), 5);
        due.is("page 9", x.table(9), 3);
        due.is("page 10", x.table(10), 17);
        due.is("page 11", x.table(11), 19);
        due.is("page 12", x.table(12), 7);
        due.is("page 13", x.table(13), 9);
    }

    private static void mappedWordBecomesZero() {
        FourWayKernel x = Machines.withThreads(0);
        x.map(0, 0, 1, true);
        x.store(0, 0, 77);
        x.unmap(0, 0, 1);
        Machines.settle(x);
        due.is("word of a frame that no page has", x.word(0), 77);
        x.map(0, 5, 1, false);
        x.load(0, 5);
        Machines.settle(x);
        due.is("same frame", x.table(5), 0);
        due.is("word is 0", x.word(0), 0);
        due.is("load", x.result(0, 4), 0);
    }

    private static void unmapCountsPagesOfTheTable() {
        FourWayKernel x = Machines.withThreads(1);
        x.map(0, 1, 1, true);
        x.map(0, 3, 1, false);
        x.unmap(0, 0, 4);
        due.codes("maps", x, 1, 2, 7, 8, 9, 10, 30, 7, 8, 9, 10, 30);
        due.codes("unmap", x, 1, 7, 8, 10, 10, 10, 10, 11, 11, 11, 11, 12);
        due.is("pages are out of the table", x.table(1), NONE);
        due.is("frames are not released yet", x.spare(1), 0);
        due.codes("answers", x, 0, 1, 0);
        due.codes("answers", x, 2, 1, 0);
        due.codes("still owed one", x, 1, 12);
        due.codes("answers", x, 3, 1, 0);
        due.codes("release of two", x, 1, 12, 13, 13, 30, 0);
        due.is("two pages", x.result(0, 2), 2);
        due.is("two frames", x.spare(1), 2);
    }

    private static void protectCountsWritablePages() {
        FourWayKernel x = Machines.withThreads(3);
        x.map(0, 0, 2, true);
        x.map(0, 2, 1, false);
        x.protect(0, 0, 4);
        x.protect(0, 0, 4);
        due.codes("maps", x, 3, 2, 7, 8, 9, 10, 10, 30, 7, 8, 9, 10, 30);
        due.codes("protect", x, 3, 7, 8, 10, 10, 10, 10, 11, 11, 11, 11, 12);
        due.is("frame stays", x.table(1), 2);
        for (int p = 0; p < 3; p++) {
            due.codes("answers", x, p, 1);
        }
        due.codes("no release", x, 3, 12, 30);
        due.is("two were writable", x.result(0, 2), 2);
        due.codes("again", x, 3, 7, 8, 10, 10, 10, 10, 30, 0);
        due.is("none was writable", x.result(0, 3), 0);
        due.is("page 2", x.table(2), 4);
        due.is("page 3", x.table(3), NONE);
    }

    private static void unmapOfNothingSendsNothing() {
        FourWayKernel x = Machines.withThreads(0);
        x.unmap(0, 12, 3);
        due.codes("unmap", x, 0, 2, 7, 8, 10, 10, 10, 30, 0);
        due.is("result", x.result(0, 0), 0);
        for (int p = 0; p < 4; p++) {
            due.is("mail", x.mail(p), 0);
        }
    }

    private static void sendGoesFromProcessorToProcessor() {
        FourWayKernel x = Machines.withThreads(2);
        x.map(0, 0, 1, true);
        x.load(0, 0);
        x.unmap(0, 0, 1);
        due.codes("map and load", x, 2, 2, 7, 8, 9, 10, 30, 4, 5, 6, 20);
        due.codes("until send", x, 2, 7, 8, 10, 11);
        due.is("mail 0", x.mail(0), 1);
        due.is("mail 1", x.mail(1), 0);
        due.codes("send to 1", x, 2, 11);
        due.is("mail 1", x.mail(1), 1);
        due.is("own translation is there", x.translation(2, 0), 1);
        due.codes("own turn", x, 2, 11);
        due.is("own translation is gone", x.translation(2, 0), NONE);
        due.is("own mail", x.mail(2), 0);
        due.is("mail 3", x.mail(3), 0);
        due.codes("send to 3", x, 2, 11);
        due.is("mail 3", x.mail(3), 1);
        due.is("phase", x.phase(2), 12);
    }

    private static void mailComesFirst() {
        FourWayKernel x = Machines.withThreads(0, 1, 1);
        x.map(0, 0, 1, true);
        x.unmap(0, 0, 1);
        due.codes("until await", x, 0, 2, 7, 8, 9, 10, 30, 7, 8, 10, 11, 11, 11, 11);
        x.load(1, 0);
        x.load(2, 0);
        due.codes("mail before the own queue", x, 1, 1, 2);
        due.codes("mail before rest", x, 2, 1, 0);
        due.codes("mail before others' queues", x, 3, 1, 0);
        due.codes("goes on", x, 0, 12, 13, 30);
    }

    private static void answerDuringSendCounts() {
        FourWayKernel x = Machines.withThreads(3);
        x.map(0, 0, 1, true);
        x.unmap(0, 0, 1);
        due.codes("until send", x, 3, 2, 7, 8, 9, 10, 30, 7, 8, 10, 11);
        due.codes("answer at once", x, 0, 1, 0);
        due.codes("send", x, 3, 11);
        due.codes("answer at once", x, 1, 1, 0);
        due.codes("send", x, 3, 11);
        due.codes("answer at once", x, 2, 1, 0);
        due.codes("own turn", x, 3, 11);
        due.codes("none owed", x, 3, 12, 13, 30, 0);
    }

    private static void requestDropsItsRangeAlone() {
        FourWayKernel x = Machines.withThreads(0, 1);
        x.map(0, 0, 4, true);
        Machines.settle(x);
        x.load(1, 1);
        x.load(1, 2);
        x.load(1, 3);
        x.load(0, 3);
        x.load(0, 0);
        x.load(0, 1);
        Machines.settle(x);
        x.unmap(0, 3, 1);
        x.protect(0, 1, 2);
        due.codes("unmap", x, 0, 2, 7, 8, 10, 11, 11, 11, 11, 12);
        due.is("own page 3 is gone", x.translation(0, 3), NONE);
        due.is("own page 0 stays", x.translation(0, 0), 1);
        due.is("own page 1 stays", x.translation(0, 1), 3);
        due.is("page 3 of 1 is there yet", x.translation(1, 3), 7);
        for (int p = 1; p < 4; p++) {
            due.codes("answers", x, p, 1);
        }
        due.is("page 3 of 1 is gone", x.translation(1, 3), NONE);
        due.is("page 2 of 1 stays", x.translation(1, 2), 5);
        due.is("page 1 of 1 stays", x.translation(1, 1), 3);
        Machines.settle(x);
        due.is("page 2 of 1 is gone", x.translation(1, 2), NONE);
        due.is("page 1 of 1 is gone", x.translation(1, 1), NONE);
        due.is("own page 0 stays still", x.translation(0, 0), 1);
        due.is("own page 1 is gone", x.translation(0, 1), NONE);
    }

    private static void revokedTranslationServesUntilDropped() {
        FourWayKernel x = Machines.withThreads(0, 1);
        x.map(0, 0, 1, true);
        x.store(1, 0, 5);
        due.codes("map", x, 0, 2, 7, 8, 9, 10, 30);
        due.codes("store", x, 1, 2, 4, 5, 6, 20);
        x.protect(0, 0, 1);
        x.store(1, 0, 6);
        x.store(1, 0, 7);
        due.codes("protect", x, 0, 2, 7, 8, 10);
        due.codes("store before the request", x, 1, 2, 20);
        due.is("stored", x.word(0), 6);
        due.codes("send", x, 0, 11, 11, 11, 11);
        due.codes("store after the request", x, 1, 1, 4, 5, 22);
        due.is("fault", x.result(1, 2), FAULT);
        due.is("not stored", x.word(0), 6);
    }

    private static void moveGoesElsewhere() {
        FourWayKernel x = Machines.withThreads(0, 3);
        x.load(1, 0);
        x.move(0, 3);
        x.load(0, 0);
        due.codes("move", x, 0, 2);
        due.is("phase", x.phase(0), 15);
        due.codes("move", x, 0, 31);
        due.is("result", x.result(0, 0), 0);
        due.is("none current", x.current(0), NONE);
        due.is("first in the queue", x.queued(3, 0), 1);
        due.is("end of the queue", x.queued(3, 1), 0);
    }

    private static void moveToOwnProcessor() {
        FourWayKernel x = Machines.withThreads(1);
        x.move(0, 1);
        x.load(0, 0);
        due.codes("move", x, 1, 2, 31);
        due.is("none current though it is alone", x.current(1), NONE);
        due.is("in the own queue", x.queued(1, 0), 0);
        due.codes("goes on", x, 1, 2, 4, 21, 0);
    }

    private static void runNamesProcessorsByBits() {
        FourWayKernel x = Machines.withThreads(0, 1, 2, 3);
        for (int t = 0; t < 4; t++) {
            x.load(t, 0);
        }
        due.is("run of 3", x.run(0b00_11_00_01, 3), 0);
        due.is("processor 1", x.phase(1), 4);
        due.is("processor 0", x.phase(0), 4);
        due.is("processor 3", x.phase(3), 4);
        due.is("processor 2 was not named", x.current(2), NONE);
        due.is("three steps", x.steps(), 3);
        due.is("the sixteenth is in the highest bits", x.run(0x80000000, 16), 1);
        due.is("processor 2 is named last", x.current(2), 2);
        due.is("sixteen steps more", x.steps(), 19);
    }

    private static void runCountsFinishedOrders() {
        FourWayKernel x = Machines.withThreads(0, 1);
        for (int k = 0; k < 5; k++) {
            x.load(0, k);
            x.move(1, 1);
        }
        due.is("2, 4, 21, 4, 21, 4 of processor 0", x.run(0, 6), 2);
        due.is("2, 31, 2, 31, 2 of processor 1", x.run(0x55555555, 5), 2);
        due.is("31, 21 of both", x.run(0b00_01, 2), 2);
        due.is("ten orders in all", x.run(0x11111111, 16), 4);
        due.is("none left", x.run(0xE4E4E4E4, 16), 0);
    }

    private static void runIsRefused() {
        FourWayKernel x = Machines.withThreads(0);
        x.load(0, 0);
        for (int n : new int[] {0, -1, 17, Integer.MIN_VALUE, Integer.MAX_VALUE}) {
            due.is("run of " + n, x.run(0, n), NONE);
        }
        due.is("no steps", x.steps(), 0);
        due.is("queue as it was", x.queued(0, 0), 0);
        due.is("run of 1", x.run(-4, 1), 0);
        due.is("one step", x.steps(), 1);
        due.is("of processor 0", x.current(0), 0);
    }
}
