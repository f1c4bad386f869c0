/** Promises 11 to 21: what can be asked about the machine. */
public final class ViewsTest {
    private static final int NONE = FourWayKernel.NONE;
    private static final int[] NO_PROCESSORS = {-1, 4, Integer.MIN_VALUE, Integer.MAX_VALUE};
    private static final Due due = new Due();

    public static void main(String[] args) {
        due.is("NONE", FourWayKernel.NONE, -1);
        due.is("FAULT", FourWayKernel.FAULT, -2);
        due.is("REFUSED", FourWayKernel.REFUSED, -3);
        resultComesWithTheEnd();
        resultOfNothing();
        currentThread();
        phaseOfEachOrder();
        queuedThreads();
        mailOfProcessors();
        tableOfPages();
        translationsOfProcessors();
        wordsOfFrames();
        spareFrames();
        ticketsOfTheLock();
        stepsAreCounted();
        due.end();
    }

    private static FourWayKernel mapped() {
        FourWayKernel x = new FourWayKernel();
        x.thread(0);
        x.map(0, 4, 2, true);
        x.run(0, 8);
        return x;
    }

    private static void resultComesWithTheEnd() {
        FourWayKernel x = new FourWayKernel();
        x.thread(0);
        x.map(0, 0, 2, true);
        x.store(0, 0, 3);
        for (int code : new int[] {2, 7, 8, 9, 10, 10}) {
            due.is("result before the end", x.result(0, 0), NONE);
            due.codes("map", x, 0, code);
        }
        due.is("result before unlock", x.result(0, 0), NONE);
        due.codes("map", x, 0, 30);
        due.is("result after unlock", x.result(0, 0), 2);
        due.is("result of the next order", x.result(0, 1), NONE);
        due.codes("store", x, 0, 4, 5, 6);
        due.is("result before the last look", x.result(0, 1), NONE);
        due.codes("store", x, 0, 20);
        due.is("result of the store", x.result(0, 1), 0);
    }

    private static void resultOfNothing() {
        FourWayKernel x = mapped();
        due.is("result", x.result(0, 0), 2);
        for (int k : new int[] {1, -1, 10, Integer.MIN_VALUE, Integer.MAX_VALUE}) {
            due.is("result of order " + k, x.result(0, k), NONE);
        }
        for (int t : new int[] {1, -1, 8, Integer.MIN_VALUE, Integer.MAX_VALUE}) {
            due.is("result of thread " + t, x.result(t, 0), NONE);
        }
    }

    private static void currentThread() {
        FourWayKernel x = new FourWayKernel();
        x.thread(1);
        x.thread(1);
        x.load(0, 0);
        x.load(1, 0);
        due.is("in the queue", x.current(1), NONE);
        x.step(1);
        due.is("first", x.current(1), 0);
        due.is("of another", x.current(0), NONE);
        x.step(1);
        x.step(1);
        due.is("parked", x.current(1), NONE);
        x.step(1);
        due.is("second", x.current(1), 1);
        for (int p : NO_PROCESSORS) {
            due.is("current of " + p, x.current(p), NONE);
        }
    }

    private static void phaseOfEachOrder() {
        int[][] phases = {{4, 5}, {4, 5}, {7, 8, 9, 14}, {7, 8, 10, 10, 11, 11, 11, 11, 12},
            {7, 8, 10, 11, 11, 11, 11, 12}, {15}};
        for (int kind = 0; kind < phases.length; kind++) {
            FourWayKernel x = mapped();
            order(x, kind);
            due.is("phase in the queue", x.phase(0), NONE);
            due.codes("taken", x, 0, 2);
            for (int phase : phases[kind]) {
                due.is("phase of kind " + kind, x.phase(0), phase);
                int code = x.step(0);
                due.is("code of kind " + kind, code & 15, phase);
            }
        }
        FourWayKernel x = mapped();
        for (int p : NO_PROCESSORS) {
            due.is("phase of " + p, x.phase(p), NONE);
        }
    }

    private static void order(FourWayKernel x, int kind) {
        switch (kind) {
            case 0: x.load(0, 0); break;
            case 1: x.store(0, 0, 1); break;
            case 2: x.map(0, 5, 1, true); break;
            case 3: x.unmap(0, 4, 2); break;
            case 4: x.protect(0, 5, 1); break;
            default: x.move(0, 0); break;
        }
    }

    private static void queuedThreads() {
        FourWayKernel x = new FourWayKernel();
        for (int t = 0; t < 8; t++) {
            x.thread(2);
        }
        for (int t = 7; t >= 0; t--) {
            x.load(t, 0);
        }
        for (int k = 0; k < 8; k++) {
            due.is("place " + k, x.queued(2, k), 7 - k);
        }
        for (int k : new int[] {-1, 8, Integer.MIN_VALUE, Integer.MAX_VALUE}) {
            due.is("place " + k, x.queued(2, k), NONE);
        }
        due.is("other queue", x.queued(1, 0), NONE);
        for (int p : NO_PROCESSORS) {
            due.is("queue of " + p, x.queued(p, 0), NONE);
        }
        x.step(2);
        due.is("moved up", x.queued(2, 0), 6);
        due.is("moved up", x.queued(2, 6), 0);
        due.is("one less", x.queued(2, 7), NONE);
    }

    private static void mailOfProcessors() {
        FourWayKernel x = mapped();
        x.unmap(0, 4, 1);
        due.codes("unmap", x, 0, 2, 7, 8, 10, 11, 11, 11, 11);
        due.is("mail 0", x.mail(0), 0);
        for (int p = 1; p < 4; p++) {
            due.is("mail " + p, x.mail(p), 1);
            due.codes("answer", x, p, 1);
            due.is("mail " + p + " after", x.mail(p), 0);
        }
        for (int p : NO_PROCESSORS) {
            due.is("mail of " + p, x.mail(p), NONE);
        }
    }

    private static void tableOfPages() {
        FourWayKernel x = new FourWayKernel();
        x.thread(0);
        x.map(0, 15, 1, true);
        x.map(0, 0, 1, false);
        x.run(0, 5);
        due.is("page 15 before its change is over", x.table(15), 1);
        x.run(0, 16);
        due.is("page 15", x.table(15), 1);
        due.is("page 0", x.table(0), 2);
        due.is("page 1", x.table(1), NONE);
        for (int page : new int[] {-1, 16, Integer.MIN_VALUE, Integer.MAX_VALUE}) {
            due.is("page " + page, x.table(page), NONE);
        }
    }

    private static void translationsOfProcessors() {
        FourWayKernel x = mapped();
        x.thread(2);
        x.load(1, 5);
        due.codes("load", x, 2, 2, 4, 5);
        due.is("before leaf", x.translation(2, 5), NONE);
        due.codes("leaf", x, 2, 6);
        due.is("after leaf", x.translation(2, 5), 3);
        due.is("other page", x.translation(2, 4), NONE);
        due.is("other processor", x.translation(0, 5), NONE);
        for (int page : new int[] {-1, 0, 16, Integer.MIN_VALUE, Integer.MAX_VALUE}) {
            due.is("page " + page, x.translation(2, page), NONE);
        }
        for (int p : NO_PROCESSORS) {
            due.is("processor " + p, x.translation(p, 5), NONE);
        }
    }

    private static void wordsOfFrames() {
        FourWayKernel x = mapped();
        x.store(0, 5, 999);
        x.run(0, 8);
        due.is("word 1", x.word(1), 999);
        due.is("word 0", x.word(0), 0);
        due.is("word 9", x.word(9), 0);
        for (int frame : new int[] {-1, 10, Integer.MIN_VALUE, Integer.MAX_VALUE}) {
            due.is("word " + frame, x.word(frame), NONE);
        }
    }

    private static void spareFrames() {
        FourWayKernel x = mapped();
        due.is("pool", x.spare(4), 8);
        x.map(0, 0, 1, true);
        x.unmap(0, 4, 2);
        x.unmap(0, 0, 1);
        for (int i = 0; i < 20; i++) {
            x.run(0xE4E4E4E4, 16);
        }
        due.is("store-room 0", x.spare(0), 2);
        for (int p = 1; p < 4; p++) {
            due.is("store-room " + p, x.spare(p), 0);
        }
        due.is("pool", x.spare(4), 8);
        for (int where : new int[] {-1, 5, Integer.MIN_VALUE, Integer.MAX_VALUE}) {
            due.is("spare " + where, x.spare(where), NONE);
        }
    }

    private static void ticketsOfTheLock() {
        FourWayKernel x = new FourWayKernel();
        x.thread(0);
        x.thread(1);
        x.map(0, 0, 1, true);
        x.map(1, 0, 1, true);
        due.codes("taken", x, 0, 2);
        due.is("no ticket yet", x.tickets(), 0);
        due.codes("ticket", x, 0, 7);
        due.is("one waits", x.tickets(), 1);
        due.codes("has the lock", x, 0, 8, 9, 10);
        due.is("one has it", x.tickets(), 1);
        due.codes("second ticket", x, 1, 2, 7);
        due.is("one has it, one waits", x.tickets(), 2);
        due.codes("unlock", x, 0, 30);
        due.is("one waits", x.tickets(), 1);
        due.codes("refused", x, 1, 8, 9, 30);
        due.is("none", x.tickets(), 0);
    }

    private static void stepsAreCounted() {
        FourWayKernel x = new FourWayKernel();
        x.step(0);
        due.is("a step with code 0", x.steps(), 1);
        x.run(0, 16);
        due.is("sixteen more", x.steps(), 17);
        x.step(4);
        x.run(0, 0);
        x.run(0, 17);
        due.is("refused ones", x.steps(), 17);
        x.thread(0);
        x.load(0, 0);
        due.is("other calls", x.steps(), 17);
        x.run(0x1B, 4);
        due.is("four more", x.steps(), 21);
    }
}
