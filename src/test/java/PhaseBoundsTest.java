import java.util.Arrays;

/** The boundary cases that 'Terms' names of the phases, from LOOK to UNLOCK, and of requests. */
public final class PhaseBoundsTest {
    private static final int NONE = FourWayKernel.NONE;
    private static final int FAULT = FourWayKernel.FAULT;
    private static final int REFUSED = FourWayKernel.REFUSED;
    private static final int ABSENT = 0;
    private static final int FIXED = 1;
    private static final int WRITABLE = 2;
    private static final Due due = new Due();

    public static void main(String[] args) {
        lookNeedsATranslation();
        lookOfAStoreNeedsAWritableOne();
        topNeedsAnEnteredGroup();
        leafNeedsAPageInTheTable();
        leafOfAStoreNeedsAWritablePage();
        ticketsAreNumberedInTurn();
        waitEndsWithTheOwnTicket();
        refusedMapHandsTheLockOn();
        checkLooksAtEachPageOfTheRange();
        checkCountsStoreRoomAndPool();
        checkRefusesForBothReasons();
        changeOfMapIsDoneForEachPage();
        changeOfUnmapIsDoneForEachPage();
        changeOfProtectIsDoneForEachPage();
        sendIsDoneForEachProcessor();
        awaitStaysUntilAllAnswered();
        requestDropsItsRange();
        requestMeetsAnEmptyBuffer();
        unmapOfAllFrames();
        due.end();
    }

    private static void lookNeedsATranslation() {
        due.sentence("LOOK: if p's buffer has no translation of the page, the next phase is TOP");
        FourWayKernel x = Machines.withThreads(0, 1);
        x.map(0, 0, 1, true);
        x.load(0, 0);
        x.load(0, 0);
        x.load(1, 0);
        due.codes("map", x, 0, 2, 7, 8, 9, 10, 30);
        due.codes("no translation", x, 0, 4);
        due.is("next phase", x.phase(0), 5);
        due.codes("then", x, 0, 5, 6);
        due.is("next phase after leaf", x.phase(0), 4);
        due.codes("a translation", x, 0, 20, 20);
        due.codes("no translation in another's buffer", x, 1, 2, 4);
        due.is("next phase there", x.phase(1), 5);
    }

    private static void lookOfAStoreNeedsAWritableOne() {
        due.sentence("LOOK: STORE has FAULT if the translation is not writable; else its result is that word");
        for (int writable = 0; writable <= 1; writable++) {
            FourWayKernel x = Machines.withThreads(0);
            x.map(0, 0, 1, writable == 1);
            x.load(0, 0);
            x.store(0, 0, 8);
            x.store(0, 0, 9);
            x.load(0, 0);
            x.run(0, 10);
            due.is("translation", x.translation(0, 0), writable);
            due.codes("stores and load", x, 0, 20, 20, 20, 0);
            due.is("first store", x.result(0, 2), writable == 1 ? 0 : FAULT);
            due.is("second store", x.result(0, 3), writable == 1 ? 8 : FAULT);
            due.is("load", x.result(0, 4), writable == 1 ? 9 : 0);
            due.is("word", x.word(0), writable == 1 ? 9 : 0);
        }
    }

    private static void topNeedsAnEnteredGroup() {
        due.sentence("TOP: if the page's group is not entered, the order is finished with FAULT; else the"
            + " next phase is LEAF");
        for (int group = 0; group < 4; group++) {
            FourWayKernel x = Machines.withThreads(0);
            x.load(0, 4 * group);
            x.store(0, 4 * group, 1);
            x.map(0, 4 * group + 3, 1, true);
            x.store(0, 4 * group, 1);
            due.codes("not entered", x, 0, 2, 4, 21, 4, 21);
            due.is("load", x.result(0, 0), FAULT);
            due.is("store", x.result(0, 1), FAULT);
            due.codes("map", x, 0, 7, 8, 9, 10, 30);
            due.codes("entered", x, 0, 4, 5);
            due.is("next phase", x.phase(0), 6);
        }
    }

    private static void leafNeedsAPageInTheTable() {
        due.sentence("LEAF: if the page is not in the table .. finished with FAULT");
        for (int group = 0; group < 4; group++) {
            for (int page = 4 * group; page < 4 * group + 4; page++) {
                FourWayKernel x = Machines.withThreads(0);
                x.map(0, 4 * group + 1, 2, true);
                x.load(0, page);
                boolean there = page % 4 == 1 || page % 4 == 2;
                due.codes("map", x, 0, 2, 7, 8, 9, 10, 10, 30);
                due.codes("load of " + page, x, 0, 4, 5, there ? 6 : 22);
                due.is("result so far", x.result(0, 1), there ? NONE : FAULT);
            }
        }
    }

    private static void leafOfAStoreNeedsAWritablePage() {
        due.sentence("LEAF: or the order is a STORE and the page is not writable there");
        for (int writable = 0; writable <= 1; writable++) {
            for (int stores = 0; stores <= 1; stores++) {
                FourWayKernel x = Machines.withThreads(0);
                x.map(0, 15, 1, writable == 1);
                if (stores == 1) {
                    x.store(0, 15, 3);
                } else {
                    x.load(0, 15);
                }
                boolean faults = stores == 1 && writable == 0;
                due.codes("map", x, 0, 2, 7, 8, 9, 10, 30);
                due.codes("leaf", x, 0, 4, 5, faults ? 22 : 6);
                due.is("translation", x.translation(0, 15), faults ? NONE : writable);
            }
        }
    }

    private static void ticketsAreNumberedInTurn() {
        due.sentence("TICKET: the order's ticket is NEXT, NEXT grows by 1");
        FourWayKernel x = Machines.withThreads(0, 1, 2, 3);
        for (int p = 0; p < 4; p++) {
            x.protect(p, 0, 1);
            due.codes("taken", x, p, 2);
            due.is("tickets before", x.tickets(), p);
            due.codes("ticket", x, p, 7);
            due.is("tickets after", x.tickets(), p + 1);
            due.is("next phase", x.phase(p), 8);
        }
        for (int p = 0; p < 4; p++) {
            due.codes("served in turn", x, p, 8, 10, 30);
            due.is("tickets left", x.tickets(), 3 - p);
        }
    }

    private static void waitEndsWithTheOwnTicket() {
        due.sentence("WAIT: if SERVING is the order's ticket .. else it stays WAIT");
        for (int code = 0; code < 256; code++) {
            int[] line = {code & 3, code >> 2 & 3, code >> 4 & 3, code >> 6 & 3};
            if ((1 << line[0] | 1 << line[1] | 1 << line[2] | 1 << line[3]) == 15) {
                waitInLine(line);
            }
        }
    }

    /** The four processors draw their tickets in the given order. */
    private static void waitInLine(int[] line) {
        FourWayKernel x = Machines.withThreads(0, 1, 2, 3);
        for (int p : line) {
            x.map(p, 4 * p, 1, true);
            due.codes("ticket", x, p, 2, 7);
        }
        for (int served = 0; served < 4; served++) {
            for (int later = served + 1; later < 4; later++) {
                due.codes("not served yet", x, line[later], 8);
                due.is("stays", x.phase(line[later]), 8);
            }
            due.codes("served", x, line[served], 8, 9, 10);
            for (int later = served + 1; later < 4; later++) {
                due.codes("the lock is held", x, line[later], 8);
            }
            due.codes("unlock", x, line[served], 30);
            due.is("frame", x.table(4 * line[served]), 2 * served + 1);
        }
    }

    private static void refusedMapHandsTheLockOn() {
        due.sentence("UNLOCK: SERVING grows by 1: also after a refused MAP");
        FourWayKernel x = Machines.withThreads(0, 1);
        x.map(0, 0, 1, true);
        x.map(0, 0, 1, true);
        x.map(1, 1, 1, true);
        due.codes("map", x, 0, 2, 7, 8, 9, 10, 30);
        due.codes("refused", x, 0, 7, 8, 9);
        due.codes("waits", x, 1, 2, 7, 8);
        due.is("the result comes with the end", x.result(0, 1), NONE);
        due.codes("unlock", x, 0, 30);
        due.is("refused", x.result(0, 1), REFUSED);
        due.codes("served", x, 1, 8, 9, 10, 30);
        due.is("no tickets", x.tickets(), 0);
    }

    private static void checkLooksAtEachPageOfTheRange() {
        due.sentence("CHECK: if a page of the range is in the table .. REFUSED, and the next phase is UNLOCK");
        for (int n = 1; n <= 4; n++) {
            for (int there = -1; there <= n; there++) {
                checkOfOnePage(n, there, true);
                checkOfOnePage(n, there, false);
            }
        }
    }

    /** A range of n pages from page 6 on, with page 6 + there in the table alone. */
    private static void checkOfOnePage(int n, int there, boolean writable) {
        String about = n + " pages with page " + there + " of them in the table";
        FourWayKernel x = Machines.withThreads(0);
        x.map(0, 6 + there, 1, writable);
        due.codes("first", x, 0, 2, 7, 8, 9, 10, 30);
        x.map(0, 6, n, true);
        due.codes(about, x, 0, 2, 7, 8, 9);
        boolean refused = there >= 0 && there < n;
        due.is(about + ": next phase", x.phase(0), refused ? 14 : 10);
        if (!refused) {
            due.repeats(about, x, 0, 10, n);
        }
        due.codes(about, x, 0, 30);
        due.is(about + ": result", x.result(0, 1), refused ? REFUSED : n);
        due.is(about + ": pool", x.spare(4), refused ? 9 : 9 - n);
        for (int i = 0; i < n; i++) {
            int alone = i == there ? (writable ? 1 : 0) : NONE;
            due.is(about + ": table " + i, x.table(6 + i), refused ? alone : 2 * (i + 1) + 1);
        }
    }

    private static void checkCountsStoreRoomAndPool() {
        due.sentence("or p's store-room and the pool together have fewer frames than the range has pages");
        for (int stored = 0; stored <= 2; stored++) {
            for (int inPool = 0; inPool <= 4; inPool++) {
                for (int n = 1; n <= 4; n++) {
                    checkOfFrames(stored, inPool, n);
                }
            }
        }
    }

    private static void checkOfFrames(int stored, int inPool, int n) {
        String about = n + " pages with " + stored + " frames stored and " + inPool + " in the pool";
        FourWayKernel x = withFreeFrames(stored, inPool);
        due.is(about + ": store-room 0", x.spare(0), stored);
        due.is(about + ": store-room 1", x.spare(1), 2);
        due.is(about + ": pool", x.spare(4), inPool);
        x.map(0, 12, n, true);
        due.codes(about, x, 0, 2, 7, 8, 9);
        boolean refused = stored + inPool < n;
        due.is(about + ": next phase", x.phase(0), refused ? 14 : 10);
        Machines.finishOne(x);
        int taken = refused ? 0 : n;
        due.is(about + ": store-room 0 after", x.spare(0), Math.max(stored - taken, 0));
        due.is(about + ": store-room 1 after", x.spare(1), 2);
        due.is(about + ": pool after", x.spare(4), inPool - Math.max(taken - stored, 0));
        due.is(about + ": first page", x.table(12) == NONE ? 1 : 0, refused ? 1 : 0);
    }

    /** Processor 1 fills its own store-room first, so that what it releases then goes to the pool. */
    private static FourWayKernel withFreeFrames(int stored, int inPool) {
        FourWayKernel x = Machines.withThreads(0, 1);
        x.map(0, 0, 4, true);
        x.map(0, 4, 4, true);
        x.map(0, 8, 2, true);
        x.run(0, 16);
        x.run(0, 16);
        x.unmap(1, 8, 2);
        Machines.finishOne(x);
        if (inPool > 0) {
            x.unmap(1, 4, inPool);
            Machines.finishOne(x);
        }
        if (stored > 0) {
            x.unmap(0, 0, stored);
            Machines.finishOne(x);
        }
        return x;
    }

    private static void checkRefusesForBothReasons() {
        due.sentence("CHECK: if a page .. is in the table, or .. fewer frames: both at once");
        FourWayKernel x = withFreeFrames(0, 0);
        x.map(0, 2, 1, true);
        x.map(0, 9, 4, true);
        due.codes("both", x, 0, 2, 7, 8, 9, 30);
        due.codes("frames alone", x, 0, 7, 8, 9, 30, 0);
        due.is("both", x.result(0, 3), REFUSED);
        due.is("frames alone", x.result(0, 4), REFUSED);
        due.is("page 2 as it was", x.table(2), 5);
        due.is("page 9 as it was", x.table(9), NONE);
    }

    private static void changeOfMapIsDoneForEachPage() {
        due.sentence("CHANGE is done once for each page of the range, from the lowest on. MAP: .. of all pages");
        for (int n = 1; n <= 4; n++) {
            for (int writable = 0; writable <= 1; writable++) {
                FourWayKernel x = Machines.withThreads(0);
                x.map(0, 16 - n, n, writable == 1);
                due.codes("map", x, 0, 2, 7, 8, 9);
                for (int i = 0; i < n; i++) {
                    due.is("not yet", x.table(16 - n + i), NONE);
                    due.is("phase", x.phase(0), 10);
                    due.codes("change", x, 0, 10);
                    due.is("in the table", x.table(16 - n + i), 2 * i + writable);
                }
                due.is("no send after map", x.phase(0), 14);
                due.codes("unlock", x, 0, 30, 0);
                due.is("result", x.result(0, 0), n);
                due.is("page below the range", x.table(15 - n), NONE);
            }
        }
    }

    private static void changeOfUnmapIsDoneForEachPage() {
        due.sentence("UNMAP: if the page is in the table .. SEND .. if that number is above 0, else UNLOCK");
        for (int n = 1; n <= 4; n++) {
            for (int[] pages : pageStates(n)) {
                changeEachPage(pages, true);
            }
        }
    }

    private static void changeOfProtectIsDoneForEachPage() {
        due.sentence("PROTECT: if the page is in the table and writable .. SEND .. if that number is above"
            + " 0, else UNLOCK");
        for (int n = 1; n <= 4; n++) {
            for (int[] pages : pageStates(n)) {
                changeEachPage(pages, false);
            }
        }
    }

    /** All rows of n pages, each absent, fixed or writable. */
    private static int[][] pageStates(int n) {
        int many = 1;
        for (int i = 0; i < n; i++) {
            many *= 3;
        }
        int[][] rows = new int[many][n];
        for (int row = 0; row < many; row++) {
            int rest = row;
            for (int i = 0; i < n; i++) {
                rows[row][i] = rest % 3;
                rest /= 3;
            }
        }
        return rows;
    }

    /** The range begins with page 6, so that it lies in two groups; 5 and the page after it frame it. */
    private static void changeEachPage(int[] pages, boolean unmaps) {
        int n = pages.length;
        String about = (unmaps ? "unmap of " : "protect of ") + Arrays.toString(pages);
        FourWayKernel x = withPages(pages);
        if (unmaps) {
            x.unmap(0, 6, n);
        } else {
            x.protect(0, 6, n);
        }
        due.codes(about, x, 0, 2, 7, 8);
        int changed = 0;
        for (int i = 0; i < n; i++) {
            int before = x.table(6 + i);
            boolean counts = pages[i] == WRITABLE || (unmaps && pages[i] == FIXED);
            changed += counts ? 1 : 0;
            due.codes(about + ": change " + i, x, 0, 10);
            int after = unmaps ? NONE : before & ~1;
            due.is(about + ": table " + i, x.table(6 + i), counts ? after : before);
        }
        due.is(about + ": next phase", x.phase(0), changed > 0 ? 11 : 14);
        if (changed > 0) {
            due.repeats(about, x, 0, 11, 4);
            Machines.answer(x, 0);
            due.codes(about, x, 0, 12);
            due.repeats(about, x, 0, 13, unmaps ? changed : 0);
        }
        due.codes(about, x, 0, 30, 0);
        due.is(about + ": result", x.result(0, ordersFor(pages)), changed);
        due.is(about + ": page below", x.table(5), 1);
        due.is(about + ": page above", x.table(6 + n), 3);
    }

    private static FourWayKernel withPages(int[] pages) {
        FourWayKernel x = Machines.withThreads(0);
        x.map(0, 5, 1, true);
        x.map(0, 6 + pages.length, 1, true);
        for (int i = 0; i < pages.length; i++) {
            if (pages[i] != ABSENT) {
                x.map(0, 6 + i, 1, pages[i] == WRITABLE);
            }
        }
        x.run(0, 16);
        x.run(0, 16);
        return x;
    }

    private static int ordersFor(int[] pages) {
        int orders = 2;
        for (int page : pages) {
            orders += page != ABSENT ? 1 : 0;
        }
        return orders;
    }

    private static void sendIsDoneForEachProcessor() {
        due.sentence("SEND is done once for each processor, from 0 on .. After processor 3 the next phase is AWAIT");
        for (int own = 0; own < 4; own++) {
            sendFrom(own, true);
            sendFrom(own, false);
        }
    }

    private static void sendFrom(int own, boolean unmaps) {
        FourWayKernel x = untilSend(own, 4, unmaps);
        for (int p = 0; p < 4; p++) {
            String about = "send of " + own + " to " + p;
            due.is(about + ": phase before", x.phase(own), 11);
            due.is(about + ": mail before", x.mail(p), 0);
            due.is(about + ": own translation before", x.translation(own, 0), p <= own ? 1 : NONE);
            due.codes(about, x, own, 11);
            due.is(about + ": mail after", x.mail(p), p == own ? 0 : 1);
            due.is(about + ": own translation after", x.translation(own, 0), p < own ? 1 : NONE);
        }
        due.is("after processor 3", x.phase(own), 12);
        due.is("own mail", x.mail(own), 0);
    }

    /** Pages 0 .. n - 1 are mapped and page 0 is in own's buffer; thread 0 is about to send. */
    private static FourWayKernel untilSend(int own, int n, boolean unmaps) {
        FourWayKernel x = Machines.withThreads(own);
        x.map(0, 0, n, true);
        x.load(0, 0);
        if (unmaps) {
            x.unmap(0, 0, n);
        } else {
            x.protect(0, 0, n);
        }
        due.codes("map", x, own, 2, 7, 8, 9);
        due.repeats("map", x, own, 10, n);
        due.codes("load", x, own, 30, 4, 5, 6, 20);
        due.codes("lock", x, own, 7, 8);
        due.repeats("change", x, own, 10, n);
        return x;
    }

    private static void awaitStaysUntilAllAnswered() {
        due.sentence("AWAIT: if the order is owed no answer .. RELEASE for UNMAP, UNLOCK for PROTECT; else"
            + " it stays AWAIT");
        for (int own = 0; own < 4; own++) {
            for (int answered = 0; answered < 16; answered++) {
                if ((answered >> own & 1) == 0) {
                    awaitWith(own, answered, true);
                    awaitWith(own, answered, false);
                }
            }
        }
    }

    /** The processors of whom a bit is set have answered. */
    private static void awaitWith(int own, int answered, boolean unmaps) {
        FourWayKernel x = untilSend(own, 1, unmaps);
        due.repeats("send", x, own, 11, 4);
        for (int p = 0; p < 4; p++) {
            if ((answered >> p & 1) == 1) {
                due.codes("answer of " + p, x, p, 1);
            }
        }
        boolean all = (answered | 1 << own) == 15;
        due.codes("await", x, own, 12);
        int next = unmaps ? 13 : 14;
        due.is("phase of " + own + " when " + answered + " answered", x.phase(own), all ? next : 12);
        if (!all) {
            due.codes("await again", x, own, 12);
            due.is("frames are not free", x.spare(own), 0);
            Machines.answer(x, own);
            due.codes("await at last", x, own, 12);
            due.is("phase at last", x.phase(own), next);
        }
    }

    private static void requestDropsItsRange() {
        due.sentence("all translations of pages of its range go out of p's buffer: none, some or all of them");
        for (int first = 0; first < 8; first++) {
            for (int n = 1; n <= 4 && first + n <= 8; n++) {
                dropRange(first, n, true);
                dropRange(first, n, false);
            }
        }
    }

    /** Pages 0 .. 7 are mapped; processors 0 and 2 have those of 2, 4 and 5 in their buffers. */
    private static void dropRange(int first, int n, boolean unmaps) {
        FourWayKernel x = Machines.withThreads(0, 2);
        x.map(0, 0, 4, true);
        x.map(0, 4, 4, true);
        for (int page : new int[] {5, 2, 4}) {
            x.load(0, page);
            x.load(1, page);
        }
        x.run(0, 16);
        x.run(0, 14);
        x.run(0xAAAAAAAA, 13);
        if (unmaps) {
            x.unmap(0, first, n);
        } else {
            x.protect(0, first, n);
        }
        due.codes("until send", x, 0, 2, 7, 8);
        due.repeats("until send", x, 0, 10, n);
        buffersAre("before the drop", x, first, 0, 0);
        due.codes("send to itself", x, 0, 11);
        buffersAre("dropped by the sender", x, first, n, 0);
        due.repeats("send to others", x, 0, 11, 3);
        buffersAre("requests do nothing yet", x, first, n, 0);
        due.codes("request", x, 2, 1);
        buffersAre("dropped by the receiver", x, first, n, n);
    }

    private static void buffersAre(String about, FourWayKernel x, int first, int goneFrom0, int goneFrom2) {
        for (int page = 0; page < 8; page++) {
            boolean loaded = page == 2 || page == 4 || page == 5;
            boolean in0 = loaded && (page < first || page >= first + goneFrom0);
            boolean in2 = loaded && (page < first || page >= first + goneFrom2);
            due.is(about + ": page " + page + " of 0", x.translation(0, page), in0 ? 2 * page + 1 : NONE);
            due.is(about + ": page " + page + " of 2", x.translation(2, page), in2 ? 2 * page + 1 : NONE);
        }
    }

    private static void requestMeetsAnEmptyBuffer() {
        due.sentence("[1] If a request is in p's mailbox: also when p's buffer is empty");
        FourWayKernel x = untilSend(1, 4, true);
        due.repeats("send", x, 1, 11, 4);
        for (int p : new int[] {3, 0, 2}) {
            due.is("mail", x.mail(p), 1);
            due.codes("answers once", x, p, 1, 0);
            due.is("no mail", x.mail(p), 0);
        }
        due.codes("goes on", x, 1, 12, 13, 13, 13, 13, 30, 0);
    }

    private static void unmapOfAllFrames() {
        due.sentence("FRAMES 0 .. 9: all of them taken and all of them released");
        FourWayKernel x = withFreeFrames(0, 0);
        for (int page = 0; page < 8; page += 4) {
            x.unmap(0, page, 4);
            Machines.finishOne(x);
        }
        due.is("store-room 0", x.spare(0), 2);
        due.is("store-room 1", x.spare(1), 2);
        due.is("pool", x.spare(4), 6);
        for (int page = 0; page < 16; page++) {
            due.is("table " + page, x.table(page), NONE);
        }
    }
}
