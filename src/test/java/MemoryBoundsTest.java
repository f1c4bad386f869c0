/** The boundary cases that 'Terms' names of groups, words, buffers, store-rooms and the pool. */
public final class MemoryBoundsTest {
    private static final int NONE = FourWayKernel.NONE;
    private static final int FAULT = FourWayKernel.FAULT;
    private static final int REFUSED = FourWayKernel.REFUSED;
    private static final Due due = new Due();

    public static void main(String[] args) {
        pagesAreInFourGroups();
        groupIsEnteredByItsFirstPage();
        groupOfALaterPageIsEnteredLater();
        refusedMapEntersNoGroup();
        unmapAndProtectEnterNoGroup();
        groupStaysEntered();
        wordsReachFromZeroTo999();
        bufferTakesThree();
        fourthPutsTheEarliestOut();
        useDoesNotRenewATranslation();
        droppedTranslationLeavesItsPlace();
        faultPutsNothingIn();
        buffersAreApart();
        poolHasTenFrames();
        mapTakesFromStoreRoomThenPool();
        mapTakesNothingFromOtherStoreRooms();
        releaseFillsStoreRoomThenPool();
        releaseIsInTheOrderOfPages();
        releaseIsWhereTheOrderRuns();
        due.end();
    }

    private static void pagesAreInFourGroups() {
        due.sentence("PAGES 0 .. 15, in four GROUPS: page / 4");
        for (int page = 0; page < 16; page++) {
            for (int other = 0; other < 16; other++) {
                if (other != page) {
                    groupsAreAsDue(page, other);
                }
            }
        }
    }

    private static void groupsAreAsDue(int page, int other) {
        FourWayKernel x = Machines.withThreads(0);
        x.map(0, page, 1, true);
        x.load(0, other);
        due.codes("map of " + page, x, 0, 2, 7, 8, 9, 10, 30);
        int[] codes = page / 4 == other / 4 ? new int[] {4, 5, 22} : new int[] {4, 21};
        due.codes("load of " + other + " with " + page + " in the table", x, 0, codes);
    }

    private static void groupIsEnteredByItsFirstPage() {
        due.sentence("A group is ENTERED from the time when one of its pages gets into the table for the first time");
        FourWayKernel x = Machines.withThreads(0, 1);
        x.map(0, 4, 1, true);
        x.load(1, 7);
        x.load(1, 7);
        due.codes("until the change", x, 0, 2, 7, 8, 9);
        due.codes("not entered before the change", x, 1, 2, 4, 21);
        due.codes("the change", x, 0, 10);
        due.codes("entered by the change", x, 1, 4, 5, 22);
        due.is("load before the change", x.result(1, 0), FAULT);
        due.is("load after the change", x.result(1, 1), FAULT);
    }

    private static void groupOfALaterPageIsEnteredLater() {
        due.sentence("A group is ENTERED .. one of its pages: each page of a range by its own CHANGE");
        FourWayKernel x = Machines.withThreads(0, 1);
        x.map(0, 3, 2, true);
        x.load(1, 0);
        x.load(1, 5);
        x.load(1, 5);
        due.codes("first page", x, 0, 2, 7, 8, 9, 10);
        due.codes("group 0 is entered", x, 1, 2, 4, 5, 22);
        due.codes("group 1 is not", x, 1, 4, 21);
        due.codes("second page", x, 0, 10);
        due.codes("group 1 is entered", x, 1, 4, 5, 22);
    }

    private static void refusedMapEntersNoGroup() {
        due.sentence("A group is ENTERED from the time when ..: not by a MAP that is REFUSED");
        FourWayKernel x = Machines.withThreads(0);
        x.map(0, 3, 1, true);
        x.map(0, 3, 2, true);
        x.load(0, 4);
        due.codes("map of page 3", x, 0, 2, 7, 8, 9, 10, 30);
        due.codes("refused for page 3", x, 0, 7, 8, 9, 30);
        due.codes("group 1 is not entered", x, 0, 4, 21, 0);
        x = Machines.withThreads(0);
        takeAllFrames(x);
        x.map(0, 12, 1, true);
        x.load(0, 12);
        due.codes("refused for want of frames", x, 0, 2, 7, 8, 9, 30);
        due.codes("group 3 is not entered", x, 0, 4, 21, 0);
    }

    /** Three orders of thread 0, parked at processor 0: pages 0 .. 9 get frames 0 .. 9. */
    private static void takeAllFrames(FourWayKernel x) {
        x.map(0, 0, 4, true);
        x.map(0, 4, 4, true);
        x.map(0, 8, 2, true);
        x.run(0, 16);
        x.run(0, 16);
    }

    private static void unmapAndProtectEnterNoGroup() {
        due.sentence("A group is ENTERED from the time when ..: not by UNMAP or PROTECT");
        FourWayKernel x = Machines.withThreads(0);
        x.unmap(0, 8, 4);
        x.protect(0, 8, 4);
        x.load(0, 8);
        due.codes("unmap", x, 0, 2, 7, 8, 10, 10, 10, 10, 30);
        due.codes("protect", x, 0, 7, 8, 10, 10, 10, 10, 30);
        due.codes("not entered", x, 0, 4, 21, 0);
    }

    private static void groupStaysEntered() {
        due.sentence("and stays so");
        for (int n = 1; n <= 4; n++) {
            FourWayKernel x = Machines.withThreads(0);
            x.map(0, 8, n, true);
            Machines.finishOne(x);
            x.unmap(0, 8, n);
            Machines.finishOne(x);
            x.load(0, 8);
            x.load(0, 11);
            x.load(0, 7);
            x.load(0, 12);
            due.is(n + " pages went out of the table", x.result(0, 1), n);
            due.codes("page 8", x, 0, 2, 4, 5, 22);
            due.codes("page 11", x, 0, 4, 5, 22);
            due.codes("page 7", x, 0, 4, 21);
            due.codes("page 12", x, 0, 4, 21, 0);
        }
    }

    private static void wordsReachFromZeroTo999() {
        due.sentence("each with one WORD, a number 0 .. 999, at first 0");
        FourWayKernel x = Machines.withThreads(0);
        takeAllFrames(x);
        x.store(0, 9, 999);
        x.store(0, 9, 0);
        x.store(0, 0, 1);
        x.store(0, 0, 999);
        x.load(0, 0);
        x.load(0, 9);
        due.codes("stores of page 9", x, 0, 2, 4, 5, 6, 20, 20);
        due.codes("stores of page 0", x, 0, 4, 5, 6, 20, 20);
        due.codes("loads", x, 0, 20, 20, 0);
        int[] results = {0, 999, 0, 1, 999, 0};
        for (int i = 0; i < results.length; i++) {
            due.is("result of order " + (3 + i), x.result(0, 3 + i), results[i]);
        }
        due.is("word 0", x.word(0), 999);
        due.is("word 9", x.word(9), 0);
    }

    /** Thread 0 is parked at processor 0, pages 0 .. 7 have frames 0 .. 7, writable. */
    private static FourWayKernel withEightPages() {
        FourWayKernel x = Machines.withThreads(0, 1);
        x.map(0, 0, 4, true);
        x.map(0, 4, 4, true);
        x.run(0, 16);
        x.run(0, 4);
        return x;
    }

    private static void bufferIs(String about, FourWayKernel x, int processor, int... pages) {
        int found = 0;
        for (int page = 0; page < 16; page++) {
            found += x.translation(processor, page) != NONE ? 1 : 0;
        }
        due.is(about + ": translations of processor " + processor, found, pages.length);
        for (int page : pages) {
            String which = about + ": translation " + processor + " " + page;
            due.is(which, x.translation(processor, page), 2 * page + 1);
        }
    }

    private static void bufferTakesThree() {
        due.sentence("Each processor has a BUFFER of at most three TRANSLATIONS");
        FourWayKernel x = withEightPages();
        bufferIs("none", x, 0);
        x.load(0, 5);
        due.codes("first", x, 0, 2, 4, 5, 6, 20);
        bufferIs("one", x, 0, 5);
        x.load(0, 0);
        due.codes("second", x, 0, 2, 4, 5, 6, 20);
        bufferIs("two", x, 0, 5, 0);
        x.load(0, 7);
        due.codes("third", x, 0, 2, 4, 5, 6, 20);
        bufferIs("three", x, 0, 5, 0, 7);
        x.load(0, 2);
        due.codes("fourth", x, 0, 2, 4, 5, 6, 20);
        bufferIs("three still", x, 0, 0, 7, 2);
    }

    private static void fourthPutsTheEarliestOut() {
        due.sentence("the earliest one goes out if there were three");
        FourWayKernel x = withEightPages();
        int[] pages = {6, 1, 4, 3, 0, 6, 1};
        for (int i = 0; i < pages.length; i++) {
            x.load(0, pages[i]);
            due.codes("load " + i, x, 0, 2, 4, 5, 6, 20);
            if (i >= 2) {
                bufferIs("after load " + i, x, 0, pages[i], pages[i - 1], pages[i - 2]);
            }
        }
    }

    private static void useDoesNotRenewATranslation() {
        due.sentence("in the order in which they were put in: not in that of their use");
        FourWayKernel x = withEightPages();
        for (int page : new int[] {0, 1, 2}) {
            x.load(0, page);
        }
        x.load(0, 0);
        x.store(0, 0, 5);
        x.load(0, 3);
        x.run(0, 13);
        bufferIs("three", x, 0, 0, 1, 2);
        due.codes("page 0 is used again", x, 0, 20, 20);
        due.codes("page 3", x, 0, 4, 5, 6);
        bufferIs("page 0 was put in first", x, 0, 1, 2, 3);
    }

    private static void droppedTranslationLeavesItsPlace() {
        due.sentence("BUFFER .. in the order in which they were put in: also after some went out");
        int[] pages = {5, 2, 7};
        for (int gone = 0; gone < 3; gone++) {
            FourWayKernel x = withEightPages();
            for (int page : pages) {
                x.load(0, page);
            }
            x.run(0, 13);
            x.protect(0, pages[gone], 1);
            Machines.finishOne(x);
            int first = pages[gone == 0 ? 1 : 0];
            int second = pages[gone == 2 ? 1 : 2];
            bufferIs("one went out", x, 0, first, second);
            x.load(0, 0);
            due.codes("third", x, 0, 2, 4, 5, 6, 20);
            bufferIs("none goes out", x, 0, first, second, 0);
            x.load(0, 1);
            due.codes("fourth", x, 0, 2, 4, 5, 6, 20);
            bufferIs("the earliest left goes out", x, 0, second, 0, 1);
        }
    }

    private static void faultPutsNothingIn() {
        due.sentence("LEAF: .. finished with FAULT. Else .. put into p's buffer");
        FourWayKernel x = Machines.withThreads(0);
        x.map(0, 0, 3, true);
        x.map(0, 4, 1, false);
        for (int page = 0; page < 3; page++) {
            x.load(0, page);
        }
        x.run(0, 14);
        x.run(0, 12);
        bufferIs("three", x, 0, 0, 1, 2);
        x.load(0, 3);
        x.store(0, 4, 1);
        due.codes("page not in the table", x, 0, 2, 4, 5, 22);
        bufferIs("none went out", x, 0, 0, 1, 2);
        due.codes("page not writable", x, 0, 4, 5, 22);
        bufferIs("none went out", x, 0, 0, 1, 2);
        x.load(0, 4);
        due.codes("a load may", x, 0, 2, 4, 5, 6, 20);
        due.is("page 4", x.translation(0, 4), 6);
        due.is("page 0 went out", x.translation(0, 0), NONE);
    }

    private static void buffersAreApart() {
        due.sentence("Each processor has a BUFFER");
        FourWayKernel x = Machines.withThreads(0, 1, 2, 3);
        x.map(0, 0, 4, true);
        x.run(0, 9);
        for (int p = 0; p < 4; p++) {
            for (int i = 0; i < 3; i++) {
                x.load(p, (p + i) % 4);
            }
            due.codes("loads", x, p, 2, 4, 5, 6, 20, 4, 5, 6, 20, 4, 5, 6, 20, 0);
        }
        for (int p = 0; p < 4; p++) {
            bufferIs("three of each", x, p, p, (p + 1) % 4, (p + 2) % 4);
        }
    }

    private static void poolHasTenFrames() {
        due.sentence("The POOL is a line of frames, at first 0, 1, .. 9");
        FourWayKernel x = Machines.withThreads(0);
        for (int i = 0; i < 9; i++) {
            x.map(0, 15 - i, 1, true);
            due.codes("map", x, 0, 2, 7, 8, 9, 10, 30);
            due.is("frame of page " + (15 - i), x.table(15 - i), 2 * i + 1);
            due.is("pool", x.spare(4), 9 - i);
        }
        x.thread(0);
        x.map(0, 0, 1, false);
        due.codes("tenth", x, 0, 2, 7, 8, 9, 10, 30);
        due.is("frame of page 0", x.table(0), 18);
        due.is("pool", x.spare(4), 0);
        x.map(1, 1, 1, true);
        due.codes("eleventh", x, 0, 2, 7, 8, 9, 30, 0);
        due.is("eleventh", x.result(1, 0), REFUSED);
        due.is("page 1", x.table(1), NONE);
    }

    private static void mapTakesFromStoreRoomThenPool() {
        due.sentence("the one put into p's store-room last, or, if that is empty, the first of the pool");
        for (int stored = 0; stored <= 2; stored++) {
            for (int n = 1; n <= 4; n++) {
                mapTakes(stored, n);
            }
        }
    }

    private static void mapTakes(int stored, int n) {
        FourWayKernel x = Machines.withThreads(0);
        x.map(0, 0, 4, true);
        Machines.finishOne(x);
        if (stored > 0) {
            x.unmap(0, 0, stored);
            Machines.finishOne(x);
        }
        due.is("store-room before", x.spare(0), stored);
        x.map(0, 8, n, true);
        due.codes("map", x, 0, 2, 7, 8, 9);
        for (int i = 0; i < n; i++) {
            String about = "page " + i + " of " + n + " with " + stored + " stored";
            int frame = i < stored ? stored - 1 - i : 4 + i - stored;
            due.codes(about, x, 0, 10);
            due.is(about + ": table", x.table(8 + i), 2 * frame + 1);
            due.is(about + ": store-room", x.spare(0), Math.max(stored - i - 1, 0));
            due.is(about + ": pool", x.spare(4), 6 - Math.max(i + 1 - stored, 0));
        }
        due.codes("unlock", x, 0, 30);
    }

    private static void mapTakesNothingFromOtherStoreRooms() {
        due.sentence("a frame is taken .. p's store-room: that of the processor that does the order");
        for (int p = 1; p < 4; p++) {
            FourWayKernel x = Machines.withThreads(0, p);
            x.map(0, 0, 2, true);
            Machines.finishOne(x);
            x.unmap(0, 0, 2);
            Machines.finishOne(x);
            x.map(1, 4, 1, true);
            due.codes("map", x, p, 2, 7, 8, 9, 10, 30);
            due.is("first of the pool", x.table(4), 5);
            due.is("store-room 0", x.spare(0), 2);
            due.is("pool", x.spare(4), 7);
        }
    }

    private static void releaseFillsStoreRoomThenPool() {
        due.sentence("into p's store-room if it has fewer than two, else to the end of the pool");
        for (int stored = 0; stored <= 2; stored++) {
            for (int n = 1; n <= 4; n++) {
                releaseFills(stored, n);
            }
        }
    }

    private static void releaseFills(int stored, int n) {
        FourWayKernel x = Machines.withThreads(0);
        x.map(0, 0, 4, true);
        x.map(0, 8, 2, true);
        x.run(0, 16);
        if (stored > 0) {
            x.unmap(0, 8, stored);
            Machines.finishOne(x);
        }
        due.is("store-room before", x.spare(0), stored);
        x.unmap(0, 0, n);
        due.codes("unmap", x, 0, 2, 7, 8);
        due.repeats("pages", x, 0, 10, n);
        due.repeats("send", x, 0, 11, 4);
        Machines.answer(x, 0);
        due.codes("await", x, 0, 12);
        for (int i = 0; i < n; i++) {
            String about = "frame " + i + " of " + n + " with " + stored + " stored";
            due.codes(about, x, 0, 13);
            due.is(about + ": store-room", x.spare(0), Math.min(stored + i + 1, 2));
            due.is(about + ": pool", x.spare(4), 4 + Math.max(stored + i + 1 - 2, 0));
        }
        due.codes("unlock", x, 0, 30);
        framesComeBack(x, stored, n);
    }

    /** All frames are taken: the store-room's, the last one first, then the pool's in line. */
    private static void framesComeBack(FourWayKernel x, int stored, int n) {
        int[] pages = {12, 13, 14, 15, 4, 5, 6, 7, 10, 11};
        int[] frames = freeFrames(stored, n);
        x.map(0, 12, 4, true);
        Machines.finishOne(x);
        x.map(0, 4, Math.min(frames.length - 4, 4), true);
        Machines.finishOne(x);
        if (frames.length > 8) {
            x.map(0, 10, frames.length - 8, true);
            Machines.finishOne(x);
        }
        for (int i = 0; i < frames.length; i++) {
            String about = "taken as number " + i + " after " + n + " were released to " + stored;
            due.is(about, x.table(pages[i]), 2 * frames[i] + 1);
        }
    }

    /** Frames 4 and 5 were stored before 0 .. 3 were released; 6 .. 9 never left the pool. */
    private static int[] freeFrames(int stored, int n) {
        int[] released = new int[stored + n];
        for (int i = 0; i < released.length; i++) {
            released[i] = i < stored ? 4 + i : i - stored;
        }
        int inRoom = Math.min(released.length, 2);
        int[] free = new int[4 + released.length];
        for (int i = 0; i < inRoom; i++) {
            free[i] = released[inRoom - 1 - i];
        }
        for (int i = 0; i < 4; i++) {
            free[inRoom + i] = 6 + i;
        }
        for (int i = inRoom; i < released.length; i++) {
            free[4 + i] = released[i];
        }
        return free;
    }

    private static void releaseIsInTheOrderOfPages() {
        due.sentence("RELEASE is done once for each frame that the order keeps, in the order of their pages");
        FourWayKernel x = Machines.withThreads(0);
        for (int page = 3; page >= 0; page--) {
            x.map(0, page, 1, true);
        }
        x.run(0, 16);
        x.run(0, 5);
        due.is("page 0 has frame 3", x.table(0), 7);
        x.unmap(0, 0, 4);
        Machines.finishOne(x);
        x.map(0, 8, 4, true);
        x.map(0, 12, 4, true);
        x.map(0, 4, 2, true);
        x.run(0, 16);
        x.run(0, 16);
        int[] frames = {2, 3, 4, 5, 6, 7, 8, 9, 1, 0};
        int[] pages = {8, 9, 10, 11, 12, 13, 14, 15, 4, 5};
        for (int i = 0; i < 10; i++) {
            due.is("frame of page " + pages[i], x.table(pages[i]), 2 * frames[i] + 1);
        }
    }

    private static void releaseIsWhereTheOrderRuns() {
        due.sentence("the frame goes into p's store-room: that of the processor that does the order");
        for (int p = 0; p < 4; p++) {
            FourWayKernel x = Machines.withThreads((p + 1) % 4, p);
            x.map(0, 0, 1, true);
            Machines.finishOne(x);
            x.unmap(1, 0, 1);
            Machines.finishOne(x);
            for (int q = 0; q < 4; q++) {
                due.is("store-room " + q + " after unmap at " + p, x.spare(q), q == p ? 1 : 0);
            }
            due.is("pool", x.spare(4), 9);
        }
    }
}
