import java.util.ArrayList;
import java.util.List;

/** Each "NONE .. when" and each bound in promises 1 to 21, at its edges and at the smallest and largest int. */
public final class PromiseBoundsTest {
    private static final int NONE = FourWayKernel.NONE;
    private static final int FAULT = FourWayKernel.FAULT;
    private static final int REFUSED = FourWayKernel.REFUSED;
    private static final int LOWEST = Integer.MIN_VALUE;
    private static final int HIGHEST = Integer.MAX_VALUE;
    private static final Due due = new Due();

    private interface Giving {
        int give(FourWayKernel x, int thread);
    }

    private interface GivingRange {
        int give(FourWayKernel x, int page, int n);
    }

    private record Kind(String name, Giving order) {
    }

    private record RangeKind(String name, GivingRange order) {
    }

    private static final List<Kind> KINDS = List.of(
        new Kind("Promise 3: load", (x, t) -> x.load(t, 15)),
        new Kind("Promise 4: store", (x, t) -> x.store(t, 15, 999)),
        new Kind("Promise 5: map", (x, t) -> x.map(t, 12, 4, true)),
        new Kind("Promise 6: unmap", (x, t) -> x.unmap(t, 12, 4)),
        new Kind("Promise 7: protect", (x, t) -> x.protect(t, 12, 4)),
        new Kind("Promise 8: move", (x, t) -> x.move(t, 3)));

    private static final List<RangeKind> RANGE_KINDS = List.of(
        new RangeKind("Promise 5: map", (x, page, n) -> x.map(0, page, n, false)),
        new RangeKind("Promise 6: unmap", (x, page, n) -> x.unmap(0, page, n)),
        new RangeKind("Promise 7: protect", (x, page, n) -> x.protect(0, page, n)));

    public static void main(String[] args) {
        objectServes512Calls();
        constantsAreApart();
        threadAtAProcessor();
        threadOfEight();
        ordersOfNoSuchThread();
        ordersBeyondTen();
        pagesOfLoad();
        pagesOfStore();
        valuesOfStore();
        numbersOfPages();
        rangesWithinThePages();
        rangesThatWrapAround();
        processorsOfMove();
        processorsOfStep();
        numbersOfRun();
        bitsOfRun();
        bitsOfRunInTheirOrder();
        runIsAsManySteps();
        ordersFinishedByRun();
        resultOfAnUnfinishedOrder();
        resultOfNoSuchThreadOrOrder();
        currentOfAProcessor();
        phaseOfAProcessor();
        phasesOfAllCodes();
        queuedPlaces();
        mailOfAProcessor();
        tableOfAPage();
        tableOfAllFrames();
        translationOfAPage();
        wordOfAFrame();
        wordOfAFrameThatNoPageHas();
        spareOfAPlace();
        ticketsFromNoneToFour();
        stepsOfAllKinds();
        due.end();
    }

    /** All ints from below the lowest allowed one to above the highest, and the ends of int. */
    private static List<Integer> around(int lowest, int highest) {
        List<Integer> all = new ArrayList<>(List.of(LOWEST, LOWEST + 1, HIGHEST - 1, HIGHEST));
        for (int a = lowest - 3; a <= highest + 3; a++) {
            all.add(a);
        }
        return all;
    }

    private static boolean within(int a, int lowest, int highest) {
        return lowest <= a && a <= highest;
    }

    private static void objectServes512Calls() {
        due.sentence("An object is used for at most 512 calls after it has been made");
        FourWayKernel x = Machines.withThreads(0);
        x.map(0, 0, 1, true);
        x.store(0, 0, 7);
        for (int i = 3; i < 509; i++) {
            x.run(i % 2 == 0 ? -1 : 0, 16);
        }
        due.is("call 510", x.word(0), 7);
        due.is("call 511", x.load(0, 0), 2);
        due.is("call 512", x.steps(), 506 * 16);
    }

    private static void constantsAreApart() {
        due.sentence("NONE = -1, FAULT = -2, REFUSED = -3");
        due.is("NONE", FourWayKernel.NONE, -1);
        due.is("FAULT", FourWayKernel.FAULT, -2);
        due.is("REFUSED", FourWayKernel.REFUSED, -3);
    }

    private static void threadAtAProcessor() {
        due.sentence("Promise 2: NONE, refused, when the processor is not 0 .. 3");
        for (int p : around(0, 3)) {
            FourWayKernel x = new FourWayKernel();
            due.is("thread at " + p, x.thread(p), within(p, 0, 3) ? 0 : NONE);
            due.is("thread after it", x.thread(0), within(p, 0, 3) ? 1 : 0);
        }
    }

    private static void threadOfEight() {
        due.sentence("Promise 2: NONE, refused, when .. there are eight threads");
        for (int p : around(0, 3)) {
            FourWayKernel x = Machines.withThreads(0, 1, 2, 3, 0, 1, 2);
            due.is("eighth thread at " + p, x.thread(p), within(p, 0, 3) ? 7 : NONE);
            x = Machines.withThreads(3, 3, 3, 3, 3, 3, 3, 3);
            due.is("ninth thread at " + p, x.thread(p), NONE);
        }
    }

    private static void ordersOfNoSuchThread() {
        for (Kind kind : KINDS) {
            due.sentence(kind.name() + ": NONE, refused, when there is no such thread");
            for (int threads = 0; threads <= 8; threads++) {
                FourWayKernel x = Machines.withThreads(new int[threads]);
                for (int t : around(0, 8)) {
                    int number = within(t, 0, threads - 1) ? 0 : NONE;
                    due.is("thread " + t + " of " + threads, kind.order().give(x, t), number);
                }
            }
        }
    }

    private static void ordersBeyondTen() {
        for (Kind kind : KINDS) {
            due.sentence(kind.name() + ": NONE, refused, when .. it has ten orders");
            for (int stepsBefore : new int[] {0, 1, 20}) {
                FourWayKernel x = Machines.withThreads(2, 2);
                for (int k = 0; k < 9; k++) {
                    x.move(0, 2);
                }
                due.is("tenth order", kind.order().give(x, 0), 9);
                for (int i = 0; i < stepsBefore; i++) {
                    x.step(2);
                }
                due.is("eleventh order after " + stepsBefore + " steps", kind.order().give(x, 0), NONE);
                due.is("order of another thread", kind.order().give(x, 1), 0);
            }
            FourWayKernel x = Machines.withThreads(2);
            for (int k = 0; k < 10; k++) {
                due.is("order " + k, x.move(0, 2), k);
                due.codes("move", x, 2, 2, 31);
            }
            due.is("eleventh order after ten finished ones", kind.order().give(x, 0), NONE);
            due.queue("stays parked", x, 2);
        }
    }

    private static void pagesOfLoad() {
        due.sentence("Promise 3: NONE, refused, when .. the page is not 0 .. 15");
        for (int page : around(0, 15)) {
            FourWayKernel x = Machines.withThreads(0);
            due.is("load of " + page, x.load(0, page), within(page, 0, 15) ? 0 : NONE);
            due.queue("queue", x, 0, within(page, 0, 15) ? new int[] {0} : new int[] {});
        }
    }

    private static void pagesOfStore() {
        due.sentence("Promise 4: NONE, refused, when .. the page is not 0 .. 15");
        for (int page : around(0, 15)) {
            FourWayKernel x = Machines.withThreads(0);
            due.is("store to " + page, x.store(0, page, 0), within(page, 0, 15) ? 0 : NONE);
            due.queue("queue", x, 0, within(page, 0, 15) ? new int[] {0} : new int[] {});
        }
    }

    private static void valuesOfStore() {
        due.sentence("Promise 4: NONE, refused, when .. the value not 0 .. 999");
        for (int value : around(0, 999)) {
            FourWayKernel x = Machines.withThreads(0);
            x.map(0, 0, 1, true);
            boolean right = within(value, 0, 999);
            due.is("store of " + value, x.store(0, 0, value), right ? 1 : NONE);
            x.run(0, 10);
            due.is("word after store of " + value, x.word(0), right ? value : 0);
        }
    }

    private static void numbersOfPages() {
        for (RangeKind kind : RANGE_KINDS) {
            due.sentence(kind.name() + ": NONE, refused, when .. n is not 1 .. 4");
            for (int n : around(1, 4)) {
                for (int page : new int[] {0, 5, 12}) {
                    FourWayKernel x = Machines.withThreads(0);
                    String about = n + " pages from " + page;
                    due.is(about, kind.order().give(x, page, n), within(n, 1, 4) ? 0 : NONE);
                }
            }
        }
    }

    private static void rangesWithinThePages() {
        for (RangeKind kind : RANGE_KINDS) {
            due.sentence(kind.name() + ": NONE, refused, when .. the range is not within 0 .. 15");
            for (int n = 1; n <= 4; n++) {
                for (int page : around(0, 15)) {
                    FourWayKernel x = Machines.withThreads(0);
                    boolean right = page >= 0 && (long) page + n - 1 <= 15;
                    String about = n + " pages from " + page;
                    due.is(about, kind.order().give(x, page, n), right ? 0 : NONE);
                    due.is(about + ": queue", x.queued(0, 0), right ? 0 : NONE);
                }
            }
        }
    }

    private static void rangesThatWrapAround() {
        for (RangeKind kind : RANGE_KINDS) {
            due.sentence(kind.name() + ": the range is not within 0 .. 15, also if its end would wrap around");
            FourWayKernel x = Machines.withThreads(0);
            for (int n = 1; n <= 4; n++) {
                for (int page = HIGHEST; page > HIGHEST - 6; page--) {
                    due.is(n + " pages from " + page, kind.order().give(x, page, n), NONE);
                }
            }
            int[][] others = {{1, HIGHEST}, {17, HIGHEST}, {HIGHEST, HIGHEST}, {LOWEST, LOWEST}, {LOWEST, HIGHEST},
                {LOWEST + 16, LOWEST}, {HIGHEST, LOWEST}, {HIGHEST, LOWEST + 2}, {0, LOWEST}, {15, LOWEST}};
            for (int[] range : others) {
                due.is(range[1] + " pages from " + range[0], kind.order().give(x, range[0], range[1]), NONE);
            }
            due.is("a right one after them", kind.order().give(x, 0, 1), 0);
        }
    }

    private static void processorsOfMove() {
        due.sentence("Promise 8: NONE, refused, when .. the processor is not 0 .. 3");
        for (int p : around(0, 3)) {
            FourWayKernel x = Machines.withThreads(0);
            due.is("move to " + p, x.move(0, p), within(p, 0, 3) ? 0 : NONE);
            due.queue("queue", x, 0, within(p, 0, 3) ? new int[] {0} : new int[] {});
        }
    }

    private static void processorsOfStep() {
        due.sentence("Promise 9: NONE, refused, when the processor is not 0 .. 3");
        for (int p : around(0, 3)) {
            FourWayKernel x = Machines.withThreads(0, 1, 2, 3);
            for (int t = 0; t < 4; t++) {
                x.load(t, 0);
            }
            due.is("step of " + p, x.step(p), within(p, 0, 3) ? 2 : NONE);
            due.is("steps", x.steps(), within(p, 0, 3) ? 1 : 0);
            for (int q = 0; q < 4; q++) {
                due.is("current of " + q + " after step of " + p, x.current(q), q == p ? q : NONE);
            }
        }
    }

    private static void numbersOfRun() {
        due.sentence("Promise 10: NONE, refused, when n is not 1 .. 16");
        for (int n : around(1, 16)) {
            for (int schedule : new int[] {0, -1, LOWEST, HIGHEST}) {
                FourWayKernel x = new FourWayKernel();
                due.is("run of " + n, x.run(schedule, n), within(n, 1, 16) ? 0 : NONE);
                due.is("steps after run of " + n, x.steps(), within(n, 1, 16) ? n : 0);
            }
        }
    }

    private static void bitsOfRun() {
        due.sentence("Promise 10: each of the processor that the next two bits of schedule name");
        for (int place = 0; place < 16; place++) {
            for (int named = 0; named < 4; named++) {
                for (int n = 1; n <= 16; n++) {
                    oneStepOfARun(place, named, n);
                }
            }
        }
    }

    /** One pair of bits names a processor, all others another one. */
    private static void oneStepOfARun(int place, int named, int n) {
        String about = "run of " + n + " with " + named + " at place " + place;
        int other = (named + 1) % 4;
        FourWayKernel x = Machines.withThreads(named, other);
        for (int k = 0; k < 10; k++) {
            x.load(0, 0);
            x.load(1, 0);
        }
        int schedule = 0x55555555 * other ^ (other ^ named) << (2 * place);
        boolean isNamed = place < n;
        int others = isNamed ? n - 1 : n;
        due.is(about, x.run(schedule, n), Math.max(others - 1, 0) / 2);
        due.is(about + ": current of the named one", x.current(named), isNamed ? 0 : NONE);
        due.is(about + ": its phase", x.phase(named), isNamed ? 4 : NONE);
        due.is(about + ": current of the other one", x.current(other), others > 0 ? 1 : NONE);
        due.is(about + ": steps", x.steps(), n);
    }

    private static void bitsOfRunInTheirOrder() {
        due.sentence("Promise 10: the lowest two bits first");
        for (int first = 0; first < 16; first++) {
            for (int second = first + 1; second < 16; second++) {
                FourWayKernel x = runOfTwo(second, first);
                due.is("1 at " + first + " takes the last thread", x.current(1), 1);
                due.is("0 at " + second + " takes the first thread", x.current(0), 0);
                x = runOfTwo(first, second);
                due.is("0 at " + first + " takes the first thread", x.current(0), 0);
                due.is("1 at " + second + " leaves a queue of one", x.current(1), NONE);
            }
        }
    }

    /** Two threads are in the queue of 0; 0 and 1 have a step each, and 2, with its own thread, the others. */
    private static FourWayKernel runOfTwo(int placeOf0, int placeOf1) {
        FourWayKernel x = Machines.withThreads(0, 0, 2);
        x.load(0, 0);
        x.load(1, 0);
        for (int k = 0; k < 10; k++) {
            x.load(2, 0);
        }
        int allOf2 = 0xAAAAAAAA;
        x.run(allOf2 ^ (2 ^ 0) << (2 * placeOf0) ^ (2 ^ 1) << (2 * placeOf1), 16);
        return x;
    }

    private static void runIsAsManySteps() {
        due.sentence("Promise 10: n micro-steps .. with all bits of schedule used");
        int[] schedules = {0, -1, LOWEST, HIGHEST, 0x1B1B1B1B, Machines.IN_TURN, 0xAAAAAAAA, 0x55555555, 0xC0000000,
            0x40000000, 0x3FFFFFFF, 0x9D2C5680, 0xEFC60000, 0x6C078965};
        for (int schedule : schedules) {
            for (int n = 1; n <= 16; n++) {
                FourWayKernel x = busy();
                FourWayKernel twin = busy();
                for (int again = 0; again < 3; again++) {
                    String about = "run(" + schedule + ", " + n + "), time " + again;
                    due.is(about, x.run(schedule, n), finishedBySteps(twin, schedule, n));
                }
                String difference = new State(x).differenceFrom(new State(twin));
                due.is("run(" + schedule + ", " + n + ") " + difference, difference.isEmpty() ? 0 : 1, 0);
            }
        }
    }

    private static FourWayKernel busy() {
        FourWayKernel x = Machines.withThreads(0, 1, 2, 3, 0, 3);
        for (int t = 0; t < 6; t++) {
            x.map(t, 2 * t, 2, true);
            x.store(t, 2 * t, 5 * t);
            x.move(t, t % 3);
            x.unmap(t, 2 * t, 1);
        }
        return x;
    }

    private static int finishedBySteps(FourWayKernel x, int schedule, int n) {
        int finished = 0;
        for (int i = 0; i < n; i++) {
            finished += x.step(schedule >>> (2 * i) & 3) >= 16 ? 1 : 0;
        }
        return finished;
    }

    private static void ordersFinishedByRun() {
        due.sentence("Promise 10: how many orders were finished by them: from none to all sixteen");
        FourWayKernel x = Machines.withThreads(0, 1, 2, 3);
        x.map(0, 0, 1, true);
        x.run(0, 6);
        for (int t = 0; t < 4; t++) {
            for (int k = 0; k < 8; k++) {
                x.load(t, 0);
            }
        }
        due.is("sixteen steps finish no order", x.run(Machines.IN_TURN, 16), 0);
        due.is("sixteen steps finish sixteen orders", x.run(Machines.IN_TURN, 16), 16);
        due.is("one step finishes one", x.run(3, 1), 1);
        due.is("the other fifteen", x.run(Machines.IN_TURN, 15), 15);
        due.is("none is left", x.run(Machines.IN_TURN, 16), 0);
    }

    private static void resultOfAnUnfinishedOrder() {
        due.sentence("Promise 11: NONE when it is not finished");
        FourWayKernel x = Machines.withThreads(0);
        x.map(0, 0, 1, false);
        x.map(0, 0, 1, true);
        x.store(0, 0, 5);
        x.load(0, 0);
        x.unmap(0, 8, 1);
        x.move(0, 0);
        int[][] codes = {{2, 7, 8, 9, 10, 30}, {7, 8, 9, 30}, {4, 5, 22}, {4, 5, 6, 20}, {7, 8, 10, 30}, {31}};
        int[] results = {1, REFUSED, FAULT, 0, 0, 0};
        for (int k = 0; k < codes.length; k++) {
            for (int code : codes[k]) {
                due.is("order " + k + " before code " + code, x.result(0, k), NONE);
                due.codes("order " + k, x, 0, code);
            }
            due.is("order " + k + " when finished", x.result(0, k), results[k]);
        }
        for (int k = 0; k < codes.length; k++) {
            due.is("order " + k + " at the end", x.result(0, k), results[k]);
        }
    }

    private static void resultOfNoSuchThreadOrOrder() {
        due.sentence("Promise 11: NONE when .. there is no such thread or order");
        FourWayKernel x = Machines.withThreads(0, 1, 2, 3, 0, 1, 2, 3);
        for (int k = 0; k < 10; k++) {
            x.move(7, 3);
        }
        for (int i = 0; i < 3; i++) {
            x.run(-1, 10);
            for (int k : around(0, 9)) {
                boolean finished = within(k, 0, Math.min(5 * (i + 1), 10) - 1);
                due.is("order " + k, x.result(7, k), finished ? 0 : NONE);
            }
        }
        for (int t : around(0, 7)) {
            due.is("thread " + t, x.result(t, 0), t == 7 ? 0 : NONE);
            due.is("last order of thread " + t, x.result(t, 9), t == 7 ? 0 : NONE);
        }
    }

    private static void currentOfAProcessor() {
        due.sentence("Promise 12: NONE when it has none, or there is no such processor");
        FourWayKernel x = Machines.withThreads(3, 2, 1, 0);
        for (int p : around(0, 3)) {
            due.is("none at " + p, x.current(p), NONE);
        }
        for (int t = 0; t < 4; t++) {
            x.load(t, 0);
        }
        due.is("in the queue", x.current(3), NONE);
        x.run(Machines.IN_TURN, 4);
        for (int p : around(0, 3)) {
            due.is("current of " + p, x.current(p), within(p, 0, 3) ? 3 - p : NONE);
        }
    }

    private static void phaseOfAProcessor() {
        due.sentence("Promise 13: NONE when it has none, or there is no such processor");
        FourWayKernel x = Machines.withThreads(0, 1, 2, 3);
        x.load(0, 0);
        x.map(1, 0, 1, true);
        x.move(2, 0);
        x.load(3, 0);
        for (int p : around(0, 3)) {
            due.is("none at " + p, x.phase(p), NONE);
        }
        x.run(Machines.IN_TURN, 4);
        x.run(3, 1);
        int[] phases = {4, 7, 15, 5};
        for (int p : around(0, 3)) {
            due.is("phase of " + p, x.phase(p), within(p, 0, 3) ? phases[p] : NONE);
        }
    }

    private static void phasesOfAllCodes() {
        due.sentence("Promise 13: The code (4 .. 15) of the phase");
        FourWayKernel x = Machines.withThreads(0);
        x.map(0, 0, 2, true);
        x.load(0, 0);
        x.unmap(0, 0, 2);
        x.move(0, 1);
        due.codes("taken", x, 0, 2);
        int[] phases = {7, 8, 9, 10, 10, 14, 4, 5, 6, 4, 7, 8, 10, 10, 11, 11, 11, 11, 12, 12, 13, 13, 14, 15};
        for (int i = 0; i < phases.length; i++) {
            due.is("phase " + i, x.phase(0), phases[i]);
            if (i == 19) {
                Machines.answer(x, 0);
            }
            due.is("code " + i, x.step(0) % 16, phases[i] % 16);
        }
        due.is("after the last order", x.phase(0), NONE);
    }

    private static void queuedPlaces() {
        due.sentence("Promise 14: NONE when there is none, or no such processor");
        for (int threads = 0; threads <= 8; threads++) {
            FourWayKernel x = new FourWayKernel();
            for (int t = 0; t < threads; t++) {
                x.thread(1);
                x.load(t, 0);
            }
            for (int k : around(0, 8)) {
                due.is("place " + k + " of " + threads, x.queued(1, k), within(k, 0, threads - 1) ? k : NONE);
            }
            for (int p : around(0, 3)) {
                due.is("first of " + p, x.queued(p, 0), p == 1 && threads > 0 ? 0 : NONE);
            }
        }
    }

    private static void mailOfAProcessor() {
        due.sentence("Promise 15: NONE when there is no such processor");
        FourWayKernel x = Machines.withThreads(1);
        for (int p : around(0, 3)) {
            due.is("no mail of " + p, x.mail(p), within(p, 0, 3) ? 0 : NONE);
        }
        x.map(0, 0, 1, true);
        x.protect(0, 0, 1);
        due.codes("until await", x, 1, 2, 7, 8, 9, 10, 30, 7, 8, 10, 11, 11, 11, 11, 12);
        int[] mail = {1, 0, 1, 1};
        for (int p : around(0, 3)) {
            due.is("mail of " + p, x.mail(p), within(p, 0, 3) ? mail[p] : NONE);
        }
    }

    private static void tableOfAPage() {
        due.sentence("Promise 16: NONE when the page is not in it, or not 0 .. 15");
        FourWayKernel x = Machines.withThreads(0);
        for (int page : around(0, 15)) {
            due.is("empty table, page " + page, x.table(page), NONE);
        }
        x.map(0, 0, 1, true);
        x.map(0, 15, 1, false);
        x.run(0, 11);
        for (int page : around(0, 15)) {
            due.is("table " + page, x.table(page), page == 0 ? 1 : page == 15 ? 2 : NONE);
        }
    }

    private static void tableOfAllFrames() {
        due.sentence("Promise 16, 17: twice the frame, plus 1 if it is writable");
        FourWayKernel x = Machines.withThreads(0, 1);
        for (int frame = 0; frame < 10; frame++) {
            x.map(0, 15 - frame, 1, frame % 2 == 1);
        }
        for (int i = 0; i < 4; i++) {
            x.run(0, 16);
        }
        for (int frame = 0; frame < 10; frame++) {
            int page = 15 - frame;
            x.load(1, page);
            due.codes("load", x, 1, 2, 4, 5, 6, 20);
            due.is("table " + page, x.table(page), 2 * frame + frame % 2);
            due.is("translation " + page, x.translation(1, page), 2 * frame + frame % 2);
        }
    }

    private static void translationOfAPage() {
        due.sentence("Promise 17: NONE when there is none, or no such processor");
        FourWayKernel x = Machines.withThreads(2);
        for (int page : around(0, 15)) {
            due.is("empty buffer, page " + page, x.translation(2, page), NONE);
        }
        x.map(0, 0, 1, true);
        x.map(0, 15, 1, false);
        x.load(0, 15);
        x.load(0, 0);
        x.run(0xAAAAAAAA, 16);
        x.run(0xAAAAAAAA, 3);
        for (int page : around(0, 15)) {
            due.is("translation of " + page, x.translation(2, page), page == 0 ? 1 : page == 15 ? 2 : NONE);
        }
        for (int p : around(0, 3)) {
            due.is("translation at " + p, x.translation(p, 15), p == 2 ? 2 : NONE);
        }
    }

    private static void wordOfAFrame() {
        due.sentence("Promise 18: NONE when it is not 0 .. 9");
        FourWayKernel x = Machines.withThreads(0, 0);
        for (int frame : around(0, 9)) {
            due.is("word of " + frame, x.word(frame), within(frame, 0, 9) ? 0 : NONE);
        }
        x.map(0, 0, 4, true);
        x.map(0, 4, 4, true);
        x.map(0, 8, 2, true);
        x.store(0, 0, 11);
        x.store(0, 9, 999);
        x.run(0, 16);
        x.run(0, 16);
        for (int frame : around(0, 9)) {
            int word = frame == 0 ? 11 : frame == 9 ? 999 : 0;
            due.is("word of " + frame + " after stores", x.word(frame), within(frame, 0, 9) ? word : NONE);
        }
    }

    private static void wordOfAFrameThatNoPageHas() {
        due.sentence("Promise 18: also of one that no page has: as it was");
        FourWayKernel x = Machines.withThreads(0);
        x.map(0, 0, 1, true);
        x.store(0, 0, 999);
        x.unmap(0, 0, 1);
        x.map(0, 1, 1, true);
        x.run(0, 10);
        due.codes("until await", x, 0, 7, 8, 10, 11, 11, 11, 11);
        due.is("kept by the order", x.word(0), 999);
        Machines.answer(x, 0);
        due.codes("release", x, 0, 12, 13);
        due.is("in the store-room", x.word(0), 999);
        due.codes("until change", x, 0, 30, 7, 8, 9);
        due.is("before it is taken", x.word(0), 999);
        due.codes("change", x, 0, 10);
        due.is("taken", x.word(0), 0);
    }

    private static void spareOfAPlace() {
        due.sentence("Promise 19: NONE for other numbers");
        FourWayKernel x = Machines.withThreads(3, 1);
        for (int where : around(0, 4)) {
            due.is("spare " + where, x.spare(where), where == 4 ? 10 : within(where, 0, 3) ? 0 : NONE);
        }
        x.map(0, 0, 4, true);
        Machines.finishOne(x);
        x.unmap(0, 0, 3);
        Machines.finishOne(x);
        x.unmap(1, 3, 1);
        Machines.finishOne(x);
        int[] spare = {0, 1, 0, 2, 7};
        for (int where : around(0, 4)) {
            due.is("spare " + where + " later", x.spare(where), within(where, 0, 4) ? spare[where] : NONE);
        }
    }

    private static void ticketsFromNoneToFour() {
        due.sentence("Promise 20: How many orders wait for the lock or have it");
        FourWayKernel x = Machines.withThreads(0, 1, 2, 3);
        due.is("none", x.tickets(), 0);
        for (int p = 0; p < 4; p++) {
            x.map(p, p, 1, true);
            due.codes("ticket", x, p, 2, 7);
            due.is("waiting", x.tickets(), p + 1);
        }
        for (int p = 0; p < 4; p++) {
            due.codes("lock", x, p, 8, 9, 10);
            due.is("one has it", x.tickets(), 4 - p);
            due.codes("unlock", x, p, 30);
            due.is("fewer", x.tickets(), 3 - p);
        }
    }

    private static void stepsOfAllKinds() {
        due.sentence("Promise 21: also those with code 0; refused calls make none");
        FourWayKernel x = new FourWayKernel();
        due.is("new", x.steps(), 0);
        for (int p : around(0, 3)) {
            x.step(p);
        }
        due.is("four steps with code 0", x.steps(), 4);
        int made = 4;
        for (int n : around(1, 16)) {
            x.run(Machines.IN_TURN, n);
            made += within(n, 1, 16) ? n : 0;
            due.is("after run of " + n, x.steps(), made);
        }
        x.thread(0);
        x.load(0, 0);
        due.is("orders make none", x.steps(), made);
        due.codes("phases", x, 0, 2, 4, 21, 0);
        due.is("four steps more", x.steps(), made + 4);
    }
}
