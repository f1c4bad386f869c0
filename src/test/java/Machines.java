/** Machines that tests begin with, and ways to bring them on. */
final class Machines {
    /** A schedule that names processors 0, 1, 2, 3 in turn. */
    static final int IN_TURN = 0xE4E4E4E4;

    private Machines() {
    }

    /** A new machine with a thread parked at each of the places, in their order. */
    static FourWayKernel withThreads(int... places) {
        FourWayKernel x = new FourWayKernel();
        for (int place : places) {
            x.thread(place);
        }
        return x;
    }

    /** Steps all processors in turn, as often as ten orders of a thread can need. */
    static void settle(FourWayKernel x) {
        for (int i = 0; i < 41; i++) {
            x.run(IN_TURN, 16);
        }
    }

    /** Steps all processors in turn until an order is finished. */
    static void finishOne(FourWayKernel x) {
        boolean finished = false;
        for (int i = 0; i < 40 && !finished; i++) {
            finished = x.run(IN_TURN, 4) > 0;
        }
    }

    /** Lets all processors but one answer the requests of its order. */
    static void answer(FourWayKernel x, int sender) {
        for (int p = 0; p < 4; p++) {
            if (p != sender) {
                x.step(p);
            }
        }
    }
}
