/** Counts and prints the answers that are not the ones that are due. */
final class Due {
    private int wrong = 0;
    private int asked = 0;

    void is(String call, long got, long want) {
        asked++;
        if (got != want) {
            wrong++;
            System.out.println(call + " answered " + got + ", due is " + want);
        }
    }

    /** Steps a processor once for each code, which is the one that is due. */
    void codes(String about, FourWayKernel x, int processor, int... codes) {
        for (int i = 0; i < codes.length; i++) {
            is(about + ": step " + i + " of processor " + processor, x.step(processor), codes[i]);
        }
    }

    int wrongSoFar() {
        return wrong;
    }

    void end() {
        System.out.println(asked + " answers asked, " + wrong + " not as due");
        if (wrong != 0) {
            System.exit(1);
        }
    }
}
