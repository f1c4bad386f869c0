import java.util.function.Supplier;

/** Counts and prints the answers that are not the ones that are due. */
final class Due {
    private int wrong = 0;
    private int asked = 0;
    private int sentences = 0;
    private String sentence = "";

    /** The sentence of the document that the answers asked from now on are about. */
    void sentence(String words) {
        sentences++;
        sentence = "'" + words + "': ";
    }

    void is(String call, long got, long want) {
        asked++;
        if (got != want) {
            wrong++;
            System.out.println(sentence + call + " answered " + got + ", due is " + want);
        }
    }

    /** For tests that ask millions of answers: the text is made for a wrong one alone. */
    void is(Supplier<String> call, long got, long want) {
        is(got == want ? "" : call.get(), got, want);
    }

    /** Steps a processor once for each code, which is the one that is due. */
    void codes(String about, FourWayKernel x, int processor, int... codes) {
        for (int i = 0; i < codes.length; i++) {
            is(about + ": step " + i + " of processor " + processor, x.step(processor), codes[i]);
        }
    }

    /** Steps a processor some times, each with the same code due. */
    void repeats(String about, FourWayKernel x, int processor, int code, int times) {
        for (int i = 0; i < times; i++) {
            codes(about + ", time " + i, x, processor, code);
        }
    }

    /** The threads of a processor's queue, from its first to its last. */
    void queue(String about, FourWayKernel x, int processor, int... threads) {
        for (int k = 0; k < threads.length; k++) {
            is(about + ": queued " + processor + " " + k, x.queued(processor, k), threads[k]);
        }
        is(about + ": end of queue " + processor, x.queued(processor, threads.length), FourWayKernel.NONE);
    }

    int wrongSoFar() {
        return wrong;
    }

    void end() {
        String about = sentences == 0 ? "" : " about " + sentences + " sentences";
        System.out.println(asked + " answers asked" + about + ", " + wrong + " not as due");
        if (wrong != 0) {
            System.exit(1);
        }
    }
}
