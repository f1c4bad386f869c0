import java.util.ArrayList;
import java.util.List;

/** All that can be asked of a machine at one moment; to ask it takes CALLS calls. */
final class State {
    private static final List<Call> QUESTIONS = questions();
    static final int CALLS = QUESTIONS.size();
    private final int[] answers = new int[CALLS];

    State(FourWayKernel x) {
        for (int i = 0; i < CALLS; i++) {
            answers[i] = QUESTIONS.get(i).of(x);
        }
    }

    private static List<Call> questions() {
        List<Call> all = new ArrayList<>(List.of(new Call("tickets"), new Call("steps")));
        for (int p = 0; p < 4; p++) {
            all.addAll(List.of(new Call("current", p), new Call("phase", p), new Call("mail", p)));
            addPairs(all, "queued", p, 8);
            addPairs(all, "translation", p, 16);
        }
        for (int page = 0; page < 16; page++) {
            all.add(new Call("table", page));
        }
        for (int frame = 0; frame < 10; frame++) {
            all.add(new Call("word", frame));
        }
        for (int where = 0; where < 5; where++) {
            all.add(new Call("spare", where));
        }
        for (int t = 0; t < 8; t++) {
            addPairs(all, "result", t, 10);
        }
        return all;
    }

    private static void addPairs(List<Call> all, String method, int first, int seconds) {
        for (int second = 0; second < seconds; second++) {
            all.add(new Call(method, first, second));
        }
    }

    /** Empty if the other state is the same, else the first answer that differs. */
    String differenceFrom(State other) {
        for (int i = 0; i < CALLS; i++) {
            if (answers[i] != other.answers[i]) {
                return QUESTIONS.get(i) + " is " + answers[i] + ", not " + other.answers[i];
            }
        }
        return "";
    }
}
