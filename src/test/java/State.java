/** All that can be asked of a machine at one moment, as text; it takes CALLS calls. */
final class State {
    static final int CALLS = 80 + 4 * (3 + 8 + 16) + 16 + 10 + 5 + 2;
    private final StringBuilder text = new StringBuilder();

    State(FourWayKernel x) {
        for (int t = 0; t < 8; t++) {
            for (int k = 0; k < 10; k++) {
                note("result", t, k, x.result(t, k));
            }
        }
        for (int p = 0; p < 4; p++) {
            note("current", p, 0, x.current(p));
            note("phase", p, 0, x.phase(p));
            note("mail", p, 0, x.mail(p));
            for (int k = 0; k < 8; k++) {
                note("queued", p, k, x.queued(p, k));
            }
            for (int page = 0; page < 16; page++) {
                note("translation", p, page, x.translation(p, page));
            }
        }
        for (int page = 0; page < 16; page++) {
            note("table", page, 0, x.table(page));
        }
        for (int frame = 0; frame < 10; frame++) {
            note("word", frame, 0, x.word(frame));
        }
        for (int where = 0; where < 5; where++) {
            note("spare", where, 0, x.spare(where));
        }
        note("tickets", 0, 0, x.tickets());
        note("steps", 0, 0, x.steps());
    }

    private void note(String method, int a, int b, int answer) {
        text.append(method).append(' ').append(a).append(' ').append(b).append(": ").append(answer).append('\n');
    }

    /** Empty if the other state is the same, else the first answer that differs. */
    String differenceFrom(State other) {
        if (text.compareTo(other.text) == 0) {
            return "";
        }
        String[] own = text.toString().split("\n");
        String[] others = other.text.toString().split("\n");
        int i = 0;
        while (own[i].equals(others[i])) {
            i++;
        }
        return own[i] + ", not " + others[i];
    }
}
