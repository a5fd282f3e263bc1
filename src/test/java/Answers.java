import java.util.concurrent.Callable;

/** What an object answers to some two hundred questions that change nothing, as one text. */
final class Answers {
    private final RightTurns x;
    private final StringBuilder all = new StringBuilder();

    private Answers(RightTurns x) {
        this.x = x;
    }

    /** All but of the tape and the fault: of the first four corners and four streets, at the first and the latest time. */
    static String of(RightTurns turns) {
        Answers answers = new Answers(turns);
        answers.askTown();
        int now = turns.told(5);
        answers.askAt(0);
        if (now > 0) {
            answers.askAt(now);
        }
        answers.askNow();
        return answers.all.toString();
    }

    private void put(String call, Callable<?> asked) {
        all.append(call).append(' ').append(Check.answerOf(asked)).append('\n');
    }

    private void askTown() {
        for (int what = 0; what <= 5; what++) {
            int w = what;
            put("told" + w, () -> x.told(w));
        }
        for (int street = 0; street < 4; street++) {
            int s = street;
            put("street" + s, () -> x.street(s, 0) + 100 * x.street(s, 1) + 10000 * x.street(s, 2) + 1000000 * x.street(s, 3));
            put("left" + s, () -> x.left(s));
            put("turn" + s, () -> x.turn(2 * s, 2));
        }
    }

    private void askAt(int t) {
        for (int from = 0; from < 4; from++) {
            int a = from;
            put("ride" + a, () -> x.ride(a, 0, t) + 1000 * x.ride(a, 1, t) + 1000000 * x.ride(a, 2, t));
            put("step" + a, () -> x.step(a, 0, t, 0));
            put("reach" + a, () -> x.reach(a, t, 0) + 1000 * x.reach(a, t, 2));
            put("round" + a, () -> x.round(a, t));
            put("bound" + a, () -> x.bound(a, t));
            put("detour" + a, () -> x.detour(a, 1, t));
            put("signs" + a, () -> x.stands(0, a, t, 0) + " " + x.stands(a, 0, t, 0) + " " + x.stands(1, a, t, 0));
            put("leave" + a, () -> x.stands(0, a, t, 1) + " " + x.stands(a, 0, t, 1) + " " + x.stands(1, a, t, 1));
        }
        for (int what = 0; what <= 1; what++) {
            int w = what;
            put("parts" + w, () -> x.parts(t, w));
            put("open" + w, () -> x.open(t, w));
            put("fewest" + w, () -> x.fewest(t, w));
            put("cheapest" + w, () -> x.cheapest(t, w));
            put("exchange" + w, () -> x.exchange(t, w));
            put("breaks" + w, () -> x.breaks(t, w));
            put("gain" + w, () -> x.gain(t, w));
            put("baker" + w, () -> x.baker(t, w));
        }
        put("candidates", () -> x.candidates(t));
        put("cut", () -> x.cut(t));
        put("sure", () -> x.sure(t, 0));
        put("since", () -> x.since(0, 1, t, false));
        put("together", () -> x.together(0, 2, t));
        put("may", () -> x.may(0, 2, t));
    }

    private void askNow() {
        for (int number = 0; number < 4; number++) {
            int n = number;
            put("home" + n, () -> x.home(n));
            put("traffic" + n, () -> x.traffic(n));
            put("counts" + n, () -> x.counts(n));
        }
        put("told ride", () -> x.count(0));
        put("images", () -> x.count(1));
    }
}
