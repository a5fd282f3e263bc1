import java.util.concurrent.Callable;

/** Counts and tells the answers that are not as due. */
final class Check {
    static final String ILLEGAL = "throws.IllegalArgumentException";
    static final String NO_SUCH = "throws.NoSuchElementException";
    static final String OUT = "throws.IndexOutOfBoundsException";

    /** Just beside the bounds of this project's numbers, and where doubling, shifting or masking wraps round. */
    private static final int[] ODD = {Integer.MIN_VALUE, Integer.MIN_VALUE + 1, -1 << 30, -256, -64, -32, -2, -1,
        16, 24, 32, 48, 64, 128, 256, 1 << 16, 1 << 30, (1 << 30) + 1, Integer.MAX_VALUE - 1, Integer.MAX_VALUE};

    /** A call with one number left open. */
    interface OfInt {
        Object of(int number) throws Exception;
    }

    private int wrong = 0;
    private int made = 0;
    private String heading = "";
    private int madeBefore = -1;

    /** What follows, till the next one, is the test of this sentence, which must stand in that promise (0: ahead). */
    void says(int promise, String sentence) {
        endSentence();
        heading = "";
        due("promise " + promise + " says " + sentence, Document.section(promise).contains(sentence), true);
        heading = "[" + promise + ": " + sentence + "] ";
        madeBefore = made;
    }

    private void endSentence() {
        if (madeBefore == made) {
            due("nothing is looked at", false, true);
        }
    }

    void due(String what, Object got, Object want) {
        made++;
        if (!want.equals(got)) {
            wrong++;
            System.out.println(heading + what + " answered " + got + ", due is " + want);
        }
    }

    void due(String what, long got, long want) {
        due(what, Long.valueOf(got), Long.valueOf(want));
    }

    void due(String what, boolean got, boolean want) {
        due(what, Boolean.valueOf(got), Boolean.valueOf(want));
    }

    void throwsIllegal(String what, Callable<?> call) {
        due(what, answerOf(call), ILLEGAL);
    }

    void throwsNoSuch(String what, Callable<?> call) {
        due(what, answerOf(call), NO_SUCH);
    }

    void throwsOut(String what, Callable<?> call) {
        due(what, answerOf(call), OUT);
    }

    /** 0 and the last of so many are taken; what is below, above, or wraps round into them is refused. */
    void only(String what, int many, String refusal, OfInt call) {
        if (many > 0) {
            taken(what, 0, call);
            taken(what, many - 1, call);
        }
        refused(what, many, refusal, call);
        refused(what, many + 1, refusal, call);
        for (int number : ODD) {
            if (number < 0 || number > many + 1) {
                refused(what, number, refusal, call);
            }
        }
    }

    private void taken(String what, int number, OfInt call) {
        String answer = answerOf(() -> call.of(number));
        due(what + " of " + number + " is taken, " + answer, answer.startsWith("throws."), false);
    }

    private void refused(String what, int number, String refusal, OfInt call) {
        due(what + " of " + number, answerOf(() -> call.of(number)), refusal);
    }

    /** The answer as a text, or which exception is thrown: the very class, as none under it is due. */
    static String answerOf(Callable<?> call) {
        try {
            return String.valueOf(call.call());
        } catch (Exception e) {
            return "throws." + e.getClass().getSimpleName();
        }
    }

    boolean isFine() {
        return wrong == 0;
    }

    void end() {
        endSentence();
        System.out.println(made + " answers looked at, " + wrong + " not as due");
        if (wrong != 0 || made == 0) {
            System.exit(1);
        }
    }
}
