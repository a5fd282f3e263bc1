import java.util.concurrent.Callable;

/** Counts and tells the answers that are not as due. */
final class Check {
    private int wrong = 0;
    private int made = 0;

    void due(String what, Object got, Object want) {
        made++;
        if (!want.equals(got)) {
            wrong++;
            System.out.println(what + " answered " + got + ", due is " + want);
        }
    }

    void due(String what, long got, long want) {
        due(what, Long.valueOf(got), Long.valueOf(want));
    }

    void due(String what, boolean got, boolean want) {
        due(what, Boolean.valueOf(got), Boolean.valueOf(want));
    }

    void throwsIllegal(String what, Callable<?> call) {
        due(what, answerOf(call), "throws.IllegalArgumentException");
    }

    void throwsNoSuch(String what, Callable<?> call) {
        due(what, answerOf(call), "throws.NoSuchElementException");
    }

    void throwsOut(String what, Callable<?> call) {
        due(what, answerOf(call), "throws.IndexOutOfBoundsException");
    }

    /** The answer as a text, or which exception is thrown: the very class, as none under it is due. */
    static String answerOf(Callable<?> call) {
        try {
            return String.valueOf(call.call());
        } catch (Exception e) {
            return "throws." + e.getClass().getSimpleName();
        }
    }

    boolean isFine() {
        return wrong == 0;
    }

    void end() {
        System.out.println(made + " answers looked at, " + wrong + " not as due");
        if (wrong != 0 || made == 0) {
            System.exit(1);
        }
    }
}
