/** Counts and prints the answers that are not as due. */
final class Checks {
    static final String INDEX = "throws.IndexOutOfBoundsException";
    static final String ARGUMENT = "throws.IllegalArgumentException";
    static final String STATE = "throws.IllegalStateException";

    private static int wrong = 0;

    private Checks() {
    }

    /** A call whose answer, or the exception that it throws, is looked at. */
    interface Call {
        int answer();
    }

    /** The answer as a text; an exception by the name of its very class. */
    static String answerOf(Call call) {
        try {
            return Integer.toString(call.answer());
        } catch (RuntimeException e) {
            return "throws." + e.getClass().getSimpleName();
        }
    }

    static void due(String what, Call call, int want) {
        same(what, answerOf(call), Integer.toString(want));
    }

    static void dueThrow(String what, Call call, String want) {
        same(what, answerOf(call), want);
    }

    static void same(String what, String got, String want) {
        if (!got.equals(want)) {
            wrong++;
            if (wrong <= 50) {
                System.out.println(what + " answered " + got + ", due is " + want);
            }
        }
    }

    static boolean anyWrong() {
        return wrong != 0;
    }

    static void end() {
        if (wrong != 0) {
            System.out.println(wrong + " answers are not as due");
            System.exit(1);
        }
    }
}
