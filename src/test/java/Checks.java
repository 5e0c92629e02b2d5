import java.util.function.Supplier;

/** Counts checks and tells those that fail, with the line of the test where they stand. */
final class Checks {
    static final String INDEX = "throws.IndexOutOfBoundsException";
    static final String ARGUMENT = "throws.IllegalArgumentException";
    static final String STATE = "throws.IllegalStateException";

    private int passed = 0;
    private int failed = 0;
    private String words = "";

    static String answerOf(Supplier<Object> call) {
        try {
            return String.valueOf(call.get());
        } catch (RuntimeException e) {
            return "throws." + e.getClass().getSimpleName();
        }
    }

    /** A test of its own for the document's words, which are told if one of its checks fails. */
    void sentence(String documentsWords, Runnable test) {
        words = documentsWords + ": ";
        int before = passed + failed;
        test.run();
        if (passed + failed == before) {
            tellFailed("nothing was checked");
        }
        words = "";
    }

    void due(Object want, Supplier<Object> call) {
        String got = answerOf(call);
        if (got.equals(String.valueOf(want))) {
            passed++;
            return;
        }
        tellFailed(callerOfDue() + ": answered " + got + ", due is " + want);
    }

    private void tellFailed(String what) {
        failed++;
        System.out.println(words + what);
    }

    private static StackTraceElement callerOfDue() {
        StackTraceElement[] frames = new Throwable().getStackTrace();
        int at = 1;
        while (frames[at].getMethodName().equals("due")) {
            at++;
        }
        return frames[at];
    }

    /** Ends the program with exit code 1 if a check failed, or if there was none. */
    void end() {
        System.out.println(passed + " passed, " + failed + " failed");
        System.exit(failed == 0 && passed > 0 ? 0 : 1);
    }
}
