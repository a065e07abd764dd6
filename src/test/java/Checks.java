/** Counts answers that are not the due ones; each test ends with exit code 1 if there was one. */
final class Checks {
    static final String ARGUMENT = "IllegalArgumentException";
    static final String INDEX = "IndexOutOfBoundsException";

    /** A call on a desk, or a test with many of them. */
    interface Call {
        void run();
    }

    private static final int MOST_TOLD = 20;

    private static int wrong = 0;
    private static int wrongOfTest = 0;
    private static String sentence = "";

    private Checks() {
    }

    /** Runs a test of what the document says; a call that throws what is not due ends that test alone. */
    static void test(String said, Call test) {
        sentence = said;
        wrongOfTest = 0;
        try {
            test.run();
        } catch (RuntimeException e) {
            report("threw " + e.getClass().getSimpleName() + " at " + placeOf(e) + ", due is an answer");
        }
    }

    /** The line of the test, as that is what the reader looks for, and not the line of the desk. */
    private static String placeOf(RuntimeException e) {
        for (StackTraceElement at : e.getStackTrace()) {
            if (at.getClassName().endsWith("Test")) {
                return at.toString();
            }
        }
        return "an unknown place";
    }

    static void same(String what, long got, long due) {
        if (got != due) {
            report(what + " answered " + got + ", due is " + due);
        }
    }

    static void same(String what, String got, String due) {
        if (!got.equals(due)) {
            report(what + " is " + got + ", due is " + due);
        }
    }

    static void yes(String what, boolean got) {
        if (!got) {
            report(what + " answered false, due is true");
        }
    }

    static void no(String what, boolean got) {
        if (got) {
            report(what + " answered true, due is false");
        }
    }

    /** Compares the exact class, as a subclass of the due exception is not the due one. */
    static void refused(String what, String due, Call call) {
        String got = thrownBy(call);
        if (!got.equals(due)) {
            report(what + " threw " + got + ", due is " + due);
        }
    }

    static void taken(String what, Call call) {
        refused(what, "nothing", call);
    }

    static String thrownBy(Call call) {
        try {
            call.run();
            return "nothing";
        } catch (RuntimeException e) {
            return e.getClass().getSimpleName();
        }
    }

    static void report(String text) {
        wrong++;
        wrongOfTest++;
        if (wrongOfTest <= MOST_TOLD) {
            System.out.println(sentence.isEmpty() ? text : sentence + " -- " + text);
        }
    }

    static void finish() {
        System.out.println(wrong == 0 ? "all answers are as due" : wrong + " answers are not as due");
        if (wrong != 0) {
            System.exit(1);
        }
    }
}
