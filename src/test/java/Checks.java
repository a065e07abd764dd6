/** Counts answers that are not the due ones; each test ends with exit code 1 if there was one. */
final class Checks {
    static final String ARGUMENT = "IllegalArgumentException";
    static final String INDEX = "IndexOutOfBoundsException";

    /** A call on a desk, for the calls that should throw. */
    interface Call {
        void run();
    }

    private static int wrong = 0;

    private Checks() {
    }

    static void same(String what, long got, long due) {
        if (got != due) {
            report(what + " answered " + got + ", due is " + due);
        }
    }

    static void yes(String what, boolean got) {
        if (!got) {
            report(what + " answered false, due is true");
        }
    }

    static void no(String what, boolean got) {
        if (got) {
            report(what + " answered true, due is false");
        }
    }

    /** Compares the exact class, as a subclass of the due exception is not the due one. */
    static void refused(String what, String due, Call call) {
        String got = thrownBy(call);
        if (!got.equals(due)) {
            report(what + " threw " + got + ", due is " + due);
        }
    }

    static String thrownBy(Call call) {
        try {
            call.run();
            return "nothing";
        } catch (RuntimeException e) {
            return e.getClass().getSimpleName();
        }
    }

    static void report(String text) {
        wrong++;
        if (wrong <= 50) {
            System.out.println(text);
        }
    }

    static void finish() {
        System.out.println(wrong == 0 ? "all answers are as due" : wrong + " answers are not as due");
        if (wrong != 0) {
            System.exit(1);
        }
    }
}
