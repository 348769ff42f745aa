/** Counts the answers that are not as due, and ends a test. */
final class Checks {
    interface Call {
        int answer();
    }

    interface Deed {
        void happen();
    }

    private static int checked = 0;
    private static int wrong = 0;

    private Checks() {}

    /** What a call answers, or throws.Name for the exception that it throws. */
    static String outcome(Call call) {
        try {
            return Integer.toString(call.answer());
        } catch (RuntimeException e) {
            return "throws." + e.getClass().getSimpleName();
        }
    }

    static String outcome(Deed deed) {
        try {
            deed.happen();
            return "done";
        } catch (RuntimeException e) {
            return "throws." + e.getClass().getSimpleName();
        }
    }

    static void due(String what, String got, String want) {
        checked++;
        if (!got.equals(want)) {
            wrong++;
            System.out.println(what + ": " + got + ", due is " + want);
        }
    }

    static void due(String what, int got, int want) {
        due(what, Integer.toString(got), Integer.toString(want));
    }

    static void illegalArgument(String what, Call call) {
        due(what, outcome(call), "throws.IllegalArgumentException");
    }

    static void indexOut(String what, Call call) {
        due(what, outcome(call), "throws.IndexOutOfBoundsException");
    }

    static void unsupported(String what, Call call) {
        due(what, outcome(call), "throws.UnsupportedOperationException");
    }

    static void end() {
        System.out.println(checked + " checked, " + wrong + " wrong");
        if (wrong != 0 || checked == 0) {
            System.exit(1);
        }
    }
}
