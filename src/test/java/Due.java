/** Compares answers with those that are due, prints each that is not, and counts them. */
final class Due {
    /** A call whose answer, or exception, is looked at. */
    interface Call {
        int answer();
    }

    private int wrong = 0;

    void equal(String what, long got, long want) {
        same(what, Long.toString(got), Long.toString(want));
    }

    void answers(String what, int want, Call call) {
        same(what, outcome(call), Integer.toString(want));
    }

    void refuses(String what, Class<? extends RuntimeException> want, Call call) {
        same(what, outcome(call), "throws." + want.getSimpleName());
    }

    void alike(String what, Call got, Call want) {
        same(what, outcome(got), outcome(want));
    }

    private void same(String what, String got, String want) {
        if (!got.equals(want)) {
            wrong++;
            System.out.println(what + " answered " + got + ", due is " + want);
        }
    }

    private static String outcome(Call call) {
        try {
            return Integer.toString(call.answer());
        } catch (RuntimeException e) {
            return "throws." + e.getClass().getSimpleName();
        }
    }

    void end(String test) {
        System.out.println(test + ": " + (wrong == 0 ? "all answers are as due" : wrong + " answers are not as due"));
        if (wrong != 0) {
            System.exit(1);
        }
    }
}
