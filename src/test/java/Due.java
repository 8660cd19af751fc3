/** Compares answers with those that are due, prints each that is not, and counts them. */
final class Due {
    /** A call whose answer, or exception, is looked at. */
    interface Call {
        int answer();
    }

    private int wrong = 0;

    void equal(String what, long got, long want) {
        if (got != want) {
            wrong++;
            System.out.println(what + " answered " + got + ", due is " + want);
        }
    }

    void answers(String what, int want, Call call) {
        equal(what, outcome(call), want);
    }

    void refuses(String what, Class<? extends RuntimeException> want, Call call) {
        try {
            int got = call.answer();
            wrong++;
            System.out.println(what + " answered " + got + ", due is " + want.getSimpleName());
        } catch (RuntimeException e) {
            if (e.getClass() != want) {
                wrong++;
                System.out.println(what + " threw " + e + ", due is " + want.getSimpleName());
            }
        }
    }

    /** The answer, or a number that stands for the exception's class, which no answer is. */
    static long outcome(Call call) {
        try {
            return call.answer();
        } catch (RuntimeException e) {
            return Long.MIN_VALUE + e.getClass().getName().hashCode();
        }
    }

    void end(String test) {
        System.out.println(test + ": " + (wrong == 0 ? "all answers are as due" : wrong + " answers are not as due"));
        if (wrong != 0) {
            System.exit(1);
        }
    }
}
