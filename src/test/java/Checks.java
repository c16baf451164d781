import java.util.function.LongSupplier;

/** Counts the answers that are not as due, and ends a test with exit code 1 if there was one. */
final class Checks {
    private final String test;
    private int done;
    private int wrong;

    Checks(String test) {
        this.test = test;
    }

    void due(String call, long got, long want) {
        note(call, got == want, Long.toString(got), Long.toString(want));
    }

    void due(String call, double got, double want) {
        note(call, Double.doubleToLongBits(got) == Double.doubleToLongBits(want),
                Double.toString(got), Double.toString(want));
    }

    void due(String call, String got, String want) {
        note(call, got.equals(want), got, want);
    }

    /** The exception's class must be the very one that is due, not one below it. */
    void refused(String call, Class<? extends RuntimeException> want, Runnable action) {
        due(call, outcome(action), want.getSimpleName());
    }

    void end() {
        System.out.println(test + ": " + done + " checks, " + wrong + " wrong");
        if (wrong != 0 || done == 0) {
            System.exit(1);
        }
    }

    /** The answer, or the name of the exception. */
    static String outcome(LongSupplier action) {
        try {
            return Long.toString(action.getAsLong());
        } catch (RuntimeException e) {
            return e.getClass().getSimpleName();
        }
    }

    private static String outcome(Runnable action) {
        try {
            action.run();
            return "no exception";
        } catch (RuntimeException e) {
            return e.getClass().getSimpleName();
        }
    }

    private void note(String call, boolean right, String got, String want) {
        done++;
        if (!right) {
            wrong++;
            System.out.println(test + ": " + call + " answered " + got + ", due is " + want);
        }
    }
}
