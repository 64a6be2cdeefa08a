/** Counts and prints the answers that are not as due. */
final class Check {
    interface Call {
        long answer();
    }

    static final String OUTSIDE = "throws.IndexOutOfBoundsException";
    static final String ILLEGAL = "throws.IllegalArgumentException";
    static final String STATE = "throws.IllegalStateException";

    private final String test;
    private int looked = 0;
    private int wrong = 0;

    Check(String test) {
        this.test = test;
    }

    void due(String call, long got, long want) {
        looked++;
        if (got != want) {
            report(call + " answered " + got + ", due is " + want);
        }
    }

    void due(String call, double got, double want) {
        looked++;
        if (got != want) {
            report(call + " answered " + got + ", due is " + want);
        }
    }

    void due(String call, boolean got, boolean want) {
        due(call, got ? 1L : 0L, want ? 1L : 0L);
    }

    void due(String call, String got, String want) {
        looked++;
        if (!got.equals(want)) {
            report(call + " answered " + got + ", due is " + want);
        }
    }

    /** The call throws IndexOutOfBoundsException and changes nothing. */
    void outside(Stuntledger x, String call, Call made) {
        refused(x, call, made, OUTSIDE);
    }

    /** The call throws IllegalArgumentException and changes nothing. */
    void illegal(Stuntledger x, String call, Call made) {
        refused(x, call, made, ILLEGAL);
    }

    /** The call throws IllegalStateException and changes nothing. */
    void state(Stuntledger x, String call, Call made) {
        refused(x, call, made, STATE);
    }

    /** The call ends with this outcome, which is one of an exception, and changes nothing. */
    void refused(Stuntledger x, String call, Call made, String want) {
        long before = x.digest();
        double meanBefore = x.meanMargin();
        due(call, outcome(made), want);
        due("digest() behind " + call, x.digest(), before);
        due("meanMargin() behind " + call, x.meanMargin(), meanBefore);
    }

    /** The answer as a text, or the very class of what was thrown. */
    static String outcome(Call made) {
        try {
            return Long.toString(made.answer());
        } catch (RuntimeException e) {
            return "throws." + e.getClass().getSimpleName();
        }
    }

    void report(String text) {
        wrong++;
        System.out.println(test + ": " + text);
    }

    void end() {
        System.out.println(test + ": " + looked + " answers looked at, " + wrong + " not as due");
        if (wrong != 0 || looked == 0) {
            System.exit(1);
        }
    }
}
