import java.util.NoSuchElementException;

/** Compares answers with those that are due, and counts the wrong ones. */
final class Due {
    /** What the call of pair counts as when it throws; no answer of pair can be that. */
    static final long THROWN = Long.MIN_VALUE;

    private static final int MOST_TOLD = 50;
    private int compared;
    private int wrong;
    private String about = "";

    void about(String text) {
        about = text;
    }

    void is(String call, long got, long want) {
        compared++;
        if (got != want) {
            wrong++;
            if (wrong <= MOST_TOLD) {
                System.out.println(about + ": " + call + " answered " + got + ", due is " + want);
            }
        }
    }

    void is(String call, boolean got, boolean want) {
        is(call, got ? 1 : 0, want ? 1 : 0);
    }

    int wrong() {
        return wrong;
    }

    void close() {
        System.out.println(compared + " answers compared, " + wrong + " not as due");
        if (wrong != 0 || compared == 0) {
            System.exit(1);
        }
    }

    static long pair(PairSieve x, int i, int what) {
        try {
            return x.pair(i, what);
        } catch (NoSuchElementException e) {
            return THROWN;
        }
    }
}
