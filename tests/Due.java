import java.util.NoSuchElementException;

/** Compares answers with those that are due, and counts the wrong ones. */
final class Due {
    /** What the call of pair counts as when it throws; no answer of pair can be that. */
    static final long THROWN = Long.MIN_VALUE;

    private static final int MOST_TOLD = 50;
    private int compared;
    private int wrong;
    private String about = "";

    void about(String text) {
        about = text;
    }

    void is(String call, long got, long want) {
        compare(call, got == want, String.valueOf(got), String.valueOf(want));
    }

    void is(String call, boolean got, boolean want) {
        is(call, got ? 1 : 0, want ? 1 : 0);
    }

    void is(String call, String got, String want) {
        compare(call, got.equals(want), got, want);
    }

    private void compare(String call, boolean alike, String got, String want) {
        compared++;
        if (!alike) {
            wrong++;
            if (wrong <= MOST_TOLD) {
                System.out.println(about + ": " + call + " answered " + got + ", due is " + want);
            }
        }
    }

    int compared() {
        return compared;
    }

    int wrong() {
        return wrong;
    }

    void close() {
        System.out.println(compared + " answers compared, " + wrong + " not as due");
        if (wrong != 0 || compared == 0) {
            System.exit(1);
        }
    }

    static long pair(PairSieve x, int i, int what) {
        try {
            return x.pair(i, what);
        } catch (NoSuchElementException e) {
            return THROWN;
        }
    }
}
