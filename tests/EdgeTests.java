/** Each call with every two or three edges of its arguments, on objects of several states, as PlainModel answers it. */
public final class EdgeTests {
    private static final int LOW = Integer.MIN_VALUE;
    private static final int HIGH = Integer.MAX_VALUE;
    private static final int STATES = 4;
    private static final int FULL = 3;

    private static final int[] RECORDS = {LOW, -1, 0, 1, 2, 3, 4, 59, 60, 64, HIGH};
    private static final int[] NUMBERS = {LOW, -1, 0, 1, 2, 5, 999999, 1000000, 1000001, HIGH};
    private static final int[] WEIGHTS = {LOW, -1, 0, 1, 2, 100, 101, HIGH};
    private static final int[] PLACES = {LOW, -1, 0, 1, 2, 3, 19, 20, 29, 30, 99, 100, 1769, 1770, HIGH};
    private static final int[] WHATS = {LOW, -1, 0, 1, 2, 3, 4, 5, 6, 7, 8, 9, 10, 11, 12, 13, 14, HIGH};
    private static final int[] LENGTHS = {LOW, -1, 0, 1, 6, 7, 8, 79, 80, 81, HIGH};
    private static final int[] PIECES = {LOW, -1, 0, 1, 2, 3, HIGH};
    private static final int[] KINDS = {LOW, -1, 0, 1, 2, 3, 4, 5, 6, HIGH};
    private static final int[] LIMITS = {LOW, -1, 0, 1, 2, 999, 1000, 1001, 3000, 3001, HIGH};
    private static final int[] TOPS = {LOW, -1, 0, 1, 2, 3, 99, 100, 101, HIGH};

    private static final Due DUE = new Due();

    private EdgeTests() {
    }

    public static void main(String[] args) {
        for (int state = 0; state < STATES && DUE.wrong() == 0; state++) {
            ofOne(state);
            ofTwo(state);
            ofThree(state);
        }
        DUE.close();
    }

    private static void ofOne(int state) {
        each(state, "record");
        each(state, "order");
        each(state, "pairs");
        each(state, "drop", RECORDS);
        each(state, "end", LENGTHS);
        each(state, "frequency", NUMBERS);
        each(state, "top", TOPS);
        each(state, "core", RECORDS);
        each(state, "member", PLACES);
        each(state, "count", WHATS);
    }

    private static void ofTwo(int state) {
        each(state, "put", RECORDS, NUMBERS);
        each(state, "take", RECORDS, NUMBERS);
        each(state, "weight", NUMBERS, WEIGHTS);
        each(state, "text", RECORDS, PIECES);
        each(state, "about", RECORDS, WHATS);
        each(state, "at", RECORDS, PLACES);
        each(state, "why", RECORDS, RECORDS);
        each(state, "pair", PLACES, WHATS);
        each(state, "chain", RECORDS, RECORDS);
        each(state, "next", RECORDS, RECORDS);
    }

    private static void ofThree(int state) {
        each(state, "like", RECORDS, RECORDS, new int[] {LOW, -1, 0, 1, 2, 3, 4, 5, HIGH});
        each(state, "measure", KINDS, LIMITS, LIMITS);
        int[] five = {LOW, -1, 0x7F80FF01, 0, HIGH};
        each(state, "feed", five, five, new int[] {1}, new int[] {2}, five);
    }

    /** Calls it with every choice of one argument out of each row, each time on a new object. */
    private static void each(int state, String name, int[]... rows) {
        int choices = 1;
        for (int[] row : rows) {
            choices *= row.length;
        }
        for (int choice = 0; choice < choices; choice++) {
            int[] args = new int[rows.length];
            int rest = choice;
            for (int i = 0; i < rows.length; i++) {
                args[i] = rows[i][rest % rows[i].length];
                rest /= rows[i].length;
            }
            // A full object is dear to make and to compare.
            if (state != FULL || choice % 7 == 0) {
                DUE.about("state " + state);
                Twin twin = twinIn(state);
                DUE.about("state " + state + ", " + name + java.util.Arrays.toString(args));
                twin.call(name, args);
                twin.compareState();
            }
        }
    }

    private static Twin twinIn(int state) {
        Twin twin = new Twin(DUE);
        switch (state) {
            case 1:
                mixed(twin);
                break;
            case 2:
                alike(twin);
                break;
            case FULL:
                full(twin);
                break;
            default:
                break;
        }
        return twin;
    }

    private static void fill(Twin twin, int r, int... numbers) {
        twin.call("record");
        for (int v : numbers) {
            twin.call("put", r, v);
        }
    }

    private static void mixed(Twin twin) {
        fill(twin, 0, 0, 1, 999999);
        fill(twin, 1, 1, 2, 999999);
        fill(twin, 2, 5);
        fill(twin, 3, 0, 1, 2, 999999);
        twin.call("drop", 2);
        twin.call("order");
        twin.call("measure", 5, 1, 2);
        twin.call("weight", 1, 10);
        twin.call("pairs");
        twin.call("core", 0);
        twin.call("feed", 0x01020304, 0xFCFDFE00, 0, 0, 0);
        twin.call("end", 7);
    }

    private static void alike(Twin twin) {
        fill(twin, 0, 1, 2);
        fill(twin, 1);
        fill(twin, 2, 1, 2);
        fill(twin, 3, 1);
        fill(twin, 4, 2, 5);
        twin.call("top", 3);
        twin.call("core", 3);
    }

    private static void full(Twin twin) {
        for (int r = 0; r < 60; r++) {
            fill(twin, r, 1);
        }
        for (int v = 10; v < 39; v++) {
            twin.call("put", 0, v);
        }
        for (int v = 0; v < 200; v++) {
            twin.call("weight", v + 2, 1 + v % 100);
        }
        for (int i = 0; i < 4; i++) {
            twin.call("feed", i, i << 8, i << 16, i << 24, -1);
        }
        twin.call("pairs");
    }
}
