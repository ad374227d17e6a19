/** Objects to test, and comparisons that tests of several files use. */
abstract class Bench {
    static final int NONE = PairSieve.NONE;
    static final int LOW = Integer.MIN_VALUE;
    static final int HIGH = Integer.MAX_VALUE;

    static final Due DUE = new Due();

    /** An object with these RECORDS. */
    static PairSieve with(int[]... sets) {
        PairSieve x = new PairSieve();
        for (int[] set : sets) {
            add(x, set);
        }
        return x;
    }

    static int add(PairSieve x, int... numbers) {
        int r = x.record();
        for (int v : numbers) {
            is("put(" + r + ", " + v + ")", x.put(r, v), true);
        }
        return r;
    }

    static int[] set(int... numbers) {
        return numbers;
    }

    static int[] range(int from, int many) {
        int[] numbers = new int[many];
        for (int i = 0; i < many; i++) {
            numbers[i] = from + i;
        }
        return numbers;
    }

    /** An object whose RECORDS are PAIRS just where an edge stands: each edge is a NUMBER that its two share. */
    static PairSieve net(int records, int[]... edges) {
        PairSieve x = new PairSieve();
        for (int r = 0; r < records; r++) {
            x.record();
        }
        x.measure(0, 1, 1);
        for (int e = 0; e < edges.length; e++) {
            x.put(edges[e][0], e);
            x.put(edges[e][1], e);
        }
        return x;
    }

    static int[] edge(int r, int s) {
        return new int[] {r, s};
    }

    static void is(String call, long got, long want) {
        DUE.is(call, got, want);
    }

    static void is(String call, boolean got, boolean want) {
        DUE.is(call, got, want);
    }

    static void is(String call, String got, String want) {
        DUE.is(call, got, want);
    }

    static void row(String what, PairSieve x, int r, int... numbers) {
        is(what + ": about(" + r + ", 0)", x.about(r, 0), numbers.length);
        for (int i = 0; i < numbers.length; i++) {
            is(what + ": at(" + r + ", " + i + ")", x.at(r, i), numbers[i]);
        }
        is(what + ": at behind the last", x.at(r, numbers.length), NONE);
    }

    static void kept(String what, PairSieve x, int[]... pairs) {
        is(what + ": count(13)", x.count(13), pairs.length);
        for (int i = 0; i < pairs.length; i++) {
            for (int part = 0; part < 3; part++) {
                is(what + ": pair(" + i + ", " + part + ")", Due.pair(x, i, part), pairs[i][part]);
            }
        }
        is(what + ": pair behind the last", Due.pair(x, pairs.length, 0), Due.THROWN);
    }

    static void keptCore(String what, PairSieve x, int... records) {
        for (int i = 0; i < records.length; i++) {
            is(what + ": member(" + i + ")", x.member(i), records[i]);
        }
        is(what + ": member behind the last", x.member(records.length), NONE);
        is(what + ": member(-1)", x.member(-1), NONE);
    }

    /** 60 RECORDS of 30 NUMBERS, no two of which are like: r, 100, r, 101, and so on, in pieces of two bytes. */
    static PairSieve manyNumbers() {
        PairSieve x = new PairSieve();
        for (int r = 0; r < 60; r++) {
            x.record();
            int[] words = new int[10];
            for (int i = 0; i < 31; i++) {
                int sign = i % 2 == 0 ? r : 100 + i / 2;
                words[i / 4] |= sign << 24 - 8 * (i % 4);
            }
            x.feed(words[0], words[1], words[2], words[3], words[4]);
            x.feed(words[5], words[6], words[7], words[8], words[9]);
            x.end(31);
            is("text", x.text(r, 2), 30);
        }
        return x;
    }

    static void likeIs(PairSieve x, String what, long shared, long needed, long above, long below, long pair) {
        long[] dues = {shared, needed, above, below, pair};
        for (int part = 0; part < 5; part++) {
            is(what + ": like(0, 1, " + part + ")", x.like(0, 1, part), dues[part]);
            is(what + ": like(1, 0, " + part + ")", x.like(1, 0, part), dues[part]);
        }
    }

    static void whyIs(PairSieve x, int r, int s, int fate) {
        is("why(" + r + ", " + s + ")", x.why(r, s), fate);
        is("why(" + s + ", " + r + ")", x.why(s, r), fate);
    }

    static void counts(PairSieve x, int... twoToSeven) {
        for (int i = 0; i < twoToSeven.length; i++) {
            is("count(" + (i + 2) + ")", x.count(i + 2), twoToSeven[i]);
        }
    }

    static PairSieve records(int many) {
        PairSieve x = new PairSieve();
        for (int r = 0; r < many; r++) {
            x.record();
        }
        return x;
    }

    /** A SET of the bytes given, each one a NUMBER, by the fewest calls: eight times a byte, if all are unlike. */
    static int write(PairSieve x, int r, int q, int... bytes) {
        x.end(0);
        for (int done = 0; done < bytes.length; done += 20) {
            int[] five = new int[5];
            for (int i = 0; i < 20 && done + i < bytes.length; i++) {
                five[i / 4] |= bytes[done + i] << 24 - 8 * (i % 4);
            }
            x.feed(five[0], five[1], five[2], five[3], five[4]);
        }
        x.end(bytes.length);
        return x.text(r, q);
    }

    /**
     * RECORDS 0, 1 and 3, and 2 that is DROPPED; MEASURE 5; PAIRS and a CORE are kept, seven bytes are on the TAPE. What
     * state() tells of it is told twice in fewer calls than an object is good for.
     */
    static PairSieve mixed() {
        PairSieve x = with(set(1, 2, 3), set(2, 3, 4), set(5), set(1, 2, 3, 4));
        x.drop(2);
        x.order();
        x.measure(5, 1, 2);
        x.weight(2, 10);
        x.pairs();
        x.core(0);
        x.feed(0x01020304, 0x05060700, 0, 0, 0);
        x.end(7);
        return x;
    }

    /** The answers of all calls that change nothing, asked of RECORDS 0 to 3, in one text. */
    static String state(PairSieve x) {
        StringBuilder all = new StringBuilder("counts");
        for (int what = 0; what <= 13; what++) {
            all.append(' ').append(x.count(what));
        }
        for (int r = 0; r < 4; r++) {
            all.append("; record ").append(r);
            for (int what = 0; what <= 5; what++) {
                all.append(' ').append(x.about(r, what)).append(' ').append(x.at(r, what));
            }
            for (int s = r + 1; s < 4; s++) {
                stateOfTwo(x, r, s, all);
            }
        }
        all.append("; kept");
        for (int i = 0; i < 4; i++) {
            all.append(' ').append(x.member(i)).append(' ').append(x.frequency(i + 1));
            for (int what = 0; what <= 2; what++) {
                all.append(' ').append(Due.pair(x, i, what));
            }
        }
        return all.toString();
    }

    private static void stateOfTwo(PairSieve x, int r, int s, StringBuilder all) {
        all.append(", with ").append(s);
        for (int what = 0; what <= 4; what++) {
            all.append(' ').append(x.like(r, s, what));
        }
        all.append(' ').append(x.why(r, s)).append(' ').append(x.chain(r, s)).append(' ').append(x.next(r, s));
    }
}
