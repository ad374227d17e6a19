/** Tests of the sentences about what is counted: promise 24. */
final class CountSentences extends Bench {
    private static final String COUNT = "what 0 RECORDS that are not DROPPED, 1 NUMBERS in all their SETS; of the latest "
        + "pairs() 2 PAIRS, 3 COMPARED in vain, 4 left out by LENGTHS, 5 by PLACES, 6 that didn't MEET, 7 SPENT (0 ahead of "
        + "any); 8 FAMILIES; 9 MEASURE, 10 p, 11 q of the LIMIT; 12 bytes of the TAPE; 13 PAIRS kept.";

    private CountSentences() {
    }

    @Sentence(promise = 24, words = COUNT, part = "0 RECORDS that are not DROPPED")
    static void recordsAre0To60() {
        PairSieve x = new PairSieve();
        is("none", x.count(0), 0);
        for (int r = 0; r < 60; r++) {
            x.record();
            is("count(0)", x.count(0), r + 1);
        }
        x.record();
        is("60", x.count(0), 60);
        for (int r = 59; r >= 0; r--) {
            x.drop(r);
            is("count(0)", x.count(0), r);
        }
        x.drop(0);
        is("none", x.count(0), 0);
    }

    @Sentence(promise = 24, words = COUNT, part = "1 NUMBERS in all their SETS")
    static void numbersAre0To1800() {
        PairSieve x = records(2);
        is("none", x.count(1), 0);
        x.put(0, 5);
        x.put(1, 5);
        is("one in each", x.count(1), 2);
        x.put(1, 5);
        is("a refused one", x.count(1), 2);
        x.drop(0);
        is("without a dropped one's", x.count(1), 1);
        x.take(1, 5);
        is("none", x.count(1), 0);
        is("all there can be", manyNumbers().count(1), 1800);
    }

    @Sentence(promise = 24, words = COUNT, part = "(0 ahead of any)")
    static void aheadOfAnyPairsAllAre0() {
        PairSieve x = with(set(1, 2), set(1, 2), set(1), set(7));
        counts(x, 0, 0, 0, 0, 0, 0);
        x.top(100);
        x.order();
        is("families", x.count(8), 2);
        is("why", x.why(0, 1), 0);
        is("core", x.core(0), 3);
        counts(x, 0, 0, 0, 0, 0, 0);
        x.pairs();
        counts(x, 3, 0, 0, 0, 3, 4);
    }

    @Sentence(promise = 24, words = COUNT, part = "of the latest pairs()")
    static void countsStayUntilPairs() {
        PairSieve x = with(set(1, 2, 9, 10), set(9, 10, 11, 12), set(9, 10, 11, 13), set(9), set(1, 3, 4, 9), set());
        is("pairs()", x.pairs(), 1);
        counts(x, 1, 1, 3, 2, 8, 9);
        x.drop(0);
        x.put(5, 9);
        x.measure(0, 1, 1);
        x.order();
        x.top(1);
        counts(x, 1, 1, 3, 2, 8, 9);
        is("pairs()", x.pairs(), 10);
        counts(x, 10, 0, 0, 0, 0, 12);
    }

    @Sentence(promise = 24, words = COUNT, part = "6 that didn't MEET")
    static void allTwosMayNotMeet() {
        PairSieve x = records(60);
        is("of empty ones", x.pairs(), 0);
        counts(x, 0, 0, 0, 0, 1770, 0);
        x.drop(3);
        x.pairs();
        counts(x, 0, 0, 0, 0, 1711, 0);
        PairSieve y = with(set(1));
        y.pairs();
        counts(y, 0, 0, 0, 0, 0, 0);
        new PairSieve().pairs();
        y.drop(0);
        y.pairs();
        counts(y, 0, 0, 0, 0, 0, 0);
    }

    @Sentence(promise = 24, words = COUNT, part = "8 FAMILIES")
    static void familiesAre0To60() {
        PairSieve x = new PairSieve();
        is("none", x.count(8), 0);
        for (int r = 0; r < 60; r++) {
            x.record();
        }
        is("60", x.count(8), 60);
        x.put(0, 1);
        x.put(59, 1);
        is("59", x.count(8), 59);
        for (int r = 1; r < 59; r++) {
            x.put(r, 1);
        }
        is("one", x.count(8), 1);
        x.drop(30);
        is("one", x.count(8), 1);
    }

    @Sentence(promise = 24, words = COUNT, part = "9 MEASURE, 10 p, 11 q of the LIMIT")
    static void theLimitIsToldAsItWasGiven() {
        PairSieve x = new PairSieve();
        int[][] limits = {{0, 3000, 1}, {0, 1, 1}, {1, 2, 4}, {2, 1000, 1000}, {3, 1, 1000}, {4, 500, 1000}, {5, 999, 1000}};
        for (int[] limit : limits) {
            x.measure(limit[0], limit[1], limit[2]);
            x.measure(limit[0], 0, limit[2]);
            for (int i = 0; i < 3; i++) {
                is("count(" + (9 + i) + ")", x.count(9 + i), limit[i]);
            }
        }
    }

    @Sentence(promise = 24, words = COUNT, part = "12 bytes of the TAPE")
    static void bytesAre0To80() {
        PairSieve x = records(1);
        is("none", x.count(12), 0);
        for (int i = 1; i <= 4; i++) {
            x.feed(0, 0, 0, 0, 0);
            is("count(12)", x.count(12), 20 * i);
        }
        x.feed(0, 0, 0, 0, 0);
        is("80", x.count(12), 80);
        x.end(1);
        is("one", x.count(12), 1);
        x.text(0, 2);
        is("none", x.count(12), 0);
    }

    @Sentence(promise = 24, words = COUNT, part = "13 PAIRS kept")
    static void keptAre0To1770() {
        PairSieve x = records(60);
        is("ahead of any", x.count(13), 0);
        for (int r = 0; r < 60; r++) {
            x.put(r, 1);
        }
        x.pairs();
        is("all", x.count(13), 1770);
        x.top(100);
        is("the likest", x.count(13), 100);
        x.top(101);
        is("a refused one", x.count(13), 100);
        x.top(1);
        is("the likest one", x.count(13), 1);
        x.measure(0, 2, 1);
        x.pairs();
        is("none", x.count(13), 0);
    }

    @Sentence(promise = 24, words = "NONE for another what.")
    static void nothingElseIsCounted() {
        PairSieve x = mixed();
        for (int what : set(-1, 14, 15, -14, LOW, HIGH)) {
            is("count(" + what + ")", x.count(what), NONE);
            is("count(" + what + ") of a new object", new PairSieve().count(what), NONE);
        }
        is("count(13)", x.count(13), 3);
    }
}
