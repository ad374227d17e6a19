/** Tests of the sentences about BEGINNINGS and the SIEVE: promises 13, 16 and 17. */
final class SieveSentences extends Bench {
    private static final String BEGINNING = "BEGINNING of a SET: the fewest first NUMBERS of it so that the AMOUNT of all "
        + "others is below LEAST; none, if its AMOUNT is below LEAST.";
    private static final String MEET = "The SIEVE: two RECORDS MEET if their BEGINNINGS share a NUMBER.";
    private static final String FATES = "Of those that MEET, the first that holds: left out by LENGTHS: NEEDED is above m; "
        + "by PLACES: x being the first NUMBER (in ORDER) that both have, the WEIGHT of x and the lesser one of what both "
        + "have behind x (AMOUNTS of all NUMBERS behind it in one, in the other one) is below NEEDED; else they are "
        + "COMPARED, and a PAIR or not.";
    private static final String SPENT =
        "SPENT: for each NUMBER, k being how many BEGINNINGS have it, k (k - 1) / 2, all added up.";
    private static final String WHY = "What becomes of two RECORDS in the SIEVE: 0 a PAIR; 1 they don't MEET; 2 left out by "
        + "LENGTHS, 3 by PLACES; 4 COMPARED in vain.";
    private static final String PAIRS = "The SIEVE: how many PAIRS there are; they are kept, by the lesser RECORD, then by "
        + "the other one.";

    private SieveSentences() {
    }

    private static void begins(int kind, int p, int q, int numbers, int due) {
        PairSieve x = with(range(0, numbers));
        x.measure(kind, p, q);
        is("BEGINNING of measure " + kind + ", " + p + " / " + q + ", " + numbers, x.about(0, 3), due);
    }

    @Sentence(promise = 13, words = BEGINNING, part = "the AMOUNT of all others is below LEAST")
    static void othersAreBelowLeast() {
        begins(1, 1, 2, 1, 1);
        begins(1, 1, 2, 2, 2);
        begins(1, 1, 2, 4, 3);
        begins(1, 1, 2, 5, 3);
        begins(1, 1, 1, 1, 1);
        begins(1, 1, 1, 30, 1);
        begins(1, 1, 1000, 30, 30);
        begins(2, 1, 1, 30, 1);
        begins(2, 1, 2, 3, 3);
        begins(2, 1, 2, 4, 3);
        begins(3, 1, 1, 30, 1);
        begins(3, 1, 2, 4, 4);
        begins(3, 1, 2, 5, 4);
        begins(4, 1, 1, 1, 1);
        begins(4, 1, 1, 30, 30);
        begins(0, 1, 1, 30, 30);
        begins(0, 29, 1, 30, 2);
    }

    @Sentence(promise = 13, words = BEGINNING, part = "none, if its AMOUNT is below LEAST")
    static void theAmountIsBelowLeast() {
        begins(0, 30, 1, 30, 1);
        begins(0, 31, 1, 30, 0);
        begins(0, 3000, 1, 30, 0);
        begins(0, 5, 1, 5, 1);
        begins(0, 6, 1, 5, 0);
        begins(0, 1, 1, 0, 0);
        for (int kind = 1; kind <= 5; kind++) {
            begins(kind, 1, 1, 0, 0);
            begins(kind, 1, 1000, 0, 0);
        }
    }

    @Sentence(promise = 13, words = BEGINNING, part = "the fewest first NUMBERS of it")
    static void aBeginningIsByOrderAndWeight() {
        PairSieve x = with(set(1, 2, 3), set(1));
        x.measure(5, 1, 2);
        x.weight(1, 10);
        x.weight(2, 5);
        x.weight(3, 5);
        is("others of 10 are not below 10", x.about(0, 3), 2);
        x.weight(1, 11);
        is("others of 10 are below 11", x.about(0, 3), 1);
        x.order();
        is("2, 3, 1: others of 11 are not below 11", x.about(0, 3), 3);
        x.weight(1, 1);
        is("2, 3, 1: others of 6 are not below 6", x.about(0, 3), 2);
        x.weight(2, 7);
        is("2, 3, 1: others of 6 are below 7", x.about(0, 3), 1);
    }

    @Sentence(promise = 16, words = MEET)
    static void theyShareBehindABeginning() {
        PairSieve x = with(set(1, 2, 3, 9), set(9, 10, 11, 12), set(1, 2, 9, 10));
        is("9 is the first behind the one's beginning", x.about(0, 3), 3);
        whyIs(x, 0, 1, 1);
        is("9 is the last of the one's beginning", x.about(2, 3), 3);
        whyIs(x, 2, 1, 3);
        whyIs(x, 2, 0, 0);
    }

    @Sentence(promise = 16, words = MEET)
    static void withoutABeginningNoneMeets() {
        PairSieve x = with(set(1, 2), set(1, 2), set(1, 2, 3), set(), set());
        x.measure(0, 3, 1);
        whyIs(x, 0, 1, 1);
        whyIs(x, 0, 2, 1);
        whyIs(x, 3, 4, 1);
        x.measure(0, 2, 1);
        whyIs(x, 0, 1, 0);
        whyIs(x, 0, 2, 0);
        whyIs(x, 0, 3, 1);
        x.measure(4, 1, 1);
        whyIs(x, 3, 4, 1);
        whyIs(x, 0, 4, 1);
    }

    @Sentence(promise = 16, words = MEET)
    static void theOrderSaysWhatABeginningHas() {
        PairSieve x = with(set(1, 5, 6), set(1, 7, 8), set(1));
        x.measure(1, 2, 3);
        is("1, 5 and 6: two of them", x.about(0, 3), 2);
        whyIs(x, 0, 1, 4);
        x.order();
        is("5, 6 and 1: two of them", x.about(0, 3), 2);
        whyIs(x, 0, 1, 1);
    }

    @Sentence(promise = 16, words = FATES, part = "left out by LENGTHS: NEEDED is above m")
    static void neededIsAboveTheLesserAmount() {
        PairSieve x = with(set(1, 2), set(1, 2, 3, 4), set(1, 2, 3, 4, 5));
        is("NEEDED", x.like(0, 1, 1), 2);
        whyIs(x, 0, 1, 0);
        is("NEEDED", x.like(0, 2, 1), 3);
        whyIs(x, 0, 2, 2);
        x.measure(3, 1, 1);
        is("NEEDED, measure 3", x.like(1, 2, 1), 5);
        whyIs(x, 1, 2, 2);
        x.measure(2, 2, 3);
        is("NEEDED, measure 2", x.like(0, 1, 1), 2);
        whyIs(x, 0, 1, 0);
        is("NEEDED, measure 2", x.like(0, 2, 1), 3);
        whyIs(x, 0, 2, 2);
    }

    @Sentence(promise = 16, words = FATES, part = "left out by LENGTHS: NEEDED is above m")
    static void neededIsAboveTheLesserAmountByWeight() {
        PairSieve x = with(set(1, 2), set(1, 2, 3));
        x.measure(5, 1, 2);
        x.weight(1, 4);
        x.weight(2, 3);
        x.weight(3, 7);
        is("NEEDED", x.like(0, 1, 1), 7);
        whyIs(x, 0, 1, 0);
        x.weight(3, 8);
        is("NEEDED", x.like(0, 1, 1), 8);
        whyIs(x, 0, 1, 2);
    }

    @Sentence(promise = 16, words = FATES, part = "Of those that MEET, the first that holds")
    static void lengthsAreAheadOfPlaces() {
        PairSieve x = with(set(1), set(1, 7, 8, 9), set(1, 2, 9, 10), set(9, 10, 11, 12));
        is("both hold: NEEDED", x.like(0, 1, 1), 2);
        whyIs(x, 0, 1, 2);
        is("places alone: NEEDED", x.like(2, 3, 1), 3);
        whyIs(x, 2, 3, 3);
        x.measure(0, 2, 1);
        is("they don't meet, and NEEDED is above m", x.like(0, 1, 1), 2);
        whyIs(x, 0, 1, 1);
    }

    @Sentence(promise = 16, words = FATES, part = "the lesser one of what both have behind x")
    static void placesAllowJustWhatIsNeeded() {
        PairSieve x = with(set(1, 9, 10, 11), set(9, 10, 11, 12), set(9, 10, 12, 13), set(1, 2, 9, 10));
        is("NEEDED", x.like(0, 1, 1), 3);
        whyIs(x, 0, 1, 0);
        whyIs(x, 0, 2, 4);
        whyIs(x, 3, 1, 3);
        PairSieve y = with(set(1), set(1), set(1, 2));
        is("nothing behind x: NEEDED", y.like(0, 1, 1), 1);
        whyIs(y, 0, 1, 0);
        whyIs(y, 0, 2, 0);
    }

    @Sentence(promise = 16, words = FATES, part = "AMOUNTS of all NUMBERS behind it in one, in the other one")
    static void placesGoByWeights() {
        PairSieve x = with(set(1, 2, 3), set(2, 3, 4));
        x.measure(5, 1, 2);
        x.weight(2, 3);
        x.weight(3, 3);
        x.weight(1, 5);
        is("3 and 3 or 4 are 6, NEEDED", x.like(0, 1, 1), 6);
        whyIs(x, 0, 1, 0);
        x.weight(1, 6);
        is("3 and 3 or 4 are 6, NEEDED", x.like(0, 1, 1), 7);
        whyIs(x, 0, 1, 3);
        x.weight(1, 7);
        whyIs(x, 0, 1, 1);
    }

    @Sentence(promise = 16, words = FATES, part = "else they are COMPARED, and a PAIR or not")
    static void comparedOnesReachTheLimitOrNot() {
        PairSieve x = with(set(1, 2, 3), set(1, 2, 4), set(1, 4, 5));
        is("2 / 4", x.like(0, 1, 0), 2);
        whyIs(x, 0, 1, 0);
        is("1 / 5", x.like(0, 2, 0), 1);
        whyIs(x, 0, 2, 4);
        x.measure(1, 501, 1000);
        whyIs(x, 0, 1, 4);
        x.measure(1, 1, 5);
        whyIs(x, 0, 2, 0);
    }

    @Sentence(promise = 24, words = SPENT)
    static void aNumberOfOneBeginningSpendsNothing() {
        PairSieve x = with(set(1, 2), set(3, 4), set());
        x.pairs();
        is("each in one", x.count(7), 0);
        x.put(1, 2);
        x.pairs();
        is("one of them in two", x.count(7), 1);
        x.put(2, 2);
        x.pairs();
        is("one of them in three", x.count(7), 3);
        x.measure(0, 3000, 1);
        x.pairs();
        is("no beginnings", x.count(7), 0);
        x.measure(4, 1, 1);
        x.drop(0);
        x.pairs();
        is("without a dropped one", x.count(7), 1);
    }

    @Sentence(promise = 24, words = SPENT)
    static void theMostThatCanBeSpent() {
        PairSieve x = records(60);
        for (int r = 0; r < 60; r++) {
            write(x, r, 1, range(0, 30));
        }
        x.measure(4, 1, 1);
        is("pairs()", x.pairs(), 1770);
        is("60 beginnings of 30 numbers", x.count(7), 53100);
    }

    @Sentence(promise = 16, words = WHY)
    static void eachFate() {
        PairSieve x = with(set(1, 2, 9, 10), set(9, 10, 11, 12), set(9, 10, 11, 13), set(9), set(1, 2, 3, 9), set());
        whyIs(x, 1, 2, 0);
        whyIs(x, 1, 4, 1);
        whyIs(x, 5, 1, 1);
        whyIs(x, 1, 3, 2);
        whyIs(x, 0, 1, 3);
        x.put(0, 8);
        x.put(4, 8);
        x.measure(1, 2, 3);
        whyIs(x, 0, 4, 0);
        x.measure(1, 3, 4);
        whyIs(x, 0, 4, 4);
    }

    @Sentence(promise = 16, words = "NONE: no such two.")
    static void noSuchTwo() {
        PairSieve x = mixed();
        int[][] twos = {{0, 0}, {3, 3}, {0, 2}, {2, 0}, {2, 2}, {0, 4}, {4, 0}, {4, 5}, {-1, 0}, {0, -1}, {-1, -1}, {0, 60},
            {60, 0}, {LOW, 0}, {0, LOW}, {HIGH, 0}, {0, HIGH}, {LOW, HIGH}};
        for (int[] two : twos) {
            is("why(" + two[0] + ", " + two[1] + ")", x.why(two[0], two[1]), NONE);
        }
        is("why(0, 1) of a new object", new PairSieve().why(0, 1), NONE);
    }

    @Sentence(promise = 17, words = PAIRS, part = "how many PAIRS there are")
    static void thereMayBeNoPairs() {
        PairSieve x = new PairSieve();
        is("no records", x.pairs(), 0);
        kept("none", x);
        x.record();
        x.put(0, 1);
        is("one record", x.pairs(), 0);
        kept("none", x);
        x.record();
        is("an empty one", x.pairs(), 0);
        kept("none", x);
        x.put(1, 1);
        is("two", x.pairs(), 1);
        kept("one", x, set(0, 1, 1));
        x.drop(0);
        kept("one still", x, set(0, 1, 1));
        is("one is left", x.pairs(), 0);
        kept("none", x);
    }

    @Sentence(promise = 17, words = PAIRS, part = "how many PAIRS there are")
    static void allTwosMayBePairs() {
        PairSieve x = records(60);
        for (int r = 0; r < 60; r++) {
            x.put(r, 1);
        }
        is("pairs()", x.pairs(), 1770);
        is("count(13)", x.count(13), 1770);
        int[][] places = {{0, 0, 1}, {58, 0, 59}, {59, 1, 2}, {116, 1, 59}, {117, 2, 3}, {1768, 57, 59}, {1769, 58, 59}};
        for (int[] place : places) {
            is("pair(" + place[0] + ", 0)", Due.pair(x, place[0], 0), place[1]);
            is("pair(" + place[0] + ", 1)", Due.pair(x, place[0], 1), place[2]);
            is("pair(" + place[0] + ", 2)", Due.pair(x, place[0], 2), 1);
        }
        is("behind the last", Due.pair(x, 1770, 0), Due.THROWN);
    }

    @Sentence(promise = 17, words = PAIRS, part = "they are kept, by the lesser RECORD, then by the other one")
    static void pairsAreKeptByTheirRecords() {
        PairSieve x = net(6, edge(5, 4), edge(5, 0), edge(3, 0), edge(4, 1), edge(2, 5), edge(1, 2));
        is("pairs()", x.pairs(), 6);
        kept("by records", x, set(0, 3, 1), set(0, 5, 1), set(1, 2, 1), set(1, 4, 1), set(2, 5, 1), set(4, 5, 1));
        x.top(2);
        is("pairs() in place of the likest", x.pairs(), 6);
        is("count(13)", x.count(13), 6);
        x.measure(0, 2, 1);
        kept("until pairs() is called", x, set(0, 3, 1), set(0, 5, 1), set(1, 2, 1), set(1, 4, 1), set(2, 5, 1),
            set(4, 5, 1));
        is("pairs() anew", x.pairs(), 0);
        kept("none", x);
    }
}
