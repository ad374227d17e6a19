import java.util.NoSuchElementException;

/** Tests of the sentences about what is kept of PAIRS and of the likest ones: promises 18 and 19. */
final class PairSentences extends Bench {
    private static final String PAIR = "Of the i-th PAIR kept, what 0, 1: its RECORDS, the lesser first; 2: s then.";
    private static final String NO_PAIR = "NoSuchElementException: there is none such, another what.";
    private static final String TOP = "The likest n (1 to 100) of all two RECORDS that have s above 0 (whether they are a "
        + "PAIR or not), of like ones by the lesser RECORD, then the other one: how many there are; they are kept in place "
        + "of the PAIRS, the likest first.";
    private static final String NO_TOP = "NONE for another n.";

    private PairSentences() {
    }

    @Sentence(promise = 18, words = PAIR, part = "its RECORDS, the lesser first")
    static void theFirstAndTheLastPair() {
        PairSieve x = net(60, edge(59, 0), edge(59, 58), edge(31, 30));
        x.pairs();
        kept("three", x, set(0, 59, 1), set(30, 31, 1), set(58, 59, 1));
    }

    @Sentence(promise = 18, words = PAIR, part = "2: s then")
    static void sIsAsItWasThen() {
        PairSieve x = with(set(1, 2), set(1, 2));
        x.measure(5, 1, 1);
        x.weight(1, 100);
        x.pairs();
        x.weight(1, 1);
        is("like(0, 1, 0)", x.like(0, 1, 0), 2);
        kept("s then", x, set(0, 1, 101));
        x.take(0, 1);
        x.take(0, 2);
        kept("s then", x, set(0, 1, 101));
        x.drop(0);
        x.drop(1);
        x.measure(1, 1, 2);
        x.order();
        kept("s then", x, set(0, 1, 101));
    }

    @Sentence(promise = 18, words = PAIR, part = "2: s then")
    static void theGreatestS() {
        PairSieve x = with(range(0, 30), range(0, 30));
        for (int v = 0; v < 30; v++) {
            x.weight(v, 100);
        }
        x.measure(5, 1, 1);
        x.pairs();
        kept("30 times 100", x, set(0, 1, 3000));
    }

    /** The class of what pair throws, in full; nothing if it answers. */
    private static String thrown(PairSieve x, int i, int what) {
        try {
            x.pair(i, what);
            return "nothing";
        } catch (RuntimeException e) {
            return e.getClass().getName();
        }
    }

    private static void throwsIt(PairSieve x, int i, int what) {
        is("pair(" + i + ", " + what + ")", thrown(x, i, what), NoSuchElementException.class.getName());
    }

    @Sentence(promise = 18, words = NO_PAIR, part = "there is none such")
    static void noSuchPair() {
        PairSieve x = with(set(1), set(1), set(1));
        throwsIt(x, 0, 0);
        is("pairs()", x.pairs(), 3);
        is("pair(2, 0)", thrown(x, 2, 0), "nothing");
        for (int what = 0; what <= 2; what++) {
            for (int i : set(-1, 3, 4, 99, 100, 1769, 1770, LOW, HIGH)) {
                throwsIt(x, i, what);
            }
        }
        is("top(1)", x.top(1), 1);
        is("pair(0, 0)", thrown(x, 0, 0), "nothing");
        throwsIt(x, 1, 0);
        x.measure(0, 3000, 1);
        is("pairs()", x.pairs(), 0);
        throwsIt(x, 0, 0);
        throwsIt(new PairSieve(), 0, 0);
    }

    @Sentence(promise = 18, words = NO_PAIR, part = "another what")
    static void anotherWhat() {
        PairSieve x = mixed();
        String before = state(x);
        for (int what : set(-1, 3, 4, LOW, HIGH)) {
            throwsIt(x, 0, what);
            throwsIt(x, 50, what);
            throwsIt(x, -1, what);
        }
        is("all is as it was", state(x), before);
    }

    @Sentence(promise = 19, words = TOP, part = "n (1 to 100)")
    static void theLikestAre1To100() {
        PairSieve x = records(60);
        for (int r = 0; r < 60; r++) {
            x.put(r, 1);
        }
        is("top(1)", x.top(1), 1);
        kept("one", x, set(0, 1, 1));
        is("top(2)", x.top(2), 2);
        kept("two", x, set(0, 1, 1), set(0, 2, 1));
        is("top(99)", x.top(99), 99);
        is("the last", Due.pair(x, 98, 1), 41);
        is("top(100)", x.top(100), 100);
        is("the last", Due.pair(x, 99, 0), 1);
        is("the last", Due.pair(x, 99, 1), 42);
        is("behind the last", Due.pair(x, 100, 0), Due.THROWN);
        is("count(13)", x.count(13), 100);
    }

    @Sentence(promise = 19, words = TOP, part = "that have s above 0")
    static void whoSharesNothingIsNotAmongThem() {
        PairSieve x = with(set(1, 2), set(2, 3), set(4), set());
        is("two share one", x.top(100), 1);
        kept("one", x, set(0, 1, 1));
        x.take(0, 2);
        is("none", x.top(100), 0);
        kept("none", x);
        is("none of none", new PairSieve().top(100), 0);
        is("none of one", with(set(1)).top(1), 0);
        is("none of empty ones", with(set(), set()).top(1), 0);
    }

    @Sentence(promise = 19, words = TOP, part = "whether they are a PAIR or not")
    static void whoIsNoPairIsAmongThem() {
        PairSieve x = with(set(1, 2), set(2, 3), set(3, 4, 5, 6, 7));
        for (int kind = 0; kind <= 5; kind++) {
            x.measure(kind, kind == 0 ? 3000 : 1, 1);
            is("pairs(), measure " + kind, x.pairs(), 0);
            is("top(100), measure " + kind, x.top(100), 2);
            kept("measure " + kind, x, set(0, 1, 1), set(1, 2, 1));
        }
    }

    @Sentence(promise = 19, words = TOP, part = "of like ones by the lesser RECORD, then the other one")
    static void likeOnesStandByTheirRecords() {
        PairSieve x = with(set(1, 2), range(10, 4), set(1), range(12, 2), set(1, 3));
        is("halves in several forms, and a third", x.top(100), 4);
        kept("all", x, set(0, 2, 1), set(1, 3, 2), set(2, 4, 1), set(0, 4, 1));
        is("top(2)", x.top(2), 2);
        kept("two of them", x, set(0, 2, 1), set(1, 3, 2));
        PairSieve y = records(60);
        for (int r = 0; r < 60; r++) {
            y.put(r, 1);
        }
        y.top(59);
        is("the 59th", Due.pair(y, 58, 0), 0);
        is("the 59th", Due.pair(y, 58, 1), 59);
        y.top(60);
        is("the 60th", Due.pair(y, 59, 0), 1);
        is("the 60th", Due.pair(y, 59, 1), 2);
    }

    @Sentence(promise = 19, words = TOP, part = "The likest n")
    static void theLastTwoMayBeTheLikest() {
        PairSieve x = new PairSieve();
        for (int r = 0; r < 14; r++) {
            add(x, 1, 100 + r);
        }
        add(x, 1, 200);
        add(x, 1, 200);
        is("top(1)", x.top(1), 1);
        kept("one", x, set(14, 15, 2));
        is("120 twos", x.top(100), 100);
        is("the first", Due.pair(x, 0, 0), 14);
        is("the first", Due.pair(x, 0, 1), 15);
        is("the second", Due.pair(x, 1, 0), 0);
        is("the second", Due.pair(x, 1, 1), 1);
        is("the last", Due.pair(x, 99, 0), 8);
        is("the last", Due.pair(x, 99, 1), 15);
    }

    @Sentence(promise = 19, words = TOP, part = "the likest first")
    static void hairsBreadthsAreTold() {
        PairSieve x = with(range(0, 29), range(1, 29), range(100, 30), range(101, 30));
        is("28 / 30 and 29 / 31", x.top(2), 2);
        kept("PART", x, set(2, 3, 29), set(0, 1, 28));
        x.measure(3, 1, 1);
        x.top(2);
        kept("ANGLE", x, set(2, 3, 29), set(0, 1, 28));
        x.measure(4, 1, 1);
        x.top(2);
        kept("WITHIN", x, set(2, 3, 29), set(0, 1, 28));
        x.measure(5, 1, 1);
        for (int v = 100; v <= 130; v++) {
            x.weight(v, 97);
        }
        x.weight(0, 2);
        x.weight(29, 1);
        x.top(2);
        kept("WEIGHTED, 28 / 31 and 29 / 31", x, set(2, 3, 2813), set(0, 1, 28));
        x.weight(0, 1);
        x.take(0, 0);
        x.top(2);
        kept("WEIGHTED, 28 / 29 and 29 / 31", x, set(0, 1, 28), set(2, 3, 2813));
    }

    @Sentence(promise = 19, words = TOP, part = "the likest first")
    static void eachOneIsLikerThanAllAheadOfIt() {
        PairSieve x = with(set(1, 2, 3), set(3, 4, 5), set(11, 12, 13), set(12, 13, 14), set(21, 22, 23), set(22, 23),
            set(31), set(31));
        is("top(4)", x.top(4), 4);
        kept("four", x, set(6, 7, 1), set(4, 5, 2), set(2, 3, 2), set(0, 1, 1));
        is("top(3)", x.top(3), 3);
        kept("three", x, set(6, 7, 1), set(4, 5, 2), set(2, 3, 2));
        is("top(5)", x.top(5), 4);
        kept("four", x, set(6, 7, 1), set(4, 5, 2), set(2, 3, 2), set(0, 1, 1));
    }

    @Sentence(promise = 19, words = TOP, part = "they are kept in place of the PAIRS")
    static void theyAreKeptInPlaceOfThePairs() {
        PairSieve x = with(set(1, 2, 3), set(1, 2, 3), set(1, 2, 4), set(3));
        is("pairs()", x.pairs(), 3);
        kept("pairs", x, set(0, 1, 3), set(0, 2, 2), set(1, 2, 2));
        is("top(100)", x.top(100), 5);
        kept("the likest", x, set(0, 1, 3), set(0, 2, 2), set(1, 2, 2), set(0, 3, 1), set(1, 3, 1));
        is("top(1)", x.top(1), 1);
        kept("the likest one", x, set(0, 1, 3));
        is("the latest pairs()", x.count(2), 3);
        x.drop(0);
        x.drop(1);
        kept("as it was", x, set(0, 1, 3));
        is("top(1)", x.top(1), 0);
        kept("none", x);
    }

    @Sentence(promise = 19, words = NO_TOP)
    static void noOtherN() {
        PairSieve x = mixed();
        String before = state(x);
        for (int n : set(0, -1, 101, 102, 1770, LOW, HIGH)) {
            is("top(" + n + ")", x.top(n), NONE);
        }
        is("all is as it was", state(x), before);
        is("of a new object", new PairSieve().top(0), NONE);
        is("of a new object", new PairSieve().top(101), NONE);
    }
}
