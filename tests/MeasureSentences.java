/** Tests of the sentences about MEASURES, ORDER and what is told of one or two SETS: promises 10 to 15. */
final class MeasureSentences extends Bench {
    private static final String MEASURES = "MEASURES: 0 SHARED, 1 PART, 2 TWICE, 3 ANGLE, 4 WITHIN, 5 WEIGHTED.";
    private static final String LIMIT = "LIMIT: p / q, of MEASURE 3 p p / (q q).";
    private static final String MEASURE =
        "The MEASURE and LIMIT: of 0 p 1 to 3000, q 1; of others p and q 1 to 1000, p not above q.";
    private static final String FREQUENCY = "FREQUENCY of a NUMBER: how many RECORDS (that are not DROPPED) had it when "
        + "order() was last called; 0 if none, or ahead of any.";
    private static final String ORDER = "ORDER: lesser FREQUENCY first, then the lesser NUMBER.";
    private static final String ORDERED = "FREQUENCIES are taken anew: how many NUMBERS there are in all SETS.";
    private static final String ABOUT = "Of a RECORD, what 0 how many NUMBERS, 1 AMOUNT, 2 LEAST, 3 how many NUMBERS its "
        + "BEGINNING has, 4 its FAMILY (the least RECORD in it), 5 how many RECORDS that has.";
    private static final String NOT_ABOUT = "NONE: no such RECORD, another what.";
    private static final String LIKENESS = "LIKENESS: 0: s; 1, 5: s / (a + b - s); 2: 2 s / (a + b); 3: s s / (a b); "
        + "4: s / m; without s it is 0.";
    private static final String IS_PAIR = "Two RECORDS are a PAIR if s is above 0 and their LIKENESS the LIMIT at least.";
    private static final String NEEDED = "NEEDED of two SETS, the least whole number that is not below: 0: p; 1, 5: "
        + "p (a + b) / (p + q); 2: p (a + b) / (2 q); 3: whose square is not below p p a b / (q q); 4: p m / q.";
    private static final String LEAST =
        "LEAST of a SET, likewise: 0: p; 1, 5: p a / q; 2: p a / (2 q - p); 3: p p a / (q q); 4: 1.";
    private static final String LIKE = "Of two RECORDS, what 0 s, 1 NEEDED; 2, 3 LIKENESS as a fraction that can't be made "
        + "smaller, above, below (0 / 1 without s); 4: 1 if they are a PAIR, else 0.";
    private static final String NOT_LIKE = "NONE: no such two (one and the same, too), another what.";

    private MeasureSentences() {
    }

    private static void measureIs(PairSieve x, int kind, int p, int q) {
        is("count(9)", x.count(9), kind);
        is("count(10)", x.count(10), p);
        is("count(11)", x.count(11), q);
    }

    private static void takes(PairSieve x, int kind, int p, int q) {
        is("measure(" + kind + ", " + p + ", " + q + ")", x.measure(kind, p, q), true);
        measureIs(x, kind, p, q);
    }

    private static void refuses(PairSieve x, int kind, int p, int q) {
        is("measure(" + kind + ", " + p + ", " + q + ")", x.measure(kind, p, q), false);
    }

    @Sentence(promise = 10, words = MEASURES)
    static void measuresAre0To5() {
        PairSieve x = with(set(1, 2, 3), set(2, 3));
        x.weight(2, 3);
        long[] above = {2, 2, 4, 2, 1, 4};
        long[] below = {1, 3, 5, 3, 1, 5};
        for (int kind = 0; kind <= 5; kind++) {
            takes(x, kind, 1, 1);
            is("above, measure " + kind, x.like(0, 1, 2), above[kind]);
            is("below, measure " + kind, x.like(0, 1, 3), below[kind]);
        }
        for (int kind : set(-1, 6, 7, LOW, HIGH)) {
            refuses(x, kind, 1, 1);
        }
        measureIs(x, 5, 1, 1);
    }

    @Sentence(promise = 10, words = MEASURE, part = "of 0 p 1 to 3000, q 1")
    static void ofMeasure0TheLimitIs1To3000() {
        PairSieve x = new PairSieve();
        takes(x, 0, 1, 1);
        takes(x, 0, 1000, 1);
        takes(x, 0, 1001, 1);
        takes(x, 0, 3000, 1);
        for (int p : set(0, -1, 3001, LOW, HIGH)) {
            refuses(x, 0, p, 1);
        }
        for (int q : set(0, 2, -1, 1000, LOW, HIGH)) {
            refuses(x, 0, 1, q);
        }
        measureIs(x, 0, 3000, 1);
    }

    @Sentence(promise = 10, words = MEASURE, part = "of others p and q 1 to 1000")
    static void ofOthersPAndQAre1To1000() {
        PairSieve x = new PairSieve();
        for (int kind = 1; kind <= 5; kind++) {
            takes(x, kind, 1, 1);
            takes(x, kind, 1, 1000);
            takes(x, kind, 1000, 1000);
            refuses(x, kind, 0, 1);
            refuses(x, kind, 0, 1000);
            refuses(x, kind, -1, 1);
            refuses(x, kind, 1, 1001);
            refuses(x, kind, 1001, 1001);
            refuses(x, kind, 1000, 1001);
            refuses(x, kind, 1, HIGH);
            refuses(x, kind, LOW, 1);
            refuses(x, kind, LOW, LOW);
            refuses(x, kind, HIGH, HIGH);
            measureIs(x, kind, 1000, 1000);
        }
    }

    @Sentence(promise = 10, words = MEASURE, part = "p not above q")
    static void pIsNotAboveQ() {
        PairSieve x = new PairSieve();
        for (int kind = 1; kind <= 5; kind++) {
            takes(x, kind, 999, 1000);
            takes(x, kind, 999, 999);
            refuses(x, kind, 1000, 999);
            refuses(x, kind, 2, 1);
            refuses(x, kind, 1, 0);
            refuses(x, kind, 1, -1);
            takes(x, kind, 2, 4);
        }
        measureIs(x, 5, 2, 4);
    }

    @Sentence(promise = 10, words = "False: others.")
    static void aRefusedMeasureChangesNothing() {
        PairSieve x = mixed();
        String before = state(x);
        int[][] others = {{-1, 1, 1}, {6, 1, 1}, {0, 0, 1}, {0, 3001, 1}, {0, 1, 2}, {1, 0, 1}, {1, 2, 1}, {2, 1, 1001},
            {3, 1001, 1001}, {4, 0, 0}, {5, -1, 1}, {LOW, LOW, LOW}, {HIGH, HIGH, HIGH}};
        for (int[] other : others) {
            refuses(x, other[0], other[1], other[2]);
        }
        is("all is as it was", state(x), before);
    }

    /** Sets of four that share two: their LIKENESS, by MEASURE, is the first limit given, and the second is above it. */
    @Sentence(promise = 10, words = LIMIT)
    static void theLimitIsPAboveQ() {
        PairSieve x = with(range(1, 4), range(3, 4));
        int[][] reached = {{0, 2, 1}, {1, 1, 3}, {1, 333, 999}, {1, 333, 1000}, {2, 1, 2}, {2, 500, 1000}, {4, 1, 2},
            {4, 499, 998}, {5, 1, 3}};
        int[][] missed = {{0, 3, 1}, {1, 334, 1000}, {1, 333, 998}, {2, 501, 1000}, {2, 500, 999}, {4, 501, 1000},
            {4, 500, 999}, {5, 334, 1000}};
        for (int[] limit : reached) {
            takes(x, limit[0], limit[1], limit[2]);
            is("reached", x.like(0, 1, 4), 1);
        }
        for (int[] limit : missed) {
            takes(x, limit[0], limit[1], limit[2]);
            is("missed", x.like(0, 1, 4), 0);
        }
    }

    @Sentence(promise = 10, words = LIMIT, part = "of MEASURE 3 p p / (q q)")
    static void theLimitOfMeasure3IsSquared() {
        PairSieve x = with(range(1, 4), range(3, 4));
        int[][] limits = {{1, 2, 1}, {500, 1000, 1}, {501, 1000, 0}, {500, 999, 0}, {1, 1, 0}, {1, 1000, 1}};
        for (int[] limit : limits) {
            takes(x, 3, limit[0], limit[1]);
            is("reached", x.like(0, 1, 4), limit[2]);
        }
    }

    @Sentence(promise = 12, words = FREQUENCY, part = "0 if none, or ahead of any")
    static void aFrequencyIs0AtFirst() {
        PairSieve x = with(set(1, 2), set(1));
        is("ahead of any", x.frequency(1), 0);
        x.order();
        is("of two", x.frequency(1), 2);
        is("of one", x.frequency(2), 1);
        is("of none", x.frequency(3), 0);
        x.take(0, 2);
        x.order();
        is("of none any more", x.frequency(2), 0);
    }

    @Sentence(promise = 12, words = FREQUENCY, part = "how many RECORDS (that are not DROPPED) had it")
    static void aFrequencyIsUpTo60() {
        PairSieve x = records(60);
        for (int r = 0; r < 60; r++) {
            x.put(r, 7);
        }
        x.order();
        is("of all", x.frequency(7), 60);
        x.drop(0);
        x.drop(59);
        x.order();
        is("of all that are left", x.frequency(7), 58);
        for (int r = 1; r < 59; r++) {
            x.drop(r);
        }
        is("as it was", x.frequency(7), 58);
        is("order()", x.order(), 0);
        is("of none that is left", x.frequency(7), 0);
    }

    @Sentence(promise = 12, words = FREQUENCY, part = "when order() was last called")
    static void aFrequencyStaysUntilOrder() {
        PairSieve x = with(set(1), set(1), set(1));
        x.order();
        x.drop(0);
        x.take(1, 1);
        x.put(1, 2);
        write(x, 2, 1, 9);
        is("as it was", x.frequency(1), 3);
        is("as it was", x.frequency(2), 0);
        is("as it was", x.frequency(72), 0);
        x.order();
        is("anew", x.frequency(1), 0);
        is("anew", x.frequency(2), 1);
        is("anew", x.frequency(72), 1);
    }

    @Sentence(promise = 12, words = "The FREQUENCY of a NUMBER (0 of what is none).")
    static void whatIsNoNumberHasFrequency0() {
        PairSieve x = with(set(0, 5, 999999), set(5));
        x.order();
        for (int v : set(-1, 1000000, 1000005, 2000005, -5, LOW, HIGH)) {
            is("frequency(" + v + ")", x.frequency(v), 0);
        }
        is("frequency(0)", x.frequency(0), 1);
        is("frequency(5)", x.frequency(5), 2);
        is("frequency(999999)", x.frequency(999999), 1);
        is("frequency(6)", x.frequency(6), 0);
    }

    @Sentence(promise = 14, words = ORDER, part = "lesser FREQUENCY first")
    static void rareNumbersAreFirst() {
        PairSieve x = records(60);
        for (int r = 0; r < 60; r++) {
            x.put(r, 0);
        }
        for (int r = 0; r < 59; r++) {
            x.put(r, 999999);
        }
        for (int r = 0; r < 10; r++) {
            x.put(r, 3);
        }
        for (int r = 0; r < 9; r++) {
            x.put(r, 4);
        }
        x.put(0, 5);
        is("order()", x.order(), 5);
        row("1, 9, 10, 59, 60", x, 0, 5, 4, 3, 999999, 0);
        x.put(0, 1000);
        row("0 is the least", x, 0, 1000, 5, 4, 3, 999999, 0);
    }

    @Sentence(promise = 14, words = ORDER, part = "then the lesser NUMBER")
    static void ofLikeFrequenciesTheLesserNumberIsFirst() {
        PairSieve x = with(set(999999, 0, 999998, 1, 500000), set(1, 999999));
        row("all of 0", x, 0, 0, 1, 500000, 999998, 999999);
        x.order();
        row("three of 1, two of 2", x, 0, 0, 500000, 999998, 1, 999999);
        row("two of 2", x, 1, 1, 999999);
    }

    @Sentence(promise = 14, words = "A SET stands in ORDER.")
    static void everySetStandsInOrder() {
        PairSieve x = with(range(0, 30), set(), range(0, 15));
        x.order();
        for (int i = 0; i < 30; i++) {
            is("a full one, at(0, " + i + ")", x.at(0, i), (i + 15) % 30);
        }
        row("an empty one", x, 1);
        x.put(1, 3);
        x.put(1, 20);
        x.put(1, 100);
        row("what is put stands by the frequencies taken", x, 1, 100, 20, 3);
        x.take(1, 20);
        row("what is left", x, 1, 100, 3);
        x.drop(2);
        row("as it was", x, 1, 100, 3);
        x.order();
        row("anew", x, 1, 100, 3);
        is("anew", x.at(0, 0), 0);
        is("anew", x.at(0, 29), 3);
    }

    @Sentence(promise = 14, words = "The i-th NUMBER of a SET, in ORDER.")
    static void theFirstAndTheLastNumber() {
        PairSieve x = with(range(5, 30), set(9));
        is("at(0, 0)", x.at(0, 0), 5);
        is("at(0, 29)", x.at(0, 29), 34);
        is("the only one", x.at(1, 0), 9);
    }

    @Sentence(promise = 14, words = "NONE without one.")
    static void noNumberStandsThere() {
        PairSieve x = with(range(5, 30), set(9), set(), set(4));
        x.drop(3);
        for (int i : set(-1, 30, 31, LOW, HIGH)) {
            is("at(0, " + i + ")", x.at(0, i), NONE);
        }
        is("behind the only one", x.at(1, 1), NONE);
        is("of an empty set", x.at(2, 0), NONE);
        is("of a dropped record", x.at(3, 0), NONE);
        for (int r : set(-1, 4, 60, LOW, HIGH)) {
            is("at(" + r + ", 0)", x.at(r, 0), NONE);
        }
    }

    @Sentence(promise = 11, words = ORDERED)
    static void ofNoNumbersThereAreNone() {
        PairSieve x = new PairSieve();
        is("without records", x.order(), 0);
        x.record();
        is("of an empty set", x.order(), 0);
        x.put(0, 0);
        is("of one", x.order(), 1);
        x.take(0, 0);
        is("of an empty set again", x.order(), 0);
        is("frequency(0)", x.frequency(0), 0);
        x.put(0, 1);
        x.drop(0);
        is("of a dropped record", x.order(), 0);
    }

    @Sentence(promise = 11, words = ORDERED, part = "how many NUMBERS there are in all SETS")
    static void likeNumbersOfSeveralSetsAreOne() {
        PairSieve x = with(set(1, 2), set(2, 3), set(1, 2, 3));
        is("order()", x.order(), 3);
        is("again", x.order(), 3);
        is("frequency(2)", x.frequency(2), 3);
        is("1800 unlike ones", manyNumbers().order(), 1800);
    }

    @Sentence(promise = 13, words = "AMOUNT of some NUMBERS: the sum of their WEIGHTS.")
    static void amountsAre0To3000() {
        PairSieve x = with(range(0, 30), set());
        is("of 30", x.about(0, 1), 30);
        is("of none", x.about(1, 1), 0);
        x.measure(5, 1, 1);
        is("of 30, measure 5", x.about(0, 1), 30);
        for (int v = 0; v < 30; v++) {
            x.weight(v, 100);
        }
        is("of the heaviest", x.about(0, 1), 3000);
        is("of none, measure 5", x.about(1, 1), 0);
        x.take(0, 0);
        is("without one", x.about(0, 1), 2900);
    }

    @Sentence(promise = 13, words = ABOUT)
    static void aboutAnEmptySet() {
        PairSieve x = records(1);
        int[] due = {0, 0, 0, 0, 0, 1};
        for (int what = 0; what <= 5; what++) {
            is("about(0, " + what + ")", x.about(0, what), due[what]);
        }
    }

    @Sentence(promise = 13, words = ABOUT)
    static void aboutAFullSet() {
        PairSieve x = with(set(), range(0, 30), range(0, 30));
        int[] due = {30, 30, 15, 16, 1, 2};
        for (int what = 0; what <= 5; what++) {
            is("about(1, " + what + ")", x.about(1, what), due[what]);
            is("about(2, " + what + ")", x.about(2, what), due[what]);
        }
    }

    @Sentence(promise = 13, words = NOT_ABOUT, part = "no such RECORD")
    static void aboutNoRecord() {
        PairSieve x = mixed();
        for (int r : set(-1, 2, 4, 59, 60, LOW, HIGH)) {
            for (int what = 0; what <= 5; what++) {
                is("about(" + r + ", " + what + ")", x.about(r, what), NONE);
            }
        }
    }

    @Sentence(promise = 13, words = NOT_ABOUT, part = "another what")
    static void aboutNothingElse() {
        PairSieve x = mixed();
        for (int what : set(-1, 6, 7, LOW, HIGH)) {
            is("about(0, " + what + ")", x.about(0, what), NONE);
            is("about(2, " + what + ")", x.about(2, what), NONE);
        }
    }

    @Sentence(promise = 15, words = "Of two SETS a, b are their AMOUNTS, s is that of what both have, m the lesser one of a, b.")
    static void whatBothHave() {
        PairSieve x = with(range(0, 30), range(0, 30), set(), range(29, 2), range(30, 3), set());
        is("all", x.like(0, 1, 0), 30);
        is("none of an empty one", x.like(0, 2, 0), 0);
        is("none of two empty ones", x.like(2, 5, 0), 0);
        is("the last one", x.like(0, 3, 0), 1);
        is("none", x.like(0, 4, 0), 0);
        is("the first one", x.like(4, 3, 0), 1);
        x.measure(4, 1, 1);
        is("m is the first one's", x.like(3, 4, 3), 2);
        is("m is the second one's", x.like(4, 3, 3), 2);
        is("m is both one's: 30 / 30", x.like(0, 1, 2), 1);
        is("m of an empty one: NEEDED", x.like(0, 2, 1), 0);
    }

    @Sentence(promise = 15, words = LIKENESS, part = "without s it is 0")
    static void withoutSTheLikenessIs0() {
        PairSieve x = with(set(), set(), set(1, 2), set(3));
        for (int kind = 0; kind <= 5; kind++) {
            x.measure(kind, 1, 1);
            int[][] twos = {{0, 1}, {0, 2}, {2, 0}, {2, 3}};
            for (int[] two : twos) {
                is("above, measure " + kind, x.like(two[0], two[1], 2), 0);
                is("below, measure " + kind, x.like(two[0], two[1], 3), 1);
                is("a PAIR, measure " + kind, x.like(two[0], two[1], 4), 0);
            }
        }
    }

    @Sentence(promise = 15, words = LIKENESS)
    static void likeSetsAreAsLikeAsCanBe() {
        PairSieve x = with(range(0, 30), range(0, 30), set(7), set(7));
        for (int kind = 0; kind <= 5; kind++) {
            x.measure(kind, 1, 1);
            is("above, measure " + kind, x.like(0, 1, 2), kind == 0 ? 30 : 1);
            is("below, measure " + kind, x.like(0, 1, 3), 1);
            is("above of one number, measure " + kind, x.like(2, 3, 2), 1);
            is("below of one number, measure " + kind, x.like(2, 3, 3), 1);
        }
    }

    @Sentence(promise = 15, words = LIKENESS)
    static void theGreatestSetsThatDiffer() {
        PairSieve x = with(range(0, 30), range(1, 30));
        long[][] due = {{29, 1}, {29, 31}, {29, 30}, {841, 900}, {29, 30}, {29, 31}};
        for (int kind = 0; kind <= 5; kind++) {
            x.measure(kind, 1, 1);
            is("above, measure " + kind, x.like(0, 1, 2), due[kind][0]);
            is("below, measure " + kind, x.like(0, 1, 3), due[kind][1]);
        }
        for (int v = 0; v <= 30; v++) {
            x.weight(v, 100);
        }
        is("above of the heaviest", x.like(0, 1, 2), 29);
        is("below of the heaviest", x.like(0, 1, 3), 31);
        x.weight(30, 99);
        is("above of lighter ones", x.like(0, 1, 2), 2900);
        is("below of lighter ones", x.like(0, 1, 3), 3099);
        is("s", x.like(0, 1, 0), 2900);
    }

    @Sentence(promise = 15, words = IS_PAIR, part = "s is above 0")
    static void withoutSTwoAreNoPair() {
        PairSieve x = with(set(), set(), set(1), set(2));
        for (int kind = 0; kind <= 5; kind++) {
            x.measure(kind, 1, kind == 0 ? 1 : 1000);
            is("two empty ones, measure " + kind, x.like(0, 1, 4), 0);
            is("an empty one, measure " + kind, x.like(0, 2, 4), 0);
            is("two others, measure " + kind, x.like(2, 3, 4), 0);
            is("pairs(), measure " + kind, x.pairs(), 0);
            is("families, measure " + kind, x.count(8), 4);
        }
        x.put(3, 1);
        for (int kind = 0; kind <= 5; kind++) {
            x.measure(kind, 1, kind == 0 ? 1 : 1000);
            is("two that share one, measure " + kind, x.like(2, 3, 4), 1);
        }
    }

    @Sentence(promise = 15, words = IS_PAIR, part = "their LIKENESS the LIMIT at least")
    static void theLimitItselfIsEnough() {
        PairSieve x = with(range(0, 30), range(1, 30), range(0, 29));
        int[][] limits = {{0, 29, 1}, {1, 29, 31}, {2, 29, 30}, {3, 29, 30}, {4, 29, 30}, {5, 29, 31}};
        int[][] tooHigh = {{0, 30, 1}, {1, 30, 32}, {2, 30, 31}, {3, 30, 31}, {4, 30, 31}, {5, 30, 32}};
        for (int kind = 0; kind <= 5; kind++) {
            x.measure(kind, limits[kind][1], limits[kind][2]);
            is("the limit, measure " + kind, x.like(0, 1, 4), 1);
            x.measure(kind, tooHigh[kind][1], tooHigh[kind][2]);
            is("below the limit, measure " + kind, x.like(0, 1, 4), 0);
        }
        x.measure(4, 1, 1);
        is("one within the other", x.like(0, 2, 4), 1);
        is("not within the other", x.like(0, 1, 4), 0);
        x.measure(5, 1, 2);
        x.weight(0, 15);
        x.weight(30, 14);
        is("29 / 58", x.like(0, 1, 4), 1);
        x.weight(30, 15);
        is("29 / 59", x.like(0, 1, 4), 0);
    }

    /** NEEDED of two SETS of so many NUMBERS. */
    private static void needs(int kind, int p, int q, int a, int b, int due) {
        PairSieve x = with(range(0, a), range(100, b));
        x.measure(kind, p, q);
        String call = "NEEDED of measure " + kind + ", " + p + " / " + q + ", " + a + " and " + b;
        is(call, x.like(0, 1, 1), due);
        is(call, x.like(1, 0, 1), due);
    }

    @Sentence(promise = 15, words = NEEDED, part = "0: p")
    static void neededOfMeasure0() {
        needs(0, 1, 1, 0, 0, 1);
        needs(0, 7, 1, 3, 30, 7);
        needs(0, 3000, 1, 30, 30, 3000);
    }

    @Sentence(promise = 15, words = NEEDED, part = "1, 5: p (a + b) / (p + q)")
    static void neededOfMeasures1And5() {
        for (int kind = 1; kind <= 5; kind += 4) {
            needs(kind, 1, 1000, 0, 0, 0);
            needs(kind, 1, 1000, 0, 1, 1);
            needs(kind, 1, 2, 3, 3, 2);
            needs(kind, 1, 2, 3, 4, 3);
            needs(kind, 1, 2, 4, 5, 3);
            needs(kind, 1, 1, 1, 2, 2);
            needs(kind, 1, 59, 30, 30, 1);
            needs(kind, 1, 58, 30, 30, 2);
            needs(kind, 999, 1000, 30, 30, 30);
            needs(kind, 1000, 1000, 30, 30, 30);
        }
        PairSieve x = heaviest();
        int[][] dues = {{1, 1, 3000}, {1000, 1000, 3000}, {999, 1000, 2999}, {1, 2, 2000}, {1, 999, 6}, {1, 1000, 6},
            {1, 998, 7}};
        for (int[] due : dues) {
            x.measure(5, due[0], due[1]);
            is("NEEDED of the heaviest, " + due[0] + " / " + due[1], x.like(0, 1, 1), due[2]);
        }
    }

    /** Two SETS of 30 NUMBERS, each of the WEIGHT 100. */
    private static PairSieve heaviest() {
        PairSieve x = with(range(0, 30), range(0, 30));
        for (int v = 0; v < 30; v++) {
            x.weight(v, 100);
        }
        return x;
    }

    @Sentence(promise = 15, words = NEEDED, part = "2: p (a + b) / (2 q)")
    static void neededOfMeasure2() {
        needs(2, 1, 1000, 0, 0, 0);
        needs(2, 1, 1000, 0, 1, 1);
        needs(2, 1, 2, 4, 4, 2);
        needs(2, 1, 2, 4, 5, 3);
        needs(2, 1, 30, 30, 30, 1);
        needs(2, 1, 29, 30, 30, 2);
        needs(2, 1, 1, 29, 30, 30);
        needs(2, 1000, 1000, 30, 30, 30);
    }

    @Sentence(promise = 15, words = NEEDED, part = "3: whose square is not below p p a b / (q q)")
    static void neededOfMeasure3() {
        needs(3, 1, 1, 0, 0, 0);
        needs(3, 1, 1, 0, 30, 0);
        needs(3, 1, 1000, 1, 1, 1);
        needs(3, 1, 2, 4, 4, 2);
        needs(3, 1, 2, 4, 5, 3);
        needs(3, 1, 2, 3, 12, 3);
        needs(3, 1, 1, 1, 30, 6);
        needs(3, 1, 1, 4, 9, 6);
        needs(3, 1, 1, 29, 30, 30);
        needs(3, 1, 30, 30, 30, 1);
        needs(3, 1, 29, 30, 30, 2);
        needs(3, 29, 30, 30, 30, 29);
        needs(3, 999, 1000, 30, 30, 30);
        needs(3, 1000, 1000, 30, 30, 30);
    }

    @Sentence(promise = 15, words = NEEDED, part = "4: p m / q")
    static void neededOfMeasure4() {
        needs(4, 1, 1, 0, 0, 0);
        needs(4, 1, 1, 0, 30, 0);
        needs(4, 1, 1000, 1, 30, 1);
        needs(4, 1, 2, 4, 30, 2);
        needs(4, 1, 2, 5, 30, 3);
        needs(4, 29, 30, 30, 30, 29);
        needs(4, 999, 1000, 30, 30, 30);
        needs(4, 1000, 1000, 30, 30, 30);
    }

    private static void leastIs(int kind, int p, int q, int a, int due) {
        PairSieve x = with(range(0, a));
        x.measure(kind, p, q);
        is("LEAST of measure " + kind + ", " + p + " / " + q + ", " + a, x.about(0, 2), due);
    }

    @Sentence(promise = 13, words = LEAST, part = "0: p")
    static void leastOfMeasure0() {
        leastIs(0, 1, 1, 0, 1);
        leastIs(0, 31, 1, 30, 31);
        leastIs(0, 3000, 1, 30, 3000);
    }

    @Sentence(promise = 13, words = LEAST, part = "1, 5: p a / q")
    static void leastOfMeasures1And5() {
        for (int kind = 1; kind <= 5; kind += 4) {
            leastIs(kind, 1, 1, 0, 0);
            leastIs(kind, 1, 1000, 1, 1);
            leastIs(kind, 1, 2, 4, 2);
            leastIs(kind, 1, 2, 5, 3);
            leastIs(kind, 29, 30, 30, 29);
            leastIs(kind, 999, 1000, 30, 30);
            leastIs(kind, 1000, 1000, 30, 30);
        }
        PairSieve x = heaviest();
        int[][] dues = {{1, 1, 3000}, {999, 1000, 2997}, {1, 1000, 3}, {1, 999, 4}};
        for (int[] due : dues) {
            x.measure(5, due[0], due[1]);
            is("LEAST of the heaviest, " + due[0] + " / " + due[1], x.about(0, 2), due[2]);
        }
    }

    @Sentence(promise = 13, words = LEAST, part = "2: p a / (2 q - p)")
    static void leastOfMeasure2() {
        leastIs(2, 1, 1, 0, 0);
        leastIs(2, 1, 1000, 1, 1);
        leastIs(2, 1, 2, 3, 1);
        leastIs(2, 1, 2, 4, 2);
        leastIs(2, 2, 3, 30, 15);
        leastIs(2, 2, 3, 29, 15);
        leastIs(2, 999, 1000, 30, 30);
        leastIs(2, 1000, 1000, 30, 30);
    }

    @Sentence(promise = 13, words = LEAST, part = "3: p p a / (q q)")
    static void leastOfMeasure3() {
        leastIs(3, 1, 1, 0, 0);
        leastIs(3, 1, 1000, 1, 1);
        leastIs(3, 1, 2, 4, 1);
        leastIs(3, 1, 2, 5, 2);
        leastIs(3, 3, 5, 25, 9);
        leastIs(3, 3, 5, 26, 10);
        leastIs(3, 999, 1000, 30, 30);
        leastIs(3, 1000, 1000, 30, 30);
    }

    @Sentence(promise = 13, words = LEAST, part = "4: 1")
    static void leastOfMeasure4() {
        leastIs(4, 1, 1000, 0, 1);
        leastIs(4, 1, 1000, 30, 1);
        leastIs(4, 1000, 1000, 30, 1);
    }

    @Sentence(promise = 15, words = LIKE, part = "a fraction that can't be made smaller")
    static void fractionsCannotBeMadeSmaller() {
        PairSieve x = with(range(0, 12), range(6, 12));
        long[][] due = {{6, 1}, {1, 3}, {1, 2}, {1, 4}, {1, 2}, {1, 3}};
        for (int kind = 0; kind <= 5; kind++) {
            x.measure(kind, 1, 1);
            is("above, measure " + kind, x.like(0, 1, 2), due[kind][0]);
            is("below, measure " + kind, x.like(0, 1, 3), due[kind][1]);
        }
        x.put(1, 50);
        x.measure(1, 1, 1);
        is("6 / 19, above", x.like(0, 1, 2), 6);
        is("6 / 19, below", x.like(0, 1, 3), 19);
    }

    @Sentence(promise = 15, words = LIKE, part = "0 / 1 without s")
    static void withoutSItIs0Above1() {
        PairSieve x = with(set(), set(), set(1, 2));
        is("above of two empty ones", x.like(0, 1, 2), 0);
        is("below of two empty ones", x.like(0, 1, 3), 1);
        is("above of an empty one", x.like(2, 1, 2), 0);
        is("below of an empty one", x.like(2, 1, 3), 1);
    }

    @Sentence(promise = 15, words = LIKE, part = "4: 1 if they are a PAIR, else 0")
    static void aPairIs1() {
        PairSieve x = with(set(1, 2), set(1), set(1, 3, 4));
        is("a half", x.like(0, 1, 4), 1);
        is("the other way round", x.like(1, 0, 4), 1);
        is("a third", x.like(1, 2, 4), 0);
        is("a fourth", x.like(0, 2, 4), 0);
    }

    @Sentence(promise = 15, words = NOT_LIKE, part = "no such two")
    static void noSuchTwo() {
        PairSieve x = mixed();
        int[][] twos = {{0, -1}, {-1, 0}, {0, 4}, {4, 0}, {0, 60}, {60, 61}, {0, 2}, {2, 0}, {LOW, 0}, {0, HIGH},
            {HIGH, LOW}};
        for (int[] two : twos) {
            for (int what = 0; what <= 4; what++) {
                is("like(" + two[0] + ", " + two[1] + ", " + what + ")", x.like(two[0], two[1], what), NONE);
            }
        }
    }

    @Sentence(promise = 15, words = NOT_LIKE, part = "one and the same, too")
    static void oneAndTheSameIsNoTwo() {
        PairSieve x = mixed();
        for (int r : set(0, 1, 2, 3, 4, -1)) {
            for (int what = 0; what <= 4; what++) {
                is("like(" + r + ", " + r + ", " + what + ")", x.like(r, r, what), NONE);
            }
        }
    }

    @Sentence(promise = 15, words = NOT_LIKE, part = "another what")
    static void likeNothingElse() {
        PairSieve x = mixed();
        for (int what : set(-1, 5, 6, LOW, HIGH)) {
            is("like(0, 1, " + what + ")", x.like(0, 1, what), NONE);
            is("like(0, 0, " + what + ")", x.like(0, 0, what), NONE);
        }
    }
}
