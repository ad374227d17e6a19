/** Tests of the sentences about RECORDS, SETS and WEIGHTS: promises 2 to 6. */
final class RecordSentences extends Bench {
    private static final String NUMBERED =
        "RECORDS are numbered from 0 on as they are made, at most 60, DROPPED ones, too.";
    private static final String NEW_RECORD = "A new RECORD, with an empty SET: its number; NONE: there are 60.";
    private static final String DROPPED = "A RECORD is DROPPED.";
    private static final String NOT_DROPPED = "False: no such one, or it is already.";
    private static final String HAS_A_SET =
        "A RECORD that is not DROPPED has a SET of up to 30 NUMBERS (0 to 999999), all unlike.";
    private static final String PUT = "A NUMBER comes into a SET.";
    private static final String NOT_PUT = "False: no such RECORD (DROPPED ones, too), no NUMBER, it is there, 30 are.";
    private static final String TAKEN = "A NUMBER goes out of a SET.";
    private static final String NOT_TAKEN = "False: no such RECORD, it isn't there.";
    private static final String WEIGHT =
        "WEIGHT of a NUMBER is 1, of MEASURE 5 what it was told (1 to 100; 1 at first).";
    private static final String TOLD = "The WEIGHT of a NUMBER for MEASURE 5.";
    private static final String NOT_TOLD = "False: no NUMBER, w not 1 to 100, 200 others were told.";

    private static final int[] NO_RECORDS = {-1, 4, 59, 60, 61, 64, 65, LOW, HIGH};
    private static final int[] NO_NUMBERS = {-1, 1000000, 1000001, -1000000, LOW, HIGH};

    private RecordSentences() {
    }

    @Sentence(promise = 2, words = NUMBERED, part = "numbered from 0 on as they are made, at most 60")
    static void numbersGoFrom0To59() {
        PairSieve x = new PairSieve();
        for (int r = 0; r < 60; r++) {
            is("record()", x.record(), r);
        }
        is("the 61st", x.record(), NONE);
        is("count(0)", x.count(0), 60);
        is("about(59, 0)", x.about(59, 0), 0);
        is("about(60, 0)", x.about(60, 0), NONE);
    }

    @Sentence(promise = 2, words = NUMBERED, part = "DROPPED ones, too")
    static void droppedOnesCountAmongThe60() {
        PairSieve x = new PairSieve();
        for (int r = 0; r < 60; r++) {
            is("record()", x.record(), r);
            is("drop(" + r + ")", x.drop(r), true);
        }
        is("the 61st", x.record(), NONE);
        is("count(0)", x.count(0), 0);
    }

    @Sentence(promise = 2, words = NEW_RECORD, part = "with an empty SET")
    static void aNewRecordIsEmpty() {
        PairSieve x = with(set(1, 2));
        x.order();
        x.drop(0);
        is("record() behind a dropped one", x.record(), 1);
        row("an empty set", x, 1);
        is("AMOUNT", x.about(1, 1), 0);
        is("BEGINNING", x.about(1, 3), 0);
        is("FAMILY", x.about(1, 4), 1);
        is("RECORDS in it", x.about(1, 5), 1);
        is("count(1)", x.count(1), 0);
        is("put(1, 1)", x.put(1, 1), true);
    }

    @Sentence(promise = 2, words = NEW_RECORD, part = "NONE: there are 60")
    static void aRefusedRecordChangesNothing() {
        PairSieve x = with(set(1, 2), set(2));
        for (int r = 2; r < 60; r++) {
            x.record();
        }
        x.pairs();
        String before = state(x);
        is("the 61st", x.record(), NONE);
        is("the 62nd", x.record(), NONE);
        is("all is as it was", state(x), before);
        x.drop(30);
        is("none is free", x.record(), NONE);
        is("drop(59)", x.drop(59), true);
        is("the last one is not free", x.record(), NONE);
    }

    @Sentence(promise = 3, words = DROPPED)
    static void theFirstAndTheLastCanBeDropped() {
        PairSieve x = records(60);
        x.put(0, 1);
        x.put(59, 1);
        is("drop(0)", x.drop(0), true);
        is("drop(59)", x.drop(59), true);
        is("about(0, 0)", x.about(0, 0), NONE);
        is("about(59, 0)", x.about(59, 0), NONE);
        is("about(1, 0)", x.about(1, 0), 0);
        is("about(58, 0)", x.about(58, 0), 0);
        is("count(0)", x.count(0), 58);
        is("count(1)", x.count(1), 0);
        is("order()", x.order(), 0);
    }

    @Sentence(promise = 3, words = DROPPED)
    static void theOnlyOneCanBeDropped() {
        PairSieve x = with(set(1));
        is("drop(0)", x.drop(0), true);
        is("count(0)", x.count(0), 0);
        is("count(8)", x.count(8), 0);
        is("pairs()", x.pairs(), 0);
        is("top(1)", x.top(1), 0);
        is("order()", x.order(), 0);
        is("core(0)", x.core(0), NONE);
        is("chain(0, 0)", x.chain(0, 0), NONE);
    }

    @Sentence(promise = 3, words = NOT_DROPPED, part = "no such one")
    static void noSuchRecordIsNotDropped() {
        PairSieve x = mixed();
        String before = state(x);
        for (int r : NO_RECORDS) {
            is("drop(" + r + ")", x.drop(r), false);
        }
        is("all is as it was", state(x), before);
        is("drop(0) of a new object", new PairSieve().drop(0), false);
    }

    @Sentence(promise = 3, words = NOT_DROPPED, part = "or it is already")
    static void aDroppedOneIsNotDroppedAgain() {
        PairSieve x = mixed();
        String before = state(x);
        is("drop(2)", x.drop(2), false);
        is("drop(2)", x.drop(2), false);
        is("all is as it was", state(x), before);
        is("drop(3)", x.drop(3), true);
        is("drop(3)", x.drop(3), false);
    }

    @Sentence(promise = 4, words = HAS_A_SET, part = "up to 30")
    static void aSetHasUpTo30Numbers() {
        PairSieve x = with(range(100, 29), range(100, 30));
        is("the 30th", x.put(0, 5), true);
        is("the 31st", x.put(0, 6), false);
        is("the 31st of the other one", x.put(1, 5), false);
        is("about(0, 0)", x.about(0, 0), 30);
        is("at(0, 29)", x.at(0, 29), 128);
        is("at(0, 30)", x.at(0, 30), NONE);
    }

    @Sentence(promise = 4, words = HAS_A_SET, part = "(0 to 999999)")
    static void numbersAre0To999999() {
        PairSieve x = records(1);
        is("put(0, -1)", x.put(0, -1), false);
        is("put(0, 0)", x.put(0, 0), true);
        is("put(0, 999999)", x.put(0, 999999), true);
        is("put(0, 1000000)", x.put(0, 1000000), false);
        row("both ends", x, 0, 0, 999999);
        is("order()", x.order(), 2);
        row("both ends, ordered", x, 0, 0, 999999);
        is("frequency(0)", x.frequency(0), 1);
        is("frequency(999999)", x.frequency(999999), 1);
    }

    @Sentence(promise = 4, words = HAS_A_SET, part = "all unlike")
    static void numbersOfASetAreUnlike() {
        PairSieve x = with(set(7, 8));
        is("put(0, 7)", x.put(0, 7), false);
        is("put(0, 8)", x.put(0, 8), false);
        row("once each", x, 0, 7, 8);
        x.order();
        x.order();
        row("once each", x, 0, 7, 8);
    }

    @Sentence(promise = 4, words = HAS_A_SET, part = "A RECORD that is not DROPPED has a SET")
    static void aDroppedRecordHasNoSet() {
        PairSieve x = with(set(7));
        x.drop(0);
        is("at(0, 0)", x.at(0, 0), NONE);
        is("about(0, 0)", x.about(0, 0), NONE);
        is("about(0, 1)", x.about(0, 1), NONE);
        is("take(0, 7)", x.take(0, 7), false);
        is("count(1)", x.count(1), 0);
    }

    @Sentence(promise = 4, words = PUT)
    static void aNumberComesIntoOneSetOnly() {
        PairSieve x = with(set(), set(), set());
        is("into an empty one", x.put(1, 4), true);
        row("the one ahead of it", x, 0);
        row("the one", x, 1, 4);
        row("the one behind it", x, 2);
        is("ahead of all", x.put(1, 0), true);
        is("behind all", x.put(1, 999999), true);
        is("between", x.put(1, 5), true);
        row("the one", x, 1, 0, 4, 5, 999999);
        is("count(1)", x.count(1), 4);
    }

    @Sentence(promise = 4, words = NOT_PUT, part = "no such RECORD")
    static void noSuchRecordTakesANumber() {
        PairSieve x = mixed();
        String before = state(x);
        for (int r : NO_RECORDS) {
            is("put(" + r + ", 9)", x.put(r, 9), false);
        }
        is("all is as it was", state(x), before);
    }

    @Sentence(promise = 4, words = NOT_PUT, part = "(DROPPED ones, too)")
    static void aDroppedRecordTakesNoNumber() {
        PairSieve x = mixed();
        String before = state(x);
        is("put(2, 9)", x.put(2, 9), false);
        is("put(2, 5)", x.put(2, 5), false);
        is("all is as it was", state(x), before);
    }

    @Sentence(promise = 4, words = NOT_PUT, part = "no NUMBER")
    static void noNumberIsPut() {
        PairSieve x = mixed();
        String before = state(x);
        for (int v : NO_NUMBERS) {
            is("put(0, " + v + ")", x.put(0, v), false);
        }
        is("all is as it was", state(x), before);
    }

    @Sentence(promise = 4, words = NOT_PUT, part = "it is there")
    static void aNumberThatIsThereIsNotPut() {
        PairSieve x = mixed();
        String before = state(x);
        for (int v = 1; v <= 4; v++) {
            is("put(3, " + v + ")", x.put(3, v), false);
        }
        is("all is as it was", state(x), before);
        is("gone", x.take(3, 4), true);
        is("put(3, 4)", x.put(3, 4), true);
        is("put(3, 4) again", x.put(3, 4), false);
    }

    @Sentence(promise = 4, words = NOT_PUT, part = "30 are")
    static void aFullSetTakesNoNumber() {
        PairSieve x = with(range(10, 30), set());
        x.order();
        for (int v : set(0, 9, 10, 39, 40, 999999)) {
            is("put(0, " + v + ")", x.put(0, v), false);
        }
        is("about(0, 0)", x.about(0, 0), 30);
        is("at(0, 0)", x.at(0, 0), 10);
        is("at(0, 29)", x.at(0, 29), 39);
        is("AMOUNT", x.about(0, 1), 30);
        is("the other set is not full", x.put(1, 40), true);
        is("take(0, 20)", x.take(0, 20), true);
        is("29 are", x.put(0, 40), true);
        is("30 are again", x.put(0, 20), false);
    }

    @Sentence(promise = 5, words = TAKEN)
    static void aNumberGoesOutOfOneSetOnly() {
        PairSieve x = with(set(4), set(4), set(4));
        is("the only one", x.take(1, 4), true);
        row("the one ahead of it", x, 0, 4);
        row("the empty one", x, 1);
        row("the one behind it", x, 2, 4);
        is("AMOUNT", x.about(1, 1), 0);
        is("put(1, 4)", x.put(1, 4), true);
        row("again", x, 1, 4);
    }

    @Sentence(promise = 5, words = TAKEN)
    static void theFirstAndTheLastOf30GoOut() {
        PairSieve x = with(range(0, 30));
        is("the last", x.take(0, 29), true);
        is("the first", x.take(0, 0), true);
        is("one between", x.take(0, 15), true);
        is("about(0, 0)", x.about(0, 0), 27);
        is("AMOUNT", x.about(0, 1), 27);
        is("at(0, 0)", x.at(0, 0), 1);
        is("at(0, 13)", x.at(0, 13), 14);
        is("at(0, 14)", x.at(0, 14), 16);
        is("at(0, 26)", x.at(0, 26), 28);
        is("at(0, 27)", x.at(0, 27), NONE);
    }

    @Sentence(promise = 5, words = TAKEN)
    static void aNumberGoesOutWhateverItsFrequency() {
        PairSieve x = with(set(0, 999999), set(0, 999999), set(0));
        x.order();
        x.put(2, 5);
        is("FREQUENCY 3", x.take(0, 0), true);
        is("FREQUENCY 2", x.take(0, 999999), true);
        is("FREQUENCY 0", x.take(2, 5), true);
        row("empty", x, 0);
        row("as it was", x, 2, 0);
    }

    @Sentence(promise = 5, words = NOT_TAKEN, part = "no such RECORD")
    static void nothingGoesOutOfNoRecord() {
        PairSieve x = mixed();
        String before = state(x);
        for (int r : NO_RECORDS) {
            is("take(" + r + ", 2)", x.take(r, 2), false);
        }
        is("a dropped one", x.take(2, 5), false);
        is("all is as it was", state(x), before);
    }

    @Sentence(promise = 5, words = NOT_TAKEN, part = "it isn't there")
    static void whatIsNotThereDoesNotGoOut() {
        PairSieve x = mixed();
        String before = state(x);
        for (int v : set(0, 4, 5, 999999)) {
            is("take(0, " + v + ")", x.take(0, v), false);
        }
        for (int v : NO_NUMBERS) {
            is("take(0, " + v + ")", x.take(0, v), false);
        }
        for (int frequency = 1; frequency <= 3; frequency++) {
            is("a number and millions", x.take(0, frequency * 1000000 + 2), false);
        }
        is("all is as it was", state(x), before);
        is("take(0, 1)", x.take(0, 1), true);
        is("take(0, 1) again", x.take(0, 1), false);
        is("out of an empty set", records(1).take(0, 0), false);
    }

    @Sentence(promise = 6, words = WEIGHT, part = "is 1")
    static void theWeightIsOneForOtherMeasures() {
        PairSieve x = with(set(3, 4), set(4));
        x.weight(4, 100);
        for (int kind = 0; kind <= 4; kind++) {
            x.measure(kind, 1, 1);
            is("AMOUNT of measure " + kind, x.about(0, 1), 2);
            is("s of measure " + kind, x.like(0, 1, 0), 1);
        }
    }

    @Sentence(promise = 6, words = WEIGHT, part = "of MEASURE 5 what it was told (1 to 100; 1 at first)")
    static void theWeightIsWhatItWasTold() {
        PairSieve x = with(set(0, 999999));
        x.measure(5, 1, 1);
        is("1 at first", x.about(0, 1), 2);
        is("weight(0, 1)", x.weight(0, 1), true);
        is("the least", x.about(0, 1), 2);
        is("weight(0, 100)", x.weight(0, 100), true);
        is("the greatest", x.about(0, 1), 101);
        is("weight(999999, 100)", x.weight(999999, 100), true);
        is("both", x.about(0, 1), 200);
        is("weight(0, 1)", x.weight(0, 1), true);
        is("the least again", x.about(0, 1), 101);
    }

    @Sentence(promise = 6, words = TOLD)
    static void aWeightHoldsWheneverItIsTold() {
        PairSieve x = records(2);
        is("ahead of the measure and the set", x.weight(5, 50), true);
        x.put(0, 5);
        x.measure(5, 1, 1);
        is("told under another measure", x.about(0, 1), 50);
        is("in no set", x.weight(6, 20), true);
        x.put(0, 6);
        x.put(1, 6);
        is("put later", x.about(0, 1), 70);
        is("put later", x.about(1, 1), 20);
        x.take(0, 5);
        x.put(0, 5);
        is("put again", x.about(0, 1), 70);
        x.measure(1, 1, 1);
        x.measure(5, 1, 1);
        is("behind another measure", x.about(0, 1), 70);
        x.order();
        is("behind order()", x.about(0, 1), 70);
        write(x, 1, 1, 0);
        x.weight(0, 9);
        is("of a text", x.about(1, 1), 9);
    }

    @Sentence(promise = 6, words = NOT_TOLD, part = "no NUMBER")
    static void noNumberIsWeighed() {
        PairSieve x = mixed();
        String before = state(x);
        for (int v : NO_NUMBERS) {
            is("weight(" + v + ", 5)", x.weight(v, 5), false);
        }
        is("all is as it was", state(x), before);
        is("weight(0, 5)", x.weight(0, 5), true);
        is("weight(999999, 5)", x.weight(999999, 5), true);
    }

    @Sentence(promise = 6, words = NOT_TOLD, part = "w not 1 to 100")
    static void noOtherWeightIsTold() {
        PairSieve x = mixed();
        String before = state(x);
        for (int w : set(0, -1, 101, 102, 256, LOW, HIGH)) {
            is("weight(2, " + w + ")", x.weight(2, w), false);
        }
        is("all is as it was", state(x), before);
        is("weight(2, 1)", x.weight(2, 1), true);
        is("weight(2, 100)", x.weight(2, 100), true);
    }

    @Sentence(promise = 6, words = NOT_TOLD, part = "200 others were told")
    static void noWeightIsToldBehind200Others() {
        PairSieve x = with(set(500, 501));
        x.measure(5, 1, 1);
        for (int v = 0; v < 199; v++) {
            is("weight(" + v + ", 1)", x.weight(v, 1), true);
        }
        is("a refused one is not told", x.weight(502, 101), false);
        is("one told again is no other", x.weight(7, 2), true);
        is("199 others were told", x.weight(500, 3), true);
        is("200 others were told", x.weight(501, 4), false);
        is("its weight is 1 still", x.about(0, 1), 4);
        is("200 others were told", x.weight(0, 5), true);
        is("199 others and itself were told", x.weight(500, 6), true);
        is("it holds", x.about(0, 1), 7);
        is("the first and the last number", x.weight(999999, 5), false);
        is("w 1 is refused, too", x.weight(501, 1), false);
    }

    @Sentence(promise = 6, words = NOT_TOLD, part = "200 others were told")
    static void weightsOfNumbersThatAreGoneWereTold() {
        PairSieve x = with(set(199));
        for (int v = 199; v >= 0; v--) {
            is("weight(" + v + ", 100)", x.weight(v, 100), true);
        }
        x.take(0, 199);
        x.drop(0);
        is("the 201st", x.weight(200, 100), false);
        x.record();
        x.measure(5, 1, 1);
        x.put(1, 199);
        x.put(1, 200);
        is("AMOUNT", x.about(1, 1), 101);
    }
}
