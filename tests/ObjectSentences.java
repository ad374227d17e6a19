/** Tests of the sentences about an object as a whole. */
final class ObjectSentences extends Bench {
    private static final String AT_MOST_512 =
        "An object is used for at most 512 calls after it has been made; what later calls answer is free.";
    private static final String NEW_OBJECT = "No RECORDS, an empty TAPE.";

    private ObjectSentences() {
    }

    @Sentence(promise = 1, words = AT_MOST_512, part = "at most 512 calls")
    static void theLastOf512CallsIsAnswered() {
        PairSieve x = new PairSieve();
        is("call 1", x.record(), 0);
        for (int call = 2; call <= 511; call += 2) {
            is("call " + call, x.put(0, call % 7), true);
            is("call " + (call + 1), x.take(0, call % 7), true);
        }
        is("call 512", x.record(), 1);
    }

    @Sentence(promise = 1, words = AT_MOST_512, part = "at most 512 calls")
    static void theDearestCallsAreAnswered512Times() {
        PairSieve x = records(60);
        for (int r = 0; r < 60; r++) {
            x.put(r, 5);
        }
        for (int call = 121; call <= 512; call++) {
            is("call " + call, call % 2 == 0 ? x.pairs() : x.top(100), call % 2 == 0 ? 1770 : 100);
        }
    }

    @Sentence(promise = 1, words = AT_MOST_512, part = "what later calls answer is free")
    static void laterCallsDoNotThrow() {
        PairSieve x = records(60);
        for (int call = 61; call <= 2000; call++) {
            x.record();
            x.put(call % 60, call % 50);
            x.weight(call, 1 + call % 100);
            x.feed(call, call, call, call, call);
            x.text(call % 60, 1 + call % 2);
            x.measure(call % 6, 1, 1);
            x.order();
            x.pairs();
            x.top(1 + call % 100);
            x.core(call % 60);
        }
        is("it is a record still", x.about(0, 0) >= 0, true);
    }

    @Sentence(promise = 1, words = "The constants: `NONE = -1`: There is none.")
    static void noneIsMinusOne() {
        is("NONE", PairSieve.NONE, -1);
        is("about(0, 0) of a new object", new PairSieve().about(0, 0), -1);
    }

    @Sentence(promise = 1, words = NEW_OBJECT, part = "No RECORDS")
    static void aNewObjectHasNoRecords() {
        PairSieve x = new PairSieve();
        int[] empty = {0, 1, 2, 3, 4, 5, 6, 7, 8, 13};
        for (int what : empty) {
            is("count(" + what + ")", x.count(what), 0);
        }
        is("drop(0)", x.drop(0), false);
        is("put(0, 1)", x.put(0, 1), false);
        is("take(0, 1)", x.take(0, 1), false);
        is("text(0, 1)", x.text(0, 1), NONE);
        is("about(0, 0)", x.about(0, 0), NONE);
        is("about(0, 4)", x.about(0, 4), NONE);
        is("at(0, 0)", x.at(0, 0), NONE);
        is("like(0, 1, 0)", x.like(0, 1, 0), NONE);
        is("why(0, 1)", x.why(0, 1), NONE);
        is("core(0)", x.core(0), NONE);
        is("chain(0, 0)", x.chain(0, 0), NONE);
        is("next(0, 1)", x.next(0, 1), NONE);
        is("order()", x.order(), 0);
        is("pairs()", x.pairs(), 0);
        is("top(1)", x.top(1), 0);
        is("record()", x.record(), 0);
    }

    @Sentence(promise = 1, words = NEW_OBJECT, part = "No RECORDS")
    static void aNewObjectHasNothingOfAnother() {
        PairSieve other = mixed();
        PairSieve x = records(2);
        is("count(1)", x.count(1), 0);
        is("count(13)", x.count(13), 0);
        is("frequency(2)", x.frequency(2), 0);
        is("member(0)", x.member(0), NONE);
        is("pair(0, 0)", Due.pair(x, 0, 0), Due.THROWN);
        x.put(0, 2);
        x.measure(5, 1, 2);
        is("the other one's weight", x.about(0, 1), 1);
        is("the other one is as it was", state(other), state(mixed()));
    }

    @Sentence(promise = 1, words = NEW_OBJECT, part = "an empty TAPE")
    static void aNewObjectHasAnEmptyTape() {
        PairSieve x = new PairSieve();
        is("count(12)", x.count(12), 0);
        is("end(0)", x.end(0), 0);
        is("end(1)", x.end(1), NONE);
        x.record();
        x.put(0, 9);
        is("text(0, 1)", x.text(0, 1), 0);
        is("about(0, 0)", x.about(0, 0), 0);
        is("feed", x.feed(1, 2, 3, 4, 5), 20);
    }

    @Sentence(promise = 1, words = "At first MEASURE 1, LIMIT 1 / 2.")
    static void atFirstMeasureOneAndAHalf() {
        PairSieve x = with(set(1, 2, 3), set(2, 3, 4), set(3, 4, 5, 6));
        is("count(9)", x.count(9), 1);
        is("count(10)", x.count(10), 1);
        is("count(11)", x.count(11), 2);
        is("a half is enough", x.like(0, 1, 4), 1);
        is("a sixth is not", x.like(0, 2, 4), 0);
        is("two fifths are not", x.like(1, 2, 4), 0);
        is("LEAST", x.about(2, 2), 2);
    }
}
