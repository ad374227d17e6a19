/** Tests of the sentences about FAMILIES, CHAINS and CORES: promises 13 and 20 to 23. */
final class FamilySentences extends Bench {
    private static final String FAMILIES = "FAMILIES: RECORDS that are not DROPPED, joined by PAIRS, over others, too.";
    private static final String CHAIN_IS = "A CHAIN from one to another RECORD: a row of RECORDS, each two that follow one "
        + "another a PAIR; it is as long as it has such steps; the first of the shortest: with the lesser RECORD where they "
        + "first differ.";
    private static final String CORE_IS = "A CORE of a FAMILY: a greatest set of RECORDS any two of which are a PAIR; of "
        + "several the one with the lesser RECORD where they, the least first, first differ.";
    private static final String CORE = "How many RECORDS of the FAMILY of r a CORE has; it is kept.";
    private static final String NO_CORE = "NONE: no such RECORD; -2: the FAMILY has more than 20.";
    private static final String CHAIN = "How long a CHAIN from r to s is (0 for one and the same).";
    private static final String NO_CHAIN = "NONE: none, no such RECORDS.";
    private static final String NO_NEXT = "NONE: none, no such RECORDS, one and the same.";

    private static final int[][] NO_RECORDS = {{0, 2}, {2, 0}, {2, 2}, {2, 3}, {0, 4}, {4, 0}, {4, 4}, {4, 5}, {-1, 0},
        {0, -1}, {-1, -1}, {0, 60}, {60, 0}, {60, 60}, {LOW, 0}, {0, LOW}, {LOW, LOW}, {HIGH, 0}, {0, HIGH}, {HIGH, HIGH}};

    private FamilySentences() {
    }

    private static void familyIs(PairSieve x, int r, int least, int many) {
        is("about(" + r + ", 4)", x.about(r, 4), least);
        is("about(" + r + ", 5)", x.about(r, 5), many);
    }

    /** So many RECORDS, each a PAIR with the one behind it. */
    private static PairSieve row(int many) {
        PairSieve x = new PairSieve();
        x.measure(0, 1, 1);
        for (int r = 0; r < many; r++) {
            add(x, r, r + 1);
        }
        return x;
    }

    @Sentence(promise = 13, words = FAMILIES, part = "joined by PAIRS, over others, too")
    static void theSmallestAndTheGreatestFamily() {
        PairSieve x = records(60);
        familyIs(x, 0, 0, 1);
        familyIs(x, 59, 59, 1);
        is("each alone", x.count(8), 60);
        PairSieve y = row(60);
        familyIs(y, 0, 0, 60);
        familyIs(y, 59, 0, 60);
        is("all joined", y.count(8), 1);
    }

    @Sentence(promise = 13, words = FAMILIES, part = "RECORDS that are not DROPPED")
    static void nobodyIsJoinedOverADroppedOne() {
        PairSieve x = row(5);
        familyIs(x, 4, 0, 5);
        x.drop(0);
        familyIs(x, 4, 1, 4);
        x.drop(3);
        familyIs(x, 4, 4, 1);
        familyIs(x, 2, 1, 2);
        is("families", x.count(8), 2);
        is("about(3, 4)", x.about(3, 4), NONE);
        x.drop(1);
        x.drop(2);
        x.drop(4);
        is("none is left", x.count(8), 0);
    }

    @Sentence(promise = 13, words = FAMILIES, part = "joined by PAIRS")
    static void familiesAreOfTheSetsAsTheyAre() {
        PairSieve x = with(set(1, 2), set(1, 2), set(1, 2, 3, 4));
        familyIs(x, 2, 0, 3);
        x.put(2, 5);
        familyIs(x, 2, 2, 1);
        x.measure(1, 2, 5);
        familyIs(x, 2, 0, 3);
        x.measure(5, 2, 5);
        x.weight(5, 2);
        familyIs(x, 2, 2, 1);
        x.take(2, 5);
        familyIs(x, 2, 0, 3);
        write(x, 0, 1);
        familyIs(x, 0, 0, 1);
        familyIs(x, 2, 1, 2);
    }

    @Sentence(promise = 22, words = CHAIN_IS, part = "it is as long as it has such steps")
    static void theShortestAndTheLongestChain() {
        PairSieve x = row(60);
        is("a pair", x.chain(0, 1), 1);
        is("over one", x.chain(0, 2), 2);
        is("from end to end", x.chain(0, 59), 59);
        is("the other way round", x.chain(59, 0), 59);
        x.put(59, 0);
        is("round the other side", x.chain(0, 59), 1);
        is("half way round", x.chain(0, 30), 30);
        is("half way round", x.chain(0, 31), 29);
    }

    @Sentence(promise = 23, words = CHAIN_IS, part = "with the lesser RECORD where they first differ")
    static void theFirstOfTheShortestChains() {
        PairSieve x = net(8, edge(0, 3), edge(0, 4), edge(3, 7), edge(4, 6), edge(6, 1), edge(7, 1), edge(0, 2),
            edge(2, 5));
        is("chain(0, 1)", x.chain(0, 1), 3);
        is("by 3, though 6 is less than 7", x.next(0, 1), 3);
        is("by 6 from the other side", x.next(1, 0), 6);
        is("by 2 there is no way", x.next(0, 5), 2);
        x.put(5, 50);
        x.put(7, 50);
        is("over 2 it is longer", x.chain(0, 7), 2);
        is("over 2 it is longer", x.next(0, 7), 3);
        x.put(2, 51);
        x.put(7, 51);
        is("over 2 it is as short", x.next(0, 7), 2);
        is("over 2 it is as short", x.next(0, 1), 2);
    }

    @Sentence(promise = 22, words = CHAIN, part = "0 for one and the same")
    static void aChainToItselfIs0Long() {
        PairSieve x = records(60);
        x.put(1, 5);
        x.put(2, 5);
        for (int r : set(0, 1, 2, 59)) {
            is("chain(" + r + ", " + r + ")", x.chain(r, r), 0);
        }
    }

    @Sentence(promise = 22, words = NO_CHAIN, part = "none")
    static void noChainJoinsThem() {
        PairSieve x = row(6);
        x.drop(3);
        is("over a dropped one", x.chain(2, 4), NONE);
        is("over a dropped one", x.chain(5, 0), NONE);
        is("on one side", x.chain(2, 0), 2);
        is("on the other side", x.chain(4, 5), 1);
        x.measure(0, 2, 1);
        is("above the limit", x.chain(0, 1), NONE);
        is("two empty sets", records(2).chain(0, 1), NONE);
    }

    @Sentence(promise = 22, words = NO_CHAIN, part = "no such RECORDS")
    static void noChainOfNoRecords() {
        PairSieve x = mixed();
        for (int[] two : NO_RECORDS) {
            is("chain(" + two[0] + ", " + two[1] + ")", x.chain(two[0], two[1]), NONE);
        }
        is("chain(0, 0) of a new object", new PairSieve().chain(0, 0), NONE);
    }

    @Sentence(promise = 23, words = "The RECORD behind r in the first CHAIN from r to s.")
    static void theLastStepIsToSItself() {
        PairSieve x = row(60);
        is("a pair", x.next(0, 1), 1);
        is("a pair", x.next(59, 58), 58);
        is("from end to end", x.next(0, 59), 1);
        is("from end to end", x.next(59, 0), 58);
        is("between", x.next(30, 0), 29);
        is("between", x.next(30, 59), 31);
    }

    @Sentence(promise = 23, words = NO_NEXT, part = "none")
    static void noNextWithoutAChain() {
        PairSieve x = row(6);
        x.drop(3);
        is("over a dropped one", x.next(2, 4), NONE);
        is("over a dropped one", x.next(5, 0), NONE);
        is("on one side", x.next(2, 0), 1);
        is("two empty sets", records(2).next(0, 1), NONE);
    }

    @Sentence(promise = 23, words = NO_NEXT, part = "no such RECORDS")
    static void noNextOfNoRecords() {
        PairSieve x = mixed();
        for (int[] two : NO_RECORDS) {
            is("next(" + two[0] + ", " + two[1] + ")", x.next(two[0], two[1]), NONE);
        }
        is("next(0, 1) of a new object", new PairSieve().next(0, 1), NONE);
    }

    @Sentence(promise = 23, words = NO_NEXT, part = "one and the same")
    static void noNextToItself() {
        PairSieve x = records(60);
        x.put(1, 5);
        x.put(2, 5);
        for (int r : set(0, 1, 2, 59)) {
            is("next(" + r + ", " + r + ")", x.next(r, r), NONE);
        }
    }

    @Sentence(promise = 20, words = CORE_IS, part = "a greatest set of RECORDS any two of which are a PAIR")
    static void theGreatestIsNotTheFirst() {
        PairSieve x = net(8, edge(0, 1), edge(1, 2), edge(0, 2), edge(2, 3), edge(3, 4), edge(4, 5), edge(5, 6), edge(3, 5),
            edge(3, 6), edge(4, 6));
        is("core(0)", x.core(0), 4);
        keptCore("four, not the first three", x, 3, 4, 5, 6);
        is("core(7)", x.core(7), 1);
        keptCore("one alone", x, 7);
        is("of an empty set", records(1).core(0), 1);
    }

    @Sentence(promise = 20, words = CORE_IS, part = "the one with the lesser RECORD where they, the least first, first differ")
    static void theFirstOfTheGreatest() {
        PairSieve x = net(6, edge(0, 3), edge(0, 4), edge(3, 4), edge(0, 2), edge(0, 5), edge(2, 5));
        is("core(0)", x.core(0), 3);
        keptCore("2 is less than 3, whatever 5 is", x, 0, 2, 5);
        PairSieve y = net(6, edge(1, 2), edge(2, 3), edge(1, 3), edge(3, 0), edge(0, 4), edge(0, 5), edge(4, 5));
        is("core(3)", y.core(3), 3);
        keptCore("0 is less than 1", y, 0, 4, 5);
        PairSieve z = net(5, edge(0, 1), edge(1, 2), edge(0, 2), edge(0, 4), edge(1, 4), edge(0, 3), edge(1, 3));
        is("core(4)", z.core(4), 3);
        keptCore("they differ in the last", z, 0, 1, 2);
        z.drop(2);
        is("core(4)", z.core(4), 3);
        keptCore("they differ in the last", z, 0, 1, 3);
    }

    @Sentence(promise = 20, words = CORE, part = "it is kept")
    static void aCoreIsKept() {
        PairSieve x = row(3);
        is("ahead of any", x.member(0), NONE);
        is("core(2)", x.core(2), 2);
        keptCore("two", x, 0, 1);
        x.drop(0);
        x.drop(1);
        x.take(2, 2);
        x.measure(1, 1, 1);
        x.order();
        x.pairs();
        x.top(1);
        keptCore("as it was", x, 0, 1);
        is("core(2)", x.core(2), 1);
        keptCore("anew", x, 2);
    }

    @Sentence(promise = 20, words = CORE, part = "How many RECORDS of the FAMILY of r a CORE has")
    static void aCoreOf20() {
        PairSieve x = records(60);
        for (int r = 40; r < 60; r++) {
            x.put(r, 1);
        }
        is("core(40)", x.core(40), 20);
        keptCore("twenty", x, range(40, 20));
        is("core(59)", x.core(59), 20);
        is("core(39)", x.core(39), 1);
        keptCore("one", x, 39);
    }

    @Sentence(promise = 20, words = NO_CORE, part = "no such RECORD")
    static void noCoreOfNoRecord() {
        PairSieve x = mixed();
        String before = state(x);
        for (int r : set(-1, -2, 2, 4, 20, 59, 60, LOW, HIGH)) {
            is("core(" + r + ")", x.core(r), NONE);
        }
        is("all is as it was", state(x), before);
        is("core(0) of a new object", new PairSieve().core(0), NONE);
    }

    @Sentence(promise = 20, words = NO_CORE, part = "-2: the FAMILY has more than 20")
    static void noCoreOf21() {
        PairSieve x = row(21);
        is("a family of 21", x.about(0, 5), 21);
        for (int r : set(0, 10, 20)) {
            is("core(" + r + "), though it would be two", x.core(r), -2);
        }
        is("none is kept", x.member(0), NONE);
        x.drop(20);
        is("a family of 20", x.core(19), 2);
        keptCore("two", x, 0, 1);
        PairSieve y = records(60);
        for (int r = 0; r < 60; r++) {
            y.put(r, 1);
        }
        is("a family of 60", y.core(59), -2);
        for (int r = 0; r < 40; r++) {
            y.drop(r);
        }
        is("20 of them are left", y.core(59), 20);
        is("member(0)", y.member(0), 40);
    }

    @Sentence(promise = 20, words = NO_CORE, part = "-2: the FAMILY has more than 20")
    static void aRefusedCoreChangesNothing() {
        PairSieve x = mixed();
        for (int r = 4; r < 22; r++) {
            add(x, 1, 2);
        }
        is("20 and one that is dropped", x.about(0, 5), 21);
        String before = state(x);
        is("core(0)", x.core(0), -2);
        is("core(21)", x.core(21), -2);
        is("all is as it was", state(x), before);
    }

    @Sentence(promise = 21, words = "The i-th RECORD of the CORE kept, the least first.")
    static void theFirstAndTheLastMember() {
        PairSieve x = net(60, edge(59, 0), edge(59, 31), edge(0, 31), edge(32, 33));
        x.core(31);
        is("member(0)", x.member(0), 0);
        is("member(1)", x.member(1), 31);
        is("member(2)", x.member(2), 59);
        x.core(33);
        keptCore("another one", x, 32, 33);
    }

    @Sentence(promise = 21, words = "NONE without one.")
    static void noMember() {
        PairSieve x = net(3, edge(0, 1));
        for (int i : set(-1, 0, 1, LOW, HIGH)) {
            is("ahead of any core: member(" + i + ")", x.member(i), NONE);
        }
        x.core(0);
        for (int i : set(-1, 2, 3, 19, 20, 60, 63, 64, LOW, HIGH)) {
            is("member(" + i + ") of two", x.member(i), NONE);
        }
        x.core(2);
        is("member(1) of one", x.member(1), NONE);
        PairSieve y = records(20);
        for (int r = 0; r < 20; r++) {
            y.put(r, 1);
        }
        y.core(0);
        is("member(19) of 20", y.member(19), 19);
        is("member(20) of 20", y.member(20), NONE);
    }
}
