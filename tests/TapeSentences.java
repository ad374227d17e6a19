/** Tests of the sentences about the TAPE and its texts: promises 7 to 9. */
final class TapeSentences extends Bench {
    private static final String FEED = "Twenty bytes come behind the TAPE, of each number the highest first: how many it "
        + "has; NONE if these would be more than 80.";
    private static final String END = "The TAPE has its first n bytes alone: n; NONE if it has less, or n is below 0.";
    private static final String TEXT = "A SET becomes that of the TAPE's pieces of q bytes (1 or 2; the TAPE is empty "
        + "then): for each place where one begins 8 times the bytes as a number (0 to 255 each, the first one highest), "
        + "and how many like ones are ahead of it, if these are fewer than 8 (others give nothing): how many NUMBERS.";
    private static final String NO_TEXT = "NONE, and nothing changes: no such RECORD, other q, more than 30.";

    private TapeSentences() {
    }

    @Sentence(promise = 7, words = FEED, part = "Twenty bytes come behind the TAPE")
    static void bytesComeBehindWhatIsThere() {
        PairSieve x = records(1);
        is("behind an empty one", x.feed(0x01020304, 0x05060708, 0x090A0B0C, 0x0D0E0F10, 0x11121314), 20);
        is("behind 20", x.feed(0x15161718, 0x191A1B1C, 0x1D1E1F20, 0x21222324, 0x25262728), 40);
        is("end(30)", x.end(30), 30);
        is("text(0, 1)", x.text(0, 1), 30);
        for (int i = 0; i < 30; i++) {
            is("at(0, " + i + ")", x.at(0, i), 8 * (i + 1));
        }
        is("behind none again", x.feed(0, 0, 0, 0, 0), 20);
    }

    @Sentence(promise = 7, words = FEED, part = "of each number the highest first")
    static void theHighestByteOfEachNumberIsFirst() {
        PairSieve x = records(1);
        x.feed(0x00000001, 0x80000000, 0xFFFFFFFF, 0x7FFFFFFF, 0x01020304);
        is("pieces of two tell which one is ahead", x.text(0, 2), 19);
        int[] words = {0, 0, 0x0001, 0x0180, 0x8000, 0, 0, 0x00FF, 0xFFFF, 0xFFFF, 0xFFFF, 0xFF7F, 0x7FFF, 0xFFFF,
            0xFFFF, 0xFF01, 0x0102, 0x0203, 0x0304};
        row("each word, and how many are ahead", x, 0, numbersOf(words));
    }

    /** The NUMBERS of such pieces, the least first. */
    private static int[] numbersOf(int... pieces) {
        int[] numbers = new int[pieces.length];
        for (int i = 0; i < pieces.length; i++) {
            int ahead = 0;
            for (int k = 0; k < i; k++) {
                ahead += pieces[k] == pieces[i] ? 1 : 0;
            }
            numbers[i] = 8 * pieces[i] + ahead;
        }
        java.util.Arrays.sort(numbers);
        return numbers;
    }

    @Sentence(promise = 7, words = FEED, part = "NONE if these would be more than 80")
    static void theTapeHasNoMoreThan80() {
        PairSieve x = new PairSieve();
        for (int i = 1; i <= 4; i++) {
            is("feed " + i, x.feed(i, i, i, i, i), 20 * i);
        }
        is("behind 80", x.feed(9, 9, 9, 9, 9), NONE);
        for (int n : set(79, 70, 62, 61)) {
            x.end(n);
            is("behind " + n, x.feed(9, 9, 9, 9, 9), NONE);
            is("count(12)", x.count(12), n);
        }
        x.end(60);
        is("behind 60", x.feed(9, 9, 9, 9, 9), 80);
        is("behind 80 again", x.feed(9, 9, 9, 9, 9), NONE);
        is("end(80)", x.end(80), 80);
    }

    @Sentence(promise = 7, words = FEED, part = "NONE if these would be more than 80")
    static void refusedBytesAreNotThere() {
        PairSieve x = records(1);
        for (int i = 0; i < 4; i++) {
            x.feed(0x01010101, 0x01010101, 0x01010101, 0x01010101, 0x01010101);
        }
        x.end(61);
        is("behind 61", x.feed(0x02020202, 0x02020202, 0x02020202, 0x02020202, 0x02020202), NONE);
        is("text(0, 1)", x.text(0, 1), 8);
        row("of the old bytes alone", x, 0, range(8, 8));
    }

    @Sentence(promise = 8, words = END, part = "The TAPE has its first n bytes alone: n")
    static void theFirstBytesAreLeft() {
        PairSieve x = records(1);
        is("none of none", x.end(0), 0);
        x.feed(0x01020304, 0x05060708, 0, 0, 0);
        is("all", x.end(20), 20);
        is("all but one", x.end(19), 19);
        is("two", x.end(2), 2);
        x.feed(0x09000000, 0, 0, 0, 0);
        is("what comes then is behind them", x.end(3), 3);
        is("text(0, 1)", x.text(0, 1), 3);
        row("the first two and the new one", x, 0, 8, 16, 72);
        x.feed(1, 2, 3, 4, 5);
        is("one", x.end(1), 1);
        is("none", x.end(0), 0);
        is("count(12)", x.count(12), 0);
        is("text of none", x.text(0, 1), 0);
    }

    @Sentence(promise = 8, words = END, part = "NONE if it has less")
    static void theTapeDoesNotGrowAtItsEnd() {
        PairSieve x = mixed();
        String before = state(x);
        for (int n : set(8, 20, 80, 81, 256, HIGH)) {
            is("end(" + n + ") of 7", x.end(n), NONE);
        }
        is("all is as it was", state(x), before);
        is("the same many", x.end(7), 7);
        is("text(0, 1)", x.text(0, 1), 7);
        row("the bytes", x, 0, 8, 16, 24, 32, 40, 48, 56);
        is("of an empty one", x.end(1), NONE);
    }

    @Sentence(promise = 8, words = END, part = "or n is below 0")
    static void theTapeHasNoLengthBelow0() {
        PairSieve x = mixed();
        String before = state(x);
        for (int n : set(-1, -7, -80, LOW)) {
            is("end(" + n + ")", x.end(n), NONE);
        }
        is("all is as it was", state(x), before);
        is("of an empty one", new PairSieve().end(-1), NONE);
    }

    @Sentence(promise = 9, words = TEXT, part = "A SET becomes that of the TAPE's pieces")
    static void theOldSetIsGone() {
        PairSieve x = with(range(100, 30), set(8, 9), set(5));
        is("in place of a full one", write(x, 0, 1, 1, 2), 2);
        row("the new one", x, 0, 8, 16);
        is("in place of numbers that it has, too", write(x, 1, 1, 1, 1, 1), 3);
        row("the new one", x, 1, 8, 9, 10);
        row("another one", x, 2, 5);
        is("AMOUNT", x.about(1, 1), 3);
        is("count(1)", x.count(1), 6);
    }

    @Sentence(promise = 9, words = TEXT, part = "1 or 2")
    static void piecesHaveOneOrTwoBytes() {
        PairSieve x = records(2);
        is("q 1", write(x, 0, 1, 3, 4), 2);
        row("two pieces", x, 0, 24, 32);
        is("q 2", write(x, 1, 2, 3, 4), 1);
        row("one piece", x, 1, 8 * (3 * 256 + 4));
    }

    @Sentence(promise = 9, words = TEXT, part = "the TAPE is empty then")
    static void theTapeIsEmptyThen() {
        PairSieve x = records(1);
        write(x, 0, 1, 3, 4);
        is("count(12)", x.count(12), 0);
        is("end(1)", x.end(1), NONE);
        is("the next text", x.text(0, 1), 0);
        write(x, 0, 2, 3);
        is("without a piece, too", x.count(12), 0);
        x.feed(1, 2, 3, 4, 5);
        x.feed(1, 2, 3, 4, 5);
        x.feed(1, 2, 3, 4, 5);
        x.feed(1, 2, 3, 4, 5);
        is("of a full one", x.text(0, 1), 28);
        is("count(12)", x.count(12), 0);
        is("feed", x.feed(1, 2, 3, 4, 5), 20);
    }

    @Sentence(promise = 9, words = TEXT, part = "for each place where one begins")
    static void aPieceBeginsWhereQBytesFollow() {
        PairSieve x = with(set(1, 2));
        is("no byte, q 1", x.text(0, 1), 0);
        row("an empty set", x, 0);
        x.put(0, 1);
        is("no byte, q 2", x.text(0, 2), 0);
        row("an empty set", x, 0);
        is("one byte, q 1", write(x, 0, 1, 0), 1);
        row("one piece", x, 0, 0);
        is("one byte, q 2", write(x, 0, 2, 0), 0);
        row("no piece", x, 0);
        is("two bytes, q 2", write(x, 0, 2, 0, 0), 1);
        row("one piece", x, 0, 0);
        is("three bytes, q 2", write(x, 0, 2, 0, 1, 0), 2);
        row("pieces lie over one another", x, 0, 8, 2048);
    }

    @Sentence(promise = 9, words = TEXT, part = "0 to 255 each, the first one highest")
    static void bytesAre0To255() {
        PairSieve x = records(1);
        is("q 1", write(x, 0, 1, 0, 127, 128, 255), 4);
        row("none is below 0", x, 0, 0, 1016, 1024, 2040);
        is("q 2", write(x, 0, 2, 255, 255), 1);
        row("the greatest", x, 0, 524280);
        is("q 2", write(x, 0, 2, 255, 0, 255), 2);
        row("the first one is the highest", x, 0, 8 * 255, 8 * 255 * 256);
        is("the greatest of all", write(x, 0, 2, 255, 255, 255, 255, 255, 255, 255, 255, 255, 255), 8);
        is("at(0, 7)", x.at(0, 7), 524287);
    }

    @Sentence(promise = 9, words = TEXT, part = "how many like ones are ahead of it, if these are fewer than 8")
    static void likeOnesAreToldApart() {
        PairSieve x = records(1);
        is("seven like ones", write(x, 0, 1, 5, 5, 5, 5, 5, 5, 5), 7);
        row("0 to 6 ahead", x, 0, range(40, 7));
        is("eight like ones", write(x, 0, 1, 5, 5, 5, 5, 5, 5, 5, 5), 8);
        row("0 to 7 ahead", x, 0, range(40, 8));
        is("others between", write(x, 0, 1, 5, 6, 5, 6, 6, 5), 6);
        row("0 to 2 ahead", x, 0, 40, 41, 42, 48, 49, 50);
        is("like words", write(x, 0, 2, 5, 6, 5, 6, 5, 6), 5);
        row("not like bytes", x, 0, numbersOf(0x0506, 0x0605, 0x0506, 0x0605, 0x0506));
    }

    @Sentence(promise = 9, words = TEXT, part = "(others give nothing)")
    static void theNinthLikeOneGivesNothing() {
        PairSieve x = records(1);
        is("nine like ones", write(x, 0, 1, 5, 5, 5, 5, 5, 5, 5, 5, 5), 8);
        row("eight of them", x, 0, range(40, 8));
        is("ten bytes, nine like words", write(x, 0, 2, 0, 0, 0, 0, 0, 0, 0, 0, 0, 0), 8);
        row("eight of them", x, 0, range(0, 8));
        is("another one behind them", write(x, 0, 1, 5, 5, 5, 5, 5, 5, 5, 5, 5, 5, 4, 6), 10);
        row("it gives a number", x, 0, 32, 40, 41, 42, 43, 44, 45, 46, 47, 48);
        is("80 like ones", write(x, 0, 1, new int[80]), 8);
        is("80 like ones, q 2", write(x, 0, 2, new int[80]), 8);
    }

    @Sentence(promise = 9, words = NO_TEXT, part = "no such RECORD")
    static void noSuchRecordBecomesAText() {
        PairSieve x = mixed();
        String before = state(x);
        for (int r : set(-1, 2, 4, 59, 60, LOW, HIGH)) {
            is("text(" + r + ", 1)", x.text(r, 1), NONE);
            is("text(" + r + ", 2)", x.text(r, 2), NONE);
        }
        is("all is as it was", state(x), before);
        is("the tape, too", x.text(0, 1), 7);
        is("of an empty tape", x.text(4, 1), NONE);
    }

    @Sentence(promise = 9, words = NO_TEXT, part = "other q")
    static void noOtherPieces() {
        PairSieve x = mixed();
        String before = state(x);
        for (int q : set(0, 3, -1, 4, LOW, HIGH)) {
            is("text(0, " + q + ")", x.text(0, q), NONE);
        }
        is("all is as it was", state(x), before);
        is("the tape, too", x.text(0, 2), 6);
        is("of an empty tape", x.text(0, 0), NONE);
        is("of an empty tape", x.text(0, 3), NONE);
        is("the set", x.about(0, 0), 6);
    }

    @Sentence(promise = 9, words = NO_TEXT, part = "more than 30")
    static void aSetTakesNoMoreThan30() {
        PairSieve x = with(set(1, 2), set());
        is("31 bytes", write(x, 0, 1, range(100, 31)), NONE);
        is("the tape is as it was", x.count(12), 31);
        row("the set is as it was", x, 0, 1, 2);
        is("30 words of them", x.text(1, 2), 30);
        is("30 bytes", write(x, 0, 1, range(100, 30)), 30);
        is("at(0, 29)", x.at(0, 29), 8 * 129);
        is("31 words", write(x, 1, 2, range(100, 32)), NONE);
        is("the tape is as it was", x.count(12), 32);
        is("the set is as it was", x.about(1, 0), 30);
        is("80 bytes", write(x, 1, 1, range(100, 80)), NONE);
        is("the tape is as it was", x.count(12), 80);
        is("feed", x.feed(0, 0, 0, 0, 0), NONE);
    }

    @Sentence(promise = 9, words = NO_TEXT, part = "more than 30")
    static void piecesThatGiveNothingAreNotAmongThe30() {
        PairSieve x = records(1);
        int[] bytes = new int[80];
        System.arraycopy(range(1, 22), 0, bytes, 58, 22);
        is("58 like ones and 22 others", write(x, 0, 1, bytes), 30);
        is("at(0, 7)", x.at(0, 7), 7);
        is("at(0, 8)", x.at(0, 8), 8);
        is("at(0, 29)", x.at(0, 29), 176);
        bytes[57] = 23;
        is("57 like ones and 23 others", write(x, 0, 1, bytes), NONE);
        is("the set is as it was", x.at(0, 29), 176);
        is("the tape is as it was", x.count(12), 80);
    }
}
