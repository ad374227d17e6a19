/** One test for each promise of the document: ordinary inputs, the edges that it names, wrong inputs. */
public final class PromiseTests extends Bench {
    private PromiseTests() {
    }

    public static void main(String[] args) {
        promise1NewObject();
        promise1ObjectsAreApart();
        promise2Record();
        promise2AllRecords();
        promise3Drop();
        promise3DropLeavesWhatIsKept();
        promise4Put();
        promise5Take();
        promise6Weight();
        promise6OnlyOfMeasure5();
        promise6TwoHundredOthers();
        promise7Feed();
        promise8End();
        promise9TextOfSingleBytes();
        promise9TextOfTwoBytes();
        promise9TextThatChangesNothing();
        promise9TextStandsInOrder();
        promise9TextJoinsFamilies();
        promise10Measure();
        promise11Order();
        promise12Frequency();
        promise13AboutShares();
        promise13AboutWeighted();
        promise13AboutFamilies();
        promise14At();
        promise15LikeOfEachMeasure();
        promise15LikeOfEmptySets();
        promise15LimitsAreExact();
        promise16Why();
        promise16WhyByOrder();
        promise16WhyByWeights();
        promise17Pairs();
        promise18Pair();
        promise19Top();
        promise19TopOfMany();
        promise20Core();
        promise20CoreOfLargeFamilies();
        promise21Member();
        promise22Chain();
        promise23Next();
        promise24Count();
        DUE.close();
    }

    private static void promise1NewObject() {
        DUE.about("promise 1");
        PairSieve x = new PairSieve();
        is("NONE", PairSieve.NONE, -1);
        int[] counts = {0, 0, 0, 0, 0, 0, 0, 0, 0, 1, 1, 2, 0, 0};
        for (int what = 0; what < counts.length; what++) {
            is("count(" + what + ")", x.count(what), counts[what]);
        }
        is("at(0, 0)", x.at(0, 0), NONE);
        is("about(0, 0)", x.about(0, 0), NONE);
        is("member(0)", x.member(0), NONE);
        is("pair(0, 0)", Due.pair(x, 0, 0), Due.THROWN);
        is("frequency(0)", x.frequency(0), 0);
        is("end(1)", x.end(1), NONE);
        is("end(0)", x.end(0), 0);
        is("order()", x.order(), 0);
        is("pairs()", x.pairs(), 0);
        is("top(100)", x.top(100), 0);
        is("record()", x.record(), 0);
    }

    private static void promise1ObjectsAreApart() {
        DUE.about("promise 1, two objects");
        PairSieve x = with(set(1, 2), set(1, 2));
        x.measure(5, 1, 3);
        x.weight(1, 50);
        x.feed(1, 2, 3, 4, 5);
        x.order();
        x.pairs();
        x.core(0);
        PairSieve y = new PairSieve();
        is("count(0)", y.count(0), 0);
        is("count(9)", y.count(9), 1);
        is("count(12)", y.count(12), 0);
        is("count(13)", y.count(13), 0);
        is("frequency(1)", y.frequency(1), 0);
        is("member(0)", y.member(0), NONE);
        is("count(13) of the first", x.count(13), 1);
    }

    private static void promise2Record() {
        DUE.about("promise 2");
        PairSieve x = new PairSieve();
        is("record()", x.record(), 0);
        x.put(0, 3);
        is("drop(0)", x.drop(0), true);
        is("record() behind a dropped one", x.record(), 1);
        is("a new set", x.about(1, 0), 0);
        is("at(1, 0)", x.at(1, 0), NONE);
        for (int r = 2; r < 60; r++) {
            is("record()", x.record(), r);
        }
        is("the 61st", x.record(), NONE);
        is("drop(59)", x.drop(59), true);
        is("dropped ones count, too", x.record(), NONE);
        is("count(0)", x.count(0), 58);
    }

    private static void promise2AllRecords() {
        DUE.about("promise 2, all records there can be");
        PairSieve x = new PairSieve();
        for (int r = 0; r < 60; r++) {
            add(x, 7, 1000 + r);
        }
        is("drop(60)", x.drop(60), false);
        is("put(60, 1)", x.put(60, 1), false);
        is("take(60, 7)", x.take(60, 7), false);
        is("text(60, 1)", x.text(60, 1), NONE);
        is("about(60, 4)", x.about(60, 4), NONE);
        is("at(60, 0)", x.at(60, 0), NONE);
        is("like(59, 60, 0)", x.like(59, 60, 0), NONE);
        is("why(60, 59)", x.why(60, 59), NONE);
        is("core(60)", x.core(60), NONE);
        is("chain(60, 60)", x.chain(60, 60), NONE);
        is("next(59, 60)", x.next(59, 60), NONE);
        is("order()", x.order(), 61);
        is("at(59, 0)", x.at(59, 0), 1059);
        is("pairs()", x.pairs(), 0);
        is("top(100)", x.top(100), 100);
        kept("like ones by their records", x, allWithSharedOne());
        is("count(8)", x.count(8), 60);
        x.measure(0, 1, 1);
        is("count(8)", x.count(8), 1);
        is("chain(0, 59)", x.chain(0, 59), 1);
        is("core(59)", x.core(59), -2);
        is("pairs()", x.pairs(), 1770);
    }

    /** The first hundred twos of 60 RECORDS, each of which shares one NUMBER. */
    private static int[][] allWithSharedOne() {
        int[][] twos = new int[100][];
        for (int i = 0; i < 100; i++) {
            twos[i] = i < 59 ? set(0, i + 1, 1) : set(1, i - 57, 1);
        }
        return twos;
    }

    private static void promise3Drop() {
        DUE.about("promise 3");
        PairSieve x = with(set(1, 2), set(1, 2), set(1, 2));
        is("drop(-1)", x.drop(-1), false);
        is("drop(3)", x.drop(3), false);
        is("drop(60)", x.drop(60), false);
        is("drop(LOW)", x.drop(LOW), false);
        is("drop(HIGH)", x.drop(HIGH), false);
        is("count(0)", x.count(0), 3);
        is("core(0)", x.core(0), 3);
        is("drop(1)", x.drop(1), true);
        is("drop(1) again", x.drop(1), false);
        is("put", x.put(1, 5), false);
        is("take", x.take(1, 1), false);
        is("text", x.text(1, 1), NONE);
        is("at", x.at(1, 0), NONE);
        for (int what = 0; what < 6; what++) {
            is("about(1, " + what + ")", x.about(1, what), NONE);
        }
        is("like", x.like(0, 1, 0), NONE);
        is("like", x.like(1, 2, 4), NONE);
        is("why", x.why(1, 0), NONE);
        is("core", x.core(1), NONE);
        is("chain", x.chain(1, 1), NONE);
        is("chain", x.chain(0, 1), NONE);
        is("next", x.next(1, 0), NONE);
        is("count(0)", x.count(0), 2);
        is("count(1)", x.count(1), 4);
        is("about(0, 5)", x.about(0, 5), 2);
        is("pairs()", x.pairs(), 1);
        is("top(9)", x.top(9), 1);
        is("count(8)", x.count(8), 1);
    }

    private static void promise3DropLeavesWhatIsKept() {
        DUE.about("promise 3, what is kept");
        PairSieve x = with(set(1, 2), set(1, 2), set(1, 3));
        x.order();
        x.pairs();
        x.core(1);
        x.drop(1);
        kept("pairs", x, set(0, 1, 2));
        keptCore("core", x, 0, 1);
        is("frequency(1)", x.frequency(1), 3);
        is("count(2)", x.count(2), 1);
        is("count(8)", x.count(8), 2);
    }

    private static void promise4Put() {
        DUE.about("promise 4");
        PairSieve x = new PairSieve();
        is("put before any record", x.put(0, 1), false);
        x.record();
        is("put(0, 0)", x.put(0, 0), true);
        is("put(0, 999999)", x.put(0, 999999), true);
        is("put(0, 1000000)", x.put(0, 1000000), false);
        is("put(0, -1)", x.put(0, -1), false);
        is("put(0, LOW)", x.put(0, LOW), false);
        is("put(0, HIGH)", x.put(0, HIGH), false);
        is("put(0, 0) again", x.put(0, 0), false);
        is("put(-1, 5)", x.put(-1, 5), false);
        is("put(1, 5)", x.put(1, 5), false);
        is("put(HIGH, 5)", x.put(HIGH, 5), false);
        is("put(LOW, 5)", x.put(LOW, 5), false);
        row("two", x, 0, 0, 999999);
        for (int v = 28; v >= 1; v--) {
            is("put(0, " + v + ")", x.put(0, v), true);
        }
        is("the 31st", x.put(0, 500), false);
        is("there and full", x.put(0, 5), false);
        is("about(0, 0)", x.about(0, 0), 30);
        is("at(0, 28)", x.at(0, 28), 28);
        is("take", x.take(0, 999999), true);
        is("room again", x.put(0, 500), true);
        x.order();
        is("there after order()", x.put(0, 500), false);
        x.take(0, 500);
        is("gone after order()", x.put(0, 500), true);
    }

    private static void promise5Take() {
        DUE.about("promise 5");
        PairSieve x = with(set(4, 8, 15), set(8));
        is("take(0, 5)", x.take(0, 5), false);
        is("take(0, -1)", x.take(0, -1), false);
        is("take(0, 1000004)", x.take(0, 1000004), false);
        is("take(0, LOW)", x.take(0, LOW), false);
        is("take(0, HIGH)", x.take(0, HIGH), false);
        is("take(-1, 8)", x.take(-1, 8), false);
        is("take(2, 8)", x.take(2, 8), false);
        is("take(HIGH, 8)", x.take(HIGH, 8), false);
        is("take(0, 8)", x.take(0, 8), true);
        is("take(0, 8) again", x.take(0, 8), false);
        row("without 8", x, 0, 4, 15);
        row("the other one", x, 1, 8);
        x.order();
        is("a key of another frequency", x.take(0, 1000004), false);
        is("take(0, 4) after order()", x.take(0, 4), true);
        is("take(0, 15)", x.take(0, 15), true);
        is("about(0, 0)", x.about(0, 0), 0);
        is("about(0, 1)", x.about(0, 1), 0);
        is("take from an empty set", x.take(0, 15), false);
    }

    private static void promise6Weight() {
        DUE.about("promise 6");
        PairSieve x = with(set(1, 2));
        x.measure(5, 1, 2);
        is("weight(-1, 5)", x.weight(-1, 5), false);
        is("weight(1000000, 5)", x.weight(1000000, 5), false);
        is("weight(LOW, 5)", x.weight(LOW, 5), false);
        is("weight(HIGH, 5)", x.weight(HIGH, 5), false);
        is("weight(1, 0)", x.weight(1, 0), false);
        is("weight(1, 101)", x.weight(1, 101), false);
        is("weight(1, LOW)", x.weight(1, LOW), false);
        is("weight(1, HIGH)", x.weight(1, HIGH), false);
        is("1 at first", x.about(0, 1), 2);
        is("weight(1, 100)", x.weight(1, 100), true);
        is("of a set that is there", x.about(0, 1), 101);
        is("weight(1, 1)", x.weight(1, 1), true);
        is("told again", x.about(0, 1), 2);
        is("weight(0, 7)", x.weight(0, 7), true);
        is("weight(999999, 9)", x.weight(999999, 9), true);
        x.put(0, 0);
        x.put(0, 999999);
        is("of numbers put later", x.about(0, 1), 18);
        x.take(0, 0);
        is("taken", x.about(0, 1), 11);
        x.order();
        is("behind order()", x.about(0, 1), 11);
    }

    private static void promise6OnlyOfMeasure5() {
        DUE.about("promise 6, of measure 5 only");
        PairSieve x = with(set(1, 2), set(2));
        is("weight(2, 10)", x.weight(2, 10), true);
        for (int kind = 0; kind < 5; kind++) {
            x.measure(kind, 1, 1);
            is("about(0, 1) of " + kind, x.about(0, 1), 2);
            is("like(0, 1, 0) of " + kind, x.like(0, 1, 0), 1);
        }
        x.measure(5, 1, 1);
        is("about(0, 1) of 5", x.about(0, 1), 11);
        is("like(0, 1, 0) of 5", x.like(0, 1, 0), 10);
        x.weight(2, 20);
        is("like(0, 1, 0) then", x.like(0, 1, 0), 20);
        is("why by the new weights", x.why(0, 1), 1);
        x.measure(5, 20, 21);
        is("chain", x.chain(0, 1), 1);
        x.weight(1, 2);
        is("chain by the new weights", x.chain(0, 1), NONE);
    }

    private static void promise6TwoHundredOthers() {
        DUE.about("promise 6, 200 others");
        PairSieve x = with(set(0, 199, 5000));
        x.measure(5, 1, 2);
        for (int v = 0; v < 199; v++) {
            is("weight(" + v + ", 1)", x.weight(v, 1), true);
        }
        is("a refused one is not told", x.weight(5000, 0), false);
        is("a told one again", x.weight(0, 3), true);
        is("the 200th", x.weight(199, 4), true);
        is("the 201st", x.weight(5000, 5), false);
        is("a told one when all are", x.weight(199, 6), true);
        is("the first one, too", x.weight(0, 7), true);
        is("about(0, 1)", x.about(0, 1), 14);
    }

    private static void promise7Feed() {
        DUE.about("promise 7");
        PairSieve x = new PairSieve();
        x.record();
        is("feed", x.feed(0x01020304, 0xFFFEFDFC, 0x80000000, 5, 0x00060700), 20);
        is("count(12)", x.count(12), 20);
        is("end(8)", x.end(8), 8);
        is("text", x.text(0, 1), 8);
        row("the bytes", x, 0, 8, 16, 24, 32, 2016, 2024, 2032, 2040);
        for (int i = 1; i <= 4; i++) {
            is("feed", x.feed(0, 0, 0, 0, i), 20 * i);
        }
        is("the 81st byte", x.feed(9, 9, 9, 9, 9), NONE);
        is("count(12)", x.count(12), 80);
        x.end(61);
        is("81 bytes", x.feed(9, 9, 9, 9, 9), NONE);
        is("count(12)", x.count(12), 61);
        x.end(60);
        is("80 bytes", x.feed(9, 9, 9, 9, 9), 80);
        x.end(0);
        is("from the start", x.feed(HIGH, LOW, -1, 0, 1), 20);
        x.text(0, 1);
        row("HIGH, LOW, -1, 0, 1", x, 0,
            0, 1, 2, 3, 4, 5, 6, 7, 8, 1016, 1024, 2040, 2041, 2042, 2043, 2044, 2045, 2046);
    }

    private static void promise8End() {
        DUE.about("promise 8");
        PairSieve x = new PairSieve();
        x.record();
        is("end(0)", x.end(0), 0);
        is("end(1)", x.end(1), NONE);
        x.feed(0x01020304, 0x05060708, 0, 0, 0);
        is("end(20)", x.end(20), 20);
        is("end(21)", x.end(21), NONE);
        is("end(-1)", x.end(-1), NONE);
        is("end(LOW)", x.end(LOW), NONE);
        is("end(HIGH)", x.end(HIGH), NONE);
        is("nothing changed", x.count(12), 20);
        is("end(3)", x.end(3), 3);
        is("end(4)", x.end(4), NONE);
        is("feed behind it", x.feed(0x09000000, 0, 0, 0, 0), 23);
        is("end(4)", x.end(4), 4);
        is("text", x.text(0, 1), 4);
        row("the first ones", x, 0, 8, 16, 24, 72);
    }

    private static void promise9TextOfSingleBytes() {
        DUE.about("promise 9, q 1");
        PairSieve x = with(set(5, 6, 7));
        x.feed(0xFFFFFFFF, 0xFFFFFFFF, 0xFF41FFFF, 0x41000000, 0);
        is("end(13)", x.end(13), 13);
        is("eight like ones, others give nothing", x.text(0, 1), 10);
        row("in place of the set", x, 0, 520, 521, 2040, 2041, 2042, 2043, 2044, 2045, 2046, 2047);
        is("the tape is empty", x.count(12), 0);
        is("an empty tape", x.text(0, 1), 0);
        is("about(0, 0)", x.about(0, 0), 0);
        for (int i = 0; i < 4; i++) {
            x.feed(0, 0, 0, 0, 0);
        }
        is("80 like ones", x.text(0, 1), 8);
        row("8 of them", x, 0, 0, 1, 2, 3, 4, 5, 6, 7);
    }

    private static void promise9TextOfTwoBytes() {
        DUE.about("promise 9, q 2");
        PairSieve x = with(set(1), set(2));
        x.feed(0xFFFF0102, 0x01020000, 0, 0, 0);
        x.end(6);
        is("pieces lie over one another", x.text(1, 2), 5);
        row("the first byte is the highest", x, 1, 2064, 2065, 4104, 522248, 524280);
        row("the other one", x, 0, 1);
        x.feed(0x61616161, 0x61616161, 0x61616161, 0x61616161, 0x61616161);
        is("like ones", x.text(1, 2), 8);
        is("at(1, 7)", x.at(1, 7), 8 * 24929 + 7);
        x.feed(7, 7, 7, 7, 7);
        x.end(1);
        is("no place for two bytes", x.text(1, 2), 0);
        is("about(1, 0)", x.about(1, 0), 0);
        is("the tape is empty", x.count(12), 0);
        x.feed(0x00010000, 0, 0, 0, 0);
        x.end(3);
        is("two pieces", x.text(1, 2), 2);
        row("with a zero in front", x, 1, 8, 2048);
    }

    private static void promise9TextThatChangesNothing() {
        DUE.about("promise 9, NONE");
        PairSieve x = with(set(3, 4), set(9));
        x.drop(1);
        x.feed(0x01020304, 0x05060708, 0x090A0B0C, 0x0D0E0F10, 0x11121314);
        x.feed(0x15161718, 0x191A1B1C, 0x1D1E1F20, 0, 0);
        x.end(31);
        int[][] wrong = {{0, 0}, {0, 3}, {0, -1}, {0, LOW}, {0, HIGH}, {-1, 1}, {1, 1}, {2, 1}, {LOW, 1}, {HIGH, 2}};
        for (int[] call : wrong) {
            is("text(" + call[0] + ", " + call[1] + ")", x.text(call[0], call[1]), NONE);
        }
        is("31 numbers", x.text(0, 1), NONE);
        row("the set as it was", x, 0, 3, 4);
        is("the tape as it was", x.count(12), 31);
        is("30 numbers", x.text(0, 2), 30);
        is("at(0, 29)", x.at(0, 29), 8 * (30 * 256 + 31));
        is("about(0, 3)", x.about(0, 3), 16);
    }

    private static void promise9TextStandsInOrder() {
        DUE.about("promise 9, order");
        PairSieve x = with(set(8, 16), set(8));
        x.measure(5, 1, 2);
        x.weight(24, 10);
        x.order();
        x.feed(0x01020300, 0, 0, 0, 0);
        x.end(3);
        is("text", x.text(1, 1), 3);
        row("by frequency", x, 1, 24, 16, 8);
        is("by weight", x.about(1, 1), 12);
        is("both", x.like(0, 1, 0), 2);
        is("the frequencies stay", x.frequency(8), 2);
        is("frequency(24)", x.frequency(24), 0);
    }

    private static void promise9TextJoinsFamilies() {
        DUE.about("promise 9, families");
        PairSieve x = with(set(8), set(16));
        is("chain(0, 1)", x.chain(0, 1), NONE);
        x.feed(0x01000000, 0, 0, 0, 0);
        x.end(1);
        x.text(1, 1);
        is("chain(0, 1)", x.chain(0, 1), 1);
        is("count(8)", x.count(8), 1);
        x.text(0, 1);
        is("chain(0, 1)", x.chain(0, 1), NONE);
        is("core(1)", x.core(1), 1);
    }

    private static void promise10Measure() {
        DUE.about("promise 10");
        PairSieve x = new PairSieve();
        int[][] right = {{0, 1, 1}, {0, 3000, 1}, {1, 1, 1}, {1, 1000, 1000}, {1, 1, 1000}, {2, 4, 8}, {3, 1, 1000},
            {4, 1000, 1000}, {5, 999, 1000}};
        int[][] wrong = {{0, 0, 1}, {0, 3001, 1}, {0, 1, 0}, {0, 1, 2}, {0, -1, 1}, {1, 0, 1}, {1, 1, 0}, {1, -1, 1},
            {1, 2, 1}, {1, 1001, 1001}, {2, 1, 1001}, {3, 5, 4}, {4, 0, 0}, {5, 1000, 999}, {6, 1, 2}, {-1, 1, 2},
            {-1, 1, 1}, {LOW, 1, 2}, {HIGH, 1, 2}, {1, LOW, HIGH}, {1, HIGH, HIGH}, {5, LOW, LOW}, {0, HIGH, 1}};
        for (int[] call : right) {
            is("measure", x.measure(call[0], call[1], call[2]), true);
            for (int[] other : wrong) {
                is("measure(" + other[0] + ", " + other[1] + ", " + other[2] + ")",
                    x.measure(other[0], other[1], other[2]), false);
            }
            is("count(9)", x.count(9), call[0]);
            is("count(10)", x.count(10), call[1]);
            is("count(11) as told", x.count(11), call[2]);
        }
    }

    private static void promise11Order() {
        DUE.about("promise 11");
        PairSieve x = with(set(1, 2, 3, 4), set(2, 3), set(3, 9), set(3));
        is("order()", x.order(), 5);
        row("rare ones first", x, 0, 1, 4, 2, 3);
        row("rare ones first", x, 2, 9, 3);
        x.put(1, 1);
        x.put(1, 700);
        row("as they were when order() was called", x, 1, 700, 1, 2, 3);
        x.drop(2);
        x.drop(3);
        is("frequency(3)", x.frequency(3), 4);
        is("order() without dropped ones", x.order(), 5);
        row("anew", x, 0, 4, 1, 2, 3);
        row("anew", x, 1, 700, 1, 2, 3);
        x.drop(0);
        is("order()", x.order(), 4);
        row("alone", x, 1, 1, 2, 3, 700);
        x.drop(1);
        is("order() without any", x.order(), 0);
        is("frequency(1)", x.frequency(1), 0);
        PairSieve y = with(set(999999, 0), set(0), set(0));
        is("order()", y.order(), 2);
        row("the greatest number is rarer", y, 0, 999999, 0);
        PairSieve z = manyNumbers();
        is("1800 numbers", z.order(), 1800);
        is("frequency of the last", z.frequency(8 * (256 * 114 + 59)), 1);
        is("count(1)", z.count(1), 1800);
    }

    private static void promise12Frequency() {
        DUE.about("promise 12");
        PairSieve x = with(set(0, 5, 999999), set(5, 999999), set(5));
        is("ahead of any order()", x.frequency(5), 0);
        x.order();
        is("frequency(0)", x.frequency(0), 1);
        is("frequency(5)", x.frequency(5), 3);
        is("frequency(999999)", x.frequency(999999), 2);
        is("frequency(6)", x.frequency(6), 0);
        is("frequency(-1)", x.frequency(-1), 0);
        is("frequency(1000000)", x.frequency(1000000), 0);
        is("frequency(LOW)", x.frequency(LOW), 0);
        is("frequency(HIGH)", x.frequency(HIGH), 0);
        x.put(2, 6);
        x.take(0, 5);
        x.drop(1);
        is("it stays", x.frequency(5), 3);
        is("it stays", x.frequency(6), 0);
        x.order();
        is("anew", x.frequency(5), 1);
        is("anew", x.frequency(6), 1);
        is("anew", x.frequency(999999), 1);
    }

    private static void promise13AboutShares() {
        DUE.about("promise 13");
        PairSieve x = with(range(10, 10), set(), set(7));
        int[][] measures = {{0, 4, 1}, {1, 1, 3}, {1, 1, 1}, {2, 2, 3}, {3, 3, 5}, {3, 1, 1000}, {4, 9, 10}, {5, 1, 3},
            {0, 11, 1}, {0, 10, 1}, {2, 1, 1}};
        int[] least = {4, 4, 10, 5, 4, 1, 1, 4, 11, 10, 10};
        int[] beginnings = {7, 7, 1, 6, 7, 10, 10, 7, 0, 1, 1};
        int[] leastOfNone = {4, 0, 0, 0, 0, 0, 1, 0, 11, 10, 0};
        for (int i = 0; i < measures.length; i++) {
            x.measure(measures[i][0], measures[i][1], measures[i][2]);
            is("about(0, 0) of " + i, x.about(0, 0), 10);
            is("about(0, 1) of " + i, x.about(0, 1), 10);
            is("about(0, 2) of " + i, x.about(0, 2), least[i]);
            is("about(0, 3) of " + i, x.about(0, 3), beginnings[i]);
            is("about(1, 1) of " + i, x.about(1, 1), 0);
            is("about(1, 2) of " + i, x.about(1, 2), leastOfNone[i]);
            is("about(1, 3) of " + i, x.about(1, 3), 0);
        }
        for (int what : new int[] {-1, 6, LOW, HIGH}) {
            is("about(0, " + what + ")", x.about(0, what), NONE);
        }
        for (int r : new int[] {-1, 3, 60, LOW, HIGH}) {
            is("about(" + r + ", 0)", x.about(r, 0), NONE);
            is("about(" + r + ", 4)", x.about(r, 4), NONE);
        }
    }

    private static void promise13AboutWeighted() {
        DUE.about("promise 13, weighted");
        PairSieve x = with(set(1, 2, 3, 4));
        x.measure(5, 1, 2);
        x.weight(1, 5);
        x.weight(2, 100);
        x.weight(4, 94);
        is("AMOUNT", x.about(0, 1), 200);
        is("LEAST", x.about(0, 2), 100);
        is("BEGINNING", x.about(0, 3), 2);
        x.weight(4, 95);
        is("LEAST rounded up", x.about(0, 2), 101);
        is("BEGINNING", x.about(0, 3), 2);
        x.weight(3, 6);
        is("LEAST", x.about(0, 2), 103);
        is("BEGINNING", x.about(0, 3), 2);
        x.weight(1, 1);
        x.weight(2, 1);
        x.weight(3, 1);
        is("LEAST", x.about(0, 2), 49);
        is("all of it", x.about(0, 3), 4);
    }

    private static void promise13AboutFamilies() {
        DUE.about("promise 13, families");
        PairSieve x = net(7, edge(4, 2), edge(2, 6), edge(1, 5));
        int[] families = {0, 1, 2, 3, 2, 1, 2};
        int[] sizes = {1, 2, 3, 1, 3, 2, 3};
        for (int r = 0; r < 7; r++) {
            is("about(" + r + ", 4)", x.about(r, 4), families[r]);
            is("about(" + r + ", 5)", x.about(r, 5), sizes[r]);
        }
        x.drop(2);
        is("joined over it no more", x.about(6, 4), 6);
        is("about(4, 5)", x.about(4, 5), 1);
        x.take(5, 2);
        is("about(5, 4)", x.about(5, 4), 5);
        x.put(4, 2);
        is("about(4, 4)", x.about(4, 4), 1);
        x.measure(0, 2, 1);
        is("another limit", x.about(4, 4), 4);
    }

    private static void promise14At() {
        DUE.about("promise 14");
        PairSieve x = with(set(30, 10, 20), set(), set(10));
        row("by number", x, 0, 10, 20, 30);
        row("empty", x, 1);
        for (int i : new int[] {-1, 3, 29, 30, LOW, HIGH}) {
            is("at(0, " + i + ")", x.at(0, i), NONE);
        }
        for (int r : new int[] {-1, 3, 60, LOW, HIGH}) {
            is("at(" + r + ", 0)", x.at(r, 0), NONE);
        }
        x.order();
        row("by frequency", x, 0, 20, 30, 10);
        x.put(2, 0);
        row("a new one first", x, 2, 0, 10);
    }

    private static void promise15LikeOfEachMeasure() {
        DUE.about("promise 15");
        PairSieve x = with(range(0, 9), range(5, 6), set(50));
        x.measure(0, 4, 1);
        likeIs(x, "SHARED", 4, 4, 4, 1, 1);
        x.measure(0, 5, 1);
        likeIs(x, "SHARED, too few", 4, 5, 4, 1, 0);
        x.measure(1, 1, 3);
        likeIs(x, "PART", 4, 4, 4, 11, 1);
        x.measure(1, 2, 5);
        likeIs(x, "PART, too few", 4, 5, 4, 11, 0);
        x.measure(2, 8, 15);
        likeIs(x, "TWICE", 4, 4, 8, 15, 1);
        x.measure(3, 1, 2);
        likeIs(x, "ANGLE", 4, 4, 8, 27, 1);
        x.measure(3, 3, 5);
        likeIs(x, "ANGLE, too few", 4, 5, 8, 27, 0);
        x.measure(4, 2, 3);
        likeIs(x, "WITHIN", 4, 4, 2, 3, 1);
        x.measure(4, 3, 4);
        likeIs(x, "WITHIN, too few", 4, 5, 2, 3, 0);
        x.measure(5, 1, 2);
        x.weight(5, 100);
        x.weight(8, 97);
        likeIs(x, "WEIGHTED", 199, 135, 199, 206, 1);
        for (int what : new int[] {-1, 5, LOW, HIGH}) {
            is("like(0, 1, " + what + ")", x.like(0, 1, what), NONE);
        }
        int[][] wrong = {{0, 0}, {0, 3}, {3, 0}, {-1, 0}, {0, -1}, {3, 3}, {LOW, 0}, {0, HIGH}, {-1, -1}};
        for (int[] two : wrong) {
            for (int what = 0; what < 5; what++) {
                is("like(" + two[0] + ", " + two[1] + ", " + what + ")", x.like(two[0], two[1], what), NONE);
            }
        }
    }

    private static void promise15LikeOfEmptySets() {
        DUE.about("promise 15, nothing shared");
        PairSieve x = with(set(), set());
        long[] needed = {1, 0, 0, 0, 0, 0};
        long[] neededOfSome = {1, 2, 2, 0, 0, 2};
        for (int kind = 0; kind < 6; kind++) {
            x.measure(kind, 1, 1);
            likeIs(x, "empty ones, measure " + kind, 0, needed[kind], 0, 1, 0);
        }
        x.put(0, 1);
        x.put(0, 2);
        for (int kind = 0; kind < 6; kind++) {
            x.measure(kind, 1, 1);
            is("like of an empty one", x.like(0, 1, 2), 0);
            is("like of an empty one", x.like(0, 1, 3), 1);
            is("like of an empty one", x.like(0, 1, 4), 0);
            is("NEEDED", x.like(0, 1, 1), kind == 2 || kind == 1 || kind == 5 ? neededOfSome[kind] - 1 : needed[kind]);
        }
        x.put(1, 3);
        x.put(1, 4);
        for (int kind = 0; kind < 6; kind++) {
            x.measure(kind, 1, 1000);
            if (kind > 0) {
                likeIs(x, "apart, measure " + kind, 0, 1, 0, 1, 0);
            }
        }
    }

    private static void promise15LimitsAreExact() {
        DUE.about("promise 15, exact limits");
        PairSieve x = with(range(0, 30), range(1, 30));
        int[][] reached = {{1, 29, 31}, {1, 928, 992}, {2, 29, 30}, {3, 29, 30}, {4, 29, 30}, {5, 29, 31}};
        int[][] missed = {{1, 936, 1000}, {2, 967, 1000}, {3, 967, 1000}, {4, 967, 1000}, {5, 936, 1000}};
        for (int[] limit : reached) {
            x.measure(limit[0], limit[1], limit[2]);
            is("reached, measure " + limit[0], x.like(0, 1, 4), 1);
            is("NEEDED", x.like(0, 1, 1), 29);
        }
        for (int[] limit : missed) {
            x.measure(limit[0], limit[1], limit[2]);
            is("missed, measure " + limit[0], x.like(0, 1, 4), 0);
            is("NEEDED", x.like(0, 1, 1), 30);
        }
        for (int v = 0; v < 31; v++) {
            x.weight(v, 100);
        }
        x.measure(5, 936, 1000);
        is("NEEDED of great weights", x.like(0, 1, 1), 2901);
        is("above", x.like(0, 1, 2), 29);
        is("below", x.like(0, 1, 3), 31);
        x.measure(3, 1000, 1000);
        is("NEEDED, measure 3", x.like(0, 1, 1), 30);
        is("above", x.like(0, 1, 2), 841);
        is("below", x.like(0, 1, 3), 900);
    }

    private static void promise16Why() {
        DUE.about("promise 16");
        PairSieve x = with(set(1, 2, 5, 6), set(3, 4, 5, 6), set(1, 7, 8, 9), set(2, 3, 4, 6), set(1), set(),
            range(1, 5), set(1, 2, 5, 6, 9));
        whyIs(x, 0, 1, 3);
        whyIs(x, 0, 2, 4);
        whyIs(x, 1, 2, 1);
        whyIs(x, 0, 3, 4);
        whyIs(x, 1, 3, 0);
        whyIs(x, 4, 6, 2);
        whyIs(x, 4, 5, 1);
        whyIs(x, 0, 7, 0);
        whyIs(x, 5, 0, 1);
        x.drop(3);
        int[][] wrong = {{0, 0}, {0, 3}, {3, 0}, {0, 8}, {8, 0}, {-1, 0}, {0, -1}, {LOW, HIGH}, {5, 5}};
        for (int[] two : wrong) {
            is("why(" + two[0] + ", " + two[1] + ")", x.why(two[0], two[1]), NONE);
        }
        PairSieve y = with(set(1, 2, 3, 9), set(4, 5, 6, 9), set(1, 2, 3, 9));
        whyIs(y, 0, 1, 1);
        is("they do share one", y.like(0, 1, 0), 1);
        whyIs(y, 0, 2, 0);
        y.measure(4, 1, 4);
        whyIs(y, 0, 1, 0);
        y.measure(4, 1, 2);
        whyIs(y, 0, 1, 3);
        y.measure(0, 5, 1);
        whyIs(y, 0, 2, 1);
        y.measure(0, 4, 1);
        whyIs(y, 0, 2, 0);
    }

    private static void promise16WhyByOrder() {
        DUE.about("promise 16, order");
        PairSieve x = with(set(1, 2, 3, 4), set(1, 5, 6, 7), set(1), set(1));
        whyIs(x, 0, 1, 4);
        x.order();
        whyIs(x, 0, 1, 1);
        x.put(0, 0);
        x.put(1, 0);
        whyIs(x, 0, 1, 4);
        x.measure(1, 1, 5);
        whyIs(x, 0, 1, 0);
        x.measure(1, 1, 1);
        x.take(0, 4);
        x.take(0, 3);
        whyIs(x, 0, 1, 2);
    }

    private static void promise16WhyByWeights() {
        DUE.about("promise 16, weights");
        PairSieve x = with(set(1, 2, 3), set(2, 3, 4));
        x.measure(5, 1, 2);
        whyIs(x, 0, 1, 0);
        x.weight(1, 10);
        whyIs(x, 0, 1, 1);
        x.weight(2, 10);
        whyIs(x, 0, 1, 0);
        x.weight(3, 4);
        x.weight(4, 10);
        is("NEEDED", x.like(0, 1, 1), 16);
        is("both", x.like(0, 1, 0), 14);
        whyIs(x, 0, 1, 3);
        x.weight(3, 7);
        is("NEEDED", x.like(0, 1, 1), 18);
        is("both", x.like(0, 1, 0), 17);
        whyIs(x, 0, 1, 3);
        x.weight(3, 10);
        is("NEEDED", x.like(0, 1, 1), 20);
        whyIs(x, 0, 1, 0);
        x.weight(4, 100);
        whyIs(x, 0, 1, 2);
        PairSieve y = with(set(1, 2), set(1, 3));
        y.measure(5, 2, 3);
        y.weight(1, 3);
        y.weight(2, 2);
        y.weight(3, 2);
        is("NEEDED", y.like(0, 1, 1), 4);
        whyIs(y, 0, 1, 4);
        y.weight(3, 1);
        whyIs(y, 0, 1, 4);
        y.put(0, 4);
        y.weight(4, 4);
        is("NEEDED", y.like(0, 1, 1), 6);
        whyIs(y, 0, 1, 2);
        y.measure(5, 1, 2);
        is("NEEDED", y.like(0, 1, 1), 5);
        whyIs(y, 0, 1, 2);
    }

    private static void promise17Pairs() {
        DUE.about("promise 17");
        PairSieve x = with(set(1, 2, 5, 6), set(3, 4, 5, 6), set(1, 7, 8, 9), set(1), set(1, 2, 5, 9), set(3, 4, 6));
        is("pairs()", x.pairs(), 2);
        kept("pairs", x, set(0, 4, 3), set(1, 5, 3));
        counts(x, 2, 2, 3, 2, 6, 12);
        x.put(3, 2);
        x.drop(5);
        kept("as they were", x, set(0, 4, 3), set(1, 5, 3));
        counts(x, 2, 2, 3, 2, 6, 12);
        is("pairs() anew", x.pairs(), 3);
        kept("anew", x, set(0, 3, 2), set(0, 4, 3), set(3, 4, 2));
        counts(x, 3, 3, 0, 2, 2, 12);
        x.measure(0, 3000, 1);
        is("pairs() of a high limit", x.pairs(), 0);
        counts(x, 0, 0, 0, 0, 10, 0);
        kept("none", x);
        PairSieve y = new PairSieve();
        for (int r = 0; r < 60; r++) {
            add(y, 3, 1);
        }
        is("all of 60", y.pairs(), 1770);
        counts(y, 1770, 0, 0, 0, 0, 3540);
        is("the last", Due.pair(y, 1769, 0), 58);
        is("the last", Due.pair(y, 1769, 1), 59);
        is("the 60th", Due.pair(y, 59, 0), 1);
        is("the 60th", Due.pair(y, 59, 1), 2);
        is("behind the last", Due.pair(y, 1770, 0), Due.THROWN);
    }

    private static void promise18Pair() {
        DUE.about("promise 18");
        PairSieve x = with(set(1, 2, 3), set(1, 2, 3, 4));
        is("ahead of pairs()", Due.pair(x, 0, 0), Due.THROWN);
        x.pairs();
        is("pair(0, 0)", Due.pair(x, 0, 0), 0);
        is("pair(0, 1)", Due.pair(x, 0, 1), 1);
        is("pair(0, 2)", Due.pair(x, 0, 2), 3);
        int[][] wrong = {{0, 3}, {0, -1}, {0, LOW}, {0, HIGH}, {1, 0}, {-1, 0}, {LOW, 0}, {HIGH, 0}, {1, 3}, {100, 2}};
        for (int[] call : wrong) {
            is("pair(" + call[0] + ", " + call[1] + ")", Due.pair(x, call[0], call[1]), Due.THROWN);
        }
        x.take(0, 1);
        x.measure(5, 1, 1);
        x.weight(2, 50);
        is("s then", Due.pair(x, 0, 2), 3);
        is("like now", x.like(0, 1, 0), 51);
        x.pairs();
        is("none kept", Due.pair(x, 0, 0), Due.THROWN);
    }

    private static void promise19Top() {
        DUE.about("promise 19");
        PairSieve x = with(set(1, 2), set(1, 3), set(1, 2, 3), set(9), set(), set(1, 2));
        x.pairs();
        is("count(2)", x.count(2), 4);
        for (int n : new int[] {0, 101, -1, LOW, HIGH}) {
            is("top(" + n + ")", x.top(n), NONE);
        }
        is("the pairs are kept still", x.count(13), 4);
        is("top(100)", x.top(100), 6);
        kept("all", x, set(0, 5, 2), set(0, 2, 2), set(1, 2, 2), set(2, 5, 2), set(0, 1, 1), set(1, 5, 1));
        is("count(2) of the latest pairs()", x.count(2), 4);
        is("top(3)", x.top(3), 3);
        kept("three", x, set(0, 5, 2), set(0, 2, 2), set(1, 2, 2));
        is("top(1)", x.top(1), 1);
        kept("one", x, set(0, 5, 2));
        x.measure(0, 2, 1);
        x.top(6);
        kept("SHARED", x, set(0, 2, 2), set(0, 5, 2), set(1, 2, 2), set(2, 5, 2), set(0, 1, 1), set(1, 5, 1));
        x.measure(4, 1, 1);
        x.top(5);
        kept("WITHIN", x, set(0, 2, 2), set(0, 5, 2), set(1, 2, 2), set(2, 5, 2), set(0, 1, 1));
        x.measure(5, 1, 1);
        x.weight(3, 10);
        x.top(4);
        kept("WEIGHTED", x, set(0, 5, 2), set(1, 2, 11), set(0, 2, 2), set(2, 5, 2));
        x.drop(5);
        x.top(2);
        kept("without a dropped one", x, set(1, 2, 11), set(0, 2, 2));
        x.pairs();
        is("the pairs again", x.count(13), x.count(2));
    }

    private static void promise19TopOfMany() {
        DUE.about("promise 19, many");
        PairSieve x = new PairSieve();
        for (int r = 0; r < 15; r++) {
            add(x, range(0, r + 1));
        }
        is("top(100)", x.top(100), 100);
        is("the likest", Due.pair(x, 0, 0), 13);
        is("the likest", Due.pair(x, 0, 1), 14);
        is("the second", Due.pair(x, 1, 0), 12);
        is("the last", Due.pair(x, 99, 0), 0);
        is("the last", Due.pair(x, 99, 1), 9);
        is("behind it", Due.pair(x, 100, 0), Due.THROWN);
        x.measure(3, 1, 2);
        x.top(3);
        kept("ANGLE", x, set(13, 14, 14), set(12, 13, 13), set(11, 12, 12));
        x.measure(4, 1, 2);
        x.top(3);
        kept("WITHIN", x, set(0, 1, 1), set(0, 2, 1), set(0, 3, 1));
        x.measure(0, 1, 1);
        x.top(3);
        kept("SHARED", x, set(13, 14, 14), set(12, 13, 13), set(12, 14, 13));
    }

    private static void promise20Core() {
        DUE.about("promise 20");
        PairSieve x = net(8, edge(0, 1), edge(1, 2), edge(2, 3), edge(3, 4), edge(2, 4), edge(4, 5), edge(3, 5));
        is("core(0)", x.core(0), 3);
        keptCore("the first of two", x, 2, 3, 4);
        is("core(7)", x.core(7), 1);
        keptCore("alone", x, 7);
        for (int r : new int[] {-1, 8, 60, LOW, HIGH}) {
            is("core(" + r + ")", x.core(r), NONE);
        }
        keptCore("still", x, 7);
        is("core(5)", x.core(5), 3);
        keptCore("whichever of the family", x, 2, 3, 4);
        x.drop(4);
        keptCore("kept", x, 2, 3, 4);
        is("core(5)", x.core(5), 2);
        keptCore("the first of pairs", x, 0, 1);
        PairSieve y = net(6, edge(0, 5), edge(1, 5), edge(1, 4), edge(4, 5), edge(0, 2), edge(2, 5), edge(0, 3),
            edge(1, 3));
        is("core(3)", y.core(3), 3);
        keptCore("the lesser record where they differ", y, 0, 2, 5);
        y.put(3, 100);
        y.put(5, 100);
        is("core(3)", y.core(3), 3);
        keptCore("the same", y, 0, 2, 5);
        y.put(4, 100);
        is("core(3)", y.core(3), 4);
        keptCore("a greater one", y, 1, 3, 4, 5);
    }

    private static void promise20CoreOfLargeFamilies() {
        DUE.about("promise 20, large families");
        PairSieve x = new PairSieve();
        for (int r = 0; r < 20; r++) {
            add(x, 5);
        }
        add(x, 6);
        is("20, all of them", x.core(19), 20);
        is("member(19)", x.member(19), 19);
        x.put(20, 5);
        is("21", x.core(3), -2);
        is("21", x.core(20), -2);
        is("the core is kept", x.member(19), 19);
        is("the core is kept", x.member(20), NONE);
        is("about(20, 5)", x.about(20, 5), 21);
        x.drop(0);
        is("20 again", x.core(20), 20);
        is("member(0)", x.member(0), 1);
        PairSieve y = allButTwos();
        is("ten twos that are no pairs", y.core(0), 10);
        for (int i = 0; i < 10; i++) {
            is("member(" + i + ")", y.member(i), 2 * i);
        }
    }

    /**
     * 20 RECORDS, any two a PAIR but 0 and 1, 2 and 3, and so on: cores are many there. Two twos differ in a bit:
     * one with it and one without it share the NUMBER made for that bit and for which ones of their twos they are.
     */
    private static PairSieve allButTwos() {
        PairSieve x = new PairSieve();
        x.measure(0, 1, 1);
        for (int r = 0; r < 20; r++) {
            x.record();
            for (int v = 0; v < 16; v++) {
                boolean withBit = (r / 2 >> v / 4 & 1) == 1;
                int which = withBit ? v / 2 % 2 : v % 2;
                if (r % 2 == which) {
                    x.put(r, v);
                }
            }
        }
        return x;
    }

    private static void promise21Member() {
        DUE.about("promise 21");
        PairSieve x = net(60, edge(59, 31), edge(31, 32), edge(59, 32), edge(0, 33));
        is("ahead of any core", x.member(0), NONE);
        is("core(32)", x.core(32), 3);
        keptCore("least first", x, 31, 32, 59);
        for (int i : new int[] {4, 60, LOW, HIGH}) {
            is("member(" + i + ")", x.member(i), NONE);
        }
        is("core(33)", x.core(33), 2);
        keptCore("anew", x, 0, 33);
        x.put(0, 700);
        x.measure(0, 9, 1);
        x.pairs();
        keptCore("kept", x, 0, 33);
    }

    private static void promise22Chain() {
        DUE.about("promise 22");
        PairSieve x = net(9, edge(0, 5), edge(5, 1), edge(1, 7), edge(0, 6), edge(6, 7), edge(7, 8), edge(2, 3));
        int[][] chains = {{0, 0, 0}, {0, 5, 1}, {0, 1, 2}, {0, 7, 2}, {0, 8, 3}, {5, 8, 3}, {5, 6, 2}, {2, 3, 1},
            {0, 2, NONE}, {4, 4, 0}, {4, 0, NONE}};
        for (int[] due : chains) {
            is("chain(" + due[0] + ", " + due[1] + ")", x.chain(due[0], due[1]), due[2]);
            is("chain(" + due[1] + ", " + due[0] + ")", x.chain(due[1], due[0]), due[2]);
        }
        int[][] wrong = {{-1, -1}, {0, 9}, {9, 9}, {9, 0}, {LOW, 0}, {0, HIGH}, {60, 60}};
        for (int[] two : wrong) {
            is("chain(" + two[0] + ", " + two[1] + ")", x.chain(two[0], two[1]), NONE);
        }
        x.drop(6);
        is("chain(0, 7)", x.chain(0, 7), 3);
        is("chain(6, 6)", x.chain(6, 6), NONE);
        x.put(2, 0);
        is("chain(3, 7)", x.chain(3, 7), 4);
        PairSieve y = new PairSieve();
        y.measure(0, 1, 1);
        for (int r = 0; r < 60; r++) {
            add(y, r, r + 1);
        }
        is("the longest", y.chain(0, 59), 59);
        is("the longest", y.chain(59, 0), 59);
        is("next(59, 0)", y.next(59, 0), 58);
        is("about(59, 4)", y.about(59, 4), 0);
        is("about(0, 5)", y.about(0, 5), 60);
    }

    private static void promise23Next() {
        DUE.about("promise 23");
        PairSieve x = net(9, edge(0, 3), edge(0, 2), edge(3, 8), edge(2, 8), edge(8, 1), edge(0, 4), edge(4, 5),
            edge(5, 1), edge(0, 6), edge(6, 7));
        int[][] nexts = {{0, 1, 2}, {0, 8, 2}, {1, 0, 5}, {8, 0, 2}, {3, 1, 8}, {0, 7, 6}, {7, 1, 6}, {5, 0, 4},
            {2, 3, 0}, {0, 3, 3}, {0, 0, NONE}};
        for (int[] due : nexts) {
            is("next(" + due[0] + ", " + due[1] + ")", x.next(due[0], due[1]), due[2]);
        }
        int[][] wrong = {{-1, -1}, {0, 9}, {9, 9}, {9, 0}, {LOW, 0}, {0, HIGH}, {60, 60}, {-1, 0}};
        for (int[] two : wrong) {
            is("next(" + two[0] + ", " + two[1] + ")", x.next(two[0], two[1]), NONE);
        }
        x.drop(2);
        is("next(0, 8)", x.next(0, 8), 3);
        is("next(0, 2)", x.next(0, 2), NONE);
        is("next(2, 2)", x.next(2, 2), NONE);
        x.take(6, 9);
        is("no chain", x.next(0, 7), NONE);
    }

    private static void promise24Count() {
        DUE.about("promise 24");
        PairSieve x = with(set(1, 2, 3), set(2, 3), set(2, 3, 4, 5), set());
        is("count(0)", x.count(0), 4);
        is("count(1)", x.count(1), 9);
        counts(x, 0, 0, 0, 0, 0, 0);
        is("count(8)", x.count(8), 2);
        is("count(8) is no pairs()", x.count(2), 0);
        x.pairs();
        is("count(2)", x.count(2), 2);
        is("count(13)", x.count(13), 2);
        x.top(1);
        is("count(2)", x.count(2), 2);
        is("count(13)", x.count(13), 1);
        x.drop(0);
        is("count(0)", x.count(0), 3);
        is("count(1)", x.count(1), 6);
        is("count(8)", x.count(8), 2);
        x.measure(2, 3, 4);
        is("count(8)", x.count(8), 3);
        is("count(9)", x.count(9), 2);
        is("count(10)", x.count(10), 3);
        is("count(11)", x.count(11), 4);
        x.feed(1, 2, 3, 4, 5);
        is("count(12)", x.count(12), 20);
        x.end(7);
        is("count(12)", x.count(12), 7);
        for (int what : new int[] {-1, 14, LOW, HIGH}) {
            is("count(" + what + ")", x.count(what), NONE);
        }
        PairSieve y = manyNumbers();
        is("count(1) of all there can be", y.count(1), 1800);
    }
}
