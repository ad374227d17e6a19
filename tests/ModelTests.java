/** Long runs of calls, right and wrong ones mixed, in which PairSieve must answer as PlainModel does. */
public final class ModelTests {
    private static final int CALLS = 512;
    private static final int CALLS_OF_MANY = 300;

    private final Due due;
    private final PairSieve x = new PairSieve();
    private final PlainModel model = new PlainModel();
    private final int records;
    private final int numbers;
    private long state;

    private ModelTests(Due due, int seed, int records, int numbers) {
        this.due = due;
        this.records = records;
        this.numbers = numbers;
        state = seed * 7919L + 1;
    }

    public static void main(String[] args) {
        Due due = new Due();
        int[] records = {2, 3, 5, 8, 12, 24};
        int[] numbers = {4, 6, 9, 14, 30, 60};
        for (int seed = 0; seed < 240 && due.wrong() == 0; seed++) {
            ModelTests run = new ModelTests(due, seed, records[seed % 6], numbers[seed / 6 % 6]);
            for (int i = 0; i < CALLS && due.wrong() == 0; i++) {
                due.about("run " + seed + ", call " + i);
                run.call();
            }
        }
        for (int seed = 0; seed < 6 && due.wrong() == 0; seed++) {
            runOfMany(due, seed);
        }
        due.close();
    }

    /** Sixty RECORDS, made by texts: so many NUMBERS can't be put one by one in the calls of an object. */
    private static void runOfMany(Due due, int seed) {
        ModelTests run = new ModelTests(due, 5000 + seed, 60, 40);
        for (int r = 0; r < 60; r++) {
            due.about("run of many " + seed + ", text " + r);
            due.is("record", run.x.record(), run.model.record());
            run.feed(2 + seed % 7);
            if (seed % 2 == 0) {
                run.feed(3);
            }
            int q = 1 + run.below(2);
            due.is("text", run.x.text(r, q), run.model.text(r, q));
        }
        for (int i = 0; i < CALLS_OF_MANY && due.wrong() == 0; i++) {
            due.about("run of many " + seed + ", call " + i);
            run.call();
        }
    }

    private int below(int bound) {
        state = state * 6364136223846793005L + 1442695040888963407L;
        return (int) ((state >>> 33) % bound);
    }

    private int aRecord() {
        switch (below(40)) {
            case 0:
                return -1;
            case 1:
                return 60;
            case 2:
                return below(2) == 0 ? Integer.MIN_VALUE : Integer.MAX_VALUE;
            default:
                return below(records + 1);
        }
    }

    private int aNumber() {
        switch (below(60)) {
            case 0:
                return -1;
            case 1:
                return 1000000;
            case 2:
                return 999999;
            case 3:
                return below(2) == 0 ? Integer.MIN_VALUE : Integer.MAX_VALUE;
            default:
                return below(numbers);
        }
    }

    private void call() {
        int which = below(100);
        if (which < 30) {
            change(which);
        } else if (which < 50) {
            askOfFamilies(which);
        } else if (which < 75) {
            askOfTwo(which);
        } else {
            askOfOne(which);
        }
    }

    private void change(int which) {
        int r = aRecord();
        int v = aNumber();
        if (which == 0 && below(4) == 0) {
            due.is("drop(" + r + ")", x.drop(r), model.drop(r));
        } else if (which < 4) {
            int many = below(records) + 1;
            for (int i = 0; i < many && model.count(0) < records; i++) {
                due.is("record()", x.record(), model.record());
            }
        } else if (which < 17) {
            due.is("put(" + r + ", " + v + ")", x.put(r, v), model.put(r, v));
        } else if (which < 20) {
            due.is("take(" + r + ", " + v + ")", x.take(r, v), model.take(r, v));
        } else if (which < 22) {
            int w = below(10) == 0 ? 100 + below(2) : below(12);
            due.is("weight(" + v + ", " + w + ")", x.weight(v, w), model.weight(v, w));
        } else if (which < 24) {
            aMeasure();
        } else if (which < 26) {
            due.is("order()", x.order(), model.order());
        } else if (which < 28) {
            feed(1 + below(4));
        } else {
            int q = below(3);
            due.is("text(" + r + ", " + q + ")", x.text(r, q), model.text(r, q));
        }
    }

    private void aMeasure() {
        int kind = below(8) - 1;
        int q = kind == 0 && below(6) != 0 ? 1 : 1 + below(below(2) == 0 ? 7 : 1001);
        int p = kind == 0 ? below(5) : 1 + below(q + (below(6) == 0 ? 1 : 0));
        due.is("measure(" + kind + ", " + p + ", " + q + ")", x.measure(kind, p, q), model.measure(kind, p, q));
    }

    private void feed(int signs) {
        int[] five = new int[5];
        for (int i = 0; i < 20; i++) {
            int sign = below(20) == 0 ? 200 + below(56) : below(signs);
            five[i / 4] = five[i / 4] << 8 | sign;
        }
        due.is("feed", x.feed(five[0], five[1], five[2], five[3], five[4]), model.feed(five));
        int n = below(8) == 0 ? below(100) - 5 : model.count(12) - below(15);
        due.is("end(" + n + ")", x.end(n), model.end(n));
    }

    private void askOfFamilies(int which) {
        int r = aRecord();
        int s = aRecord();
        if (which < 33) {
            int due0 = model.core(r);
            due.is("core(" + r + ")", x.core(r), due0);
            for (int i = -1; i <= Math.max(due0, 0); i++) {
                due.is("member(" + i + ")", x.member(i), model.member(i));
            }
        } else if (which < 38) {
            due.is("chain(" + r + ", " + s + ")", x.chain(r, s), model.chain(r, s));
        } else if (which < 43) {
            due.is("next(" + r + ", " + s + ")", x.next(r, s), model.next(r, s));
        } else if (which < 45) {
            due.is("count(8)", x.count(8), model.count(8));
        } else {
            int what = 4 + below(2);
            due.is("about(" + r + ", " + what + ")", x.about(r, what), model.about(r, what));
        }
    }

    private void askOfTwo(int which) {
        int r = aRecord();
        int s = aRecord();
        if (which < 58) {
            int what = below(7) - 1;
            due.is("like(" + r + ", " + s + ", " + what + ")", x.like(r, s, what), model.like(r, s, what));
        } else if (which < 68) {
            due.is("why(" + r + ", " + s + ")", x.why(r, s), model.why(r, s));
        } else if (which < 72) {
            due.is("pairs()", x.pairs(), model.pairs());
            compareKept();
        } else {
            int n = below(3) == 0 ? below(103) - 1 : 1 + below(5);
            due.is("top(" + n + ")", x.top(n), model.top(n));
            compareKept();
        }
    }

    private void compareKept() {
        for (int i = -1; i <= model.count(13); i++) {
            for (int what = -1; what <= 3; what++) {
                due.is("pair(" + i + ", " + what + ")", Due.pair(x, i, what), model.pair(i, what));
            }
        }
        for (int what = 2; what <= 7; what++) {
            due.is("count(" + what + ")", x.count(what), model.count(what));
        }
    }

    private void askOfOne(int which) {
        int r = aRecord();
        if (which < 82) {
            int i = below(32) - 1;
            due.is("at(" + r + ", " + i + ")", x.at(r, i), model.at(r, i));
        } else if (which < 88) {
            int what = below(5) == 0 ? below(20) - 7 : below(4);
            due.is("about(" + r + ", " + what + ")", x.about(r, what), model.about(r, what));
        } else if (which < 92) {
            int v = aNumber();
            due.is("frequency(" + v + ")", x.frequency(v), model.frequency(v));
        } else if (which < 96) {
            int what = below(16) - 1;
            due.is("count(" + what + ")", x.count(what), model.count(what));
        } else {
            int i = below(8) - 1;
            int what = below(4);
            due.is("member(" + i + ")", x.member(i), model.member(i));
            due.is("pair(" + i + ", " + what + ")", Due.pair(x, i, what), model.pair(i, what));
        }
    }
}
