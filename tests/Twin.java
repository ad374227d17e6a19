import java.util.Arrays;

/** A PairSieve and a PlainModel to which the same calls are made; their answers are compared. */
final class Twin {
    private final Due due;
    private final PairSieve x = new PairSieve();
    private final PlainModel model = new PlainModel();

    Twin(Due due) {
        this.due = due;
    }

    void call(String name, int... args) {
        due.is(name + Arrays.toString(args), answer(name, args), modelAnswer(name, args));
    }

    private static long number(boolean answer) {
        return answer ? 1 : 0;
    }

    private long answer(String name, int... args) {
        return switch (name) {
            case "record" -> x.record();
            case "drop" -> number(x.drop(args[0]));
            case "put" -> number(x.put(args[0], args[1]));
            case "take" -> number(x.take(args[0], args[1]));
            case "weight" -> number(x.weight(args[0], args[1]));
            case "feed" -> x.feed(args[0], args[1], args[2], args[3], args[4]);
            case "end" -> x.end(args[0]);
            case "text" -> x.text(args[0], args[1]);
            case "measure" -> number(x.measure(args[0], args[1], args[2]));
            case "order" -> x.order();
            case "frequency" -> x.frequency(args[0]);
            case "about" -> x.about(args[0], args[1]);
            case "at" -> x.at(args[0], args[1]);
            case "like" -> x.like(args[0], args[1], args[2]);
            case "why" -> x.why(args[0], args[1]);
            case "pairs" -> x.pairs();
            case "pair" -> Due.pair(x, args[0], args[1]);
            case "top" -> x.top(args[0]);
            case "core" -> x.core(args[0]);
            case "member" -> x.member(args[0]);
            case "chain" -> x.chain(args[0], args[1]);
            case "next" -> x.next(args[0], args[1]);
            case "count" -> x.count(args[0]);
            default -> throw new IllegalArgumentException(name);
        };
    }

    private long modelAnswer(String name, int... args) {
        return switch (name) {
            case "record" -> model.record();
            case "drop" -> number(model.drop(args[0]));
            case "put" -> number(model.put(args[0], args[1]));
            case "take" -> number(model.take(args[0], args[1]));
            case "weight" -> number(model.weight(args[0], args[1]));
            case "feed" -> model.feed(args);
            case "end" -> model.end(args[0]);
            case "text" -> model.text(args[0], args[1]);
            case "measure" -> number(model.measure(args[0], args[1], args[2]));
            case "order" -> model.order();
            case "frequency" -> model.frequency(args[0]);
            case "about" -> model.about(args[0], args[1]);
            case "at" -> model.at(args[0], args[1]);
            case "like" -> model.like(args[0], args[1], args[2]);
            case "why" -> model.why(args[0], args[1]);
            case "pairs" -> model.pairs();
            case "pair" -> model.pair(args[0], args[1]);
            case "top" -> model.top(args[0]);
            case "core" -> model.core(args[0]);
            case "member" -> model.member(args[0]);
            case "chain" -> model.chain(args[0], args[1]);
            case "next" -> model.next(args[0], args[1]);
            case "count" -> model.count(args[0]);
            default -> throw new IllegalArgumentException(name);
        };
    }

    /** What a call can change, as far as it shows in the first RECORDS. */
    void compareState() {
        for (int what = 0; what <= 13; what++) {
            call("count", what);
        }
        for (int r = 0; r < 4; r++) {
            for (int what = 0; what <= 3; what++) {
                call("about", r, what);
                call("at", r, what);
                call("pair", r, what);
            }
            call("frequency", r);
            call("member", r);
        }
        // The bytes of the TAPE show in a text alone.
        call("record");
        call("text", 0, 2);
        call("at", 0, 0);
    }
}
