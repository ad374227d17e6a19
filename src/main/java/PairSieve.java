import java.util.NoSuchElementException;

/**
 * A sieve that finds, of many sets, all pairs that are alike enough, and compares few of them.
 *
 * <p>The words in capitals in the comments are those of the document's section "Terms".
 */
public final class PairSieve {
    public static final int NONE = -1;

    private static final int FAMILY_TOO_LARGE = -2;

    private static final int MOST_RECORDS = 60;
    private static final int MOST_TWOS = MOST_RECORDS * (MOST_RECORDS - 1) / 2;
    private static final int LARGEST_SET = 30;
    private static final int NUMBERS = 1000000;
    private static final int MOST_TOLD = 200;
    private static final int HEAVIEST = 100;
    private static final int MOST_LIKEST = 100;
    private static final int LARGEST_FAMILY = 20;

    private static final int SHARED = 0;
    private static final int PART = 1;
    private static final int TWICE = 2;
    private static final int ANGLE = 3;
    private static final int WITHIN = 4;
    private static final int WEIGHTED = 5;

    private static final int IS_PAIR = 0;
    private static final int NOT_MET = 1;
    private static final int BY_LENGTHS = 2;
    private static final int BY_PLACES = 3;
    private static final int IN_VAIN = 4;
    private static final int FATES = 5;

    /** A DROPPED RECORD leaves null behind, so that its number is never given again. */
    private final NumberSet[] sets = new NumberSet[MOST_RECORDS];
    private int made;

    private final Table frequencies = new Table(MOST_RECORDS * LARGEST_SET);
    private final Table told = new Table(MOST_TOLD);
    private final Measure limit = new Measure();
    private final Tape tape = new Tape();

    private final Overlap overlap = new Overlap();
    private final int[] beginnings = new int[MOST_RECORDS];
    private final int[] tally = new int[FATES];
    private int spent;
    private final KeptPairs kept = new KeptPairs();

    private final Net net = new Net();
    private long keptCore;

    public PairSieve() {
    }

    public int record() {
        if (made >= MOST_RECORDS) {
            return NONE;
        }
        sets[made] = new NumberSet();
        made++;
        return made - 1;
    }

    public boolean drop(int r) {
        if (setOf(r) == null) {
            return false;
        }
        sets[r] = null;
        net.forget(r);
        return true;
    }

    public boolean put(int r, int v) {
        NumberSet set = setOf(r);
        if (set == null || !isNumber(v) || !set.insert(NumberSet.keyOf(v, frequencies), weightOf(v))) {
            return false;
        }
        net.forget(r);
        return true;
    }

    public boolean take(int r, int v) {
        NumberSet set = setOf(r);
        if (set == null || !isNumber(v) || !set.remove(NumberSet.keyOf(v, frequencies))) {
            return false;
        }
        net.forget(r);
        return true;
    }

    public boolean weight(int v, int w) {
        if (!isNumber(v) || w < 1 || w > HEAVIEST || !told.write(v, w)) {
            return false;
        }
        weighAll();
        return true;
    }

    public int feed(int a, int b, int c, int d, int e) {
        if (!tape.hasRoomFor(20)) {
            return NONE;
        }
        tape.append(a);
        tape.append(b);
        tape.append(c);
        tape.append(d);
        tape.append(e);
        return tape.length;
    }

    public int end(int n) {
        return tape.cut(n) ? n : NONE;
    }

    public int text(int r, int q) {
        NumberSet set = setOf(r);
        if (set == null || q < 1 || q > 2) {
            return NONE;
        }
        int found = tape.findNumbers(q);
        if (found == NONE) {
            return NONE;
        }
        set.clear();
        for (int i = 0; i < found; i++) {
            int v = tape.numbers[i];
            set.insert(NumberSet.keyOf(v, frequencies), weightOf(v));
        }
        tape.cut(0);
        net.forget(r);
        return found;
    }

    public boolean measure(int kind, int p, int q) {
        if (!limit.tell(kind, p, q)) {
            return false;
        }
        weighAll();
        return true;
    }

    public int order() {
        frequencies.clear();
        for (int r = 0; r < made; r++) {
            NumberSet set = sets[r];
            for (int i = 0; set != null && i < set.size; i++) {
                frequencies.raise(set.numberAt(i));
            }
        }
        for (int r = 0; r < made; r++) {
            if (sets[r] != null) {
                sets[r].putInOrder(frequencies);
            }
        }
        return frequencies.size;
    }

    public int frequency(int v) {
        return frequencies.valueOf(v, 0);
    }

    public int about(int r, int what) {
        NumberSet set = setOf(r);
        if (set == null) {
            return NONE;
        }
        switch (what) {
            case 0:
                return set.size;
            case 1:
                return set.amount;
            case 2:
                return (int) limit.least(set.amount);
            case 3:
                return beginningOf(set);
            case 4:
                return Net.leastOf(freshNet().familyOf(r));
            case 5:
                return Long.bitCount(freshNet().familyOf(r));
            default:
                return NONE;
        }
    }

    public int at(int r, int i) {
        NumberSet set = setOf(r);
        return set == null ? NONE : set.numberAt(i);
    }

    public long like(int r, int s, int what) {
        NumberSet one = setOf(r);
        NumberSet other = setOf(s);
        if (one == null || other == null || r == s) {
            return NONE;
        }
        overlap.compare(one, 0, other, 0);
        long both = overlap.shared;
        long above = limit.likenessAbove(both, one.amount, other.amount);
        long below = limit.likenessBelow(both, one.amount, other.amount);
        switch (what) {
            case 0:
                return both;
            case 1:
                return limit.needed(one.amount, other.amount);
            case 2:
                return Measure.withoutDivisor(above, above, below);
            case 3:
                return Measure.withoutDivisor(below, above, below);
            case 4:
                return limit.isReached(both, one.amount, other.amount) ? 1 : 0;
            default:
                return NONE;
        }
    }

    public int why(int r, int s) {
        NumberSet one = setOf(r);
        NumberSet other = setOf(s);
        if (one == null || other == null || r == s) {
            return NONE;
        }
        return fateOf(one, beginningOf(one), other, beginningOf(other));
    }

    public int pairs() {
        startSieve();
        for (int r = 0; r < made; r++) {
            for (int s = r + 1; s < made; s++) {
                if (sets[r] != null && sets[s] != null) {
                    sift(r, s);
                }
            }
        }
        return tally[IS_PAIR];
    }

    public int pair(int i, int what) throws NoSuchElementException {
        if (i < 0 || i >= kept.size || what < 0 || what > 2) {
            throw new NoSuchElementException("no such pair is kept");
        }
        if (what == 2) {
            return kept.shared[i];
        }
        return what == 0 ? kept.first[i] : kept.second[i];
    }

    public int top(int n) {
        if (n < 1 || n > MOST_LIKEST) {
            return NONE;
        }
        kept.clear();
        for (int r = 0; r < made; r++) {
            for (int s = r + 1; s < made; s++) {
                if (sets[r] != null && sets[s] != null) {
                    rank(r, s, n);
                }
            }
        }
        return kept.size;
    }

    public int core(int r) {
        if (setOf(r) == null) {
            return NONE;
        }
        long family = freshNet().familyOf(r);
        if (Long.bitCount(family) > LARGEST_FAMILY) {
            return FAMILY_TOO_LARGE;
        }
        keptCore = net.coreOf(family);
        return Long.bitCount(keptCore);
    }

    public int member(int i) {
        if (i < 0 || i >= Long.bitCount(keptCore)) {
            return NONE;
        }
        long rest = keptCore;
        for (int k = 0; k < i; k++) {
            rest &= rest - 1;
        }
        return Net.leastOf(rest);
    }

    public int chain(int r, int s) {
        if (setOf(r) == null || setOf(s) == null) {
            return NONE;
        }
        return freshNet().stepsBetween(r, s);
    }

    public int next(int r, int s) {
        int steps = chain(r, s);
        return steps < 1 ? NONE : net.firstStep(r, s, steps);
    }

    public int count(int what) {
        switch (what) {
            case 0:
                return countRecords();
            case 1:
                return countNumbers();
            case 2:
                return tally[IS_PAIR];
            case 3:
                return tally[IN_VAIN];
            case 4:
                return tally[BY_LENGTHS];
            case 5:
                return tally[BY_PLACES];
            case 6:
                return tally[NOT_MET];
            case 7:
                return spent;
            case 8:
                return countFamilies();
            case 9:
                return limit.kind;
            case 10:
                return limit.p;
            case 11:
                return limit.q;
            case 12:
                return tape.length;
            case 13:
                return kept.size;
            default:
                return NONE;
        }
    }

    private static boolean isNumber(int v) {
        return v >= 0 && v < NUMBERS;
    }

    /** Null stands for every RECORD that a call must not use: one that was never made, or is DROPPED. */
    private NumberSet setOf(int r) {
        return r < 0 || r >= made ? null : sets[r];
    }

    private int weightOf(int v) {
        return limit.kind == WEIGHTED ? told.valueOf(v, 1) : 1;
    }

    /** The SETS hold the WEIGHTS of the MEASURE in force, so that AMOUNTS need not be added up for each two. */
    private void weighAll() {
        for (int r = 0; r < made; r++) {
            NumberSet set = sets[r];
            for (int i = 0; set != null && i < set.size; i++) {
                set.reweigh(i, weightOf(set.numberAt(i)));
            }
            net.forget(r);
        }
    }

    private int beginningOf(NumberSet set) {
        return set.countBeginning(limit.least(set.amount));
    }

    private int fateOf(NumberSet one, int beginningOfOne, NumberSet other, int beginningOfOther) {
        overlap.compare(one, beginningOfOne, other, beginningOfOther);
        if (overlap.sharedInBeginnings == 0) {
            return NOT_MET;
        }
        long needed = limit.needed(one.amount, other.amount);
        if (needed > Math.min(one.amount, other.amount)) {
            return BY_LENGTHS;
        }
        if (overlap.mostByPlaces < needed) {
            return BY_PLACES;
        }
        return limit.isReached(overlap.shared, one.amount, other.amount) ? IS_PAIR : IN_VAIN;
    }

    private void startSieve() {
        kept.clear();
        spent = 0;
        for (int fate = 0; fate < FATES; fate++) {
            tally[fate] = 0;
        }
        for (int r = 0; r < made; r++) {
            beginnings[r] = sets[r] == null ? 0 : beginningOf(sets[r]);
        }
    }

    private void sift(int r, int s) {
        int fate = fateOf(sets[r], beginnings[r], sets[s], beginnings[s]);
        tally[fate]++;
        // k BEGINNINGS that have a NUMBER are k (k - 1) / 2 twos: SPENT counts it once for each two RECORDS.
        spent += overlap.sharedInBeginnings;
        if (fate == IS_PAIR) {
            kept.append(r, s, overlap.shared);
        }
    }

    private void rank(int r, int s, int most) {
        NumberSet one = sets[r];
        NumberSet other = sets[s];
        overlap.compare(one, 0, other, 0);
        int both = overlap.shared;
        if (both > 0) {
            long above = limit.likenessAbove(both, one.amount, other.amount);
            long below = limit.likenessBelow(both, one.amount, other.amount);
            int place = kept.placeFor(above, below);
            if (place < most) {
                kept.makeRoom(place, most);
                kept.set(place, r, s, both);
                kept.setLikeness(place, above, below);
            }
        }
    }

    /** PAIRS are found anew only for the RECORDS that changed: calls about FAMILIES often follow one another. */
    private Net freshNet() {
        for (int r = 0; r < made; r++) {
            if (net.isForgotten(r)) {
                for (int s = 0; s < made; s++) {
                    // A later one that changed, too, is tied to r when its own turn comes.
                    if (s < r || !net.isForgotten(s)) {
                        net.tie(r, s, arePair(r, s));
                    }
                }
                net.know(r);
            }
        }
        return net;
    }

    private boolean arePair(int r, int s) {
        NumberSet one = sets[r];
        NumberSet other = sets[s];
        if (one == null || other == null) {
            return false;
        }
        overlap.compare(one, 0, other, 0);
        return limit.isReached(overlap.shared, one.amount, other.amount);
    }

    private int countRecords() {
        int records = 0;
        for (int r = 0; r < made; r++) {
            if (sets[r] != null) {
                records++;
            }
        }
        return records;
    }

    private int countNumbers() {
        int numbers = 0;
        for (int r = 0; r < made; r++) {
            if (sets[r] != null) {
                numbers += sets[r].size;
            }
        }
        return numbers;
    }

    private int countFamilies() {
        freshNet();
        int families = 0;
        long seen = 0;
        for (int r = 0; r < made; r++) {
            if (sets[r] != null && (seen & 1L << r) == 0) {
                families++;
                seen |= net.familyOf(r);
            }
        }
        return families;
    }

    /** Values by NUMBER, the NUMBERS ascending. */
    private static final class Table {
        private final int[] numbers;
        private final int[] values;
        private int size;

        Table(int capacity) {
            numbers = new int[capacity];
            values = new int[capacity];
        }

        void clear() {
            size = 0;
        }

        int valueOf(int number, int otherwise) {
            int place = placeOf(number);
            return isAt(number, place) ? values[place] : otherwise;
        }

        void raise(int number) {
            write(number, valueOf(number, 0) + 1);
        }

        /** False, and nothing changes, if the number is new and there is no room for it. */
        boolean write(int number, int value) {
            int place = placeOf(number);
            if (!isAt(number, place)) {
                if (size >= numbers.length) {
                    return false;
                }
                System.arraycopy(numbers, place, numbers, place + 1, size - place);
                System.arraycopy(values, place, values, place + 1, size - place);
                numbers[place] = number;
                size++;
            }
            values[place] = value;
            return true;
        }

        private boolean isAt(int number, int place) {
            return place < size && numbers[place] == number;
        }

        private int placeOf(int number) {
            int low = 0;
            int high = size;
            while (low < high) {
                int middle = (low + high) >>> 1;
                if (numbers[middle] < number) {
                    low = middle + 1;
                } else {
                    high = middle;
                }
            }
            return low;
        }
    }

    /**
     * The SET of one RECORD. Each NUMBER is held as a key, its FREQUENCY in millions and itself: comparing
     * two keys then is comparing by ORDER.
     */
    private static final class NumberSet {
        private final int[] keys = new int[LARGEST_SET];
        private final int[] weights = new int[LARGEST_SET];
        private int size;
        private int amount;

        static int keyOf(int number, Table frequencies) {
            return frequencies.valueOf(number, 0) * NUMBERS + number;
        }

        int numberAt(int place) {
            return place < 0 || place >= size ? NONE : keys[place] % NUMBERS;
        }

        void clear() {
            size = 0;
            amount = 0;
        }

        boolean insert(int key, int weight) {
            int place = placeOf(key);
            if (size >= LARGEST_SET || place < size && keys[place] == key) {
                return false;
            }
            System.arraycopy(keys, place, keys, place + 1, size - place);
            System.arraycopy(weights, place, weights, place + 1, size - place);
            keys[place] = key;
            weights[place] = weight;
            size++;
            amount += weight;
            return true;
        }

        boolean remove(int key) {
            int place = placeOf(key);
            if (place >= size || keys[place] != key) {
                return false;
            }
            size--;
            amount -= weights[place];
            System.arraycopy(keys, place + 1, keys, place, size - place);
            System.arraycopy(weights, place + 1, weights, place, size - place);
            return true;
        }

        void reweigh(int place, int weight) {
            if (place >= 0 && place < size) {
                amount += weight - weights[place];
                weights[place] = weight;
            }
        }

        /** Puts each NUMBER in again; those that are in never reach as far as the ones still to come. */
        void putInOrder(Table frequencies) {
            int all = size;
            clear();
            for (int i = 0; i < all; i++) {
                insert(keyOf(keys[i] % NUMBERS, frequencies), weights[i]);
            }
        }

        int countBeginning(long least) {
            int first = 0;
            int others = amount;
            while (first < size && others >= least) {
                others -= weights[first];
                first++;
            }
            return first;
        }

        int amountBehind(int place) {
            int behind = 0;
            for (int i = place + 1; i < size; i++) {
                behind += weights[i];
            }
            return behind;
        }

        private int placeOf(int key) {
            int place = 0;
            while (place < size && keys[place] < key) {
                place++;
            }
            return place;
        }
    }

    /** Bytes, and the NUMBERS that their pieces give. */
    private static final class Tape {
        private static final int LONGEST = 80;
        private static final int LIKE_PIECES = 8;

        private final int[] bytes = new int[LONGEST];
        private int length;
        private final int[] numbers = new int[LARGEST_SET];

        boolean hasRoomFor(int more) {
            return length + more <= LONGEST;
        }

        void append(int fourBytes) {
            for (int shift = 24; shift >= 0 && length < LONGEST; shift -= 8) {
                bytes[length] = fourBytes >>> shift & 255;
                length++;
            }
        }

        boolean cut(int n) {
            if (n < 0 || n > length) {
                return false;
            }
            length = n;
            return true;
        }

        /** How many NUMBERS the pieces give, which are in numbers then; NONE if a SET can't take them. */
        int findNumbers(int q) {
            int found = 0;
            for (int place = 0; place + q <= length; place++) {
                int ahead = countLikeOnesAhead(place, q);
                if (ahead < LIKE_PIECES) {
                    if (found >= LARGEST_SET) {
                        return NONE;
                    }
                    numbers[found] = LIKE_PIECES * pieceAt(place, q) + ahead;
                    found++;
                }
            }
            return found;
        }

        private int countLikeOnesAhead(int place, int q) {
            int piece = pieceAt(place, q);
            int ahead = 0;
            for (int i = 0; i < place; i++) {
                if (pieceAt(i, q) == piece) {
                    ahead++;
                }
            }
            return ahead;
        }

        private int pieceAt(int place, int q) {
            int piece = 0;
            for (int i = place; i < place + q && i < length; i++) {
                piece = piece << 8 | bytes[i];
            }
            return piece;
        }
    }

    /** The MEASURE with its LIMIT. All of it is reckoned in whole numbers, so that no LIMIT is missed by rounding. */
    private static final class Measure {
        private static final int HIGHEST_SHARED = 3000;
        private static final int HIGHEST_PART = 1000;
        private static final int HIGHEST_AMOUNT = LARGEST_SET * HEAVIEST;
        /** More than any two numbers of an int's size need to find their divisor. */
        private static final int DIVISOR_STEPS = 100;

        private int kind = PART;
        private int p = 1;
        private int q = 2;

        boolean tell(int newKind, int newP, int newQ) {
            if (!isAllowed(newKind, newP, newQ)) {
                return false;
            }
            kind = newKind;
            p = newP;
            q = newQ;
            return true;
        }

        private static boolean isAllowed(int kind, int p, int q) {
            if (kind == SHARED) {
                return p >= 1 && p <= HIGHEST_SHARED && q == 1;
            }
            return kind >= PART && kind <= WEIGHTED && p >= 1 && p <= q && q <= HIGHEST_PART;
        }

        long needed(long a, long b) {
            switch (kind) {
                case SHARED:
                    return p;
                case TWICE:
                    return quotientUp(p * (a + b), 2L * q);
                case ANGLE:
                    return rootUp((long) p * p * a * b, (long) q * q);
                case WITHIN:
                    return quotientUp(p * Math.min(a, b), q);
                default:
                    return quotientUp(p * (a + b), p + q);
            }
        }

        long least(long a) {
            switch (kind) {
                case SHARED:
                    return p;
                case TWICE:
                    return quotientUp(p * a, 2L * q - p);
                case ANGLE:
                    return quotientUp((long) p * p * a, (long) q * q);
                case WITHIN:
                    return 1;
                default:
                    return quotientUp(p * a, q);
            }
        }

        boolean isReached(long s, long a, long b) {
            long limitAbove = kind == ANGLE ? (long) p * p : p;
            long limitBelow = kind == ANGLE ? (long) q * q : q;
            return s > 0 && likenessAbove(s, a, b) * limitBelow >= limitAbove * likenessBelow(s, a, b);
        }

        long likenessAbove(long s, long a, long b) {
            switch (kind) {
                case TWICE:
                    return 2 * s;
                case ANGLE:
                    return s * s;
                default:
                    return s;
            }
        }

        long likenessBelow(long s, long a, long b) {
            if (s == 0) {
                return 1;
            }
            switch (kind) {
                case SHARED:
                    return 1;
                case TWICE:
                    return a + b;
                case ANGLE:
                    return a * b;
                case WITHIN:
                    return Math.min(a, b);
                default:
                    return a + b - s;
            }
        }

        /** A part of a fraction, above / below, when that has been made as small as it can be. */
        static long withoutDivisor(long part, long above, long below) {
            long divisor = below;
            long rest = above;
            for (int i = 0; i < DIVISOR_STEPS && rest != 0; i++) {
                long behind = divisor % rest;
                divisor = rest;
                rest = behind;
            }
            return divisor == 0 ? part : part / divisor;
        }

        private static long quotientUp(long above, long below) {
            return below <= 0 ? 0 : (above + below - 1) / below;
        }

        private static long rootUp(long above, long below) {
            long root = 0;
            while (root < HIGHEST_AMOUNT && root * root * below < above) {
                root++;
            }
            return root;
        }
    }

    /** What two SETS have in common; one object serves all comparisons, for these are many. */
    private static final class Overlap {
        private int shared;
        private int sharedInBeginnings;
        private int mostByPlaces;

        void compare(NumberSet one, int beginningOfOne, NumberSet other, int beginningOfOther) {
            shared = 0;
            sharedInBeginnings = 0;
            mostByPlaces = 0;
            int i = 0;
            int j = 0;
            while (i < one.size && j < other.size) {
                int key = one.keys[i];
                int otherKey = other.keys[j];
                if (key == otherKey) {
                    if (shared == 0) {
                        mostByPlaces = one.weights[i] + Math.min(one.amountBehind(i), other.amountBehind(j));
                    }
                    if (i < beginningOfOne && j < beginningOfOther) {
                        sharedInBeginnings++;
                    }
                    shared += one.weights[i];
                }
                if (key <= otherKey) {
                    i++;
                }
                if (otherKey <= key) {
                    j++;
                }
            }
        }
    }

    /** The PAIRS kept, or the likest ones in their place: the latter with the LIKENESS that they are ranked by. */
    private static final class KeptPairs {
        private final int[] first = new int[MOST_TWOS];
        private final int[] second = new int[MOST_TWOS];
        private final int[] shared = new int[MOST_TWOS];
        private final long[] above = new long[MOST_LIKEST];
        private final long[] below = new long[MOST_LIKEST];
        private int size;

        void clear() {
            size = 0;
        }

        void append(int r, int s, int both) {
            if (size < MOST_TWOS) {
                size++;
                set(size - 1, r, s, both);
            }
        }

        void set(int place, int r, int s, int both) {
            if (place >= 0 && place < size) {
                first[place] = r;
                second[place] = s;
                shared[place] = both;
            }
        }

        void setLikeness(int place, long likenessAbove, long likenessBelow) {
            if (place >= 0 && place < MOST_LIKEST) {
                above[place] = likenessAbove;
                below[place] = likenessBelow;
            }
        }

        /** Behind all that are as like: those came earlier, so their RECORDS are the lesser ones. */
        int placeFor(long likenessAbove, long likenessBelow) {
            int low = 0;
            int high = Math.min(size, MOST_LIKEST);
            while (low < high) {
                int middle = (low + high) >>> 1;
                if (above[middle] * likenessBelow >= likenessAbove * below[middle]) {
                    low = middle + 1;
                } else {
                    high = middle;
                }
            }
            return low;
        }

        /** The last one falls out if there are as many as may be. */
        void makeRoom(int place, int most) {
            if (place < 0 || place > size || place >= most || most > MOST_LIKEST) {
                return;
            }
            int moved = Math.min(size, most - 1) - place;
            System.arraycopy(first, place, first, place + 1, moved);
            System.arraycopy(second, place, second, place + 1, moved);
            System.arraycopy(shared, place, shared, place + 1, moved);
            System.arraycopy(above, place, above, place + 1, moved);
            System.arraycopy(below, place, below, place + 1, moved);
            size = place + moved + 1;
        }
    }

    /** Which RECORDS are PAIRS. There are at most 60, so a set of RECORDS is the bits of a long. */
    private static final class Net {
        private final long[] friends = new long[MOST_RECORDS];
        private long forgotten;

        void forget(int r) {
            forgotten |= 1L << r;
        }

        boolean isForgotten(int r) {
            return (forgotten & 1L << r) != 0;
        }

        void know(int r) {
            forgotten &= ~(1L << r);
        }

        void tie(int r, int s, boolean arePair) {
            friends[r] = arePair ? friends[r] | 1L << s : friends[r] & ~(1L << s);
            friends[s] = arePair ? friends[s] | 1L << r : friends[s] & ~(1L << r);
        }

        static int leastOf(long records) {
            return records == 0 ? NONE : Long.bitCount((records & -records) - 1);
        }

        long familyOf(int r) {
            long family = 1L << r;
            long edge = family;
            for (int step = 0; step < MOST_RECORDS && edge != 0; step++) {
                edge = friendsOf(edge) & ~family;
                family |= edge;
            }
            return family;
        }

        int stepsBetween(int r, int s) {
            long seen = 1L << s;
            long edge = seen;
            for (int steps = 0; steps < MOST_RECORDS && edge != 0; steps++) {
                if ((edge & 1L << r) != 0) {
                    return steps;
                }
                edge = friendsOf(edge) & ~seen;
                seen |= edge;
            }
            return NONE;
        }

        /**
         * Every friend of r that is a step nearer to s begins a shortest CHAIN, so the least begins the first one. No
         * friend of r is nearer still, so those that fewer steps reach, too, need not be left out on the way.
         */
        int firstStep(int r, int s, int steps) {
            long reached = 1L << s;
            for (int step = 1; step < steps; step++) {
                reached = friendsOf(reached);
            }
            return leastOf(reached & friends[r]);
        }

        long coreOf(long family) {
            return greatestCore(friends, 0, family, 0, 0);
        }

        private long friendsOf(long records) {
            long all = 0;
            for (int r = 0; r < MOST_RECORDS; r++) {
                if ((records & 1L << r) != 0) {
                    all |= friends[r];
                }
            }
            return all;
        }

        /**
         * Tries the lesser RECORDS first and leaves the best one only for a greater one: so it is the first one
         * of the greatest. The depth is how many are chosen.
         */
        private static long greatestCore(long[] friends, long chosen, long open, long best, int depth) {
            long greatest = Long.bitCount(chosen) > Long.bitCount(best) ? chosen : best;
            if (depth >= LARGEST_FAMILY) {
                return greatest;
            }
            long rest = open;
            for (int left = Long.bitCount(open); left > 0 && depth + left > Long.bitCount(greatest); left--) {
                int r = leastOf(rest);
                if (r < 0 || r >= friends.length) {
                    return greatest;
                }
                rest &= rest - 1;
                greatest = greatestCore(friends, chosen | 1L << r, rest & friends[r], greatest, depth + 1);
            }
            return greatest;
        }
    }
}
