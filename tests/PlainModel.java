import java.util.ArrayList;
import java.util.Arrays;
import java.util.Collections;
import java.util.Comparator;
import java.util.HashSet;
import java.util.List;
import java.util.Map;
import java.util.Set;
import java.util.TreeMap;
import java.util.TreeSet;

/** The document once more, as literally and as slowly as it can be written: what PairSieve is compared with. */
final class PlainModel {
    private static final int NONE = -1;

    private final List<Set<Integer>> records = new ArrayList<>();
    private Map<Integer, Integer> frequencies = new TreeMap<>();
    private final Map<Integer, Integer> told = new TreeMap<>();
    private final List<Integer> tape = new ArrayList<>();
    private int kind = 1;
    private int p = 1;
    private int q = 2;
    private List<int[]> kept = new ArrayList<>();
    private final int[] latest = new int[8];
    private List<Integer> keptCore = new ArrayList<>();

    int record() {
        if (records.size() == 60) {
            return NONE;
        }
        records.add(new HashSet<>());
        return records.size() - 1;
    }

    private boolean is(int r) {
        return r >= 0 && r < records.size() && records.get(r) != null;
    }

    private boolean areTwo(int r, int s) {
        return is(r) && is(s) && r != s;
    }

    private static boolean isNumber(int v) {
        return 0 <= v && v <= 999999;
    }

    boolean drop(int r) {
        if (!is(r)) {
            return false;
        }
        records.set(r, null);
        return true;
    }

    boolean put(int r, int v) {
        return is(r) && isNumber(v) && records.get(r).size() < 30 && records.get(r).add(v);
    }

    boolean take(int r, int v) {
        return is(r) && records.get(r).remove(v);
    }

    boolean weight(int v, int w) {
        Set<Integer> others = new HashSet<>(told.keySet());
        others.remove(v);
        if (!isNumber(v) || w < 1 || w > 100 || others.size() >= 200) {
            return false;
        }
        told.put(v, w);
        return true;
    }

    int feed(int... five) {
        if (tape.size() + 20 > 80) {
            return NONE;
        }
        for (int number : five) {
            long unsigned = number & 0xFFFFFFFFL;
            tape.add((int) (unsigned / 16777216));
            tape.add((int) (unsigned / 65536 % 256));
            tape.add((int) (unsigned / 256 % 256));
            tape.add((int) (unsigned % 256));
        }
        return tape.size();
    }

    int end(int n) {
        if (n < 0 || n > tape.size()) {
            return NONE;
        }
        tape.subList(n, tape.size()).clear();
        return n;
    }

    int text(int r, int length) {
        if (!is(r) || length != 1 && length != 2) {
            return NONE;
        }
        Set<Integer> found = new HashSet<>();
        Map<List<Integer>, Integer> ahead = new java.util.HashMap<>();
        for (int i = 0; i + length <= tape.size(); i++) {
            List<Integer> piece = new ArrayList<>(tape.subList(i, i + length));
            int before = ahead.merge(piece, 1, Integer::sum) - 1;
            int number = length == 1 ? piece.get(0) : 256 * piece.get(0) + piece.get(1);
            if (before < 8) {
                found.add(8 * number + before);
            }
        }
        if (found.size() > 30) {
            return NONE;
        }
        records.set(r, found);
        tape.clear();
        return found.size();
    }

    boolean measure(int newKind, int newP, int newQ) {
        boolean shared = newKind == 0 && newP >= 1 && newP <= 3000 && newQ == 1;
        boolean other = newKind >= 1 && newKind <= 5 && newP >= 1 && newP <= 1000 && newQ >= 1 && newQ <= 1000
            && newP <= newQ;
        if (!shared && !other) {
            return false;
        }
        kind = newKind;
        p = newP;
        q = newQ;
        return true;
    }

    int order() {
        frequencies = new TreeMap<>();
        for (Set<Integer> set : records) {
            if (set != null) {
                for (int v : set) {
                    frequencies.merge(v, 1, Integer::sum);
                }
            }
        }
        return frequencies.size();
    }

    int frequency(int v) {
        return frequencies.getOrDefault(v, 0);
    }

    private List<Integer> inOrder(int r) {
        List<Integer> row = new ArrayList<>(records.get(r));
        row.sort(Comparator.comparing((Integer v) -> frequency(v)).thenComparing(Comparator.naturalOrder()));
        return row;
    }

    private int weightOf(int v) {
        return kind == 5 ? told.getOrDefault(v, 1) : 1;
    }

    private int amount(Iterable<Integer> numbers) {
        int sum = 0;
        for (int v : numbers) {
            sum += weightOf(v);
        }
        return sum;
    }

    /** The least whole number n with n * below >= above. */
    private static int leastNotBelow(long above, long below) {
        int n = 0;
        while (n * below < above) {
            n++;
        }
        return n;
    }

    private int needed(int r, int s) {
        long a = amount(records.get(r));
        long b = amount(records.get(s));
        switch (kind) {
            case 0:
                return p;
            case 2:
                return leastNotBelow(p * (a + b), 2L * q);
            case 3:
                long n = 0;
                while (n * n * q * q < p * p * a * b) {
                    n++;
                }
                return (int) n;
            case 4:
                return leastNotBelow(p * Math.min(a, b), q);
            default:
                return leastNotBelow(p * (a + b), p + q);
        }
    }

    private int least(int r) {
        long a = amount(records.get(r));
        switch (kind) {
            case 0:
                return p;
            case 2:
                return leastNotBelow(p * a, 2L * q - p);
            case 3:
                return leastNotBelow(p * p * a, (long) q * q);
            case 4:
                return 1;
            default:
                return leastNotBelow(p * a, q);
        }
    }

    private List<Integer> beginning(int r) {
        List<Integer> row = inOrder(r);
        if (amount(row) < least(r)) {
            return new ArrayList<>();
        }
        for (int k = 0; k < row.size(); k++) {
            if (amount(row.subList(k, row.size())) < least(r)) {
                return row.subList(0, k);
            }
        }
        return row;
    }

    private int both(int r, int s) {
        Set<Integer> common = new HashSet<>(records.get(r));
        common.retainAll(records.get(s));
        return amount(common);
    }

    /** Above and below, made as small as can be. */
    private long[] likeness(int r, int s) {
        long shared = both(r, s);
        long a = amount(records.get(r));
        long b = amount(records.get(s));
        if (shared == 0) {
            return new long[] {0, 1};
        }
        long[] fraction = switch (kind) {
            case 0 -> new long[] {shared, 1};
            case 2 -> new long[] {2 * shared, a + b};
            case 3 -> new long[] {shared * shared, a * b};
            case 4 -> new long[] {shared, Math.min(a, b)};
            default -> new long[] {shared, a + b - shared};
        };
        long divisor = java.math.BigInteger.valueOf(fraction[0]).gcd(java.math.BigInteger.valueOf(fraction[1]))
            .longValue();
        return new long[] {fraction[0] / divisor, fraction[1] / divisor};
    }

    private boolean arePair(int r, int s) {
        long[] fraction = likeness(r, s);
        long above = kind == 3 ? (long) p * p : p;
        long below = kind == 3 ? (long) q * q : q;
        return both(r, s) > 0 && fraction[0] * below >= above * fraction[1];
    }

    int about(int r, int what) {
        if (!is(r)) {
            return NONE;
        }
        return switch (what) {
            case 0 -> records.get(r).size();
            case 1 -> amount(records.get(r));
            case 2 -> least(r);
            case 3 -> beginning(r).size();
            case 4 -> family(r).first();
            case 5 -> family(r).size();
            default -> NONE;
        };
    }

    int at(int r, int i) {
        return is(r) && i >= 0 && i < records.get(r).size() ? inOrder(r).get(i) : NONE;
    }

    long like(int r, int s, int what) {
        if (!areTwo(r, s)) {
            return NONE;
        }
        return switch (what) {
            case 0 -> both(r, s);
            case 1 -> needed(r, s);
            case 2 -> likeness(r, s)[0];
            case 3 -> likeness(r, s)[1];
            case 4 -> arePair(r, s) ? 1 : 0;
            default -> NONE;
        };
    }

    int why(int r, int s) {
        if (!areTwo(r, s)) {
            return NONE;
        }
        if (Collections.disjoint(beginning(r), beginning(s))) {
            return 1;
        }
        int needed = needed(r, s);
        if (needed > Math.min(amount(records.get(r)), amount(records.get(s)))) {
            return 2;
        }
        List<Integer> one = inOrder(r);
        List<Integer> other = inOrder(s);
        int x = one.stream().filter(other::contains).findFirst().get();
        int behindOne = amount(one.subList(one.indexOf(x) + 1, one.size()));
        int behindOther = amount(other.subList(other.indexOf(x) + 1, other.size()));
        if (weightOf(x) + Math.min(behindOne, behindOther) < needed) {
            return 3;
        }
        return arePair(r, s) ? 0 : 4;
    }

    int pairs() {
        kept = new ArrayList<>();
        Arrays.fill(latest, 0);
        int[] placeOfFate = {2, 6, 4, 5, 3};
        for (int r = 0; r < records.size(); r++) {
            for (int s = r + 1; s < records.size(); s++) {
                if (areTwo(r, s)) {
                    int fate = why(r, s);
                    latest[placeOfFate[fate]]++;
                    if (fate == 0) {
                        kept.add(new int[] {r, s, both(r, s)});
                    }
                }
            }
        }
        latest[7] = spent();
        return kept.size();
    }

    private int spent() {
        Map<Integer, Integer> having = new TreeMap<>();
        for (int r = 0; r < records.size(); r++) {
            if (is(r)) {
                for (int v : beginning(r)) {
                    having.merge(v, 1, Integer::sum);
                }
            }
        }
        int sum = 0;
        for (int k : having.values()) {
            sum += k * (k - 1) / 2;
        }
        return sum;
    }

    long pair(int i, int what) {
        return i < 0 || i >= kept.size() || what < 0 || what > 2 ? Due.THROWN : kept.get(i)[what];
    }

    int top(int n) {
        if (n < 1 || n > 100) {
            return NONE;
        }
        List<int[]> all = new ArrayList<>();
        for (int r = 0; r < records.size(); r++) {
            for (int s = r + 1; s < records.size(); s++) {
                if (areTwo(r, s) && both(r, s) > 0) {
                    all.add(new int[] {r, s, both(r, s)});
                }
            }
        }
        all.sort((one, other) -> {
            long[] a = likeness(one[0], one[1]);
            long[] b = likeness(other[0], other[1]);
            return Long.compare(b[0] * a[1], a[0] * b[1]);
        });
        kept = all.subList(0, Math.min(n, all.size()));
        return kept.size();
    }

    /** How long the shortest CHAINS are; -1 where there is none. */
    private int[][] distances() {
        int n = records.size();
        int far = 1000;
        int[][] steps = new int[n][n];
        for (int r = 0; r < n; r++) {
            for (int s = 0; s < n; s++) {
                steps[r][s] = r == s ? 0 : areTwo(r, s) && arePair(r, s) ? 1 : far;
            }
        }
        for (int over = 0; over < n; over++) {
            for (int r = 0; r < n; r++) {
                for (int s = 0; s < n; s++) {
                    steps[r][s] = Math.min(steps[r][s], steps[r][over] + steps[over][s]);
                }
            }
        }
        for (int[] row : steps) {
            for (int s = 0; s < n; s++) {
                row[s] = row[s] >= far ? NONE : row[s];
            }
        }
        return steps;
    }

    private TreeSet<Integer> family(int r) {
        return family(distances(), r);
    }

    private TreeSet<Integer> family(int[][] steps, int r) {
        TreeSet<Integer> family = new TreeSet<>();
        for (int s = 0; s < records.size(); s++) {
            if (is(s) && steps[r][s] >= 0) {
                family.add(s);
            }
        }
        return family;
    }

    int core(int r) {
        if (!is(r)) {
            return NONE;
        }
        TreeSet<Integer> family = family(r);
        if (family.size() > 20) {
            return -2;
        }
        List<List<Integer>> cores = new ArrayList<>();
        boolean[][] tied = new boolean[records.size()][records.size()];
        for (int a : family) {
            for (int b : family) {
                tied[a][b] = a != b && arePair(a, b);
            }
        }
        gather(tied, new TreeSet<>(), new TreeSet<>(family), new TreeSet<>(), cores);
        List<Integer> best = cores.get(0);
        for (List<Integer> other : cores) {
            if (other.size() > best.size() || other.size() == best.size() && isAhead(other, best)) {
                best = other;
            }
        }
        keptCore = best;
        return best.size();
    }

    /** Every set of RECORDS, any two of which are a PAIR, to which no other RECORD can be added. */
    private static void gather(boolean[][] tied, TreeSet<Integer> chosen, TreeSet<Integer> open,
            TreeSet<Integer> done, List<List<Integer>> cores) {
        if (open.isEmpty() && done.isEmpty()) {
            cores.add(new ArrayList<>(chosen));
        }
        for (int r : new ArrayList<>(open)) {
            TreeSet<Integer> more = new TreeSet<>(chosen);
            more.add(r);
            TreeSet<Integer> stillOpen = new TreeSet<>(open);
            stillOpen.removeIf(s -> !tied[r][s]);
            TreeSet<Integer> stillDone = new TreeSet<>(done);
            stillDone.removeIf(s -> !tied[r][s]);
            gather(tied, more, stillOpen, stillDone, cores);
            open.remove(r);
            done.add(r);
        }
    }

    private static boolean isAhead(List<Integer> one, List<Integer> other) {
        for (int i = 0; i < one.size() && i < other.size(); i++) {
            if (!one.get(i).equals(other.get(i))) {
                return one.get(i) < other.get(i);
            }
        }
        return false;
    }

    int member(int i) {
        return i >= 0 && i < keptCore.size() ? keptCore.get(i) : NONE;
    }

    int chain(int r, int s) {
        return is(r) && is(s) ? distances()[r][s] : NONE;
    }

    int next(int r, int s) {
        if (!areTwo(r, s)) {
            return NONE;
        }
        List<Integer> best = null;
        for (List<Integer> chain : shortest(distances(), r, s)) {
            if (best == null || isAhead(chain, best)) {
                best = chain;
            }
        }
        return best == null ? NONE : best.get(1);
    }

    private static List<List<Integer>> shortest(int[][] steps, int r, int s) {
        List<List<Integer>> chains = new ArrayList<>();
        if (r == s) {
            chains.add(List.of(r));
            return chains;
        }
        for (int t = 0; t < steps.length; t++) {
            if (steps[r][t] == 1 && steps[t][s] >= 0 && steps[t][s] == steps[r][s] - 1) {
                for (List<Integer> rest : shortest(steps, t, s)) {
                    List<Integer> chain = new ArrayList<>(List.of(r));
                    chain.addAll(rest);
                    chains.add(chain);
                }
            }
        }
        return chains;
    }

    int count(int what) {
        if (what >= 2 && what <= 7) {
            return latest[what];
        }
        return switch (what) {
            case 0 -> (int) records.stream().filter(set -> set != null).count();
            case 1 -> records.stream().filter(set -> set != null).mapToInt(Set::size).sum();
            case 8 -> families();
            case 9 -> kind;
            case 10 -> p;
            case 11 -> q;
            case 12 -> tape.size();
            case 13 -> kept.size();
            default -> NONE;
        };
    }

    private int families() {
        int[][] steps = distances();
        Set<Integer> least = new HashSet<>();
        for (int r = 0; r < records.size(); r++) {
            if (is(r)) {
                least.add(family(steps, r).first());
            }
        }
        return least.size();
    }
}
