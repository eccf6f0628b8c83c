import java.math.BigInteger;
import java.util.ArrayList;
import java.util.HashMap;
import java.util.HashSet;
import java.util.List;
import java.util.Map;
import java.util.Set;
import java.util.TreeMap;

/**
 * The document once more, in another way, to compare with: a fold is the set of the answers to which it
 * says yes, a number with a bit for each; equal parts are equal numbers, and nothing is kept but the sets.
 */
final class PlainFolds {
    private static final BigInteger ALL = BigInteger.ONE.shiftLeft(256).subtract(BigInteger.ONE);

    private final TreeMap<Integer, BigInteger> folds = new TreeMap<>();
    private List<Integer> order = new ArrayList<>(List.of(0, 1, 2, 3, 4, 5, 6, 7));
    // Rows are asked for again and again; those of one order are kept while it stands.
    private final Map<List<Integer>, Map<BigInteger, List<BigInteger>>> rows = new HashMap<>();

    private static BigInteger question(int question) {
        BigInteger set = BigInteger.ZERO;
        for (int answers = 0; answers < 256; answers++) {
            if ((answers >> question) % 2 == 1) {
                set = set.setBit(answers);
            }
        }
        return set;
    }

    private static final BigInteger[] QUESTION = new BigInteger[8];

    static {
        for (int question = 0; question < 8; question++) {
            QUESTION[question] = question(question);
        }
    }

    private static BigInteger part(BigInteger fold, int question, boolean yes) {
        int apart = 1 << question;
        if (yes) {
            BigInteger half = fold.and(QUESTION[question]);
            return half.or(half.shiftRight(apart));
        }
        BigInteger half = fold.andNot(QUESTION[question]);
        return half.or(half.shiftLeft(apart));
    }

    private static boolean isLeaf(BigInteger fold) {
        return fold.signum() == 0 || fold.equals(ALL);
    }

    private static boolean matters(BigInteger fold, int question) {
        return !part(fold, question, false).equals(part(fold, question, true));
    }

    private static int firstQuestion(BigInteger fold, List<Integer> order) {
        for (int question : order) {
            if (matters(fold, question)) {
                return question;
            }
        }
        throw new AssertionError("a leaf asks nothing");
    }

    private List<BigInteger> row(BigInteger fold, List<Integer> inOrder) {
        Map<BigInteger, List<BigInteger>> known = rows.computeIfAbsent(inOrder, o -> new HashMap<>());
        if (!known.containsKey(fold)) {
            List<BigInteger> row = new ArrayList<>();
            addToRow(fold, inOrder, row, new HashSet<>());
            known.put(fold, row);
        }
        return known.get(fold);
    }

    private static void addToRow(BigInteger part, List<Integer> order, List<BigInteger> row, Set<BigInteger> there) {
        if (isLeaf(part) || !there.add(part)) {
            return;
        }
        row.add(part);
        int question = firstQuestion(part, order);
        addToRow(part(part, question, false), order, row, there);
        addToRow(part(part, question, true), order, row, there);
    }

    private int together(List<Integer> inOrder) {
        Set<BigInteger> all = new HashSet<>();
        for (BigInteger fold : folds.values()) {
            all.addAll(row(fold, inOrder));
        }
        return all.size();
    }

    private BigInteger fold(int number) {
        if (!folds.containsKey(number)) {
            throw new IndexOutOfBoundsException();
        }
        return folds.get(number);
    }

    private static void check(int number, int bound) {
        if (number < 0 || number >= bound) {
            throw new IndexOutOfBoundsException();
        }
    }

    private int add(BigInteger fold) {
        for (int number = 0; number < 12; number++) {
            if (!folds.containsKey(number)) {
                folds.put(number, fold);
                return number;
            }
        }
        throw new IllegalStateException();
    }

    private static BigInteger joined(BigInteger a, BigInteger b, int what) {
        switch (what) {
            case 0: return a.and(b);
            case 1: return a.or(b);
            case 2: return a.xor(b);
            case 3: return ALL.andNot(a.and(b));
            case 4: return ALL.andNot(a.or(b));
            default: return ALL.andNot(a.xor(b));
        }
    }

    int leaf(boolean yes) {
        return add(yes ? ALL : BigInteger.ZERO);
    }

    int ask(int question) {
        check(question, 8);
        return add(QUESTION[question]);
    }

    int join(int a, int b, int what) {
        fold(a);
        fold(b);
        check(what, 6);
        return add(joined(fold(a), fold(b), what));
    }

    int choose(int a, int b, int c) {
        BigInteger yes = fold(a).and(fold(b));
        return add(yes.or(fold(c).andNot(fold(a))));
    }

    int given(int fold, int question, boolean yes) {
        fold(fold);
        check(question, 8);
        return add(part(fold(fold), question, yes));
    }

    int without(int fold, int question, boolean both) {
        fold(fold);
        check(question, 8);
        BigInteger no = part(fold(fold), question, false);
        BigInteger yes = part(fold(fold), question, true);
        return add(both ? no.and(yes) : no.or(yes));
    }

    int drop(int fold) {
        fold(fold);
        folds.remove(fold);
        return folds.size();
    }

    private List<Integer> swapped(int place) {
        List<Integer> other = new ArrayList<>(order);
        other.add(place, other.remove(place + 1));
        return other;
    }

    int swap(int place) {
        check(place, 7);
        order = swapped(place);
        rows.clear();
        return together(order);
    }

    int order(int place) {
        check(place, 8);
        return order.get(place);
    }

    boolean says(int fold, int answers) {
        fold(fold);
        if (answers < 0 || answers > 255) {
            throw new IllegalArgumentException();
        }
        return fold(fold).testBit(answers);
    }

    private static int place(BigInteger part, List<BigInteger> row) {
        return part.signum() == 0 ? -1 : part.equals(ALL) ? -2 : row.indexOf(part);
    }

    /** How many steps from the fold itself to a part, going through all parts that are so many steps away. */
    private int ahead(BigInteger fold, BigInteger part) {
        Set<BigInteger> reached = Set.of(fold);
        for (int steps = 0; steps < 8; steps++) {
            if (reached.contains(part)) {
                return steps;
            }
            Set<BigInteger> next = new HashSet<>();
            for (BigInteger from : reached) {
                if (!isLeaf(from)) {
                    next.add(part(from, firstQuestion(from, order), false));
                    next.add(part(from, firstQuestion(from, order), true));
                }
            }
            reached = next;
        }
        throw new AssertionError("a part that is not reached");
    }

    private int owners(BigInteger part) {
        int owners = 0;
        for (BigInteger fold : folds.values()) {
            owners += row(fold, order).contains(part) ? 1 : 0;
        }
        return owners;
    }

    int fork(int fold, int place, int what) {
        List<BigInteger> row = row(fold(fold), order);
        check(place, row.size());
        check(what, 5);
        BigInteger part = row.get(place);
        int question = firstQuestion(part, order);
        switch (what) {
            case 0: return question;
            case 1: return place(part(part, question, false), row);
            case 2: return place(part(part, question, true), row);
            case 3: return ahead(fold(fold), part);
            default: return owners(part);
        }
    }

    private int asked(BigInteger fold, int answers) {
        int count = 0;
        for (BigInteger at = fold; !isLeaf(at); count++) {
            int question = firstQuestion(at, order);
            at = part(at, question, (answers >> question) % 2 == 1);
        }
        return count;
    }

    int about(int number, int what) {
        BigInteger fold = fold(number);
        check(what, 8);
        int matter = 0;
        int least = 8;
        int most = 0;
        for (int question = 0; question < 8; question++) {
            matter += matters(fold, question) ? 1 << question : 0;
        }
        if (what == 3 || what == 4) {
            for (int answers = 0; answers < 256; answers++) {
                least = Math.min(least, asked(fold, answers));
                most = Math.max(most, asked(fold, answers));
            }
        }
        int own = 0;
        if (what == 7) {
            for (BigInteger part : row(fold, order)) {
                own += owners(part) == 1 ? 1 : 0;
            }
        }
        int[] told = {row(fold, order).size(), fold.bitCount(), matter, least, most,
            fold.getLowestSetBit(), fold.bitLength() - 1, own};
        return told[what];
    }

    double asked(int number) {
        BigInteger fold = fold(number);
        int sum = 0;
        for (int answers = 0; answers < 256; answers++) {
            sum += asked(fold, answers);
        }
        return sum / 256.0;
    }

    int compare(int a, int b) {
        BigInteger first = fold(a);
        BigInteger second = fold(b);
        if (first.equals(second)) {
            return 0;
        }
        if (first.andNot(second).signum() == 0) {
            return 1;
        }
        if (second.andNot(first).signum() == 0) {
            return 2;
        }
        return first.and(second).signum() == 0 ? 3 : 4;
    }

    int count(int what) {
        check(what, 5);
        Set<BigInteger> all = new HashSet<>();
        int sum = 0;
        int leaves = 0;
        for (BigInteger fold : folds.values()) {
            all.addAll(row(fold, order));
            sum += row(fold, order).size();
            leaves += isLeaf(fold) ? 1 : 0;
        }
        int first = 0;
        for (BigInteger part : all) {
            first += firstQuestion(part, order) == order.get(0) ? 1 : 0;
        }
        return new int[] {folds.size(), all.size(), sum, first, leaves}[what];
    }

    boolean has(int number) {
        check(number, 12);
        return folds.containsKey(number);
    }

    int advise() {
        int best = -1;
        int fewest = together(order);
        for (int place = 6; place >= 0; place--) {
            int forks = together(swapped(place));
            if (forks < fewest || forks == fewest && best >= 0) {
                fewest = forks;
                best = place;
            }
        }
        return best;
    }

    int would(int a, int b, int what) {
        fold(a);
        fold(b);
        check(what, 6);
        return row(joined(fold(a), fold(b), what), order).size();
    }

    double mean() {
        return folds.isEmpty() ? 0 : (double) count(2) / folds.size();
    }

    long digest() {
        List<Integer> numbers = new ArrayList<>();
        for (int what = 0; what < 5; what++) {
            numbers.add(count(what));
        }
        numbers.addAll(order);
        for (int number = 0; number < 12; number++) {
            numbers.add(has(number) ? 1 : 0);
            for (int what = 0; has(number) && what < 8; what++) {
                numbers.add(about(number, what));
            }
            for (int place = 0; has(number) && place < about(number, 0); place++) {
                for (int what = 0; what < 5; what++) {
                    numbers.add(fork(number, place, what));
                }
            }
        }
        long d = 1709;
        for (int x : numbers) {
            d = d * 31 + x;
        }
        return d;
    }
}
