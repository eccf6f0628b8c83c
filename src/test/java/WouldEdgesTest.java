import java.math.BigInteger;

/** The edges of what promises 18 to 21 answer, promise by promise; what is refused stands in RefusalsTest. */
public final class WouldEdgesTest {
    private WouldEdgesTest() {
    }

    public static void main(String[] args) {
        adviseWithoutForks();
        adviseNoneThatLeavesAsMany();
        adviseTheSmallestOfSeveral();
        adviseTheFewestAndNotTheFirst();
        adviseByForksTogether();
        adviseChangesNothing();
        wouldOfALeaf();
        wouldCountsSharedForksToo();
        wouldWithTwelveFoldsChangesNothing();
        wouldInTheOrderOfNow();
        meanWithout();
        meanOfTwelve();
        meanThatIsNoWholeNumber();
        digestWrapsAround();
        digestOfAFullObject();
        Check.end();
    }

    // ---- promise 18

    private static void adviseWithoutForks() {
        SharedForks f = new SharedForks();
        Check.same("advise without folds", f.advise(), -1);
        f.leaf(false);
        f.leaf(true);
        Check.same("advise with leaves", f.advise(), -1);
        f.ask(7);
        Check.same("advise with one fork", f.advise(), -1);
    }

    /** "-1 if it would be fewer than now by none": as many are not fewer, and more are not either. */
    private static void adviseNoneThatLeavesAsMany() {
        SharedForks f = new SharedForks();
        Build.odd(f, 8);
        for (int place = 0; place < 7; place++) {
            Check.same("swap leaves as many", f.swap(place), 15);
        }
        Check.same("advise of as many", f.advise(), -1);
        SharedForks g = new SharedForks();
        Build.pairs(g, 0, 1, 2, 3);
        Check.same("advise of more", g.advise(), -1);
        Check.same("forks with pairs together", g.count(1), 4);
        Check.same("forks with pairs apart", g.swap(1), 6);
        Check.same("advise back", g.advise(), 1);
    }

    private static void adviseTheSmallestOfSeveral() {
        SharedForks f = new SharedForks();
        Build.pairs(f, 4, 6, 5, 7);
        Build.pairs(f, 0, 2, 1, 3);
        Check.same("advise of two that are alike", f.advise(), 1);
        Check.same("forks by the first", f.swap(1), 10);
        f.swap(1);
        Check.same("forks by the other", f.swap(5), 10);
        Check.same("advise then", f.advise(), 1);
    }

    /** Place 1 saves two forks, place 5 four; then one that is ahead and saves more. */
    private static void adviseTheFewestAndNotTheFirst() {
        SharedForks f = new SharedForks();
        Build.pairs(f, 0, 2, 1, 3);
        int pairs = Build.pairs(f, 4, 6, 5, 7);
        f.join(pairs, pairs, 3);
        int before = f.count(1);
        Check.same("advise of the later one", f.advise(), 5);
        int later = f.swap(5);
        f.swap(5);
        int first = f.swap(1);
        f.swap(1);
        Check.same("both save forks, the later one more", later < first && first < before, true);
        SharedForks g = new SharedForks();
        int ahead = Build.pairs(g, 0, 2, 1, 3);
        g.join(ahead, ahead, 3);
        Build.pairs(g, 4, 6, 5, 7);
        Check.same("advise of the one ahead", g.advise(), 1);
    }

    /** Forks of all folds added are as many in both orders; together, each counted once, they are fewer in one. */
    private static void adviseByForksTogether() {
        SharedForks f = new SharedForks();
        int one = Build.pairs(f, 0, 1);
        int other = f.ask(1);
        f.join(one, other, 0);
        f.swap(0);
        Check.same("forks added, 1 ahead", f.count(2), 5);
        Check.same("forks together, 1 ahead", f.count(1), 3);
        Check.same("advise", f.advise(), 0);
        Check.same("forks together, 0 ahead", f.swap(0), 2);
        Check.same("forks added, 0 ahead", f.count(2), 5);
        Check.same("advise then", f.advise(), -1);
    }

    private static void adviseChangesNothing() {
        SharedForks f = new SharedForks();
        Build.pairs(f, 0, 2, 1, 3);
        long before = f.digest();
        Check.same("advise", f.advise(), 1);
        Check.same("advise again", f.advise(), 1);
        Check.order(f, 0, 1, 2, 3, 4, 5, 6, 7);
        Check.same("forks still", f.count(1), 6);
        Check.same("digest still", f.digest(), before);
    }

    // ---- promise 19

    private static void wouldOfALeaf() {
        SharedForks f = new SharedForks();
        int no = f.leaf(false);
        int odd = Build.odd(f, 8);
        Check.same("would be no", f.would(no, odd, 0), 0);
        Check.same("would be the same", f.would(no, odd, 1), 15);
        Check.same("would be yes", f.would(odd, odd, 5), 0);
        Check.same("would be the other way round", f.would(no, odd, 5), 15);
    }

    /** All forks of the new fold, though there are some of them already. */
    private static void wouldCountsSharedForksToo() {
        SharedForks f = new SharedForks();
        int fold = Build.pairs(f, 0, 1);
        int part = f.ask(1);
        Check.same("would be the very same", f.would(fold, fold, 0), 2);
        Check.same("would be a part", f.would(fold, part, 1), 1);
        Check.same("would have a part", f.would(fold, part, 2), 2);
    }

    private static void wouldWithTwelveFoldsChangesNothing() {
        SharedForks f = Build.full();
        long before = f.digest();
        for (int what = 0; what < 6; what++) {
            int due = what == 2 || what == 5 ? 3 : 2;
            Check.same("would " + what + " with 12 folds", f.would(0, 7, what), due);
            Check.same("digest after it", f.digest(), before);
        }
        Check.same("folds still", f.count(0), 12);
        Check.same("forks still", f.count(1), 8);
    }

    private static void wouldInTheOrderOfNow() {
        SharedForks f = new SharedForks();
        int one = Build.pairs(f, 0, 2);
        int other = Build.pairs(f, 1, 3);
        Check.same("would in the first order", f.would(one, other, 1), 6);
        f.swap(1);
        Check.same("would in another order", f.would(one, other, 1), 4);
        f.swap(1);
        Check.same("would in the first order again", f.would(one, other, 1), 6);
    }

    // ---- promise 20

    private static void meanWithout() {
        SharedForks f = new SharedForks();
        Check.same("mean without folds", f.mean(), 0.0);
        f.ask(0);
        Check.same("mean of one", f.mean(), 1.0);
        f.drop(0);
        Check.same("mean without folds again", f.mean(), 0.0);
    }

    private static void meanOfTwelve() {
        SharedForks f = Build.full();
        Check.same("mean of twelve", f.mean(), 1.0);
        f.drop(11);
        f.leaf(true);
        Check.same("mean with a leaf", f.mean(), 11.0 / 12);
        for (int number = 0; number < 12; number++) {
            f.drop(number);
            f.leaf(false);
        }
        Check.same("mean of twelve leaves", f.mean(), 0.0);
    }

    /** Shared forks count for each fold that has them. */
    private static void meanThatIsNoWholeNumber() {
        SharedForks f = new SharedForks();
        int fold = Build.pairs(f, 0, 1);
        f.join(fold, fold, 0);
        Check.same("mean of equal folds", f.mean(), 2.0);
        f.ask(1);
        Check.same("mean of 5 by 3", f.mean(), 5.0 / 3);
    }

    // ---- promise 21

    /** The checksum once more, in numbers without an end, of what the other calls tell. */
    private static long checksum(SharedForks f) {
        BigInteger d = BigInteger.valueOf(1709);
        for (int what = 0; what < 5; what++) {
            d = add(d, f.count(what));
        }
        for (int place = 0; place < 8; place++) {
            d = add(d, f.order(place));
        }
        for (int number = 0; number < 12; number++) {
            boolean has = f.has(number);
            d = add(d, has ? 1 : 0);
            for (int what = 0; has && what < 8; what++) {
                d = add(d, f.about(number, what));
            }
            int forks = has ? f.about(number, 0) : 0;
            for (int i = 0; i < forks * 5; i++) {
                d = add(d, f.fork(number, i / 5, i % 5));
            }
        }
        Check.same("no 64 bits hold it", d.bitLength() > 64, true);
        return d.longValue();
    }

    private static BigInteger add(BigInteger d, int x) {
        return d.multiply(BigInteger.valueOf(31)).add(BigInteger.valueOf(x));
    }

    /** Without any fold there are 25 numbers, and d is beyond 64 bits already. */
    private static void digestWrapsAround() {
        SharedForks f = new SharedForks();
        Check.same("digest of none", f.digest(), checksum(f));
        f.swap(0);
        Check.same("digest of another order", f.digest(), checksum(f));
        f.leaf(false);
        Check.same("digest with -1", f.digest(), checksum(f));
        int odd = Build.odd(f, 4);
        Check.same("digest with -2", f.digest(), checksum(f));
        f.drop(0);
        Check.same("digest with 0 free", f.digest(), checksum(f));
        Check.same("the fold is there", f.has(odd), true);
    }

    private static void digestOfAFullObject() {
        SharedForks f = Build.full();
        Check.same("digest of twelve", f.digest(), checksum(f));
        SharedForks g = Build.full();
        g.drop(11);
        Check.same("digest without the last", g.digest(), checksum(g));
        g.leaf(true);
        Check.same("digest with a leaf at last", g.digest(), checksum(g));
    }
}
