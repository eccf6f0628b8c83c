/** Promises 18 to 21: advise, would, mean, digest. */
public final class WhatWouldBeTest {
    private WhatWouldBeTest() {
    }

    public static void main(String[] args) {
        adviseFewest();
        adviseEachPlace();
        would();
        mean();
        digestOfNoFolds();
        digestOfFolds();
        Check.end();
    }

    private static long digest(long d, int... numbers) {
        for (int x : numbers) {
            d = d * 31 + x;
        }
        return d;
    }

    private static void adviseFewest() {
        SharedForks f = new SharedForks();
        Build.pairs(f, 0, 2, 1, 3);
        long before = f.digest();
        Check.same("advise", f.advise(), 1);
        Check.same("digest after advise", f.digest(), before);
        Check.same("swap as advised", f.swap(1), 4);
        Check.same("advise then", f.advise(), -1);
    }

    /** At each place such a fold that just the exchange of two questions there saves forks. */
    private static void adviseEachPlace() {
        for (int place = 0; place < 7; place++) {
            SharedForks f = new SharedForks();
            int first = f.ask(place);
            int second = f.ask(place + 1);
            int chosen = place < 6 ? 7 : 0;
            int third = f.ask(chosen);
            int no = f.leaf(false);
            f.choose(second, third, no);
            f.choose(second, first, third);
            int forks = f.count(1);
            int advice = f.advise();
            Check.same("advice of " + place, advice, place);
            Check.same("it saves forks", f.swap(advice) < forks, true);
        }
    }

    private static void would() {
        SharedForks f = new SharedForks();
        f.ask(0);
        f.ask(1);
        f.ask(2);
        f.join(0, 1, 2);
        int[] due = {4, 4, 5, 4, 4, 5};
        long before = f.digest();
        for (int what = 0; what < 6; what++) {
            Check.same("would " + what, f.would(3, 2, what), due[what]);
        }
        Check.same("digest after would", f.digest(), before);
        for (int what = 0; what < 6; what++) {
            int fold = f.join(3, 2, what);
            Check.same("forks of the fold " + what, f.about(fold, 0), due[what]);
            f.drop(fold);
        }
        Check.same("would of a leaf", f.would(3, 3, 2), 0);
        Check.same("would of the same", f.would(3, 3, 0), 3);
        f.swap(1);
        f.swap(0);
        Check.same("would in another order", f.would(3, 2, 0), 4);
    }

    private static void mean() {
        SharedForks f = new SharedForks();
        Check.same("mean of none", f.mean(), 0.0);
        f.leaf(true);
        Check.same("mean of a leaf", f.mean(), 0.0);
        f.ask(0);
        Check.same("mean of two", f.mean(), 0.5);
        f.ask(1);
        Check.same("mean of three", f.mean(), 2.0 / 3);
        f.join(1, 2, 2);
        Check.same("mean of four", f.mean(), 1.25);
        f.drop(0);
        Check.same("mean after a drop", f.mean(), 5.0 / 3);
    }

    private static void digestOfNoFolds() {
        SharedForks f = new SharedForks();
        long due = digest(1709, 0, 0, 0, 0, 0, 0, 1, 2, 3, 4, 5, 6, 7, 0, 0, 0, 0, 0, 0, 0, 0, 0, 0, 0, 0);
        Check.same("digest of a new object", f.digest(), due);
        f.swap(3);
        due = digest(1709, 0, 0, 0, 0, 0, 0, 1, 2, 4, 3, 5, 6, 7, 0, 0, 0, 0, 0, 0, 0, 0, 0, 0, 0, 0);
        Check.same("digest of another order", f.digest(), due);
    }

    private static void digestOfFolds() {
        SharedForks f = new SharedForks();
        f.ask(0);
        f.leaf(false);
        f.ask(1);
        f.join(0, 2, 0);
        f.drop(0);
        long due = digest(1709, 3, 2, 3, 1, 1);
        due = digest(due, 0, 1, 2, 3, 4, 5, 6, 7);
        due = digest(due, 0);
        due = digest(due, 1, 0, 0, 0, 0, 0, -1, -1, 0);
        due = digest(due, 1, 1, 128, 2, 1, 1, 2, 255, 0, 1, -1, -2, 0, 2);
        due = digest(due, 1, 2, 64, 3, 1, 2, 3, 255, 1, 0, -1, 1, 0, 1, 1, -1, -2, 1, 2);
        due = digest(due, 0, 0, 0, 0, 0, 0, 0, 0);
        Check.same("digest of folds", f.digest(), due);
    }
}
