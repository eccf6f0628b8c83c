/** Promises 18 to 21: advise, would, mean, digest. */
public final class WhatWouldBeTest {
    private WhatWouldBeTest() {
    }

    public static void main(String[] args) {
        adviseFewest();
        adviseSmallestPlace();
        adviseEachPlace();
        adviseNone();
        would();
        wouldWithAllNumbersTaken();
        wouldRefuses();
        mean();
        digestOfNoFolds();
        digestOfFolds();
        Check.end();
    }

    private static long digest(long d, int... numbers) {
        for (int x : numbers) {
            d = d * 31 + x;
        }
        return d;
    }

    /** A fold that says yes if both questions of a pair are answered so, for one pair or more. */
    private static int pairs(SharedForks f, int... questions) {
        int any = f.leaf(false);
        for (int i = 0; i < questions.length; i += 2) {
            int one = f.ask(questions[i]);
            int other = f.ask(questions[i + 1]);
            int both = f.join(one, other, 0);
            int more = f.join(any, both, 1);
            for (int fold : new int[] {any, one, other, both}) {
                f.drop(fold);
            }
            any = more;
        }
        return any;
    }

    private static void adviseFewest() {
        SharedForks f = new SharedForks();
        pairs(f, 0, 2, 1, 3);
        long before = f.digest();
        Check.same("advise", f.advise(), 1);
        Check.same("digest after advise", f.digest(), before);
        Check.same("swap as advised", f.swap(1), 4);
        Check.same("advise then", f.advise(), -1);
    }

    /** Two pairs of places would each save the same; the smaller one is told, and not the first that saves at all. */
    private static void adviseSmallestPlace() {
        SharedForks f = new SharedForks();
        pairs(f, 0, 2, 1, 3);
        pairs(f, 4, 6, 5, 7);
        Check.same("advise of two that are alike", f.advise(), 1);
        f.swap(1);
        Check.same("advise of the other", f.advise(), 5);
        f.swap(5);
        Check.same("forks then", f.count(1), 8);
        Check.same("advise of none", f.advise(), -1);
    }

    /** At each place such a fold that just the exchange of two questions there saves forks. */
    private static void adviseEachPlace() {
        for (int place = 0; place < 7; place++) {
            SharedForks f = new SharedForks();
            int first = f.ask(place);
            int second = f.ask(place + 1);
            int chosen = place < 6 ? 7 : 0;
            int third = f.ask(chosen);
            int no = f.leaf(false);
            f.choose(second, third, no);
            f.choose(second, first, third);
            int forks = f.count(1);
            int advice = f.advise();
            Check.same("advice of " + place, advice, place);
            Check.same("it saves forks", f.swap(advice) < forks, true);
        }
    }

    private static void adviseNone() {
        SharedForks f = new SharedForks();
        Check.same("advise without folds", f.advise(), -1);
        f.leaf(true);
        Check.same("advise with a leaf", f.advise(), -1);
        f.ask(0);
        f.ask(1);
        f.join(1, 2, 0);
        Check.same("advise if each swap leaves as many", f.advise(), -1);
    }

    private static void would() {
        SharedForks f = new SharedForks();
        f.ask(0);
        f.ask(1);
        f.ask(2);
        f.join(0, 1, 2);
        int[] due = {4, 4, 5, 4, 4, 5};
        long before = f.digest();
        for (int what = 0; what < 6; what++) {
            Check.same("would " + what, f.would(3, 2, what), due[what]);
        }
        Check.same("digest after would", f.digest(), before);
        for (int what = 0; what < 6; what++) {
            int fold = f.join(3, 2, what);
            Check.same("forks of the fold " + what, f.about(fold, 0), due[what]);
            f.drop(fold);
        }
        Check.same("would of a leaf", f.would(3, 3, 2), 0);
        Check.same("would of the same", f.would(3, 3, 0), 3);
        f.swap(1);
        f.swap(0);
        Check.same("would in another order", f.would(3, 2, 0), 4);
    }

    private static void wouldWithAllNumbersTaken() {
        SharedForks f = new SharedForks();
        for (int number = 0; number < 12; number++) {
            f.ask(number % 8);
        }
        long before = f.digest();
        Check.same("would of a full object", f.would(0, 1, 2), 3);
        Check.same("digest of a full object", f.digest(), before);
    }

    private static void wouldRefuses() {
        SharedForks f = new SharedForks();
        f.ask(0);
        Check.index(f, "would of -1", () -> f.would(-1, 0, 0));
        Check.index(f, "would of 1", () -> f.would(1, 0, 0));
        Check.index(f, "would of 12", () -> f.would(12, 0, 0));
        Check.index(f, "would with -1", () -> f.would(0, -1, 0));
        Check.index(f, "would with 1", () -> f.would(0, 1, 0));
        Check.index(f, "would with 12", () -> f.would(0, 12, 0));
        Check.index(f, "would by -1", () -> f.would(0, 0, -1));
        Check.index(f, "would by 6", () -> f.would(0, 0, 6));
    }

    private static void mean() {
        SharedForks f = new SharedForks();
        Check.same("mean of none", f.mean(), 0.0);
        f.leaf(true);
        Check.same("mean of a leaf", f.mean(), 0.0);
        f.ask(0);
        Check.same("mean of two", f.mean(), 0.5);
        f.ask(1);
        Check.same("mean of three", f.mean(), 2.0 / 3);
        f.join(1, 2, 2);
        Check.same("mean of four", f.mean(), 1.25);
        f.drop(0);
        Check.same("mean after a drop", f.mean(), 5.0 / 3);
    }

    private static void digestOfNoFolds() {
        SharedForks f = new SharedForks();
        long due = digest(1709, 0, 0, 0, 0, 0, 0, 1, 2, 3, 4, 5, 6, 7, 0, 0, 0, 0, 0, 0, 0, 0, 0, 0, 0, 0);
        Check.same("digest of a new object", f.digest(), due);
        f.swap(3);
        due = digest(1709, 0, 0, 0, 0, 0, 0, 1, 2, 4, 3, 5, 6, 7, 0, 0, 0, 0, 0, 0, 0, 0, 0, 0, 0, 0);
        Check.same("digest of another order", f.digest(), due);
    }

    private static void digestOfFolds() {
        SharedForks f = new SharedForks();
        f.ask(0);
        f.leaf(false);
        f.ask(1);
        f.join(0, 2, 0);
        f.drop(0);
        long due = digest(1709, 3, 2, 3, 1, 1);
        due = digest(due, 0, 1, 2, 3, 4, 5, 6, 7);
        due = digest(due, 0);
        due = digest(due, 1, 0, 0, 0, 0, 0, -1, -1, 0);
        due = digest(due, 1, 1, 128, 2, 1, 1, 2, 255, 0, 1, -1, -2, 0, 2);
        due = digest(due, 1, 2, 64, 3, 1, 2, 3, 255, 1, 0, -1, 1, 0, 1, 1, -1, -2, 1, 2);
        due = digest(due, 0, 0, 0, 0, 0, 0, 0, 0);
        Check.same("digest of folds", f.digest(), due);
    }
}
