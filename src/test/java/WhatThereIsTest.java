/** Promises 11 to 17: says, fork, about, asked, compare, count, has. */
public final class WhatThereIsTest {
    private WhatThereIsTest() {
    }

    public static void main(String[] args) {
        says();
        forksOfAnOddNumber();
        aheadIsTheShortestWay();
        ownersOfForks();
        aboutAQuestion();
        aboutAMixedFold();
        aboutFoldsWithOneYes();
        ownForks();
        asked();
        compare();
        count();
        has();
        Check.end();
    }

    private static void row(SharedForks f, int fold, int[]... due) {
        Check.same("forks of " + fold, f.about(fold, 0), due.length);
        for (int place = 0; place < due.length; place++) {
            for (int what = 0; what < 5; what++) {
                Check.same("fork " + fold + " " + place + " " + what, f.fork(fold, place, what), due[place][what]);
            }
        }
    }

    private static int[] fork(int question, int low, int high, int ahead, int owners) {
        return new int[] {question, low, high, ahead, owners};
    }

    private static void says() {
        SharedForks f = new SharedForks();
        f.ask(7);
        Check.same("says to 127", f.says(0, 127), false);
        Check.same("says to 128", f.says(0, 128), true);
        Check.same("says to 0", f.says(0, 0), false);
        Check.same("says to 255", f.says(0, 255), true);
    }

    private static void forksOfAnOddNumber() {
        SharedForks f = new SharedForks();
        f.ask(0);
        f.ask(1);
        f.ask(2);
        f.join(0, 1, 2);
        f.join(3, 2, 2);
        row(f, 4,
                fork(0, 1, 4, 0, 1),
                fork(1, 2, 3, 1, 1),
                fork(2, -1, -2, 2, 2),
                fork(2, -2, -1, 2, 1),
                fork(1, 3, 2, 1, 1));
        row(f, 3, fork(0, 1, 2, 0, 1), fork(1, -1, -2, 1, 2), fork(1, -2, -1, 1, 1));
        row(f, 2, fork(2, -1, -2, 0, 2));
    }

    /** The part for 2 and 3 is met behind 0 and 1 first, and behind 0 alone then. */
    private static void aheadIsTheShortestWay() {
        SharedForks f = new SharedForks();
        f.ask(0);
        f.ask(1);
        f.ask(2);
        f.ask(3);
        f.join(2, 3, 0);
        f.join(0, 1, 1);
        f.join(5, 4, 0);
        row(f, 6,
                fork(0, 1, 2, 0, 1),
                fork(1, -1, 2, 1, 1),
                fork(2, -1, 3, 1, 2),
                fork(3, -1, -2, 2, 3));
    }

    private static void ownersOfForks() {
        SharedForks f = new SharedForks();
        f.ask(4);
        f.ask(4);
        Check.same("equal folds share", f.fork(0, 0, 4), 2);
        f.ask(3);
        f.join(2, 0, 0);
        Check.same("a part is shared", f.fork(1, 0, 4), 3);
        Check.same("as a part", f.fork(3, 1, 4), 3);
        f.drop(0);
        Check.same("shared after a drop", f.fork(1, 0, 4), 2);
        f.swap(3);
        Check.same("shared no more", f.fork(1, 0, 4), 1);
        Check.same("another one is", f.fork(2, 0, 4), 2);
    }

    private static void aboutAQuestion() {
        SharedForks f = new SharedForks();
        f.ask(5);
        Check.about(f, 0, 1, 128, 32, 1, 1, 32, 255, 1);
    }

    /** Yes if neither 7 nor 1 is, or all of 7, 2 and 3 are. */
    private static void aboutAMixedFold() {
        SharedForks f = new SharedForks();
        f.ask(7);
        f.ask(1);
        f.ask(2);
        f.ask(3);
        f.join(2, 3, 0);
        f.join(1, 1, 4);
        f.choose(0, 4, 5);
        Check.about(f, 6, 7, 96, 128 + 2 + 4 + 8, 2, 4, 0, 255, 6);
        f.given(6, 7, false);
        Check.about(f, 7, 1, 128, 2, 1, 1, 0, 253, 0);
        f.given(6, 7, true);
        Check.about(f, 8, 2, 64, 12, 1, 2, 12, 255, 0);
    }

    /** Yes to 0 alone, and to 255 alone; these two differ from a leaf in the very last answers. */
    private static void aboutFoldsWithOneYes() {
        SharedForks f = new SharedForks();
        int no = f.leaf(false);
        int any = f.leaf(false);
        int all = f.leaf(true);
        for (int question = 0; question < 8; question++) {
            int asked = f.ask(question);
            any = replace(f, any, f.join(any, asked, 1));
            all = replace(f, all, f.join(all, asked, 0));
            f.drop(asked);
        }
        int none = f.join(any, any, 4);
        Check.about(f, none, 8, 1, 255, 1, 8, 0, 0, 8);
        Check.about(f, all, 8, 1, 255, 1, 8, 255, 255, 7);
        Check.about(f, any, 8, 255, 255, 1, 8, 1, 255, 7);
        Check.same("none with no", f.compare(none, no), 2);
        Check.same("no with none", f.compare(no, none), 1);
        Check.same("none with any", f.compare(none, any), 3);
        Check.same("all with no", f.compare(all, no), 2);
        Check.same("all with any", f.compare(all, any), 1);
        Check.same("asked of none", f.asked(none), 255 / 128.0);
    }

    private static int replace(SharedForks f, int old, int made) {
        f.drop(old);
        return made;
    }

    private static void ownForks() {
        SharedForks f = new SharedForks();
        f.ask(0);
        f.ask(1);
        f.join(0, 1, 2);
        Check.same("own forks of the join", f.about(2, 7), 2);
        Check.same("own forks of a part", f.about(1, 7), 0);
        f.drop(1);
        Check.same("own forks after a drop", f.about(2, 7), 3);
        f.join(2, 2, 0);
        Check.same("own forks of a fold made twice", f.about(2, 7), 0);
    }

    private static void asked() {
        SharedForks f = new SharedForks();
        f.leaf(true);
        Check.same("asked of a leaf", f.asked(0), 0.0);
        f.ask(0);
        Check.same("asked of a question", f.asked(1), 1.0);
        int all = 1;
        double due = 1;
        for (int question = 1; question < 8; question++) {
            int next = f.ask(question);
            int more = f.join(all, next, 0);
            f.drop(next);
            f.drop(all);
            all = more;
            due += 1.0 / (1 << question);
            Check.same("asked of " + (question + 1) + " questions", f.asked(all), due);
            Check.same("least asked", f.about(all, 3), 1);
            Check.same("most asked", f.about(all, 4), question + 1);
        }
    }

    private static void compare() {
        SharedForks f = new SharedForks();
        int no = f.leaf(false);
        int yes = f.leaf(true);
        int zero = f.ask(0);
        int one = f.ask(1);
        int both = f.join(zero, one, 0);
        int none = f.join(zero, one, 4);
        int notZero = f.join(zero, zero, 3);
        int same = f.join(both, both, 0);
        int[][] due = {
            {no, no, 0}, {yes, yes, 0}, {zero, zero, 0}, {both, same, 0}, {same, both, 0},
            {no, yes, 1}, {yes, no, 2}, {no, zero, 1}, {zero, no, 2}, {zero, yes, 1}, {yes, zero, 2},
            {both, zero, 1}, {zero, both, 2}, {none, notZero, 1}, {notZero, none, 2},
            {both, none, 3}, {none, both, 3}, {zero, notZero, 3}, {notZero, both, 3},
            {zero, one, 4}, {one, zero, 4}, {one, notZero, 4}
        };
        for (int[] row : due) {
            Check.same("compare " + row[0] + " " + row[1], f.compare(row[0], row[1]), row[2]);
        }
    }

    private static void count() {
        SharedForks f = new SharedForks();
        f.ask(0);
        Check.counts(f, 1, 1, 1, 1, 0);
        f.ask(1);
        Check.counts(f, 2, 2, 2, 1, 0);
        f.join(0, 1, 0);
        Check.counts(f, 3, 3, 4, 2, 0);
        f.join(0, 1, 0);
        Check.counts(f, 4, 3, 6, 2, 0);
        f.leaf(false);
        f.leaf(true);
        f.leaf(true);
        Check.counts(f, 7, 3, 6, 2, 3);
        f.swap(0);
        Check.counts(f, 7, 3, 6, 2, 3);
        f.swap(0);
        f.swap(1);
        f.swap(0);
        Check.counts(f, 7, 3, 6, 0, 3);
        f.drop(0);
        f.drop(5);
        Check.counts(f, 5, 2, 5, 0, 2);
    }

    private static void has() {
        SharedForks f = new SharedForks();
        f.ask(0);
        f.leaf(true);
        f.drop(0);
        Check.same("has 0", f.has(0), false);
        Check.same("has 1", f.has(1), true);
        Check.same("has 2", f.has(2), false);
        Check.same("has 11", f.has(11), false);
    }
}
