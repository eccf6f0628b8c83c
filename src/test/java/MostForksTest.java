/**
 * The edges of the room: a fold with the most forks that eight questions allow, 1 + 2 + 4 + 8 + 16 + 32 + 12 + 2,
 * and twelve folds with the most that they can have together, 12 + 24 + 48 + 96 + 192 + 240 + 12 + 2.
 */
public final class MostForksTest {
    private final SharedForks forks = new SharedForks();
    private final PlainFolds plain = new PlainFolds();
    private int five;
    private int six;
    private int seven;
    private int notSeven;
    private int parts = 0;

    private MostForksTest() {
    }

    public static void main(String[] args) {
        new MostForksTest().mostOfOne();
        new MostForksTest().mostTogether();
        Check.end();
    }

    private void mostOfOne() {
        five = ask(5);
        six = ask(6);
        seven = ask(7);
        notSeven = join(seven, seven, 3);
        int fold = build(0);
        Check.same("forks of the fold", forks.about(fold, 0), 77);
        Check.same("digest with it", forks.digest(), plain.digest());
        Check.same("the last fork", forks.fork(fold, 76, 4), plain.fork(fold, 76, 4));
        Check.index(forks, "fork at 77", () -> forks.fork(fold, 77, 0));
        Check.same("would with it", forks.would(fold, five, 2), plain.would(fold, five, 2));
        Check.same("would have the most", forks.would(fold, fold, 0), 77);
        Check.same("advise with it", forks.advise(), plain.advise());
        Check.same("asked of it", forks.asked(fold), plain.asked(fold));
        for (int place = 0; place < 7; place++) {
            Check.same("swap " + place, forks.swap(place), plain.swap(place));
            Check.same("digest after swap " + place, forks.digest(), plain.digest());
        }
    }

    /**
     * Between them the parts of the first eight folds behind 0 to 4 are all that the questions 5 to 7 can make;
     * the others have the same parts in pairs of their own.
     */
    private void mostTogether() {
        int first = linearFold();
        int fiveSeven = join(five, seven, 0);
        int sixSeven = join(six, seven, 0);
        int fiveSix = join(five, six, 0);
        int allThree = join(fiveSix, seven, 0);
        drop(five, six, seven);
        int[] made = new int[12];
        made[0] = first;
        made[1] = join(first, fiveSeven, 2);
        made[2] = join(first, sixSeven, 2);
        made[3] = join(made[1], sixSeven, 2);
        drop(fiveSeven, sixSeven);
        for (int i = 0; i < 4; i++) {
            made[4 + i] = join(made[i], allThree, 2);
        }
        drop(allThree);
        for (int i = 0; i < 3; i++) {
            made[8 + i] = join(made[i], fiveSix, 2);
        }
        drop(first);
        made[11] = join(made[3], fiveSix, 2);
        drop(fiveSix);
        Check.same("forks of eleven", forks.count(1), 595);
        join(made[1], made[3], 1);
        Check.same("forks of twelve", forks.count(1), 626);
        Check.same("forks of twelve as well", plain.count(1), 626);
        lookAtMostTogether();
    }

    /** Of 0 to 4, each with another part of 5 to 7: 0 alone, 1 and 5, 2 and 6, 3 and 7, 4 and both 5 and 6. */
    private int linearFold() {
        five = ask(5);
        six = ask(6);
        seven = ask(7);
        int fiveSix = join(five, six, 0);
        int[] with = {five, six, seven, fiveSix};
        int fold = ask(0);
        for (int question = 1; question <= 4; question++) {
            int asked = ask(question);
            int both = join(asked, with[question - 1], 0);
            int more = join(fold, both, 2);
            drop(fold, asked, both);
            fold = more;
        }
        drop(fiveSix);
        return fold;
    }

    private void lookAtMostTogether() {
        Check.same("folds", forks.count(0), 12);
        Check.same("forks added", forks.count(2), plain.count(2));
        Check.same("digest of the most", forks.digest(), plain.digest());
        Check.same("advise with the most", forks.advise(), plain.advise());
        Check.state(forks, "one more than the most", () -> forks.leaf(true));
        for (int place = 0; place < 7; place++) {
            Check.same("swap of the most " + place, forks.swap(place), plain.swap(place));
        }
        Check.same("digest after all swaps", forks.digest(), plain.digest());
    }

    private int ask(int question) {
        plain.ask(question);
        return forks.ask(question);
    }

    private int join(int a, int b, int what) {
        plain.join(a, b, what);
        return forks.join(a, b, what);
    }

    private int choose(int a, int b, int c) {
        plain.choose(a, b, c);
        return forks.choose(a, b, c);
    }

    private void drop(int... folds) {
        for (int fold : folds) {
            plain.drop(fold);
            forks.drop(fold);
        }
    }

    /** A fold that chooses by the questions from this one to 4 between 32 different parts. */
    private int build(int question) {
        if (question == 5) {
            return partOfThree();
        }
        int low = build(question + 1);
        int high = build(question + 1);
        int chooser = ask(question);
        int fold = choose(chooser, high, low);
        drop(low, high, chooser);
        return fold;
    }

    /** Each time another one of the parts that the questions 5 to 7 make: no pair of its parts comes twice. */
    private int partOfThree() {
        int one = parts % 12;
        int other = (one + 1 + parts / 12) % 12;
        parts++;
        int low = partOfTwo(one);
        int high = partOfTwo(other);
        int fold = choose(five, high, low);
        drop(low, high);
        return fold;
    }

    /** One of the twelve folds of the questions 6 and 7 for which 6 matters. */
    private int partOfTwo(int which) {
        if (which < 6) {
            return join(six, seven, which);
        }
        int[] how = {0, 1, 3, 4};
        return which < 10 ? join(six, notSeven, how[which - 6]) : join(six, six, which == 10 ? 0 : 3);
    }
}
