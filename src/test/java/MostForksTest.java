/** The edge of the room: a fold with the most forks that eight questions allow, 1 + 2 + 4 + 8 + 16 + 32 + 12 + 2. */
public final class MostForksTest {
    private final SharedForks forks = new SharedForks();
    private final PlainFolds plain = new PlainFolds();
    private int five;
    private int six;
    private int seven;
    private int notSeven;
    private int parts = 0;

    private MostForksTest() {
    }

    public static void main(String[] args) {
        new MostForksTest().run();
        Check.end();
    }

    private void run() {
        five = ask(5);
        six = ask(6);
        seven = ask(7);
        notSeven = join(seven, seven, 3);
        int fold = build(0);
        Check.same("forks of the fold", forks.about(fold, 0), 77);
        Check.same("digest with it", forks.digest(), plain.digest());
        Check.same("the last fork", forks.fork(fold, 76, 4), plain.fork(fold, 76, 4));
        Check.index(forks, "fork at 77", () -> forks.fork(fold, 77, 0));
        Check.same("would with it", forks.would(fold, five, 2), plain.would(fold, five, 2));
        Check.same("advise with it", forks.advise(), plain.advise());
        Check.same("asked of it", forks.asked(fold), plain.asked(fold));
        for (int place = 0; place < 7; place++) {
            Check.same("swap " + place, forks.swap(place), plain.swap(place));
            Check.same("digest after swap " + place, forks.digest(), plain.digest());
        }
    }

    private int ask(int question) {
        plain.ask(question);
        return forks.ask(question);
    }

    private int join(int a, int b, int what) {
        plain.join(a, b, what);
        return forks.join(a, b, what);
    }

    private int choose(int a, int b, int c) {
        plain.choose(a, b, c);
        return forks.choose(a, b, c);
    }

    private void drop(int... folds) {
        for (int fold : folds) {
            plain.drop(fold);
            forks.drop(fold);
        }
    }

    /** A fold that chooses by the questions from this one to 4 between 32 different parts. */
    private int build(int question) {
        if (question == 5) {
            return partOfThree();
        }
        int low = build(question + 1);
        int high = build(question + 1);
        int chooser = ask(question);
        int fold = choose(chooser, high, low);
        drop(low, high, chooser);
        return fold;
    }

    /** Each time another one of the parts that the questions 5 to 7 make: no pair of its parts comes twice. */
    private int partOfThree() {
        int one = parts % 12;
        int other = (one + 1 + parts / 12) % 12;
        parts++;
        int low = partOfTwo(one);
        int high = partOfTwo(other);
        int fold = choose(five, high, low);
        drop(low, high);
        return fold;
    }

    /** One of the twelve folds of the questions 6 and 7 for which 6 matters. */
    private int partOfTwo(int which) {
        if (which < 6) {
            return join(six, seven, which);
        }
        int[] how = {0, 1, 3, 4};
        return which < 10 ? join(six, notSeven, how[which - 6]) : join(six, six, which == 10 ? 0 : 3);
    }
}
