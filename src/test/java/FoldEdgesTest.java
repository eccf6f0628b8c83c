/** The edges of what promises 1 to 8 answer, promise by promise; what is refused stands in RefusalsTest. */
public final class FoldEdgesTest {
    private FoldEdgesTest() {
    }

    public static void main(String[] args) {
        newObjectIsEmpty();
        leafSaysTheSameToEachAnswer();
        askSaysWhatIsAnsweredToEachAnswer();
        joinOfLeaves();
        joinOfTheSameFold();
        chooseByALeaf();
        chooseOfTheSameFold();
        givenOfALeaf();
        givenAQuestionThatDoesNotMatter();
        givenTheLastQuestionThatMatters();
        givenTheFirstAndTheLastQuestion();
        withoutOfALeaf();
        withoutAQuestionThatDoesNotMatter();
        withoutTheFirstAndTheLastQuestion();
        madeFoldsStayWhenTheirSourcesGo();
        dropTellsHowManyThereAreThen();
        dropOfTheLastOneLeavesANewObject();
        Check.end();
    }

    private static void same(SharedForks f, String name, int fold, int due) {
        Check.same(name, f.compare(fold, due), 0);
    }

    // ---- promise 1

    private static void newObjectIsEmpty() {
        SharedForks f = new SharedForks();
        for (int what = 0; what < 5; what++) {
            Check.same("new count " + what, f.count(what), 0);
        }
        for (int number = 0; number < 12; number++) {
            Check.same("new has " + number, f.has(number), false);
        }
        Check.order(f, 0, 1, 2, 3, 4, 5, 6, 7);
        Check.same("new advise", f.advise(), -1);
        Check.same("new mean", f.mean(), 0.0);
    }

    // ---- promises 2 and 3

    private static void leafSaysTheSameToEachAnswer() {
        for (boolean yes : new boolean[] {false, true}) {
            SharedForks f = new SharedForks();
            int leaf = f.leaf(yes);
            for (int answers = 0; answers < 256; answers++) {
                Check.same("leaf to " + answers, f.says(leaf, answers), yes);
            }
        }
    }

    private static void askSaysWhatIsAnsweredToEachAnswer() {
        for (int question : new int[] {0, 7}) {
            SharedForks f = new SharedForks();
            int fold = f.ask(question);
            for (int answers = 0; answers < 256; answers++) {
                boolean due = question == 0 ? answers % 2 == 1 : answers >= 128;
                Check.same("ask " + question + " to " + answers, f.says(fold, answers), due);
            }
        }
    }

    // ---- promise 4

    private static void joinOfLeaves() {
        String[] due = {"0001", "0111", "0110", "1110", "1000", "1001"};
        for (int what = 0; what < 6; what++) {
            SharedForks f = new SharedForks();
            f.leaf(false);
            f.leaf(true);
            for (int pair = 0; pair < 4; pair++) {
                int yes = f.about(f.join(pair / 2, pair % 2, what), 1);
                Check.same("join " + what + " of " + pair, yes, due[what].charAt(pair) == '1' ? 256 : 0);
            }
        }
    }

    private static void joinOfTheSameFold() {
        SharedForks f = new SharedForks();
        int asked = f.ask(5);
        int not = f.join(asked, asked, 3);
        int no = f.leaf(false);
        int yes = f.leaf(true);
        int[] due = {asked, asked, no, not, not, yes};
        for (int what = 0; what < 6; what++) {
            same(f, "join with itself " + what, f.join(asked, asked, what), due[what]);
        }
    }

    // ---- promise 5

    private static void chooseByALeaf() {
        SharedForks f = new SharedForks();
        int no = f.leaf(false);
        int yes = f.leaf(true);
        int one = f.ask(1);
        int two = f.ask(2);
        same(f, "choose by yes", f.choose(yes, one, two), one);
        same(f, "choose by no", f.choose(no, one, two), two);
        same(f, "choose leaves", f.choose(one, yes, no), one);
        Check.same("choose leaves the other way round", f.compare(f.choose(one, no, yes), one), 3);
    }

    private static void chooseOfTheSameFold() {
        SharedForks f = new SharedForks();
        int one = f.ask(1);
        int two = f.ask(2);
        same(f, "choose of one fold by itself", f.choose(one, one, one), one);
        same(f, "choose the same by another", f.choose(one, two, two), two);
        same(f, "either", f.choose(one, one, two), f.join(one, two, 1));
        same(f, "both", f.choose(one, two, one), f.join(one, two, 0));
    }

    // ---- promise 6

    private static void givenOfALeaf() {
        SharedForks f = new SharedForks();
        f.leaf(false);
        f.leaf(true);
        same(f, "given of no", f.given(0, 0, true), 0);
        same(f, "given of yes", f.given(1, 7, false), 1);
    }

    private static void givenAQuestionThatDoesNotMatter() {
        SharedForks f = new SharedForks();
        int fold = Build.pairs(f, 1, 6);
        for (int question : new int[] {0, 3, 7}) {
            same(f, "given yes to " + question, f.given(fold, question, true), fold);
            same(f, "given no to " + question, f.given(fold, question, false), fold);
        }
    }

    private static void givenTheLastQuestionThatMatters() {
        for (int question = 0; question < 8; question++) {
            SharedForks f = new SharedForks();
            int fold = f.ask(question);
            Check.same("yes of given yes", f.about(f.given(fold, question, true), 1), 256);
            Check.same("yes of given no", f.about(f.given(fold, question, false), 1), 0);
        }
    }

    /** The answer is what is given, whether the answers that are asked for have it or not. */
    private static void givenTheFirstAndTheLastQuestion() {
        SharedForks f = new SharedForks();
        int both = Build.pairs(f, 0, 7);
        int withFirst = f.given(both, 0, true);
        int withLast = f.given(both, 7, true);
        Check.same("given 0, to 128", f.says(withFirst, 128), true);
        Check.same("given 0, to 129", f.says(withFirst, 129), true);
        Check.same("given 0, to 127", f.says(withFirst, 127), false);
        Check.same("given 7, to 1", f.says(withLast, 1), true);
        Check.same("given 7, to 255", f.says(withLast, 255), true);
        Check.same("given 7, to 254", f.says(withLast, 254), false);
        Check.same("given no to 0", f.about(f.given(both, 0, false), 1), 0);
        Check.same("given no to 7", f.about(f.given(both, 7, false), 1), 0);
    }

    // ---- promise 7

    private static void withoutOfALeaf() {
        for (boolean both : new boolean[] {false, true}) {
            SharedForks f = new SharedForks();
            f.leaf(false);
            f.leaf(true);
            same(f, "without of no", f.without(0, 7, both), 0);
            same(f, "without of yes", f.without(1, 0, both), 1);
        }
    }

    private static void withoutAQuestionThatDoesNotMatter() {
        SharedForks f = new SharedForks();
        int fold = Build.pairs(f, 1, 6);
        for (int question : new int[] {0, 3, 7}) {
            same(f, "without " + question + ", both", f.without(fold, question, true), fold);
            same(f, "without " + question + ", one", f.without(fold, question, false), fold);
        }
    }

    private static void withoutTheFirstAndTheLastQuestion() {
        SharedForks f = new SharedForks();
        int zero = f.ask(0);
        int seven = f.ask(7);
        int both = f.join(zero, seven, 0);
        int any = f.join(zero, seven, 1);
        Check.same("both of both", f.about(f.without(both, 0, true), 1), 0);
        same(f, "one of both", f.without(both, 0, false), seven);
        same(f, "both of any", f.without(any, 7, true), zero);
        Check.same("one of any", f.about(f.without(any, 7, false), 1), 256);
    }

    // ---- promise 8

    private static void madeFoldsStayWhenTheirSourcesGo() {
        SharedForks f = new SharedForks();
        int asked = f.ask(2);
        int other = f.ask(6);
        int join = f.join(asked, other, 0);
        int chosen = f.choose(asked, other, asked);
        int given = f.given(join, 6, true);
        int rest = f.without(join, 2, false);
        Build.drop(f, asked, other);
        f.leaf(true);
        f.leaf(false);
        same(f, "join", join, chosen);
        Check.about(f, join, 2, 64, 4 + 64, 1, 2, 4 + 64, 255, 0);
        Check.about(f, given, 1, 128, 4, 1, 1, 4, 255, 1);
        Check.about(f, rest, 1, 128, 64, 1, 1, 64, 255, 0);
    }

    private static void dropTellsHowManyThereAreThen() {
        SharedForks f = Build.full();
        for (int left = 11; left >= 0; left--) {
            Check.same("drop with " + left + " left", f.drop(left % 2 == 0 ? left / 2 : 6 + left / 2), left);
            Check.same("folds left", f.count(0), left);
        }
    }

    private static void dropOfTheLastOneLeavesANewObject() {
        SharedForks f = new SharedForks();
        long before = f.digest();
        int fold = Build.odd(f, 3);
        Check.same("drop of the last", f.drop(fold), 0);
        Check.same("digest as when new", f.digest(), before);
        Check.same("mean as when new", f.mean(), 0.0);
        Check.same("number as when new", f.ask(0), 0);
    }
}
