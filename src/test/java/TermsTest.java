/** The sentences of "Terms" that bound all promises: a test of its own for each. */
public final class TermsTest {
    private interface Maker {
        int make(SharedForks f, int from);
    }

    private static final Maker[] MAKERS = {
        (f, from) -> f.leaf(true), (f, from) -> f.ask(7), (f, from) -> f.join(from, from, 3),
        (f, from) -> f.choose(from, from, from), (f, from) -> f.given(from, 0, true),
        (f, from) -> f.without(from, 7, false)
    };

    private TermsTest() {
    }

    public static void main(String[] args) {
        eightQuestionsFromZero();
        answersAreAddedToANumber();
        orderIsThatOfTheNumbersAtFirst();
        atMostTwelveFolds();
        numbersGoFromZeroToEleven();
        smallestFreeNumberForEachMaker();
        droppedNumberIsFreeAtOnce();
        leafIfTheSameIsSaidToAll();
        forkIfOneAnswerDiffers();
        questionIsTheFirstThatMatters();
        questionMattersNoMoreInItsParts();
        equalPartsInOneFold();
        equalPartsOfTwoFolds();
        equalPartIsAFoldItself();
        equalFolds();
        equalPartsInAnotherOrder();
        rowLeavesOutWhatStandsThere();
        rowHoldsNoLeaves();
        leafHasNoForks();
        leafAsksNothing();
        firstNamedExceptionIsThrown();
        Check.end();
    }

    private static void row(SharedForks f, int fold, int[]... due) {
        Check.same("forks of " + fold, f.about(fold, 0), due.length);
        for (int place = 0; place < due.length; place++) {
            for (int what = 0; what < 3; what++) {
                Check.same("fork " + fold + " " + place + " " + what, f.fork(fold, place, what), due[place][what]);
            }
        }
    }

    private static int[] fork(int question, int low, int high) {
        return new int[] {question, low, high};
    }

    // ---- questions, answers and their order

    /** "There are 8, numbered from 0", "1 for the question 0, 2 for 1, 4 for 2 and so on". */
    private static void eightQuestionsFromZero() {
        for (int question = 0; question < 8; question++) {
            SharedForks f = new SharedForks();
            int fold = f.ask(question);
            int number = 1 << question;
            Check.same("yes to " + question + " alone", f.says(fold, number), true);
            Check.same("no to " + question + " alone", f.says(fold, 255 - number), false);
            Check.same("yes to none", f.says(fold, 0), false);
            Check.same("yes to all", f.says(fold, 255), true);
            Check.same("smallest for " + question, f.about(fold, 5), number);
        }
    }

    /** "All answers together are a number, 0 to 255: .. added, if the answer is yes." */
    private static void answersAreAddedToANumber() {
        for (int answers : new int[] {0, 1, 2 + 4 + 32, 127, 128, 1 + 64 + 128, 254, 255}) {
            SharedForks f = new SharedForks();
            int fold = Build.only(f, answers);
            Check.same("yes to how many", f.about(fold, 1), 1);
            Check.same("smallest of " + answers, f.about(fold, 5), answers);
            Check.same("greatest of " + answers, f.about(fold, 6), answers);
            Check.same("says to " + answers, f.says(fold, answers), true);
            Check.same("says to another", f.says(fold, answers ^ 16), false);
        }
    }

    private static void orderIsThatOfTheNumbersAtFirst() {
        SharedForks f = new SharedForks();
        for (int place = 0; place < 8; place++) {
            Check.same("order at first " + place, f.order(place), place);
        }
    }

    // ---- folds and their numbers

    /** "At most 12 are kept at a time": none beyond, by whatever it would be made. */
    private static void atMostTwelveFolds() {
        for (int first = 0; first < MAKERS.length; first++) {
            SharedForks f = new SharedForks();
            f.ask(0);
            for (int number = 1; number < 12; number++) {
                MAKERS[first].make(f, 0);
            }
            Check.same("folds when full", f.count(0), 12);
            for (int more = 0; more < MAKERS.length; more++) {
                Maker maker = MAKERS[more];
                Check.state(f, "maker " + more + " when full by " + first, () -> maker.make(f, 0));
            }
            Check.same("folds then", f.count(0), 12);
        }
    }

    private static void numbersGoFromZeroToEleven() {
        SharedForks f = new SharedForks();
        for (int number = 0; number < 12; number++) {
            Check.same("has " + number + " ahead", f.has(number), false);
            Check.same("number " + number, MAKERS[number % 2].make(f, 0), number);
            Check.same("has " + number + " then", f.has(number), true);
        }
    }

    /** "A new one has the smallest number that is free", not the one that was dropped last or first. */
    private static void smallestFreeNumberForEachMaker() {
        for (int which = 0; which < MAKERS.length; which++) {
            Maker maker = MAKERS[which];
            SharedForks f = Build.full();
            Build.drop(f, 6, 0, 11, 3);
            for (int due : new int[] {0, 3, 6, 11}) {
                Check.same("number by maker " + which, maker.make(f, 5), due);
            }
            Check.state(f, "one more by maker " + which, () -> maker.make(f, 5));
        }
    }

    private static void droppedNumberIsFreeAtOnce() {
        for (int number = 0; number < 12; number++) {
            SharedForks f = Build.full();
            f.drop(number);
            Check.same("has " + number, f.has(number), false);
            Check.same("number free at once", f.leaf(true), number);
            Check.same("what it says", f.says(number, 0), true);
            Check.same("has it again", f.has(number), true);
        }
    }

    // ---- leaves and forks

    /** "A fold that says the same to all answers is a leaf, no or yes", however it was made. */
    private static void leafIfTheSameIsSaidToAll() {
        SharedForks f = new SharedForks();
        int asked = f.ask(3);
        int not = f.join(asked, asked, 4);
        int[] leaves = {
            f.join(asked, not, 0), f.join(asked, not, 1), f.join(asked, asked, 2), f.join(asked, asked, 5),
            f.given(asked, 3, false), f.given(asked, 3, true), f.without(asked, 3, true),
            f.without(asked, 3, false), f.choose(asked, not, asked), f.choose(asked, asked, not)
        };
        for (int i = 0; i < leaves.length; i++) {
            Check.same("forks of leaf " + i, f.about(leaves[i], 0), 0);
            Check.same("yes of leaf " + i, f.about(leaves[i], 1), i % 2 == 0 ? 0 : 256);
        }
        Check.same("leaves", f.count(4), 10);
        Check.same("forks together", f.count(1), 2);
    }

    /** One of the 256 answers is enough to make it a fork for which all questions matter. */
    private static void forkIfOneAnswerDiffers() {
        for (int answers : new int[] {0, 1, 100, 128, 255}) {
            SharedForks f = new SharedForks();
            int only = Build.only(f, answers);
            int butOne = f.join(only, only, 4);
            Check.same("forks of one yes " + answers, f.about(only, 0), 8);
            Check.same("forks of one no " + answers, f.about(butOne, 0), 8);
            Check.same("questions of one yes", f.about(only, 2), 255);
            Check.same("questions of one no", f.about(butOne, 2), 255);
            Check.same("leaves", f.count(4), 0);
        }
    }

    /** "Its question is the first one in the order that matters for it": 2, or 5 if that stands ahead. */
    private static void questionIsTheFirstThatMatters() {
        SharedForks f = new SharedForks();
        int fold = Build.pairs(f, 2, 5);
        row(f, fold, fork(2, -1, 1), fork(5, -1, -2));
        f.swap(4);
        f.swap(3);
        row(f, fold, fork(2, -1, 1), fork(5, -1, -2));
        f.swap(2);
        row(f, fold, fork(5, -1, 1), fork(2, -1, -2));
        f.swap(1);
        f.swap(0);
        row(f, fold, fork(5, -1, 1), fork(2, -1, -2));
    }

    /** "Each a fold in which this question does not matter": no way asks a question twice. */
    private static void questionMattersNoMoreInItsParts() {
        SharedForks f = new SharedForks();
        int odd = Build.odd(f, 8);
        for (int place = 0; place < f.about(odd, 0); place++) {
            int question = f.fork(odd, place, 0);
            for (int what = 1; what < 3; what++) {
                int part = f.fork(odd, place, what);
                boolean isLeaf = part < 0;
                Check.same("part of " + place, isLeaf || f.fork(odd, part, 0) == question + 1, true);
                Check.same("leaf behind 7 alone", isLeaf, question == 7);
            }
        }
    }

    // ---- equal parts

    /** A part met on two ways is one fork, also if they are not of the same length. */
    private static void equalPartsInOneFold() {
        SharedForks f = new SharedForks();
        int both = Build.pairs(f, 2, 3);
        int zero = f.ask(0);
        int one = f.ask(1);
        int any = f.join(zero, one, 1);
        int fold = f.join(any, both, 0);
        row(f, fold, fork(0, 1, 2), fork(1, -1, 2), fork(2, -1, 3), fork(3, -1, -2));
    }

    private static void equalPartsOfTwoFolds() {
        SharedForks f = new SharedForks();
        int one = Build.pairs(f, 0, 7);
        int other = Build.pairs(f, 1, 7);
        Check.same("forks of both, added", f.count(2), 4);
        Check.same("forks of both, each once", f.count(1), 3);
        Check.same("the part as one of the first", f.fork(one, 1, 4), 2);
        Check.same("the part as one of the other", f.fork(other, 1, 4), 2);
        Check.same("the first one itself", f.fork(one, 0, 4), 1);
    }

    private static void equalPartIsAFoldItself() {
        SharedForks f = new SharedForks();
        int fold = Build.pairs(f, 0, 7);
        int part = f.ask(7);
        Check.same("forks together", f.count(1), 2);
        Check.same("the part in the fold", f.fork(fold, 1, 4), 2);
        Check.same("the part as a fold", f.fork(part, 0, 4), 2);
        Check.same("own forks of the part", f.about(part, 7), 0);
        Check.same("own forks of the fold", f.about(fold, 7), 1);
    }

    /** Equal folds have all forks in common, in however many folds they are. */
    private static void equalFolds() {
        SharedForks f = new SharedForks();
        int fold = Build.pairs(f, 3, 4);
        for (int copies = 2; copies <= 12; copies++) {
            int copy = f.join(fold, fold, copies % 2);
            Check.same("forks together", f.count(1), 2);
            Check.same("forks added", f.count(2), 2 * copies);
            Check.same("folds that have it", f.fork(copy, 0, 4), copies);
            Check.same("own forks of the first", f.about(fold, 7), 0);
            Check.same("own forks of the last", f.about(copy, 7), 0);
        }
    }

    /** What was shared in one order is not in another one, and the other way round. */
    private static void equalPartsInAnotherOrder() {
        SharedForks f = new SharedForks();
        int one = Build.pairs(f, 0, 1);
        int other = f.ask(1);
        Check.same("shared behind 0", f.fork(one, 1, 4), 2);
        Check.same("forks together", f.count(1), 2);
        Check.same("forks after the exchange", f.swap(0), 3);
        Check.same("shared no more", f.fork(other, 0, 4), 1);
        Check.same("own forks of the first", f.about(one, 7), 2);
        Check.same("forks after another exchange", f.swap(0), 2);
    }

    // ---- the row

    /** The high part begins with what stands there already, "with all of their parts". */
    private static void rowLeavesOutWhatStandsThere() {
        SharedForks f = new SharedForks();
        int both = Build.pairs(f, 2, 3);
        int one = f.ask(1);
        int low = f.join(one, both, 0);
        int high = f.join(one, both, 1);
        int zero = f.ask(0);
        int fold = f.choose(zero, high, low);
        row(f, fold, fork(0, 1, 4), fork(1, -1, 2), fork(2, -1, 3), fork(3, -1, -2), fork(1, 2, -2));
        int turned = f.choose(zero, low, high);
        row(f, turned, fork(0, 1, 4), fork(1, 2, -2), fork(2, -1, 3), fork(3, -1, -2), fork(1, -1, 2));
    }

    private static void rowHoldsNoLeaves() {
        SharedForks f = new SharedForks();
        int asked = f.ask(7);
        int not = f.join(asked, asked, 4);
        row(f, asked, fork(7, -1, -2));
        row(f, not, fork(7, -2, -1));
        Check.index(f, "a leaf as a place", () -> f.fork(asked, 1, 0));
    }

    /** "A fold that is a leaf has no forks", so nothing that counts forks counts it. */
    private static void leafHasNoForks() {
        for (boolean yes : new boolean[] {false, true}) {
            SharedForks f = new SharedForks();
            int leaf = f.leaf(yes);
            Check.same("forks of a leaf", f.about(leaf, 0), 0);
            Check.same("questions of a leaf", f.about(leaf, 2), 0);
            Check.same("own forks of a leaf", f.about(leaf, 7), 0);
            Check.same("forks together", f.count(1), 0);
            Check.same("forks added", f.count(2), 0);
            Check.same("forks with the first question", f.count(3), 0);
            Check.same("leaves", f.count(4), 1);
            Check.same("swap with a leaf", f.swap(0), 0);
            Check.same("would of leaves", f.would(leaf, leaf, 2), 0);
            Check.same("mean with a leaf", f.mean(), 0.0);
            Check.index(f, "fork of a leaf", () -> f.fork(leaf, 0, 0));
        }
    }

    private static void leafAsksNothing() {
        for (boolean yes : new boolean[] {false, true}) {
            SharedForks f = new SharedForks();
            int leaf = f.leaf(yes);
            Check.same("least asked of a leaf", f.about(leaf, 3), 0);
            Check.same("most asked of a leaf", f.about(leaf, 4), 0);
            Check.same("asked of a leaf", f.asked(leaf), 0.0);
        }
    }

    /** "If several exceptions apply, the one that is named first is thrown." */
    private static void firstNamedExceptionIsThrown() {
        SharedForks f = Build.full();
        Check.index(f, "ask 8 of 12", () -> f.ask(8));
        Check.index(f, "join of -1 of 12", () -> f.join(-1, 0, 0));
        Check.index(f, "join with 12 of 12", () -> f.join(0, 12, 0));
        Check.index(f, "join by 6 of 12", () -> f.join(0, 0, 6));
        Check.index(f, "choose by 12 of 12", () -> f.choose(12, 0, 0));
        Check.index(f, "choose -1 of 12", () -> f.choose(0, -1, 0));
        Check.index(f, "choose or 12 of 12", () -> f.choose(0, 0, 12));
        Check.index(f, "given of 12 of 12", () -> f.given(12, 0, true));
        Check.index(f, "given 8 of 12", () -> f.given(0, 8, true));
        Check.index(f, "without of -1 of 12", () -> f.without(-1, 0, true));
        Check.index(f, "without -1 of 12", () -> f.without(0, -1, true));
        Check.index(f, "says of no fold to 256", () -> f.says(12, 256));
        Check.index(f, "says of no fold to -1", () -> f.says(-1, -1));
    }
}
