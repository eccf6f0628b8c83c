/** The edges of what promises 9 to 17 answer, promise by promise; what is refused stands in RefusalsTest. */
public final class LookEdgesTest {
    private LookEdgesTest() {
    }

    public static void main(String[] args) {
        swapAtBothEnds();
        swapTwiceIsAsBefore();
        swapWithoutForks();
        swapCountsEachForkOnce();
        orderAtBothEnds();
        saysAtBothEnds();
        forkAtBothEnds();
        forkPartsThatAreLeaves();
        forkAheadOfNone();
        forkAheadOfMost();
        forkAheadAtTheLeast();
        forkInOneFoldAndInAll();
        aboutNoAnswersAndAll();
        aboutOneAnswerAtBothEnds();
        aboutTheMostQuestions();
        aboutLeastAndMostApart();
        aboutOwnForks();
        askedLeastAndMost();
        compareLeaves();
        compareAFoldThatNeverSaysYes();
        compareByOneAnswer();
        countOfNoneAndOfLeavesAlone();
        countWithTwelveFolds();
        countOfTheFirstQuestion();
        hasAtBothEnds();
        Check.end();
    }

    // ---- promises 9 and 10

    private static void swapAtBothEnds() {
        SharedForks f = new SharedForks();
        f.swap(0);
        Check.order(f, 1, 0, 2, 3, 4, 5, 6, 7);
        f.swap(6);
        Check.order(f, 1, 0, 2, 3, 4, 5, 7, 6);
        SharedForks g = new SharedForks();
        for (int place = 0; place < 7; place++) {
            g.swap(place);
        }
        Check.order(g, 1, 2, 3, 4, 5, 6, 7, 0);
    }

    private static void swapTwiceIsAsBefore() {
        SharedForks f = new SharedForks();
        Build.pairs(f, 0, 4, 1, 5, 2, 6);
        Build.pairs(f, 3, 7, 0, 6);
        int before = f.count(1);
        long digest = f.digest();
        for (int place = 0; place < 7; place++) {
            int there = f.swap(place);
            Check.same("swap " + place + " and count", there, f.count(1));
            Check.same("digest after swap " + place, f.digest() == digest, false);
            Check.same("swap " + place + " again", f.swap(place), before);
            Check.same("digest after both", f.digest(), digest);
        }
    }

    private static void swapWithoutForks() {
        SharedForks f = new SharedForks();
        Check.same("swap without folds", f.swap(3), 0);
        f.leaf(true);
        f.leaf(false);
        Check.same("swap with leaves alone", f.swap(3), 0);
        Check.order(f, 0, 1, 2, 3, 4, 5, 6, 7);
    }

    private static void swapCountsEachForkOnce() {
        SharedForks f = new SharedForks();
        int fold = Build.pairs(f, 0, 1);
        f.join(fold, fold, 0);
        f.ask(1);
        Check.same("forks by swap", f.swap(0), 3);
        Check.same("forks by swap back", f.swap(0), 2);
        Check.same("forks added", f.count(2), 5);
    }

    private static void orderAtBothEnds() {
        SharedForks f = new SharedForks();
        Check.same("order 0", f.order(0), 0);
        Check.same("order 7", f.order(7), 7);
        f.swap(0);
        f.swap(6);
        Check.same("order 0 then", f.order(0), 1);
        Check.same("order 7 then", f.order(7), 6);
    }

    // ---- promise 11

    private static void saysAtBothEnds() {
        for (int answers : new int[] {0, 255}) {
            SharedForks f = new SharedForks();
            int only = Build.only(f, answers);
            Check.same("says to 0", f.says(only, 0), answers == 0);
            Check.same("says to 1", f.says(only, 1), false);
            Check.same("says to 254", f.says(only, 254), false);
            Check.same("says to 255", f.says(only, 255), answers == 255);
        }
    }

    // ---- promise 12

    private static void forkAtBothEnds() {
        SharedForks f = new SharedForks();
        int odd = Build.odd(f, 8);
        Check.fork(f, odd, 0, 0, 1, 14, 0, 1);
        Check.fork(f, odd, 7, 7, -1, -2, 7, 1);
        Check.fork(f, odd, 8, 7, -2, -1, 7, 1);
        Check.fork(f, odd, 14, 1, 13, 2, 1, 1);
    }

    /** "-1 for the leaf no, -2 for the leaf yes", as the low part and as the high one. */
    private static void forkPartsThatAreLeaves() {
        SharedForks f = new SharedForks();
        int asked = f.ask(4);
        int not = f.join(asked, asked, 3);
        Check.fork(f, asked, 0, 4, -1, -2, 0, 1);
        Check.fork(f, not, 0, 4, -2, -1, 0, 1);
        int five = f.ask(5);
        Check.fork(f, f.join(asked, five, 0), 0, 4, -1, 1, 0, 1);
        Check.fork(f, f.join(asked, five, 1), 0, 4, 1, -2, 0, 1);
        Check.fork(f, f.join(not, five, 0), 0, 4, 1, -1, 0, 1);
        Check.fork(f, f.join(not, five, 1), 0, 4, -2, 1, 0, 1);
    }

    private static void forkAheadOfNone() {
        SharedForks f = new SharedForks();
        for (int question = 0; question < 8; question++) {
            Check.same("ahead of " + question, f.fork(f.ask(question), 0, 3), 0);
        }
    }

    /** Seven questions lie ahead of the last one, at the most; that others do not matter counts none. */
    private static void forkAheadOfMost() {
        SharedForks f = new SharedForks();
        int only = Build.only(f, 255);
        for (int place = 0; place < 8; place++) {
            Check.same("ahead of " + place, f.fork(only, place, 3), place);
        }
        Check.same("ahead of 7 behind 0", f.fork(Build.pairs(f, 0, 7), 1, 3), 1);
    }

    /** The fork of 2 is met behind 0 and 1 first, then behind 0 alone; or the longer way comes later. */
    private static void forkAheadAtTheLeast() {
        SharedForks f = new SharedForks();
        int low = Build.pairs(f, 1, 2);
        int two = f.ask(2);
        int zero = f.ask(0);
        int longFirst = f.choose(zero, two, low);
        Check.fork(f, longFirst, 0, 0, 1, 2, 0, 1);
        Check.fork(f, longFirst, 1, 1, -1, 2, 1, 2);
        Check.fork(f, longFirst, 2, 2, -1, -2, 1, 3);
        int shortFirst = f.choose(zero, low, two);
        Check.fork(f, shortFirst, 0, 0, 1, 2, 0, 1);
        Check.fork(f, shortFirst, 1, 2, -1, -2, 1, 4);
        Check.fork(f, shortFirst, 2, 1, -1, 1, 1, 3);
    }

    /** "How many folds have this fork, this one as well": 1 to 12. */
    private static void forkInOneFoldAndInAll() {
        SharedForks f = new SharedForks();
        int seven = f.ask(7);
        for (int question = 0; question < 7; question++) {
            Check.same("folds with 7", f.fork(seven, 0, 4), question + 1);
            int asked = f.ask(question);
            f.join(asked, seven, question % 2);
            f.drop(asked);
        }
        for (int more = 0; more < 4; more++) {
            f.join(seven, seven, more % 2);
        }
        Check.same("all folds have it", f.fork(seven, 0, 4), 12);
        Check.same("as the last one of another", f.fork(2, 1, 4), 12);
        Check.same("one fold has it alone", f.fork(2, 0, 4), 1);
        f.drop(11);
        Check.same("all that are left have it", f.fork(seven, 0, 4), 11);
    }

    // ---- promise 13

    private static void aboutNoAnswersAndAll() {
        SharedForks f = new SharedForks();
        Check.about(f, f.leaf(false), 0, 0, 0, 0, 0, -1, -1, 0);
        Check.about(f, f.leaf(true), 0, 256, 0, 0, 0, 0, 255, 0);
    }

    /** The smallest answers and the greatest ones are the same if there is one yes. */
    private static void aboutOneAnswerAtBothEnds() {
        for (int answers : new int[] {0, 1, 254, 255}) {
            SharedForks f = new SharedForks();
            int only = Build.only(f, answers);
            Check.about(f, only, 8, 1, 255, 1, 8, answers, answers, 8);
            int butOne = f.join(only, only, 3);
            Check.same("smallest but " + answers, f.about(butOne, 5), answers == 0 ? 1 : 0);
            Check.same("greatest but " + answers, f.about(butOne, 6), answers == 255 ? 254 : 255);
            Check.same("yes but " + answers, f.about(butOne, 1), 255);
        }
    }

    private static void aboutTheMostQuestions() {
        SharedForks f = new SharedForks();
        Check.about(f, Build.odd(f, 8), 15, 128, 255, 8, 8, 1, 254, 15);
    }

    private static void aboutLeastAndMostApart() {
        SharedForks f = new SharedForks();
        int zero = f.ask(0);
        int odd = Build.odd(f, 8);
        int late = f.join(zero, odd, 0);
        Check.same("least behind a leaf", f.about(late, 3), 1);
        Check.same("most in all", f.about(late, 4), 8);
        int seven = f.ask(7);
        int fold = f.choose(zero, odd, seven);
        Check.same("least of 2 or 8", f.about(fold, 3), 2);
        Check.same("most of 2 or 8", f.about(fold, 4), 8);
    }

    /** From all of its forks to none of them. */
    private static void aboutOwnForks() {
        SharedForks f = new SharedForks();
        int odd = Build.odd(f, 3);
        Check.same("all are its own", f.about(odd, 7), 5);
        int two = f.ask(2);
        Check.same("one is not", f.about(odd, 7), 4);
        Check.same("the other has none", f.about(two, 7), 0);
        int copy = f.join(odd, odd, 0);
        Check.same("none is its own", f.about(odd, 7), 0);
        Check.same("none is the copy's", f.about(copy, 7), 0);
        Build.drop(f, two, copy);
        Check.same("all are its own again", f.about(odd, 7), 5);
    }

    // ---- promise 14

    private static void askedLeastAndMost() {
        SharedForks f = new SharedForks();
        Check.same("asked of no", f.asked(f.leaf(false)), 0.0);
        Check.same("asked of yes", f.asked(f.leaf(true)), 0.0);
        Check.same("asked of one question", f.asked(f.ask(7)), 1.0);
        Check.same("asked of eight questions", f.asked(Build.odd(f, 8)), 8.0);
        Check.same("asked for one answer", f.asked(Build.only(f, 170)), 1.9921875);
        Check.same("asked of two or one", f.asked(Build.pairs(f, 3, 5)), 1.5);
    }

    // ---- promise 15

    private static void compareLeaves() {
        SharedForks f = new SharedForks();
        int no = f.leaf(false);
        int yes = f.leaf(true);
        Check.same("no with itself", f.compare(no, no), 0);
        Check.same("yes with itself", f.compare(yes, yes), 0);
        Check.same("no with another no", f.compare(no, f.leaf(false)), 0);
        Check.same("no with yes", f.compare(no, yes), 1);
        Check.same("yes with no", f.compare(yes, no), 2);
    }

    /** 1 and 2 are told ahead of 3, though they say yes to no answers together as well. */
    private static void compareAFoldThatNeverSaysYes() {
        SharedForks f = new SharedForks();
        int no = f.leaf(false);
        int asked = f.ask(3);
        int not = f.join(asked, asked, 4);
        Check.same("never with a fold", f.compare(no, asked), 1);
        Check.same("a fold with never", f.compare(asked, no), 2);
        Check.same("apart", f.compare(asked, not), 3);
        Check.same("apart, the other way round", f.compare(not, asked), 3);
    }

    private static void compareByOneAnswer() {
        for (int answers : new int[] {0, 7, 255}) {
            SharedForks f = new SharedForks();
            int only = Build.only(f, answers);
            int butOne = f.join(only, only, 3);
            int yes = f.leaf(true);
            int no = f.leaf(false);
            int asked = f.ask(answers == 0 ? 0 : 1);
            int with = f.join(asked, only, 2);
            Check.same("one with never", f.compare(only, no), 2);
            Check.same("all but one with all", f.compare(butOne, yes), 1);
            Check.same("all with all but one", f.compare(yes, butOne), 2);
            Check.same("one with all but one", f.compare(only, butOne), 3);
            Check.same("one more", f.compare(asked, with), answers == 0 ? 1 : 2);
            Check.same("one less", f.compare(with, asked), answers == 0 ? 2 : 1);
            Check.same("no answers in common, or just one not", f.compare(f.join(with, only, 1), f.join(asked, asked, 3)),
                    answers == 0 ? 4 : 3);
        }
    }

    // ---- promises 16 and 17

    private static void countOfNoneAndOfLeavesAlone() {
        SharedForks f = new SharedForks();
        Check.counts(f, 0, 0, 0, 0, 0);
        for (int number = 0; number < 12; number++) {
            f.leaf(number % 2 == 0);
            Check.counts(f, number + 1, 0, 0, 0, number + 1);
        }
    }

    private static void countWithTwelveFolds() {
        SharedForks f = Build.full();
        Check.counts(f, 12, 8, 12, 1, 0);
        f.drop(0);
        Check.counts(f, 11, 8, 11, 1, 0);
        f.drop(8);
        Check.counts(f, 10, 7, 10, 0, 0);
    }

    /** Several forks can have the first question, but only the fork itself of a fold. */
    private static void countOfTheFirstQuestion() {
        SharedForks f = new SharedForks();
        int zero = f.ask(0);
        f.join(zero, zero, 3);
        f.join(zero, zero, 0);
        Build.pairs(f, 0, 7);
        f.ask(7);
        Check.counts(f, 5, 4, 6, 3, 0);
        for (int place = 0; place < 7; place++) {
            f.swap(place);
        }
        Check.counts(f, 5, 4, 6, 0, 0);
        for (int place = 6; place >= 0; place--) {
            f.swap(place);
        }
        for (int place = 6; place >= 0; place--) {
            f.swap(place);
        }
        Check.same("7 is the first", f.order(0), 7);
        Check.counts(f, 5, 4, 6, 2, 0);
    }

    private static void hasAtBothEnds() {
        SharedForks f = Build.full();
        Check.same("has 0", f.has(0), true);
        Check.same("has 11", f.has(11), true);
        Build.drop(f, 0, 11);
        Check.same("has 0 then", f.has(0), false);
        Check.same("has 11 then", f.has(11), false);
        Check.same("has 1 then", f.has(1), true);
        Check.same("has 10 then", f.has(10), true);
    }
}
