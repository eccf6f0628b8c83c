/**
 * Each sentence of the document that refuses a call ("Throws .. if .."): a test of its own, with the numbers
 * just outside and far away, and with the last ones inside, which are not refused.
 */
public final class RefusalsTest {
    private interface Call {
        Object answer(SharedForks f, int number);
    }

    private interface Maker {
        int make(SharedForks f);
    }

    private static final int LEAST = Integer.MIN_VALUE;
    private static final int GREATEST = Integer.MAX_VALUE;

    // What is no number of a fold in some(): outside 0 to 11, dropped (1), or never made (4, 11).
    private static final int[] NO_FOLD = {LEAST, -12, -1, 1, 4, 11, 12, 13, 256, GREATEST};
    private static final int[] FOLDS = {0, 2, 3};
    private static final int[] NO_QUESTION = {LEAST, -8, -1, 8, 9, 32, 256, GREATEST};
    private static final int[] QUESTIONS = {0, 7};
    private static final int[] NO_WAY_TO_JOIN = {LEAST, -6, -1, 6, 7, GREATEST};
    private static final int[] WAYS_TO_JOIN = {0, 5};

    private RefusalsTest() {
    }

    public static void main(String[] args) {
        leafIfThereAreTwelve();
        askNoQuestion();
        askIfThereAreTwelve();
        askNoQuestionIfThereAreTwelve();
        joinNoFold();
        joinInNoSuchWay();
        joinIfThereAreTwelve();
        joinWrongIfThereAreTwelve();
        chooseNoFold();
        chooseIfThereAreTwelve();
        chooseNoFoldIfThereAreTwelve();
        givenNoFold();
        givenNoQuestion();
        givenIfThereAreTwelve();
        givenWrongIfThereAreTwelve();
        withoutNoFold();
        withoutNoQuestion();
        withoutIfThereAreTwelve();
        withoutWrongIfThereAreTwelve();
        dropNoFold();
        dropTwice();
        swapNoPlace();
        orderNoPlace();
        saysNoFold();
        saysToNoAnswers();
        saysNoFoldToNoAnswers();
        forkNoFold();
        forkNoPlace();
        forkNoPlaceOfALeaf();
        forkNoPlaceAfterASwap();
        forkNoPlaceOfASmallerFoldWithTheNumber();
        forkNothingSuch();
        aboutNoFold();
        aboutNothingSuch();
        askedNoFold();
        compareNoFold();
        countNothingSuch();
        hasNoNumber();
        wouldNoFold();
        wouldInNoSuchWay();
        wouldIsNotRefusedIfThereAreTwelve();
        noFoldIsThereInANewObject();
        refusedCallsChangeNothing();
        Check.end();
    }

    /** Folds with the numbers 0, 2 and 3; the last one has three forks. */
    private static SharedForks some() {
        SharedForks f = new SharedForks();
        f.ask(0);
        f.leaf(true);
        f.ask(6);
        f.join(0, 2, 2);
        f.drop(1);
        return f;
    }

    private static SharedForks full() {
        SharedForks f = some();
        for (int number = 3; number < 12; number++) {
            f.ask(number % 8);
        }
        return f;
    }

    private static void noIndex(String name, int[] numbers, Call call) {
        for (int number : numbers) {
            SharedForks f = some();
            Check.index(f, name + " " + number, () -> call.answer(f, number));
        }
    }

    private static void noIndexIfFull(String name, int[] numbers, Call call) {
        for (int number : numbers) {
            SharedForks f = full();
            Check.index(f, name + " " + number + " with 12 folds", () -> call.answer(f, number));
        }
    }

    private static void taken(String name, int[] numbers, Call call) {
        for (int number : numbers) {
            SharedForks f = some();
            boolean isRefused = Check.outcome(() -> call.answer(f, number)) instanceof String;
            Check.same(name + " " + number + " is refused", isRefused, false);
        }
    }

    /** The twelfth fold is made, the next one is refused, and again so after one was dropped. */
    private static void noneBeyondTwelve(String name, Maker maker) {
        SharedForks f = full();
        f.drop(11);
        Check.same("twelfth " + name, maker.make(f), 11);
        Check.state(f, "thirteenth " + name, () -> maker.make(f));
        Check.same("a drop for " + name, f.drop(5), 11);
        Check.same(name + " after a drop", maker.make(f), 5);
        Check.state(f, "one more " + name, () -> maker.make(f));
        Check.same("folds after " + name, f.count(0), 12);
    }

    // ---- promises 2 to 8

    private static void leafIfThereAreTwelve() {
        noneBeyondTwelve("leaf no", f -> f.leaf(false));
        noneBeyondTwelve("leaf yes", f -> f.leaf(true));
    }

    private static void askNoQuestion() {
        noIndex("ask", NO_QUESTION, (f, n) -> f.ask(n));
        taken("ask", QUESTIONS, (f, n) -> f.ask(n));
    }

    private static void askIfThereAreTwelve() {
        noneBeyondTwelve("ask 0", f -> f.ask(0));
        noneBeyondTwelve("ask 7", f -> f.ask(7));
    }

    private static void askNoQuestionIfThereAreTwelve() {
        noIndexIfFull("ask", NO_QUESTION, (f, n) -> f.ask(n));
    }

    private static void joinNoFold() {
        noIndex("join of", NO_FOLD, (f, n) -> f.join(n, 0, 0));
        noIndex("join with", NO_FOLD, (f, n) -> f.join(0, n, 0));
        noIndex("join with itself of", NO_FOLD, (f, n) -> f.join(n, n, 5));
        taken("join of", FOLDS, (f, n) -> f.join(n, 0, 0));
        taken("join with", FOLDS, (f, n) -> f.join(0, n, 0));
    }

    private static void joinInNoSuchWay() {
        noIndex("join by", NO_WAY_TO_JOIN, (f, n) -> f.join(0, 2, n));
        taken("join by", WAYS_TO_JOIN, (f, n) -> f.join(0, 2, n));
    }

    private static void joinIfThereAreTwelve() {
        noneBeyondTwelve("join by 0", f -> f.join(0, 2, 0));
        noneBeyondTwelve("join by 5", f -> f.join(3, 3, 5));
    }

    private static void joinWrongIfThereAreTwelve() {
        int[] outside = {LEAST, -1, 12, GREATEST};
        noIndexIfFull("join of", outside, (f, n) -> f.join(n, 0, 0));
        noIndexIfFull("join with", outside, (f, n) -> f.join(0, n, 0));
        noIndexIfFull("join by", NO_WAY_TO_JOIN, (f, n) -> f.join(0, 2, n));
    }

    private static void chooseNoFold() {
        noIndex("choose by", NO_FOLD, (f, n) -> f.choose(n, 0, 2));
        noIndex("choose, if yes,", NO_FOLD, (f, n) -> f.choose(0, n, 2));
        noIndex("choose, if no,", NO_FOLD, (f, n) -> f.choose(0, 2, n));
        taken("choose by", FOLDS, (f, n) -> f.choose(n, 0, 2));
        taken("choose, if yes,", FOLDS, (f, n) -> f.choose(0, n, 2));
        taken("choose, if no,", FOLDS, (f, n) -> f.choose(0, 2, n));
    }

    private static void chooseIfThereAreTwelve() {
        noneBeyondTwelve("choose", f -> f.choose(0, 2, 3));
        noneBeyondTwelve("choose of one fold", f -> f.choose(3, 3, 3));
    }

    private static void chooseNoFoldIfThereAreTwelve() {
        int[] outside = {LEAST, -1, 12, GREATEST};
        noIndexIfFull("choose by", outside, (f, n) -> f.choose(n, 0, 2));
        noIndexIfFull("choose, if yes,", outside, (f, n) -> f.choose(0, n, 2));
        noIndexIfFull("choose, if no,", outside, (f, n) -> f.choose(0, 2, n));
    }

    private static void givenNoFold() {
        noIndex("given of", NO_FOLD, (f, n) -> f.given(n, 0, true));
        taken("given of", FOLDS, (f, n) -> f.given(n, 0, true));
    }

    private static void givenNoQuestion() {
        noIndex("given yes to", NO_QUESTION, (f, n) -> f.given(3, n, true));
        noIndex("given no to", NO_QUESTION, (f, n) -> f.given(3, n, false));
        taken("given yes to", QUESTIONS, (f, n) -> f.given(3, n, true));
        taken("given no to", QUESTIONS, (f, n) -> f.given(3, n, false));
    }

    private static void givenIfThereAreTwelve() {
        noneBeyondTwelve("given yes", f -> f.given(3, 0, true));
        noneBeyondTwelve("given no", f -> f.given(3, 7, false));
    }

    private static void givenWrongIfThereAreTwelve() {
        noIndexIfFull("given of", new int[] {LEAST, -1, 12, GREATEST}, (f, n) -> f.given(n, 0, true));
        noIndexIfFull("given yes to", NO_QUESTION, (f, n) -> f.given(3, n, true));
    }

    private static void withoutNoFold() {
        noIndex("without of", NO_FOLD, (f, n) -> f.without(n, 0, true));
        taken("without of", FOLDS, (f, n) -> f.without(n, 0, true));
    }

    private static void withoutNoQuestion() {
        noIndex("without, both,", NO_QUESTION, (f, n) -> f.without(3, n, true));
        noIndex("without, one,", NO_QUESTION, (f, n) -> f.without(3, n, false));
        taken("without, both,", QUESTIONS, (f, n) -> f.without(3, n, true));
        taken("without, one,", QUESTIONS, (f, n) -> f.without(3, n, false));
    }

    private static void withoutIfThereAreTwelve() {
        noneBeyondTwelve("without, both", f -> f.without(3, 0, true));
        noneBeyondTwelve("without, one", f -> f.without(3, 7, false));
    }

    private static void withoutWrongIfThereAreTwelve() {
        noIndexIfFull("without of", new int[] {LEAST, -1, 12, GREATEST}, (f, n) -> f.without(n, 0, true));
        noIndexIfFull("without, both,", NO_QUESTION, (f, n) -> f.without(3, n, true));
    }

    private static void dropNoFold() {
        noIndex("drop", NO_FOLD, (f, n) -> f.drop(n));
        taken("drop", FOLDS, (f, n) -> f.drop(n));
        noIndexIfFull("drop", new int[] {LEAST, -1, 12, GREATEST}, (f, n) -> f.drop(n));
    }

    private static void dropTwice() {
        for (int number : FOLDS) {
            SharedForks f = some();
            Check.same("drop " + number, f.drop(number), 2);
            Check.index(f, "drop twice " + number, () -> f.drop(number));
        }
    }

    // ---- promises 9 and 10

    private static void swapNoPlace() {
        int[] outside = {LEAST, -7, -1, 7, 8, 9, GREATEST};
        noIndex("swap", outside, (f, n) -> f.swap(n));
        noIndexIfFull("swap", outside, (f, n) -> f.swap(n));
        taken("swap", new int[] {0, 6}, (f, n) -> f.swap(n));
    }

    private static void orderNoPlace() {
        noIndex("order", new int[] {LEAST, -8, -1, 8, 9, GREATEST}, (f, n) -> f.order(n));
        taken("order", new int[] {0, 7}, (f, n) -> f.order(n));
    }

    // ---- promises 11 to 17

    private static void saysNoFold() {
        noIndex("says of", NO_FOLD, (f, n) -> f.says(n, 0));
        taken("says of", FOLDS, (f, n) -> f.says(n, 0));
    }

    private static void saysToNoAnswers() {
        for (int answers : new int[] {LEAST, -256, -1, 256, 257, 512, GREATEST}) {
            SharedForks f = some();
            Check.argument(f, "says to " + answers, () -> f.says(3, answers));
        }
        taken("says to", new int[] {0, 255}, (f, n) -> f.says(3, n));
    }

    private static void saysNoFoldToNoAnswers() {
        noIndex("says to 256 of", NO_FOLD, (f, n) -> f.says(n, 256));
        noIndex("says to -1 of", NO_FOLD, (f, n) -> f.says(n, -1));
    }

    private static void forkNoFold() {
        noIndex("fork of", NO_FOLD, (f, n) -> f.fork(n, 0, 0));
        taken("fork of", FOLDS, (f, n) -> f.fork(n, 0, 0));
    }

    /** -1 and -2 stand for leaves, which are at no place. */
    private static void forkNoPlace() {
        noIndex("fork at", new int[] {LEAST, -2, -1, 3, 4, 76, 77, 255, 1024, GREATEST}, (f, n) -> f.fork(3, n, 0));
        noIndex("fork of one at", new int[] {-2, -1, 1, 2}, (f, n) -> f.fork(0, n, 4));
        taken("fork at", new int[] {0, 2}, (f, n) -> f.fork(3, n, 0));
    }

    private static void forkNoPlaceOfALeaf() {
        for (boolean yes : new boolean[] {false, true}) {
            for (int place : new int[] {-2, -1, 0, 1}) {
                SharedForks f = some();
                int leaf = f.leaf(yes);
                Check.index(f, "fork of leaf " + yes + " at " + place, () -> f.fork(leaf, place, 0));
            }
        }
    }

    /** Six forks become four by an exchange, and six again. */
    private static void forkNoPlaceAfterASwap() {
        SharedForks f = new SharedForks();
        int fold = Build.pairs(f, 0, 2, 1, 3);
        Check.same("forks in the first order", f.about(fold, 0), 6);
        f.fork(fold, 5, 0);
        Check.index(f, "fork at 6", () -> f.fork(fold, 6, 0));
        f.swap(1);
        f.fork(fold, 3, 0);
        Check.index(f, "fork at 4 after a swap", () -> f.fork(fold, 4, 0));
        Check.index(f, "fork at 5 after a swap", () -> f.fork(fold, 5, 0));
        f.swap(1);
        f.fork(fold, 5, 0);
        Check.index(f, "fork at 6 once more", () -> f.fork(fold, 6, 0));
    }

    private static void forkNoPlaceOfASmallerFoldWithTheNumber() {
        SharedForks f = some();
        f.drop(0);
        Check.same("number of a leaf where a question was", f.leaf(true), 0);
        Check.index(f, "fork of a leaf where a question was", () -> f.fork(0, 0, 0));
        SharedForks g = some();
        g.drop(3);
        Check.same("number of a leaf", g.leaf(true), 1);
        Check.same("number of one fork where three were", g.ask(1), 3);
        g.fork(3, 0, 0);
        Check.index(g, "fork at 1 where three were", () -> g.fork(3, 1, 0));
        Check.index(g, "fork at 2 where three were", () -> g.fork(3, 2, 0));
    }

    private static void forkNothingSuch() {
        noIndex("fork 3 0", new int[] {LEAST, -2, -1, 5, 6, GREATEST}, (f, n) -> f.fork(3, 0, n));
        taken("fork 3 0", new int[] {0, 4}, (f, n) -> f.fork(3, 0, n));
    }

    private static void aboutNoFold() {
        noIndex("about", NO_FOLD, (f, n) -> f.about(n, 0));
        taken("about", FOLDS, (f, n) -> f.about(n, 0));
    }

    private static void aboutNothingSuch() {
        noIndex("about 3", new int[] {LEAST, -1, 8, 9, GREATEST}, (f, n) -> f.about(3, n));
        taken("about 3", new int[] {0, 7}, (f, n) -> f.about(3, n));
    }

    private static void askedNoFold() {
        noIndex("asked", NO_FOLD, (f, n) -> f.asked(n));
        taken("asked", FOLDS, (f, n) -> f.asked(n));
    }

    private static void compareNoFold() {
        noIndex("compare", NO_FOLD, (f, n) -> f.compare(n, 0));
        noIndex("compare with", NO_FOLD, (f, n) -> f.compare(0, n));
        noIndex("compare with itself", NO_FOLD, (f, n) -> f.compare(n, n));
        taken("compare", FOLDS, (f, n) -> f.compare(n, 0));
        taken("compare with", FOLDS, (f, n) -> f.compare(0, n));
    }

    private static void countNothingSuch() {
        noIndex("count", new int[] {LEAST, -1, 5, 6, GREATEST}, (f, n) -> f.count(n));
        taken("count", new int[] {0, 4}, (f, n) -> f.count(n));
    }

    private static void hasNoNumber() {
        int[] outside = {LEAST, -12, -1, 12, 13, 256, GREATEST};
        noIndex("has", outside, (f, n) -> f.has(n));
        noIndexIfFull("has", outside, (f, n) -> f.has(n));
        taken("has", new int[] {0, 1, 11}, (f, n) -> f.has(n));
    }

    // ---- promise 19

    private static void wouldNoFold() {
        noIndex("would of", NO_FOLD, (f, n) -> f.would(n, 0, 0));
        noIndex("would with", NO_FOLD, (f, n) -> f.would(0, n, 0));
        noIndex("would with itself of", NO_FOLD, (f, n) -> f.would(n, n, 5));
        taken("would of", FOLDS, (f, n) -> f.would(n, 0, 0));
        taken("would with", FOLDS, (f, n) -> f.would(0, n, 0));
    }

    private static void wouldInNoSuchWay() {
        noIndex("would by", NO_WAY_TO_JOIN, (f, n) -> f.would(0, 2, n));
        taken("would by", WAYS_TO_JOIN, (f, n) -> f.would(0, 2, n));
    }

    private static void wouldIsNotRefusedIfThereAreTwelve() {
        SharedForks f = full();
        Check.same("would with 12 folds", f.would(0, 2, 2), 3);
        noIndexIfFull("would of", new int[] {-1, 12}, (g, n) -> g.would(n, 0, 0));
        noIndexIfFull("would by", NO_WAY_TO_JOIN, (g, n) -> g.would(0, 2, n));
    }

    // ---- all promises

    private static void noFoldIsThereInANewObject() {
        Call[] calls = {
            (f, n) -> f.join(n, n, 0), (f, n) -> f.choose(n, n, n), (f, n) -> f.given(n, 0, true),
            (f, n) -> f.without(n, 0, true), (f, n) -> f.drop(n), (f, n) -> f.says(n, 0),
            (f, n) -> f.fork(n, 0, 0), (f, n) -> f.about(n, 0), (f, n) -> f.asked(n),
            (f, n) -> f.compare(n, n), (f, n) -> f.would(n, n, 0)
        };
        for (int which = 0; which < calls.length; which++) {
            Call call = calls[which];
            for (int number = 0; number < 12; number++) {
                SharedForks f = new SharedForks();
                int fold = number;
                Check.index(f, "call " + which + " of fold " + number + " when new", () -> call.answer(f, fold));
            }
        }
    }

    /** An object that refused calls of all kinds goes on as its twin does that had none of them. */
    private static void refusedCallsChangeNothing() {
        SharedForks f = full();
        SharedForks twin = full();
        f.swap(5);
        twin.swap(5);
        refuse(f, (g, n) -> g.leaf(n == 12), (g, n) -> g.ask(3), (g, n) -> g.ask(n), (g, n) -> g.join(0, 2, 2),
                (g, n) -> g.join(n, 0, 0), (g, n) -> g.join(0, n, 0), (g, n) -> g.join(0, 2, n),
                (g, n) -> g.choose(2, 0, 3), (g, n) -> g.choose(0, 2, n), (g, n) -> g.given(3, 6, true),
                (g, n) -> g.given(3, n, true), (g, n) -> g.without(3, 6, true), (g, n) -> g.without(3, n, true),
                (g, n) -> g.drop(n), (g, n) -> g.swap(n), (g, n) -> g.order(n), (g, n) -> g.says(3, n * 30),
                (g, n) -> g.fork(3, n, 0), (g, n) -> g.fork(3, 0, n), (g, n) -> g.about(3, n), (g, n) -> g.asked(n),
                (g, n) -> g.compare(0, n), (g, n) -> g.count(n), (g, n) -> g.has(n), (g, n) -> g.would(0, 2, n));
        for (int answers = 0; answers < 256; answers++) {
            Check.same("says of 3 to " + answers, f.says(3, answers), twin.says(3, answers));
        }
        for (int number = 0; number < 12; number++) {
            Check.same("asked of " + number, f.asked(number), twin.asked(number));
        }
        Check.same("digest", f.digest(), twin.digest());
        Check.same("drop then", f.drop(3), twin.drop(3));
        Check.same("drop first", f.drop(0), twin.drop(0));
        Check.same("number then", f.ask(6), 0);
        Check.same("number of the twin", twin.ask(6), 0);
        Check.same("digest at last", f.digest(), twin.digest());
    }

    private static void refuse(SharedForks f, Call... calls) {
        for (int which = 0; which < calls.length; which++) {
            for (int number : new int[] {-1, 12}) {
                Call call = calls[which];
                boolean isRefused = Check.outcome(() -> call.answer(f, number)) instanceof String;
                Check.same("call " + which + " with " + number + " is refused", isRefused, true);
            }
        }
    }
}
