/** Promises 1 to 8: a new object, and making and dropping folds. */
public final class FoldsTest {
    private interface Rule {
        boolean yes(int answers);
    }

    private FoldsTest() {
    }

    public static void main(String[] args) {
        newObjectsAreApart();
        leaf();
        ask();
        join();
        choose();
        given();
        without();
        drop();
        nothingStaysOfADroppedFold();
        Check.end();
    }

    private static boolean bit(int answers, int question) {
        return (answers >> question) % 2 == 1;
    }

    /** The fold says what the rule says; looks at 128 of the 256 answers, so that a few folds fit in 512 calls. */
    private static void says(SharedForks f, int fold, String name, Rule rule) {
        for (int i = 0; i < 128; i++) {
            int answers = 2 * i + i % 2;
            Check.same(name + " to " + answers, f.says(fold, answers), rule.yes(answers));
        }
        int count = 0;
        for (int answers = 0; answers < 256; answers++) {
            count += rule.yes(answers) ? 1 : 0;
        }
        Check.same("yes of " + name, f.about(fold, 1), count);
    }

    private static void newObjectsAreApart() {
        SharedForks one = new SharedForks();
        SharedForks other = new SharedForks();
        one.ask(3);
        one.swap(0);
        Check.same("count of the other", other.count(0), 0);
        Check.same("order of the other", other.order(0), 0);
        Check.same("first number of the other", other.leaf(true), 0);
    }

    private static void leaf() {
        SharedForks f = new SharedForks();
        Check.same("first leaf", f.leaf(false), 0);
        Check.same("second leaf", f.leaf(true), 1);
        says(f, 0, "leaf no", answers -> false);
        says(f, 1, "leaf yes", answers -> true);
        Check.same("forks of a leaf", f.about(1, 0), 0);
        Check.same("leaves", f.count(4), 2);
    }

    private static void ask() {
        for (int question = 0; question < 8; question++) {
            int asked = question;
            SharedForks f = new SharedForks();
            f.leaf(true);
            Check.same("number of ask", f.ask(question), 1);
            says(f, 1, "ask " + question, answers -> bit(answers, asked));
            Check.same("question asked", f.fork(1, 0, 0), question);
        }
    }

    private static boolean joined(boolean a, boolean b, int what) {
        int yes = (a ? 1 : 0) + (b ? 1 : 0);
        boolean[] due = {yes == 2, yes >= 1, yes == 1, yes < 2, yes == 0, yes != 1};
        return due[what];
    }

    private static void join() {
        for (int what = 0; what < 6; what++) {
            int how = what;
            SharedForks f = new SharedForks();
            f.ask(2);
            f.ask(5);
            Check.same("number of join", f.join(0, 1, what), 2);
            says(f, 2, "join " + what, answers -> joined(bit(answers, 2), bit(answers, 5), how));
        }
    }

    private static void choose() {
        SharedForks f = new SharedForks();
        f.ask(7);
        f.ask(0);
        f.ask(4);
        Check.same("number of choose", f.choose(0, 1, 2), 3);
        says(f, 3, "choose", answers -> bit(answers, 7) ? bit(answers, 0) : bit(answers, 4));
        Check.same("choose of one fold", f.choose(0, 2, 2), 4);
        Check.same("it is that one", f.compare(4, 2), 0);
        Check.same("choose by itself", f.choose(0, 0, 1), 5);
        says(f, 5, "choose by itself", answers -> bit(answers, 7) || bit(answers, 0));
    }

    private static void given() {
        SharedForks f = new SharedForks();
        f.ask(3);
        f.ask(6);
        f.join(0, 1, 0);
        Check.same("number of given", f.given(2, 3, true), 3);
        says(f, 3, "given yes", answers -> bit(answers, 6));
        Check.same("number of given no", f.given(2, 3, false), 4);
        says(f, 4, "given no", answers -> false);
        f.given(2, 5, true);
        Check.same("given what does not matter", f.compare(5, 2), 0);
        Check.same("questions that matter then", f.about(3, 2), 64);
    }

    private static void without() {
        SharedForks f = new SharedForks();
        f.ask(1);
        f.ask(4);
        f.ask(5);
        f.choose(0, 1, 2);
        Check.same("number of without", f.without(3, 1, true), 4);
        says(f, 4, "without, both", answers -> bit(answers, 4) && bit(answers, 5));
        Check.same("number of without, one", f.without(3, 1, false), 5);
        says(f, 5, "without, one", answers -> bit(answers, 4) || bit(answers, 5));
        f.without(3, 7, true);
        Check.same("without what does not matter", f.compare(6, 3), 0);
    }

    private static void drop() {
        SharedForks f = new SharedForks();
        f.ask(0);
        f.ask(1);
        f.join(0, 1, 2);
        Check.same("forks before", f.count(1), 4);
        Check.same("drop", f.drop(1), 2);
        Check.same("has it", f.has(1), false);
        Check.same("forks then", f.count(1), 4);
        Check.same("drop of the join", f.drop(2), 1);
        Check.same("forks left", f.count(1), 1);
        Check.same("the first one stays", f.says(0, 1), true);
        Check.same("drop of the last", f.drop(0), 0);
        Check.same("forks of none", f.count(1), 0);
    }

    /** A new fold with the number of a dropped one says its own at both ends of the answers. */
    private static void nothingStaysOfADroppedFold() {
        SharedForks f = new SharedForks();
        int yes = f.ask(7);
        int no = f.join(yes, yes, 3);
        for (boolean stale : new boolean[] {true, false}) {
            ends(f, stale, "leaf", () -> f.leaf(!stale), stale ? 0 : 3);
            ends(f, stale, "ask", () -> f.ask(0), 2);
            ends(f, stale, "join", () -> f.join(yes, no, 0), 0);
            ends(f, stale, "join", () -> f.join(yes, no, 1), 3);
            ends(f, stale, "choose", () -> f.choose(yes, no, yes), 0);
            ends(f, stale, "choose", () -> f.choose(yes, yes, no), 3);
            ends(f, stale, "given", () -> f.given(yes, 7, false), 0);
            ends(f, stale, "given", () -> f.given(yes, 7, true), 3);
            ends(f, stale, "without", () -> f.without(yes, 7, true), 0);
            ends(f, stale, "without", () -> f.without(yes, 7, false), 3);
        }
    }

    /** Looks at what a fold says to 0 (1 if yes) and to 255 (2) that is made where one said the same to all. */
    private static void ends(SharedForks f, boolean stale, String name, Check.Call made, int due) {
        int dropped = f.leaf(stale);
        f.drop(dropped);
        Check.same("number of " + name, made.answer(), dropped);
        int ends = (f.says(dropped, 0) ? 1 : 0) + (f.says(dropped, 255) ? 2 : 0);
        Check.same("ends of " + name + " where all was " + stale, ends, due);
        f.drop(dropped);
    }
}
