/** Folds that several tests start from; what is made on the way is dropped, and forks stay those of the fold. */
final class Build {
    private Build() {
    }

    /** A fold that says yes if both questions of a pair are answered so, for one pair or more. */
    static int pairs(SharedForks f, int... questions) {
        int any = f.leaf(false);
        for (int i = 0; i < questions.length; i += 2) {
            int one = f.ask(questions[i]);
            int other = f.ask(questions[i + 1]);
            int both = f.join(one, other, 0);
            int more = f.join(any, both, 1);
            drop(f, any, one, other, both);
            any = more;
        }
        return any;
    }

    /** A fold of all questions from 0 up to, not with, the bound: yes to an odd number of them. */
    static int odd(SharedForks f, int bound) {
        int odd = f.leaf(false);
        for (int question = 0; question < bound; question++) {
            int asked = f.ask(question);
            int more = f.join(odd, asked, 2);
            drop(f, odd, asked);
            odd = more;
        }
        return odd;
    }

    /** A fold that says yes to these answers alone. */
    static int only(SharedForks f, int answers) {
        int only = f.leaf(true);
        for (int question = 0; question < 8; question++) {
            int asked = f.ask(question);
            int due = (answers >> question) % 2 == 1 ? asked : f.join(asked, asked, 3);
            int more = f.join(only, due, 0);
            drop(f, only, asked);
            if (due != asked) {
                f.drop(due);
            }
            only = more;
        }
        return only;
    }

    static void drop(SharedForks f, int... folds) {
        for (int fold : folds) {
            f.drop(fold);
        }
    }

    /** Twelve folds, the questions 0 to 7 and then 0 to 3 again. */
    static SharedForks full() {
        SharedForks f = new SharedForks();
        for (int number = 0; number < 12; number++) {
            f.ask(number % 8);
        }
        return f;
    }
}
