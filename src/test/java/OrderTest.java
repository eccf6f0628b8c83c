/** Promises 9 and 10: swap and order. */
public final class OrderTest {
    private OrderTest() {
    }

    public static void main(String[] args) {
        swapExchangesTwoQuestions();
        swapLaysForksAnew();
        swapKeepsWhatIsSaid();
        newFoldsKeepToTheOrder();
        Check.end();
    }

    /** Yes if 0 and 2 are, or 1 and 3: forks are fewest if 0 stands next to 2, and 1 next to 3. */
    private static int pairs(SharedForks f) {
        return Build.pairs(f, 0, 2, 1, 3);
    }

    private static void swapExchangesTwoQuestions() {
        SharedForks f = new SharedForks();
        Check.same("swap without folds", f.swap(0), 0);
        Check.order(f, 1, 0, 2, 3, 4, 5, 6, 7);
        f.swap(6);
        Check.order(f, 1, 0, 2, 3, 4, 5, 7, 6);
        f.swap(1);
        f.swap(2);
        Check.order(f, 1, 2, 3, 0, 4, 5, 7, 6);
        f.swap(6);
        Check.order(f, 1, 2, 3, 0, 4, 5, 6, 7);
    }

    private static void swapLaysForksAnew() {
        SharedForks f = new SharedForks();
        int fold = pairs(f);
        Check.same("forks at first", f.count(1), 6);
        Check.same("first question", f.fork(fold, 0, 0), 0);
        Check.same("swap 1", f.swap(1), 4);
        Check.same("forks then", f.about(fold, 0), 4);
        Check.same("second question of the row", f.fork(fold, 1, 0), 1);
        Check.same("swap 0", f.swap(0), 4);
        Check.same("first question then", f.fork(fold, 0, 0), 2);
        Check.same("swap back", f.swap(0), 4);
        Check.same("swap back to the first order", f.swap(1), 6);
    }

    private static void swapKeepsWhatIsSaid() {
        SharedForks f = new SharedForks();
        int fold = pairs(f);
        for (int place = 0; place < 7; place++) {
            f.swap(place);
        }
        Check.order(f, 1, 2, 3, 4, 5, 6, 7, 0);
        for (int answers = 0; answers < 256; answers++) {
            boolean due = answers % 2 == 1 && (answers & 4) != 0 || (answers & 10) == 10;
            Check.same("says to " + answers, f.says(fold, answers), due);
        }
        Check.same("smallest yes", f.about(fold, 5), 5);
        Check.same("questions", f.about(fold, 2), 15);
    }

    private static void newFoldsKeepToTheOrder() {
        SharedForks f = new SharedForks();
        f.swap(0);
        f.ask(0);
        f.ask(1);
        f.join(0, 1, 0);
        Check.same("first question of a new fold", f.fork(2, 0, 0), 1);
        Check.same("its high part is the other", f.fork(2, 1, 0), 0);
        Check.same("forks that ask the first question", f.count(3), 2);
    }
}
