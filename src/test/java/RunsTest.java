import java.util.function.Function;

/** All promises: long runs of calls, with ordinary and wrong arguments, answered by PlainFolds as well. */
public final class RunsTest {
    private static final int RUNS = 60;
    private static final int CALLS = 512;

    private long seed;
    private int mostForksOfOne = 0;
    private int mostForksOfAll = 0;

    private RunsTest(long seed) {
        this.seed = seed;
    }

    public static void main(String[] args) {
        RunsTest test = new RunsTest(20261119);
        for (int run = 0; run < RUNS; run++) {
            test.run(run);
        }
        System.out.println("most forks of one fold " + test.mostForksOfOne + ", of all " + test.mostForksOfAll);
        Check.same("runs reach folds with many forks", test.mostForksOfOne >= 60, true);
        Check.same("runs reach many forks together", test.mostForksOfAll >= 300, true);
        Check.end();
    }

    /** A number below the bound, the same ones each time that the test runs. */
    private int below(int bound) {
        seed = seed * 6364136223846793005L + 1442695040888963407L;
        return (int) ((seed >>> 33) % bound);
    }

    /** Mostly a number that is fine, at times one that is just outside or far away. */
    private int number(int bound) {
        int[] outside = {-1, bound, Integer.MIN_VALUE, Integer.MAX_VALUE};
        return below(40) == 0 ? outside[below(4)] : below(bound);
    }

    private boolean truth() {
        return below(2) == 0;
    }

    private void run(int run) {
        SharedForks forks = new SharedForks();
        PlainFolds plain = new PlainFolds();
        int calls = 0;
        // Every other run keeps the eight questions as folds for a time: so the other folds grow intricate.
        boolean deep = run % 2 == 1;
        for (int question = 0; deep && question < 8; question++) {
            int asked = question;
            calls += both("ask", forks, plain, f -> f.ask(asked), p -> p.ask(asked));
        }
        while (calls < CALLS) {
            boolean looks = below(3) == 0 && calls >= 20;
            boolean grows = deep && calls < 200;
            if (looks) {
                calls += look(run, forks, plain);
            } else {
                calls += grows ? grow(run, forks, plain) : change(run, forks, plain);
            }
        }
    }

    private int grow(int run, SharedForks forks, PlainFolds plain) {
        int question = below(8);
        int a = below(12);
        int b = 8 + below(4);
        String name = "run " + run + ": ";
        if (plain.count(0) == 12) {
            return both(name + "drop", forks, plain, f -> f.drop(b), p -> p.drop(b));
        }
        int low = plain.has(b) ? b : below(8);
        if (below(3) == 0) {
            return both(name + "join", forks, plain, f -> f.join(a, low, 2), p -> p.join(a, low, 2));
        }
        return both(name + "choose", forks, plain, f -> f.choose(question, a, low), p -> p.choose(question, a, low));
    }

    private static int both(String call, SharedForks forks, PlainFolds plain,
            Function<SharedForks, Object> got, Function<PlainFolds, Object> due) {
        Check.same(call, Check.outcome(() -> got.apply(forks)), Check.outcome(() -> due.apply(plain)));
        return 1;
    }

    private int change(int run, SharedForks forks, PlainFolds plain) {
        int a = number(12);
        int b = number(12);
        int c = number(12);
        int question = number(8);
        int what = truth() ? 2 : number(6);
        boolean truth = truth();
        String name = "run " + run + ": ";
        if (plain.count(0) == 12 && below(4) > 0) {
            return dropFold(name, forks, plain);
        }
        switch (below(19)) {
            case 0:
                return both(name + "leaf", forks, plain, f -> f.leaf(truth), p -> p.leaf(truth));
            case 1: case 2: case 3: case 4:
                return both(name + "ask", forks, plain, f -> f.ask(question), p -> p.ask(question));
            case 5: case 6: case 7: case 8:
                return both(name + "join", forks, plain, f -> f.join(a, b, what), p -> p.join(a, b, what));
            case 9: case 10: case 11: case 12: case 13:
                return both(name + "choose", forks, plain, f -> f.choose(a, b, c), p -> p.choose(a, b, c));
            case 14:
                return both(name + "given", forks, plain, f -> f.given(a, question, truth),
                        p -> p.given(a, question, truth));
            case 15:
                return both(name + "without", forks, plain, f -> f.without(a, question, truth),
                        p -> p.without(a, question, truth));
            case 16: case 17:
                int place = number(7);
                return both(name + "swap", forks, plain, f -> f.swap(place), p -> p.swap(place));
            default:
                return both(name + "drop", forks, plain, f -> f.drop(a), p -> p.drop(a));
        }
    }

    /** Folds with few forks go first, so that those with many are left to be joined. */
    private int dropFold(String name, SharedForks forks, PlainFolds plain) {
        int dropped = 0;
        int fewest = 78;
        for (int fold = 0; fold < 12; fold++) {
            if (plain.about(fold, 0) < fewest) {
                dropped = fold;
                fewest = plain.about(fold, 0);
            }
        }
        int number = dropped;
        return both(name + "drop", forks, plain, f -> f.drop(number), p -> p.drop(number));
    }

    private int look(int run, SharedForks forks, PlainFolds plain) {
        int a = number(12);
        int b = number(12);
        int answers = number(256);
        int place = number(8);
        String name = "run " + run + ": ";
        int what = number(5);
        switch (below(13)) {
            case 0:
                return both(name + "says", forks, plain, f -> f.says(a, answers), p -> p.says(a, answers));
            case 1: case 2:
                return lookAtFork(name, forks, plain, a, what);
            case 3:
                return both(name + "about", forks, plain, f -> f.about(a, place), p -> p.about(a, place));
            case 4:
                return both(name + "asked", forks, plain, f -> f.asked(a), p -> p.asked(a));
            case 5:
                return both(name + "compare", forks, plain, f -> f.compare(a, b), p -> p.compare(a, b));
            case 6:
                return both(name + "count", forks, plain, f -> f.count(what), p -> p.count(what));
            case 7:
                return both(name + "has", forks, plain, f -> f.has(a), p -> p.has(a));
            case 8:
                return both(name + "order", forks, plain, f -> f.order(place), p -> p.order(place));
            case 9:
                return both(name + "advise", forks, plain, f -> f.advise(), p -> p.advise());
            case 10:
                int join = number(6);
                return both(name + "would", forks, plain, f -> f.would(a, b, join), p -> p.would(a, b, join));
            case 11:
                return both(name + "mean", forks, plain, f -> f.mean(), p -> p.mean());
            default:
                return both(name + "digest", forks, plain, f -> f.digest(), p -> p.digest());
        }
    }

    private int lookAtFork(String name, SharedForks forks, PlainFolds plain, int fold, int what) {
        boolean there = fold >= 0 && fold < 12 && plain.has(fold);
        int size = there ? plain.about(fold, 0) : 0;
        mostForksOfOne = Math.max(mostForksOfOne, size);
        mostForksOfAll = Math.max(mostForksOfAll, plain.count(1));
        int place = number(size + 1);
        return both(name + "fork", forks, plain, f -> f.fork(fold, place, what), p -> p.fork(fold, place, what));
    }
}
