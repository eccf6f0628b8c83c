/** Compares answers with those that are due, and ends a test with exit code 1 if one was wrong. */
final class Check {
    interface Call {
        Object answer();
    }

    private static int right = 0;
    private static int wrong = 0;

    private Check() {
    }

    static void same(String what, Object got, Object due) {
        if (due.equals(got)) {
            right++;
        } else {
            wrong++;
            System.out.println(what + " is " + got + ", due is " + due);
        }
    }

    /** All that about() tells of a fold. */
    static void about(SharedForks f, int fold, int... due) {
        for (int what = 0; what < 8; what++) {
            same("about " + fold + " " + what, f.about(fold, what), due[what]);
        }
    }

    /** All that fork() tells of a fork. */
    static void fork(SharedForks f, int fold, int place, int... due) {
        for (int what = 0; what < 5; what++) {
            same("fork " + fold + " " + place + " " + what, f.fork(fold, place, what), due[what]);
        }
    }

    static void counts(SharedForks f, int... due) {
        for (int what = 0; what < 5; what++) {
            same("count " + what, f.count(what), due[what]);
        }
    }

    static void order(SharedForks f, int... due) {
        for (int place = 0; place < 8; place++) {
            same("order " + place, f.order(place), due[place]);
        }
    }

    static void index(SharedForks forks, String what, Call call) {
        refused(forks, what, call, IndexOutOfBoundsException.class);
    }

    static void state(SharedForks forks, String what, Call call) {
        refused(forks, what, call, IllegalStateException.class);
    }

    static void argument(SharedForks forks, String what, Call call) {
        refused(forks, what, call, IllegalArgumentException.class);
    }

    /** The very exception is due, and that the object answers as before. */
    private static void refused(SharedForks forks, String what, Call call, Class<?> due) {
        long before = forks.digest();
        Object outcome = outcome(call);
        same(what, outcome, due.getName());
        same("digest after " + what, forks.digest(), before);
    }

    /** What a call answers, or the name of the class of what it throws. */
    static Object outcome(Call call) {
        try {
            return call.answer();
        } catch (RuntimeException e) {
            return e.getClass().getName();
        }
    }

    static void end() {
        System.out.println(right + " answers as due, " + wrong + " not");
        if (wrong > 0 || right == 0) {
            System.exit(1);
        }
    }
}
