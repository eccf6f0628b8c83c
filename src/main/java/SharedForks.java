import java.util.Arrays;

/** Up to 12 folds, each saying yes or no to the answers to 8 questions, laid as forks that they share. */
public final class SharedForks {
    private static final int QUESTIONS = 8;
    private static final int ANSWERS = 256;
    private static final int FOLDS = 12;
    private static final int WAYS_TO_JOIN = 6;
    private static final int TOLD_OF_A_FORK = 5;
    private static final int TOLD_OF_A_FOLD = 8;
    private static final int COUNTS = 5;

    private static final int LEAF_NO = -1;
    private static final int LEAF_YES = -2;

    // A fold has at most 1, 2, 4, 8, 16, 32, 12 and 2 forks at the places 0 to 7: the doubling ends where
    // only so few different parts are left (16 - 4 = 12 by two questions, 4 - 2 = 2 by one).
    private static final int FORKS_OF_ONE = 77;
    // Twelve folds have at most 12, 24, 48, 96, 192, 240, 12 and 2 (256 - 16 = 240 by three questions).
    private static final int FORKS_OF_ALL = 626;
    // A power of two well above FORKS_OF_ALL, so that the search for a fork soon meets a free slot.
    private static final int SLOTS = 1024;

    private final Fold[] folds = new Fold[FOLDS];
    private final int[] questionAt = new int[QUESTIONS];
    private final Forks forks = new Forks();

    // What is only tried stands in rows of its own, so that the folds and their forks stay as they are.
    private final boolean[] triedYes = new boolean[ANSWERS];
    private final int[] triedOrder = new int[QUESTIONS];
    private final Forks triedForks = new Forks();

    public SharedForks() {
        for (int number = 0; number < FOLDS; number++) {
            folds[number] = new Fold();
        }
        for (int place = 0; place < QUESTIONS; place++) {
            questionAt[place] = place;
        }
    }

    // ---- folds

    public int leaf(boolean yes) throws IllegalStateException {
        int number = freeNumber();
        boolean[] said = folds[number].yes;
        for (int answers = 0; answers < ANSWERS; answers++) {
            said[answers] = yes;
        }
        return keep(number);
    }

    public int ask(int question) throws IndexOutOfBoundsException, IllegalStateException {
        checkBelow(question, QUESTIONS);
        int number = freeNumber();
        boolean[] said = folds[number].yes;
        for (int answers = 0; answers < ANSWERS; answers++) {
            said[answers] = isYes(answers, question);
        }
        return keep(number);
    }

    public int join(int a, int b, int what) throws IndexOutOfBoundsException, IllegalStateException {
        Fold first = foldAt(a);
        Fold second = foldAt(b);
        checkBelow(what, WAYS_TO_JOIN);
        int number = freeNumber();
        sayJoined(first, second, what, folds[number].yes);
        return keep(number);
    }

    public int choose(int a, int b, int c) throws IndexOutOfBoundsException, IllegalStateException {
        Fold chooser = foldAt(a);
        Fold ifYes = foldAt(b);
        Fold ifNo = foldAt(c);
        int number = freeNumber();
        boolean[] said = folds[number].yes;
        for (int answers = 0; answers < ANSWERS; answers++) {
            said[answers] = chooser.yes[answers] ? ifYes.yes[answers] : ifNo.yes[answers];
        }
        return keep(number);
    }

    public int given(int fold, int question, boolean yes)
            throws IndexOutOfBoundsException, IllegalStateException {
        Fold source = foldAt(fold);
        checkBelow(question, QUESTIONS);
        int number = freeNumber();
        boolean[] said = folds[number].yes;
        for (int answers = 0; answers < ANSWERS; answers++) {
            said[answers] = source.yes[withAnswer(answers, question, yes)];
        }
        return keep(number);
    }

    public int without(int fold, int question, boolean both)
            throws IndexOutOfBoundsException, IllegalStateException {
        Fold source = foldAt(fold);
        checkBelow(question, QUESTIONS);
        int number = freeNumber();
        boolean[] said = folds[number].yes;
        for (int answers = 0; answers < ANSWERS; answers++) {
            boolean ifNo = source.yes[withAnswer(answers, question, false)];
            boolean ifYes = source.yes[withAnswer(answers, question, true)];
            said[answers] = both ? ifNo && ifYes : ifNo || ifYes;
        }
        return keep(number);
    }

    public int drop(int fold) throws IndexOutOfBoundsException {
        foldAt(fold).isKept = false;
        layAll();
        return countKept();
    }

    // ---- the order

    public int swap(int place) throws IndexOutOfBoundsException {
        checkBelow(place, QUESTIONS - 1);
        exchange(questionAt, place);
        layAll();
        return forks.size;
    }

    public int order(int place) throws IndexOutOfBoundsException {
        checkBelow(place, QUESTIONS);
        return questionAt[place];
    }

    // ---- what there is

    public boolean says(int fold, int answers) throws IndexOutOfBoundsException, IllegalArgumentException {
        Fold told = foldAt(fold);
        if (answers < 0 || answers >= ANSWERS) {
            throw new IllegalArgumentException("answers are 0 to 255");
        }
        return told.yes[answers];
    }

    public int fork(int fold, int place, int what) throws IndexOutOfBoundsException {
        Fold told = foldAt(fold);
        checkBelow(place, told.size);
        checkBelow(what, TOLD_OF_A_FORK);
        return tellFork(told, place, what);
    }

    public int about(int fold, int what) throws IndexOutOfBoundsException {
        Fold told = foldAt(fold);
        checkBelow(what, TOLD_OF_A_FOLD);
        return tellFold(told, what);
    }

    public double asked(int fold) throws IndexOutOfBoundsException {
        Fold told = foldAt(fold);
        int sum = 0;
        for (int answers = 0; answers < ANSWERS; answers++) {
            sum += countAsked(told, answers);
        }
        return (double) sum / ANSWERS;
    }

    public int compare(int a, int b) throws IndexOutOfBoundsException {
        Fold first = foldAt(a);
        Fold second = foldAt(b);
        boolean secondHasAll = true;
        boolean firstHasAll = true;
        boolean apart = true;
        for (int answers = 0; answers < ANSWERS; answers++) {
            boolean firstYes = first.yes[answers];
            boolean secondYes = second.yes[answers];
            if (firstYes && secondYes) {
                apart = false;
            } else if (firstYes) {
                secondHasAll = false;
            } else if (secondYes) {
                firstHasAll = false;
            }
        }
        if (secondHasAll) {
            return firstHasAll ? 0 : 1;
        }
        if (firstHasAll) {
            return 2;
        }
        return apart ? 3 : 4;
    }

    public int count(int what) throws IndexOutOfBoundsException {
        checkBelow(what, COUNTS);
        return tellCount(what);
    }

    public boolean has(int number) throws IndexOutOfBoundsException {
        checkBelow(number, FOLDS);
        return folds[number].isKept;
    }

    // ---- what would be

    public int advise() {
        int best = -1;
        int fewest = forks.size;
        for (int place = 0; place < QUESTIONS - 1; place++) {
            int left = countForksAfterSwap(place);
            if (left < fewest) {
                fewest = left;
                best = place;
            }
        }
        return best;
    }

    public int would(int a, int b, int what) throws IndexOutOfBoundsException {
        Fold first = foldAt(a);
        Fold second = foldAt(b);
        checkBelow(what, WAYS_TO_JOIN);
        sayJoined(first, second, what, triedYes);
        triedForks.startOver(questionAt);
        triedForks.lay(triedYes);
        return triedForks.size;
    }

    public double mean() {
        int number = countKept();
        return number == 0 ? 0.0 : (double) addForks() / number;
    }

    public long digest() {
        long d = 1709;
        for (int what = 0; what < COUNTS; what++) {
            d = d * 31 + tellCount(what);
        }
        for (int place = 0; place < QUESTIONS; place++) {
            d = d * 31 + questionAt[place];
        }
        for (int number = 0; number < FOLDS; number++) {
            Fold fold = folds[number];
            d = fold.isKept ? digestFold(d * 31 + 1, fold) : d * 31;
        }
        return d;
    }

    private long digestFold(long before, Fold fold) {
        long d = before;
        for (int what = 0; what < TOLD_OF_A_FOLD; what++) {
            d = d * 31 + tellFold(fold, what);
        }
        for (int place = 0; place < fold.size; place++) {
            for (int what = 0; what < TOLD_OF_A_FORK; what++) {
                d = d * 31 + tellFork(fold, place, what);
            }
        }
        return d;
    }

    // ---- looking at arguments

    private static void checkBelow(int number, int bound) throws IndexOutOfBoundsException {
        if (number < 0 || number >= bound) {
            throw new IndexOutOfBoundsException("there is no such number");
        }
    }

    private Fold foldAt(int number) throws IndexOutOfBoundsException {
        if (number < 0 || number >= FOLDS || !folds[number].isKept) {
            throw new IndexOutOfBoundsException("there is no such fold");
        }
        return folds[number];
    }

    /** The smallest number that is free. */
    private int freeNumber() throws IllegalStateException {
        for (int number = 0; number < FOLDS; number++) {
            if (!folds[number].isKept) {
                return number;
            }
        }
        throw new IllegalStateException("there are 12 folds");
    }

    // ---- keeping folds and laying their forks

    private int keep(int number) {
        folds[number].isKept = true;
        layAll();
        return number;
    }

    /** Lays all folds anew, since every change can alter which of them share a fork. */
    private void layAll() {
        forks.startOver(questionAt);
        for (int number = 0; number < FOLDS; number++) {
            Fold fold = folds[number];
            if (fold.isKept) {
                forks.putInRow(fold, forks.lay(fold.yes));
            }
        }
    }

    private int countForksAfterSwap(int place) {
        System.arraycopy(questionAt, 0, triedOrder, 0, QUESTIONS);
        exchange(triedOrder, place);
        triedForks.startOver(triedOrder);
        for (int number = 0; number < FOLDS; number++) {
            if (folds[number].isKept) {
                triedForks.lay(folds[number].yes);
            }
        }
        return triedForks.size;
    }

    private static void exchange(int[] questions, int place) {
        int question = questions[place];
        questions[place] = questions[place + 1];
        questions[place + 1] = question;
    }

    // ---- what is said to answers

    private static boolean isYes(int answers, int question) {
        return ((answers >> question) & 1) == 1;
    }

    private static int withAnswer(int answers, int question, boolean yes) {
        int bit = 1 << question;
        return yes ? (answers | bit) : (answers & ~bit);
    }

    private static void sayJoined(Fold first, Fold second, int what, boolean[] said) {
        for (int answers = 0; answers < ANSWERS; answers++) {
            said[answers] = joined(first.yes[answers], second.yes[answers], what);
        }
    }

    private static boolean joined(boolean a, boolean b, int what) {
        switch (what) {
            case 0:
                return a && b;
            case 1:
                return a || b;
            case 2:
                return a != b;
            case 3:
                return !(a && b);
            case 4:
                return !(a || b);
            default:
                return a == b;
        }
    }

    // ---- what is told of a fork, of a fold and of all

    private int tellFork(Fold fold, int place, int what) {
        int fork = fold.forkAt[place];
        switch (what) {
            case 0:
                return forks.question[fork];
            case 1:
                return fold.lowAt[place];
            case 2:
                return fold.highAt[place];
            case 3:
                return fold.aheadAt[place];
            default:
                return forks.owners[fork];
        }
    }

    private int tellFold(Fold fold, int what) {
        switch (what) {
            case 0:
                return fold.size;
            case 1:
                return countYes(fold);
            case 2:
                return questionsThatMatter(fold);
            case 3:
                return leastAsked(fold);
            case 4:
                return mostAsked(fold);
            case 5:
                return smallestYes(fold);
            case 6:
                return greatestYes(fold);
            default:
                return countOwnForks(fold);
        }
    }

    private int tellCount(int what) {
        switch (what) {
            case 0:
                return countKept();
            case 1:
                return forks.size;
            case 2:
                return addForks();
            case 3:
                return countForksAtFirstPlace();
            default:
                return countLeaves();
        }
    }

    private static int countYes(Fold fold) {
        int count = 0;
        for (int answers = 0; answers < ANSWERS; answers++) {
            count += fold.yes[answers] ? 1 : 0;
        }
        return count;
    }

    /** Just those questions matter for a fold that one of its forks asks. */
    private int questionsThatMatter(Fold fold) {
        int bits = 0;
        for (int place = 0; place < fold.size; place++) {
            bits |= 1 << forks.question[fold.forkAt[place]];
        }
        return bits;
    }

    private int leastAsked(Fold fold) {
        int least = QUESTIONS;
        for (int answers = 0; answers < ANSWERS; answers++) {
            least = Math.min(least, countAsked(fold, answers));
        }
        return least;
    }

    private int mostAsked(Fold fold) {
        int most = 0;
        for (int answers = 0; answers < ANSWERS; answers++) {
            most = Math.max(most, countAsked(fold, answers));
        }
        return most;
    }

    private int countAsked(Fold fold, int answers) {
        int count = 0;
        int at = fold.size == 0 ? LEAF_NO : 0;
        while (at >= 0 && at < fold.size && count < QUESTIONS) {
            boolean yes = isYes(answers, forks.question[fold.forkAt[at]]);
            at = yes ? fold.highAt[at] : fold.lowAt[at];
            count++;
        }
        return count;
    }

    private static int smallestYes(Fold fold) {
        for (int answers = 0; answers < ANSWERS; answers++) {
            if (fold.yes[answers]) {
                return answers;
            }
        }
        return -1;
    }

    private static int greatestYes(Fold fold) {
        for (int answers = ANSWERS - 1; answers >= 0; answers--) {
            if (fold.yes[answers]) {
                return answers;
            }
        }
        return -1;
    }

    private int countOwnForks(Fold fold) {
        int count = 0;
        for (int place = 0; place < fold.size; place++) {
            count += forks.owners[fold.forkAt[place]] == 1 ? 1 : 0;
        }
        return count;
    }

    private int countKept() {
        int count = 0;
        for (int number = 0; number < FOLDS; number++) {
            count += folds[number].isKept ? 1 : 0;
        }
        return count;
    }

    private int addForks() {
        int sum = 0;
        for (int number = 0; number < FOLDS; number++) {
            sum += folds[number].isKept ? folds[number].size : 0;
        }
        return sum;
    }

    private int countForksAtFirstPlace() {
        int count = 0;
        for (int fork = 0; fork < forks.size; fork++) {
            count += forks.question[fork] == questionAt[0] ? 1 : 0;
        }
        return count;
    }

    private int countLeaves() {
        int count = 0;
        for (int number = 0; number < FOLDS; number++) {
            count += folds[number].isKept && folds[number].size == 0 ? 1 : 0;
        }
        return count;
    }

    /** What one fold says, and its forks in their row; low and high parts are places in it, or leaves. */
    private static final class Fold {
        private boolean isKept;
        private final boolean[] yes = new boolean[ANSWERS];
        private int size;
        private final int[] forkAt = new int[FORKS_OF_ONE];
        private final int[] lowAt = new int[FORKS_OF_ONE];
        private final int[] highAt = new int[FORKS_OF_ONE];
        private final int[] aheadAt = new int[FORKS_OF_ONE];
    }

    /** The forks of folds in one order, each of them once; low and high parts are forks here, or leaves. */
    private static final class Forks {
        private int size;
        private final int[] question = new int[FORKS_OF_ALL];
        private final int[] low = new int[FORKS_OF_ALL];
        private final int[] high = new int[FORKS_OF_ALL];
        private final int[] owners = new int[FORKS_OF_ALL];
        private final int[] slots = new int[SLOTS];

        private final int[] questionAt = new int[QUESTIONS];
        // A way is a number that has the answer to the question at place 0 as its highest bit, so that
        // the two ways that differ in the last place alone stand next to each other.
        private final int[] answersOfWay = new int[ANSWERS];
        private final int[] partOfWay = new int[ANSWERS];
        private final int[] placeOf = new int[FORKS_OF_ALL];

        private void startOver(int[] questions) {
            size = 0;
            Arrays.fill(slots, -1);
            System.arraycopy(questions, 0, questionAt, 0, QUESTIONS);
            for (int way = 0; way < ANSWERS; way++) {
                answersOfWay[way] = answersOf(way);
            }
        }

        private int answersOf(int way) {
            int answers = 0;
            for (int place = 0; place < QUESTIONS; place++) {
                int bit = (way >> (QUESTIONS - 1 - place)) & 1;
                answers |= bit << questionAt[place];
            }
            return answers & (ANSWERS - 1);
        }

        /** Makes the forks that are missing, from the last place up, and returns the fork itself or a leaf. */
        private int lay(boolean[] yes) {
            for (int way = 0; way < ANSWERS; way++) {
                partOfWay[way] = yes[answersOfWay[way]] ? LEAF_YES : LEAF_NO;
            }
            for (int place = QUESTIONS - 1; place >= 0; place--) {
                for (int way = 0; way < 1 << place; way++) {
                    partOfWay[way] = part(questionAt[place], partOfWay[2 * way], partOfWay[2 * way + 1]);
                }
            }
            return partOfWay[0];
        }

        /** The fork with this question and these parts, or the part itself if both are one and the same. */
        private int part(int asked, int ifNo, int ifYes) {
            if (ifNo == ifYes) {
                return ifNo;
            }
            int start = (ifNo * 31 + ifYes) * 31 + asked;
            for (int step = 0; step < SLOTS; step++) {
                int slot = (start + step) & (SLOTS - 1);
                int fork = slots[slot];
                if (fork < 0) {
                    return make(slot, asked, ifNo, ifYes);
                }
                if (question[fork] == asked && low[fork] == ifNo && high[fork] == ifYes) {
                    return fork;
                }
            }
            return LEAF_NO;
        }

        private int make(int slot, int asked, int ifNo, int ifYes) {
            if (size >= FORKS_OF_ALL) {
                return LEAF_NO;
            }
            int fork = size;
            size++;
            slots[slot] = fork;
            question[fork] = asked;
            low[fork] = ifNo;
            high[fork] = ifYes;
            owners[fork] = 0;
            return fork;
        }

        /** Writes the row of a fold whose fork itself, or leaf, is given. */
        private void putInRow(Fold fold, int part) {
            fold.size = 0;
            Arrays.fill(placeOf, -1);
            walk(this, fold, part, 0);
            for (int place = 0; place < fold.size; place++) {
                int fork = fold.forkAt[place];
                owners[fork]++;
                fold.lowAt[place] = placeOrLeaf(low[fork]);
                fold.highAt[place] = placeOrLeaf(high[fork]);
            }
        }

        private int placeOrLeaf(int part) {
            return part < 0 ? part : placeOf[part];
        }

        /** Goes through a fork again when it is met on a shorter way, for the questions ahead of its parts. */
        private static void walk(Forks forks, Fold fold, int part, int ahead) {
            if (part < 0 || part >= forks.size || ahead >= QUESTIONS) {
                return;
            }
            int place = forks.placeOf[part];
            boolean goesNoFurther = place < 0 ? fold.size >= FORKS_OF_ONE : ahead >= fold.aheadAt[place];
            if (goesNoFurther) {
                return;
            }
            if (place < 0) {
                place = forks.putLast(fold, part);
            }
            fold.aheadAt[place] = ahead;
            walk(forks, fold, forks.low[part], ahead + 1);
            walk(forks, fold, forks.high[part], ahead + 1);
        }

        private int putLast(Fold fold, int fork) {
            int place = fold.size;
            fold.size++;
            fold.forkAt[place] = fork;
            placeOf[fork] = place;
            return place;
        }
    }
}
