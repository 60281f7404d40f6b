import java.util.Arrays;

/** Kerning learnt from misprints that a proofreader circles; ../shared/DOC.md tells what each call does. */
public final class KernLessons {
    public static final int NONE = -1;

    private static final int LETTERS = 10;
    private static final int PAIRS = 100;
    private static final int SHAPES = 4;
    private static final int SHAPE_PAIRS = 16;

    private static final int LEAST_WIDTH = 13;
    private static final int MOST_WIDTH = 30;
    private static final int FIRST_WIDTH = 16;
    private static final int MOST_KERNING = 12;

    private static final int TOO_TIGHT = 1;
    private static final int TOO_WIDE = -1;
    private static final int MOST_LESSONS = 40;

    private static final int FIRST_STEP = 0;
    private static final int PAIRS_TO_LEARN = 1;
    private static final int SPACE_WIDTH = 2;
    private static final int LINE_WIDTH = 3;
    private static final int SETTINGS = 4;
    private static final int[] LEAST_SETTING = {1, 2, 1, 40};
    private static final int[] MOST_SETTING = {6, 5, 20, 600};
    private static final int[] SETTING_AT_FIRST = {3, 2, 6, 200};

    private static final int MOST_CODES = 60;
    private static final int LEAST_CODE = 33;
    private static final int MOST_CODE = 126;
    private static final int FIRST_LETTER = 'a';
    private static final int SPACE = '.';

    private static final int SLOTS = 2;
    private static final int MOST_SAVED = 6;

    /** Kernings may be negative, so that they are answered plus this. */
    private static final int PLUS = 100;

    private static final int LETTER_PROPERTIES = 4;
    private static final int PAIR_PROPERTIES = 5;
    private static final int SHAPES_PROPERTIES = 4;
    private static final int LESSON_PROPERTIES = 4;
    private static final int COUNTS = 8;
    private static final int TEXT_NUMBERS = 6;

    private static final long FIRST_HASH = 3529L;
    private static final int EXPONENT_OF_ONE = 1023;
    private static final int FRACTION_BITS = 52;

    private final State now = new State();
    private final State[] saved = new State[MOST_SAVED];
    private int savedCount = 0;
    private final State[] slots = new State[SLOTS];
    private final boolean[] slotFilled = new boolean[SLOTS];
    private final Buffer buffer = new Buffer();
    /** For what would be: looks must leave the kept table alone. */
    private final Table trial = new Table();
    /** For each lesson, how many pairs would be set otherwise without it; only as findPairsOtherwise() left it. */
    private final int[] pairsOtherwise = new int[MOST_LESSONS];
    private final Measure measure = new Measure();

    public KernLessons() {
        for (int i = 0; i < MOST_SAVED; i++) {
            saved[i] = new State();
        }
        for (int i = 0; i < SLOTS; i++) {
            slots[i] = new State();
        }
    }

    // ---- letters, shapes

    public int width(int letter, int width) throws IndexOutOfBoundsException, IllegalArgumentException {
        checkLetter(letter);
        checkRange(width, LEAST_WIDTH, MOST_WIDTH);
        saveState();
        int before = now.widths[letter];
        now.widths[letter] = width;
        return before;
    }

    public int shape(int letter, int left, int right) throws IndexOutOfBoundsException, IllegalArgumentException {
        checkLetter(letter);
        checkRange(left, 0, SHAPES - 1);
        checkRange(right, 0, SHAPES - 1);
        saveState();
        int before = SHAPES * now.lefts[letter] + now.rights[letter];
        now.lefts[letter] = left;
        now.rights[letter] = right;
        now.goThroughAgain();
        return before;
    }

    public int base(int right, int left, int kerning) throws IndexOutOfBoundsException, IllegalArgumentException {
        checkIndex(right, SHAPES);
        checkIndex(left, SHAPES);
        checkRange(kerning, -MOST_KERNING, MOST_KERNING);
        saveState();
        int shapes = SHAPES * right + left;
        int before = now.bases[shapes];
        now.bases[shapes] = kerning;
        now.goThroughAgain();
        return before + PLUS;
    }

    public int set(int setting, int value) throws IndexOutOfBoundsException, IllegalArgumentException {
        checkIndex(setting, SETTINGS);
        checkRange(value, LEAST_SETTING[setting], MOST_SETTING[setting]);
        saveState();
        int before = now.settings[setting];
        now.settings[setting] = value;
        if (setting == FIRST_STEP || setting == PAIRS_TO_LEARN) {
            now.goThroughAgain();
        }
        return before;
    }

    // ---- lessons

    public int circle(int first, int second, int told) throws IndexOutOfBoundsException, IllegalArgumentException {
        checkLetter(first);
        checkLetter(second);
        checkTold(told);
        return learnCircle(LETTERS * first + second, told);
    }

    public int forget(int lesson) throws IndexOutOfBoundsException {
        checkIndex(lesson, now.lessons);
        saveState();
        int otherwise = pairsOtherwiseWithout(lesson);
        now.dropLesson(lesson);
        now.forgotten++;
        now.goThroughAgain();
        return otherwise;
    }

    // ---- texts, snapshots

    public int append(int code) throws IllegalArgumentException, IllegalStateException {
        checkRange(code, LEAST_CODE, MOST_CODE);
        if (buffer.length >= MOST_CODES) {
            throw new IllegalStateException("the buffer is full");
        }
        buffer.codes[buffer.length] = code;
        buffer.length++;
        return buffer.length;
    }

    public int clearBuffer() {
        int before = buffer.length;
        buffer.length = 0;
        return before;
    }

    public int firstError() {
        return buffer.firstWrongPlace();
    }

    public int circleAt(int place, int told)
            throws IllegalStateException, IndexOutOfBoundsException, IllegalArgumentException {
        if (!buffer.tellsText()) {
            throw new IllegalStateException("the buffer does not tell a text");
        }
        if (!buffer.hasPairAt(place)) {
            throw new IndexOutOfBoundsException("no two letters at this place");
        }
        checkTold(told);
        return learnCircle(buffer.pairAt(place), told);
    }

    public int keep(int slot) throws IllegalArgumentException {
        checkRange(slot, 0, SLOTS - 1);
        slots[slot].becomeLike(now);
        slotFilled[slot] = true;
        return now.lessons;
    }

    public int goBack(int slot) throws IllegalArgumentException, IllegalStateException {
        checkRange(slot, 0, SLOTS - 1);
        if (!slotFilled[slot]) {
            throw new IllegalStateException("no snapshot in the slot");
        }
        saveState();
        now.becomeLike(slots[slot]);
        return now.lessons;
    }

    public int undo() throws IllegalStateException {
        if (savedCount < 1) {
            throw new IllegalStateException("no saved state");
        }
        savedCount--;
        now.becomeLike(saved[savedCount]);
        return savedCount;
    }

    // ---- looks; nothing is changed

    public int letterOf(int letter, int what) throws IndexOutOfBoundsException, IllegalArgumentException {
        checkLetter(letter);
        checkRange(what, 0, LETTER_PROPERTIES - 1);
        switch (what) {
            case 0:
                return now.widths[letter];
            case 1:
                return now.lefts[letter];
            case 2:
                return now.rights[letter];
            default:
                return now.lessonsWithLetter(letter);
        }
    }

    public int pairOf(int first, int second, int what) throws IndexOutOfBoundsException, IllegalArgumentException {
        checkLetter(first);
        checkLetter(second);
        checkRange(what, 0, PAIR_PROPERTIES - 1);
        int pair = LETTERS * first + second;
        switch (what) {
            case 0:
                return now.table.kerningOfPair(now, pair) + PLUS;
            case 1:
                trial.learnAllBut(now, NONE);
                return trial.kerningOfPair(now, pair) + PLUS;
            case 2:
                return now.table.own[pair] + PLUS;
            case 3:
                return now.table.steps[pair];
            default:
                return now.table.learnt[pair];
        }
    }

    public int shapesOf(int right, int left, int what) throws IndexOutOfBoundsException, IllegalArgumentException {
        checkIndex(right, SHAPES);
        checkIndex(left, SHAPES);
        checkRange(what, 0, SHAPES_PROPERTIES - 1);
        int shapes = SHAPES * right + left;
        switch (what) {
            case 0:
                return now.table.shapeKernings[shapes] + PLUS;
            case 1:
                return now.bases[shapes] + PLUS;
            case 2:
                return now.pairsWithShapes(shapes);
            default:
                return now.learntPairsWithShapes(shapes);
        }
    }

    public int lessonOf(int lesson, int what) throws IndexOutOfBoundsException, IllegalArgumentException {
        checkIndex(lesson, now.lessons);
        checkRange(what, 0, LESSON_PROPERTIES - 1);
        switch (what) {
            case 0:
                return now.lessonPairs[lesson] / LETTERS;
            case 1:
                return now.lessonPairs[lesson] % LETTERS;
            case 2:
                return now.lessonTolds[lesson] == TOO_TIGHT ? 1 : 0;
            default:
                return now.table.idle[lesson];
        }
    }

    public int count(int what) throws IllegalArgumentException {
        checkRange(what, 0, COUNTS - 1);
        switch (what) {
            case 0:
                return now.lessons;
            case 1:
                return now.idleLessons();
            case 2:
                return now.table.pairsLearnt;
            case 3:
                return now.shapesOffTheirBase();
            case 4:
                return now.refused;
            case 5:
                return now.forgotten;
            case 6:
                return now.goneThrough;
            default:
                return savedCount;
        }
    }

    public int setting(int setting) throws IndexOutOfBoundsException {
        checkIndex(setting, SETTINGS);
        return now.settings[setting];
    }

    // ---- texts; nothing is changed

    public int text(int what) throws IllegalArgumentException {
        checkRange(what, 0, TEXT_NUMBERS - 1);
        if (!buffer.tellsText()) {
            return NONE;
        }
        measure.findWords(now, buffer);
        switch (what) {
            case 0:
                return measure.widthByPlaces(now, buffer);
            case 1:
                return measure.widthByCounts(now, buffer);
            case 2:
                return measure.words;
            case 3:
                return measure.widestWord();
            case 4:
                return measure.linesByFilling(now);
            default:
                return measure.linesFromBehind(now);
        }
    }

    // ---- what would be; nothing is changed

    public int ifCircled(int first, int second, int told) throws IndexOutOfBoundsException, IllegalArgumentException {
        checkLetter(first);
        checkLetter(second);
        checkTold(told);
        if (now.lessons >= MOST_LESSONS) {
            return NONE;
        }
        int pair = LETTERS * first + second;
        trial.becomeLike(now.table);
        boolean idle = !trial.learn(now, pair, told);
        return idle ? NONE : trial.kerningOfPair(now, pair) + PLUS;
    }

    public int ifForgotten(int lesson) throws IndexOutOfBoundsException {
        checkIndex(lesson, now.lessons);
        return pairsOtherwiseWithout(lesson);
    }

    public int mainLesson() {
        findPairsOtherwise();
        return lessonWithMostOtherwise();
    }

    public double tightShare() {
        int tight = 0;
        for (int pair = 0; pair < PAIRS; pair++) {
            if (now.table.kerningOfPair(now, pair) < 0) {
                tight++;
            }
        }
        return (double) tight / PAIRS;
    }

    public long digest() {
        findPairsOtherwise();
        long hash = FIRST_HASH;
        hash = hashCountsAndSettings(hash);
        hash = hashLetters(hash);
        hash = hashPairs(hash);
        hash = hashShapes(hash);
        hash = hashLessons(hash);
        for (int what = 0; what < TEXT_NUMBERS; what++) {
            hash = hashWith(hash, text(what));
        }
        hash = hashWith(hash, lessonWithMostOtherwise());
        hash = hashWith(hash, bitsOfShare(tightShare()));
        for (int slot = 0; slot < SLOTS; slot++) {
            hash = hashWith(hash, slotFilled[slot] ? 1 : 0);
        }
        hash = hashWith(hash, buffer.length);
        for (int place = 0; place < buffer.length; place++) {
            hash = hashWith(hash, buffer.codes[place]);
        }
        return hash;
    }

    // ---- what the calls share

    private static void checkLetter(int letter) {
        checkIndex(letter, LETTERS);
    }

    private static void checkIndex(int index, int end) {
        if (index < 0 || index >= end) {
            throw new IndexOutOfBoundsException("there is none with this number");
        }
    }

    private static void checkRange(int value, int least, int most) {
        if (value < least || value > most) {
            throw new IllegalArgumentException("out of range");
        }
    }

    private static void checkTold(int told) {
        if (told != TOO_TIGHT && told != TOO_WIDE) {
            throw new IllegalArgumentException("told is neither 1 nor -1");
        }
    }

    private void saveState() {
        if (savedCount >= MOST_SAVED) {
            // The oldest state is dropped: its rows are used again for the newest.
            State oldest = saved[0];
            for (int i = 1; i < MOST_SAVED; i++) {
                saved[i - 1] = saved[i];
            }
            saved[MOST_SAVED - 1] = oldest;
            savedCount = MOST_SAVED - 1;
        }
        saved[savedCount].becomeLike(now);
        savedCount++;
    }

    private int learnCircle(int pair, int told) {
        saveState();
        if (now.lessons >= MOST_LESSONS || !now.table.learn(now, pair, told)) {
            now.refused++;
            return NONE;
        }
        now.addLesson(pair, told);
        return now.table.kerningOfPair(now, pair) + PLUS;
    }

    private int pairsOtherwiseWithout(int lesson) {
        trial.learnAllBut(now, lesson);
        int otherwise = 0;
        for (int pair = 0; pair < PAIRS; pair++) {
            if (trial.kerningOfPair(now, pair) != now.table.kerningOfPair(now, pair)) {
                otherwise++;
            }
        }
        return otherwise;
    }

    private void findPairsOtherwise() {
        for (int lesson = 0; lesson < now.lessons; lesson++) {
            pairsOtherwise[lesson] = pairsOtherwiseWithout(lesson);
        }
    }

    private int lessonWithMostOtherwise() {
        int main = NONE;
        int most = NONE;
        for (int lesson = 0; lesson < now.lessons; lesson++) {
            if (pairsOtherwise[lesson] > most) {
                most = pairsOtherwise[lesson];
                main = lesson;
            }
        }
        return main;
    }

    // ---- the parts of the digest

    private static long hashWith(long hash, long value) {
        return 31L * hash + value;
    }

    private long hashCountsAndSettings(long start) {
        long hash = start;
        for (int what = 0; what < COUNTS; what++) {
            hash = hashWith(hash, count(what));
        }
        for (int setting = 0; setting < SETTINGS; setting++) {
            hash = hashWith(hash, now.settings[setting]);
        }
        return hash;
    }

    private long hashLetters(long start) {
        long hash = start;
        for (int letter = 0; letter < LETTERS; letter++) {
            for (int what = 0; what < LETTER_PROPERTIES; what++) {
                hash = hashWith(hash, letterOf(letter, what));
            }
        }
        return hash;
    }

    private long hashPairs(long start) {
        long hash = start;
        for (int first = 0; first < LETTERS; first++) {
            for (int second = 0; second < LETTERS; second++) {
                hash = hashWith(hash, pairOf(first, second, 0));
                hash = hashWith(hash, pairOf(first, second, 2));
                hash = hashWith(hash, pairOf(first, second, 3));
                hash = hashWith(hash, pairOf(first, second, 4));
            }
        }
        return hash;
    }

    private long hashShapes(long start) {
        long hash = start;
        for (int right = 0; right < SHAPES; right++) {
            for (int left = 0; left < SHAPES; left++) {
                for (int what = 0; what < SHAPES_PROPERTIES; what++) {
                    hash = hashWith(hash, shapesOf(right, left, what));
                }
            }
        }
        return hash;
    }

    private long hashLessons(long start) {
        long hash = start;
        for (int lesson = 0; lesson < now.lessons; lesson++) {
            for (int what = 0; what < LESSON_PROPERTIES; what++) {
                hash = hashWith(hash, lessonOf(lesson, what));
            }
            hash = hashWith(hash, pairsOtherwise[lesson]);
        }
        return hash;
    }

    /** The bits as Double.doubleToLongBits tells them, which LANGUAGE.md leaves out; for a share from 0 to 1. */
    private static long bitsOfShare(double share) {
        if (share <= 0.0) {
            return 0L;
        }
        double scaled = share;
        long exponent = EXPONENT_OF_ONE;
        for (int i = 1; i < EXPONENT_OF_ONE && scaled < 1.0; i++) {
            scaled = scaled * 2.0;
            exponent--;
        }
        // Exact: doubling and taking 1 away from a number from 1 to 2 lose no bit.
        long fraction = (long) ((scaled - 1.0) * (1L << FRACTION_BITS));
        return (exponent << FRACTION_BITS) + fraction;
    }

    /** All that a snapshot holds. */
    private static final class State {
        final int[] widths = new int[LETTERS];
        final int[] lefts = new int[LETTERS];
        final int[] rights = new int[LETTERS];
        /** By 4 times the right shape, and the left one. */
        final int[] bases = new int[SHAPE_PAIRS];
        final int[] settings = new int[SETTINGS];
        final int[] lessonPairs = new int[MOST_LESSONS];
        final int[] lessonTolds = new int[MOST_LESSONS];
        int lessons = 0;
        final Table table = new Table();
        int refused = 0;
        int forgotten = 0;
        int goneThrough = 0;

        State() {
            for (int letter = 0; letter < LETTERS; letter++) {
                widths[letter] = FIRST_WIDTH;
                lefts[letter] = letter % SHAPES;
                rights[letter] = letter % SHAPES;
            }
            for (int i = 0; i < SETTINGS; i++) {
                settings[i] = SETTING_AT_FIRST[i];
            }
        }

        void becomeLike(State other) {
            System.arraycopy(other.widths, 0, widths, 0, LETTERS);
            System.arraycopy(other.lefts, 0, lefts, 0, LETTERS);
            System.arraycopy(other.rights, 0, rights, 0, LETTERS);
            System.arraycopy(other.bases, 0, bases, 0, SHAPE_PAIRS);
            System.arraycopy(other.settings, 0, settings, 0, SETTINGS);
            System.arraycopy(other.lessonPairs, 0, lessonPairs, 0, MOST_LESSONS);
            System.arraycopy(other.lessonTolds, 0, lessonTolds, 0, MOST_LESSONS);
            lessons = other.lessons;
            table.becomeLike(other.table);
            refused = other.refused;
            forgotten = other.forgotten;
            goneThrough = other.goneThrough;
        }

        int shapesOfPair(int pair) {
            return SHAPES * rights[pair / LETTERS] + lefts[pair % LETTERS];
        }

        void goThroughAgain() {
            table.learnAllBut(this, NONE);
            goneThrough++;
        }

        /** Keeps a lesson that the table has learnt just now; the caller has seen that there is room. */
        void addLesson(int pair, int told) {
            lessonPairs[lessons] = pair;
            lessonTolds[lessons] = told;
            table.idle[lessons] = 0;
            lessons++;
        }

        void dropLesson(int lesson) {
            for (int i = lesson + 1; i < lessons; i++) {
                lessonPairs[i - 1] = lessonPairs[i];
                lessonTolds[i - 1] = lessonTolds[i];
            }
            lessons--;
        }

        int lessonsWithLetter(int letter) {
            int found = 0;
            for (int i = 0; i < lessons; i++) {
                if (lessonPairs[i] / LETTERS == letter) {
                    found++;
                }
                if (lessonPairs[i] % LETTERS == letter) {
                    found++;
                }
            }
            return found;
        }

        int idleLessons() {
            int found = 0;
            for (int i = 0; i < lessons; i++) {
                found += table.idle[i];
            }
            return found;
        }

        int pairsWithShapes(int shapes) {
            int found = 0;
            for (int pair = 0; pair < PAIRS; pair++) {
                if (shapesOfPair(pair) == shapes) {
                    found++;
                }
            }
            return found;
        }

        int learntPairsWithShapes(int shapes) {
            int found = 0;
            for (int i = 0; i < table.pairsLearnt; i++) {
                if (shapesOfPair(table.learntPairs[i]) == shapes) {
                    found++;
                }
            }
            return found;
        }

        int shapesOffTheirBase() {
            int found = 0;
            for (int shapes = 0; shapes < SHAPE_PAIRS; shapes++) {
                if (table.shapeKernings[shapes] != bases[shapes]) {
                    found++;
                }
            }
            return found;
        }
    }

    /** The kerning as lessons make it; what they are learnt from is in a state. */
    private static final class Table {
        final int[] shapeKernings = new int[SHAPE_PAIRS];
        final int[] own = new int[PAIRS];
        /** Of the latest lesson of each pair that was not idle: its step, and what it told. */
        final int[] steps = new int[PAIRS];
        final int[] tolds = new int[PAIRS];
        /** How many lessons of each pair were not idle. */
        final int[] learnt = new int[PAIRS];
        /** The pairs that have learnt, each once, so that the row has room; learning looks at these alone. */
        final int[] learntPairs = new int[PAIRS];
        int pairsLearnt = 0;
        /** For each lesson 1 if it was idle, otherwise 0. */
        final int[] idle = new int[MOST_LESSONS];

        void becomeLike(Table other) {
            System.arraycopy(other.shapeKernings, 0, shapeKernings, 0, SHAPE_PAIRS);
            System.arraycopy(other.own, 0, own, 0, PAIRS);
            System.arraycopy(other.steps, 0, steps, 0, PAIRS);
            System.arraycopy(other.tolds, 0, tolds, 0, PAIRS);
            System.arraycopy(other.learnt, 0, learnt, 0, PAIRS);
            System.arraycopy(other.learntPairs, 0, learntPairs, 0, PAIRS);
            pairsLearnt = other.pairsLearnt;
            System.arraycopy(other.idle, 0, idle, 0, MOST_LESSONS);
        }

        int kerningOfPair(State from, int pair) {
            return shapeKernings[from.shapesOfPair(pair)] + own[pair];
        }

        /** Goes through all lessons from the base; the one to leave out may be NONE. */
        void learnAllBut(State from, int leftOut) {
            System.arraycopy(from.bases, 0, shapeKernings, 0, SHAPE_PAIRS);
            Arrays.fill(own, 0);
            Arrays.fill(steps, 0);
            Arrays.fill(tolds, 0);
            Arrays.fill(learnt, 0);
            pairsLearnt = 0;
            Arrays.fill(idle, 0);
            for (int i = 0; i < from.lessons; i++) {
                if (i != leftOut) {
                    idle[i] = learn(from, from.lessonPairs[i], from.lessonTolds[i]) ? 0 : 1;
                }
            }
        }

        /** Returns whether something was learnt; if not, the lesson is idle and the table as before. */
        boolean learn(State from, int pair, int told) {
            int before = kerningOfPair(from, pair);
            if (before * told >= MOST_KERNING) {
                return false;
            }
            if (learnt[pair] == 0) {
                steps[pair] = from.settings[FIRST_STEP];
                learntPairs[pairsLearnt] = pair;
                pairsLearnt++;
            } else if (tolds[pair] != told) {
                steps[pair] = Math.max(1, steps[pair] / 2);
            }
            tolds[pair] = told;
            learnt[pair]++;
            int after = before + told * steps[pair];
            after = Math.max(-MOST_KERNING, Math.min(MOST_KERNING, after));
            own[pair] += after - before;
            int shapes = from.shapesOfPair(pair);
            boolean mayMove = shapeKernings[shapes] * told < MOST_KERNING;
            if (mayMove && pairsThatAgree(from, shapes, told) >= from.settings[PAIRS_TO_LEARN]) {
                moveShapes(from, shapes, told);
            }
            return true;
        }

        /** The pairs that taught the shapes keep their kerning: their own parts go the other way. */
        private void moveShapes(State from, int shapes, int told) {
            shapeKernings[shapes] += told;
            for (int i = 0; i < pairsLearnt; i++) {
                if (from.shapesOfPair(learntPairs[i]) == shapes) {
                    own[learntPairs[i]] -= told;
                }
            }
        }

        private int pairsThatAgree(State from, int shapes, int told) {
            int found = 0;
            for (int i = 0; i < pairsLearnt; i++) {
                int pair = learntPairs[i];
                if (own[pair] * told > 0 && from.shapesOfPair(pair) == shapes) {
                    found++;
                }
            }
            return found;
        }
    }

    /** The characters of the text. */
    private static final class Buffer {
        final int[] codes = new int[MOST_CODES];
        int length = 0;

        boolean hasLetterAt(int place) {
            return place >= 0 && place < length
                && codes[place] >= FIRST_LETTER && codes[place] < FIRST_LETTER + LETTERS;
        }

        boolean hasPairAt(int place) {
            return hasLetterAt(place) && hasLetterAt(place + 1);
        }

        /** Only for a place that has a letter. */
        int letterAt(int place) {
            return codes[place] - FIRST_LETTER;
        }

        /** Only for a place that has a pair. */
        int pairAt(int place) {
            return LETTERS * letterAt(place) + letterAt(place + 1);
        }

        int firstWrongPlace() {
            for (int place = 0; place < length; place++) {
                boolean spaceBehindWord = codes[place] == SPACE && hasLetterAt(place - 1);
                if (!hasLetterAt(place) && !spaceBehindWord) {
                    return place;
                }
            }
            return length;
        }

        /** A space at the end is no error, but a word is still due behind it. */
        boolean tellsText() {
            return firstWrongPlace() == length && hasLetterAt(length - 1);
        }
    }

    /** Widths and lines of a buffer that tells a text; its rows are used again by each call. */
    private static final class Measure {
        private final int[] lettersFound = new int[LETTERS];
        private final int[] pairsFound = new int[PAIRS];
        private final int[] wordWidths = new int[MOST_CODES + 1];
        private final int[] linesFrom = new int[MOST_CODES + 2];
        int words = 0;

        /** The character at a place, and the kerning to the letter behind it, if there is one. */
        private int widthAt(State state, Buffer text, int place) {
            if (!text.hasLetterAt(place)) {
                return state.settings[SPACE_WIDTH];
            }
            int width = state.widths[text.letterAt(place)];
            if (text.hasPairAt(place)) {
                width += state.table.kerningOfPair(state, text.pairAt(place));
            }
            return width;
        }

        int widthByPlaces(State state, Buffer text) {
            int sum = 0;
            for (int place = 0; place < text.length; place++) {
                sum += widthAt(state, text, place);
            }
            return sum;
        }

        int widthByCounts(State state, Buffer text) {
            Arrays.fill(lettersFound, 0);
            Arrays.fill(pairsFound, 0);
            int spaces = 0;
            for (int place = 0; place < text.length; place++) {
                if (text.hasLetterAt(place)) {
                    lettersFound[text.letterAt(place)]++;
                } else {
                    spaces++;
                }
                if (text.hasPairAt(place)) {
                    pairsFound[text.pairAt(place)]++;
                }
            }
            int sum = spaces * state.settings[SPACE_WIDTH];
            for (int letter = 0; letter < LETTERS; letter++) {
                sum += lettersFound[letter] * state.widths[letter];
            }
            for (int pair = 0; pair < PAIRS; pair++) {
                sum += pairsFound[pair] * state.table.kerningOfPair(state, pair);
            }
            return sum;
        }

        /** Fills the rows that the calls below read. */
        void findWords(State state, Buffer text) {
            Arrays.fill(wordWidths, 0);
            words = 1;
            for (int place = 0; place < text.length; place++) {
                if (text.hasLetterAt(place)) {
                    wordWidths[words - 1] += widthAt(state, text, place);
                } else {
                    words++;
                }
            }
        }

        int widestWord() {
            int widest = 0;
            for (int word = 0; word < words; word++) {
                widest = Math.max(widest, wordWidths[word]);
            }
            return widest;
        }

        int linesByFilling(State state) {
            int lines = 1;
            int lineWidth = wordWidths[0];
            for (int word = 1; word < words; word++) {
                int longer = lineWidth + state.settings[SPACE_WIDTH] + wordWidths[word];
                if (longer <= state.settings[LINE_WIDTH]) {
                    lineWidth = longer;
                } else {
                    lines++;
                    lineWidth = wordWidths[word];
                }
            }
            return lines;
        }

        int linesFromBehind(State state) {
            linesFrom[words] = 0;
            for (int word = words - 1; word >= 0; word--) {
                // A word alone may be wider than a line.
                int fewest = 1 + linesFrom[word + 1];
                int lineWidth = wordWidths[word];
                for (int last = word + 1; last < words; last++) {
                    lineWidth += state.settings[SPACE_WIDTH] + wordWidths[last];
                    if (lineWidth <= state.settings[LINE_WIDTH]) {
                        fewest = Math.min(fewest, 1 + linesFrom[last + 1]);
                    }
                }
                linesFrom[word] = fewest;
            }
            return linesFrom[0];
        }
    }
}
