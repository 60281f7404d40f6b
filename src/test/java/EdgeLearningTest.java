/**
 * How a lesson is learnt, just at the bounds: idle or just not, the least step, the number of pairs by which shapes
 * learn, own parts 0, no lesson and 40 lessons. Right shape 0: a, e, i; left shape 1: b, f, j.
 */
public final class EdgeLearningTest {
    private static final Class<IndexOutOfBoundsException> INDEX = IndexOutOfBoundsException.class;
    private static final int NONE = KernLessons.NONE;
    private static final int[] BOTH_WAYS = {1, -1};

    private static final Check CHECK = new Check("EdgeLearningTest");

    public static void main(String[] args) {
        idleAtTheBound();
        idleByOwnPart();
        refusedChangesOnlyTheCount();
        steps();
        stepAlthoughLessWasTaken();
        cutOwnPart();
        idleFirstLesson();
        idleLessonBetween();
        idleLessonTeachesNoShapes();
        pairsToLearn();
        onePairTwice();
        morePairsTeachOnce();
        ownPartOfZero();
        otherOwnPartsGoToo();
        shapesUpToTheBound();
        shapesFromTheBound();
        fortyLessons();
        fortyWithIdleOnes();
        roomAgain();
        forgetAtTheEnds();
        forgetTellsAllPairs();
        againByWhatIsNow();
        letterWithItself();
        CHECK.done();
    }

    /** The answer to a kerning that is given for "too tight", turned about for "too wide". */
    private static int answer(int told, int kerning) {
        return 100 + told * kerning;
    }

    private static void idleAtTheBound() {
        for (int told : BOTH_WAYS) {
            int[] kernings = {12, 11, 10, 9, 8, 0, -11, -12};
            int[] due = {NONE, 12, 12, 12, 11, 3, -8, -9};
            for (int i = 0; i < kernings.length; i++) {
                KernLessons x = new KernLessons();
                x.base(0, 1, told * kernings[i]);
                int answer = due[i] == NONE ? NONE : answer(told, due[i]);
                String what = told + " at " + told * kernings[i];
                CHECK.same("ifCircled " + what, x.ifCircled(0, 1, told), answer);
                CHECK.same("circle " + what, x.circle(0, 1, told), answer);
                CHECK.same("kept " + what, x.count(0), answer == NONE ? 0 : 1);
                CHECK.same("refused " + what, x.count(4), answer == NONE ? 1 : 0);
                CHECK.same("saved " + what, x.count(7), 2);
            }
        }
    }

    private static void idleByOwnPart() {
        for (int told : BOTH_WAYS) {
            KernLessons x = new KernLessons();
            x.set(0, 4);
            CHECK.same("4", x.circle(2, 2, told), answer(told, 4));
            CHECK.same("8", x.circle(2, 2, told), answer(told, 8));
            CHECK.same("just the bound", x.circle(2, 2, told), answer(told, 12));
            CHECK.same("idle by the own part", x.circle(2, 2, told), NONE);
            CHECK.same("the own part stays", x.pairOf(2, 2, 2), answer(told, 12));
            CHECK.same("not idle the other way", x.circle(2, 2, -told), answer(told, 10));
            CHECK.same("not idle any more", x.circle(2, 2, told), answer(told, 11));
        }
    }

    private static void refusedChangesOnlyTheCount() {
        KernLessons x = new KernLessons();
        x.set(0, 6);
        x.circle(2, 2, 1);
        x.circle(2, 2, 1);
        int[] before = new int[5];
        for (int what = 0; what < 5; what++) {
            before[what] = x.pairOf(2, 2, what);
        }
        CHECK.same("refused", x.circle(2, 2, 1), NONE);
        CHECK.same("refused again", x.circle(2, 2, 1), NONE);
        CHECK.same("counted twice", x.count(4), 2);
        CHECK.same("not kept", x.count(0), 2);
        CHECK.same("not idle among the kept ones", x.count(1), 0);
        CHECK.same("not among the letter's lessons", x.letterOf(2, 3), 4);
        for (int what = 0; what < 5; what++) {
            CHECK.same("property " + what, x.pairOf(2, 2, what), before[what]);
        }
        x.ifCircled(2, 2, 1);
        CHECK.same("a look is not refused", x.count(4), 2);
    }

    /** The first step, then half of it, rounded down, then half of that, but at least 1. */
    private static void steps() {
        int[] halves = {0, 1, 1, 1, 2, 2, 3};
        for (int told : BOTH_WAYS) {
            for (int first = 1; first <= 6; first++) {
                KernLessons x = new KernLessons();
                x.set(0, first);
                int half = halves[first];
                CHECK.same("no step without a lesson", x.pairOf(5, 6, 3), 0);
                CHECK.same("first step", x.circle(5, 6, told), answer(told, first));
                CHECK.same("first step", x.pairOf(5, 6, 3), first);
                CHECK.same("turned about", x.circle(5, 6, -told), answer(told, first - half));
                CHECK.same("half of " + first, x.pairOf(5, 6, 3), half);
                CHECK.same("the same way", x.circle(5, 6, -told), answer(told, first - 2 * half));
                CHECK.same("the step stays", x.pairOf(5, 6, 3), half);
                CHECK.same("turned about again", x.circle(5, 6, told), answer(told, first - 2 * half + 1));
                CHECK.same("at least 1", x.pairOf(5, 6, 3), 1);
                CHECK.same("and again", x.circle(5, 6, -told), answer(told, first - 2 * half));
                CHECK.same("at least 1", x.pairOf(5, 6, 3), 1);
                CHECK.same("lessons that were not idle", x.pairOf(5, 6, 4), 5);
            }
        }
    }

    private static void stepAlthoughLessWasTaken() {
        for (int told : BOTH_WAYS) {
            KernLessons x = new KernLessons();
            x.set(0, 6);
            x.base(0, 1, told * 11);
            CHECK.same("cut", x.circle(0, 1, told), answer(told, 12));
            CHECK.same("the step is whole", x.pairOf(0, 1, 3), 6);
            CHECK.same("half of the whole step", x.circle(0, 1, -told), answer(told, 9));
            CHECK.same("half of the whole step", x.pairOf(0, 1, 3), 3);
        }
    }

    private static void cutOwnPart() {
        for (int told : BOTH_WAYS) {
            KernLessons x = new KernLessons();
            x.base(0, 1, told * 10);
            x.circle(0, 1, told);
            CHECK.same("the own part changes by the cut step", x.pairOf(0, 1, 2), answer(told, 2));
            CHECK.same("the shapes do not change", x.shapesOf(0, 1, 0), answer(told, 10));
            KernLessons y = new KernLessons();
            y.base(0, 1, told * 9);
            y.circle(0, 1, told);
            CHECK.same("just not cut", y.pairOf(0, 1, 2), answer(told, 3));
        }
    }

    /** The first lesson that is not idle has the first step, whatever the idle ones before told. */
    private static void idleFirstLesson() {
        for (int told : BOTH_WAYS) {
            KernLessons x = new KernLessons();
            x.circle(0, 1, told);
            x.circle(4, 1, -told);
            x.circle(8, 1, -told);
            x.circle(0, 1, told);
            x.base(0, 1, told * 12);
            CHECK.same("idle at the bound", x.lessonOf(0, 3), 1);
            CHECK.same("the shapes moved", x.shapesOf(0, 1, 0), answer(told, 11));
            CHECK.same("so the later one is not idle", x.lessonOf(3, 3), 0);
            CHECK.same("it is the first one", x.pairOf(0, 1, 4), 1);
            CHECK.same("with the first step", x.pairOf(0, 1, 3), 3);
            CHECK.same("cut at the bound", x.pairOf(0, 1, 0), answer(told, 12));
            CHECK.same("own part", x.pairOf(0, 1, 2), answer(told, 1));
            KernLessons y = new KernLessons();
            y.circle(0, 1, told);
            y.circle(0, 1, -told);
            y.base(0, 1, told * 12);
            CHECK.same("no turning about from an idle lesson", y.pairOf(0, 1, 3), 3);
            CHECK.same("by the whole step", y.pairOf(0, 1, 0), answer(told, 9));
        }
    }

    private static void idleLessonBetween() {
        for (int told : BOTH_WAYS) {
            KernLessons x = new KernLessons();
            x.circle(0, 1, told);
            x.circle(0, 1, told);
            x.circle(0, 1, told);
            x.circle(0, 1, -told);
            x.base(0, 1, told * 6);
            int[] idle = {0, 0, 1, 0};
            for (int lesson = 0; lesson < 4; lesson++) {
                CHECK.same("idle: " + lesson, x.lessonOf(lesson, 3), idle[lesson]);
            }
            CHECK.same("half of the step before the idle one", x.pairOf(0, 1, 3), 1);
            CHECK.same("kerning", x.pairOf(0, 1, 0), answer(told, 11));
            CHECK.same("not idle", x.pairOf(0, 1, 4), 3);
            CHECK.same("idle", x.count(1), 1);
            CHECK.same("lessons", x.count(0), 4);
            CHECK.same("lessons of the letter, the idle one too", x.letterOf(0, 3), 4);
        }
    }

    /** A pair that has learnt nothing but by idle lessons has not learnt: it moves with its shapes. */
    private static void idleLessonTeachesNoShapes() {
        for (int told : BOTH_WAYS) {
            KernLessons x = new KernLessons();
            x.circle(0, 1, told);
            x.circle(4, 1, -told);
            x.circle(8, 1, -told);
            x.base(0, 1, told * 12);
            CHECK.same("pairs that have learnt", x.count(2), 2);
            CHECK.same("of these shapes", x.shapesOf(0, 1, 3), 2);
            CHECK.same("its own part stays", x.pairOf(0, 1, 2), 100);
            CHECK.same("its kerning is that of the shapes", x.pairOf(0, 1, 0), answer(told, 11));
            CHECK.same("no step", x.pairOf(0, 1, 3), 0);
            CHECK.same("no lesson that was not idle", x.pairOf(0, 1, 4), 0);
        }
    }

    private static void pairsToLearn() {
        int[][] pairs = {{0, 1}, {4, 5}, {8, 9}, {0, 9}, {4, 1}};
        for (int told : BOTH_WAYS) {
            for (int needed = 2; needed <= 5; needed++) {
                KernLessons x = new KernLessons();
                x.set(1, needed);
                x.circle(2, 3, told);
                for (int i = 0; i < needed; i++) {
                    CHECK.same("one pair too few of " + needed, x.shapesOf(0, 1, 0), 100);
                    x.circle(pairs[i][0], pairs[i][1], told);
                }
                CHECK.same("just enough, " + needed, x.shapesOf(0, 1, 0), answer(told, 1));
                CHECK.same("own part", x.pairOf(4, 5, 2), answer(told, 2));
                CHECK.same("its kerning stays", x.pairOf(4, 5, 0), answer(told, 3));
                CHECK.same("a pair that has not learnt", x.pairOf(8, 5, 0), answer(told, 1));
                CHECK.same("shapes the other way round", x.shapesOf(1, 0, 0), 100);
                CHECK.same("own part of a learnt pair with other shapes", x.pairOf(2, 3, 2), answer(told, 3));
            }
        }
    }

    private static void onePairTwice() {
        KernLessons x = new KernLessons();
        x.circle(0, 1, 1);
        x.circle(0, 1, 1);
        CHECK.same("two lessons of one pair", x.shapesOf(0, 1, 0), 100);
        x.circle(0, 2, 1);
        CHECK.same("another left shape", x.shapesOf(0, 1, 0), 100);
        x.circle(1, 1, 1);
        CHECK.same("another right shape", x.shapesOf(0, 1, 0), 100);
        x.circle(1, 0, 1);
        CHECK.same("the pair turned round", x.shapesOf(0, 1, 0), 100);
        x.circle(4, 1, -1);
        CHECK.same("a pair told the other way", x.shapesOf(0, 1, 0), 100);
        x.circle(4, 5, 1);
        CHECK.same("a second pair", x.shapesOf(0, 1, 0), 101);
    }

    private static void morePairsTeachOnce() {
        for (int told : BOTH_WAYS) {
            KernLessons x = new KernLessons();
            int lessons = 0;
            for (int first : new int[] {0, 4, 8}) {
                for (int second : new int[] {1, 5, 9}) {
                    int moved = Math.max(0, lessons - 1);
                    CHECK.same("3 more than the shapes", x.circle(first, second, told), answer(told, moved + 3));
                    lessons++;
                    CHECK.same("once a lesson", x.shapesOf(0, 1, 0), answer(told, Math.max(0, lessons - 1)));
                }
            }
            CHECK.same("own part of the first one", x.pairOf(0, 1, 2), answer(told, -5));
            CHECK.same("its kerning stays", x.pairOf(0, 1, 0), answer(told, 3));
            CHECK.same("own part of the last one", x.pairOf(8, 9, 2), answer(told, 2));
        }
    }

    private static void ownPartOfZero() {
        for (int told : BOTH_WAYS) {
            KernLessons x = new KernLessons();
            x.set(0, 1);
            x.circle(0, 1, told);
            x.circle(4, 1, told);
            CHECK.same("own parts of 1 count", x.shapesOf(0, 1, 0), answer(told, 1));
            CHECK.same("they become 0", x.pairOf(0, 1, 2), 100);
            CHECK.same("they become 0", x.pairOf(4, 1, 2), 100);
            x.circle(0, 1, told);
            CHECK.same("an own part of 0 does not count", x.shapesOf(0, 1, 0), answer(told, 1));
            CHECK.same("own part of 1", x.pairOf(0, 1, 2), answer(told, 1));
            x.circle(0, 1, -told);
            x.circle(0, 1, -told);
            CHECK.same("nor one of 0 the other way", x.shapesOf(0, 1, 0), answer(told, 1));
            x.circle(4, 1, -told);
            CHECK.same("two of 1 the other way count", x.shapesOf(0, 1, 0), 100);
            CHECK.same("kerning", x.pairOf(0, 1, 0), 100);
            CHECK.same("no shapes off their base", x.count(3), 0);
        }
    }

    private static void otherOwnPartsGoToo() {
        for (int told : BOTH_WAYS) {
            KernLessons x = new KernLessons();
            x.circle(0, 1, -told);
            x.circle(4, 1, told);
            x.circle(4, 1, -told);
            x.circle(4, 1, -told);
            x.circle(4, 1, -told);
            CHECK.same("an own part of 0", x.pairOf(4, 1, 2), 100);
            x.circle(8, 1, told);
            CHECK.same("one pair alone", x.shapesOf(0, 1, 0), 100);
            x.circle(8, 5, told);
            CHECK.same("two pairs", x.shapesOf(0, 1, 0), answer(told, 1));
            int[] own = {-4, -1, 2, 2};
            int[] kerning = {-3, 0, 3, 3};
            int[][] pairs = {{0, 1}, {4, 1}, {8, 1}, {8, 5}};
            for (int i = 0; i < 4; i++) {
                CHECK.same("own part " + i, x.pairOf(pairs[i][0], pairs[i][1], 2), answer(told, own[i]));
                CHECK.same("kerning " + i, x.pairOf(pairs[i][0], pairs[i][1], 0), answer(told, kerning[i]));
            }
        }
    }

    /** "The kerning of these shapes is below 12": from 11 it becomes 12, and then all its pairs are at the bound. */
    private static void shapesUpToTheBound() {
        for (int told : BOTH_WAYS) {
            KernLessons x = new KernLessons();
            x.base(0, 1, told * 11);
            x.circle(0, 1, told);
            x.circle(4, 1, told);
            CHECK.same("shapes at the bound", x.shapesOf(0, 1, 0), answer(told, 12));
            CHECK.same("own part", x.pairOf(0, 1, 2), 100);
            CHECK.same("kerning", x.pairOf(0, 1, 0), answer(told, 12));
            for (int first : new int[] {0, 4, 8}) {
                CHECK.same("idle at these shapes", x.circle(first, 1, told), NONE);
            }
            CHECK.same("refused", x.count(4), 3);
            CHECK.same("the base is as before", x.shapesOf(0, 1, 1), answer(told, 11));
        }
    }

    private static void shapesFromTheBound() {
        for (int told : BOTH_WAYS) {
            KernLessons x = new KernLessons();
            x.base(0, 1, -12 * told);
            x.circle(0, 1, told);
            CHECK.same("one pair from the bound", x.shapesOf(0, 1, 0), answer(told, -12));
            x.circle(4, 1, told);
            CHECK.same("the shapes leave the bound", x.shapesOf(0, 1, 0), answer(told, -11));
            CHECK.same("a pair that has not learnt", x.circle(8, 1, -told), answer(told, -12));
            CHECK.same("one pair alone the other way", x.shapesOf(0, 1, 0), answer(told, -11));
            CHECK.same("at the bound again", x.circle(8, 1, -told), NONE);
        }
    }

    private static KernLessons withLessons(int lessons) {
        KernLessons x = new KernLessons();
        x.set(0, 1);
        for (int i = 0; i < lessons; i++) {
            x.circle(0, 2, i % 2 == 0 ? 1 : -1);
        }
        return x;
    }

    private static void fortyLessons() {
        KernLessons x = withLessons(39);
        CHECK.same("39 lessons", x.count(0), 39);
        CHECK.same("what the 40th would do", x.ifCircled(5, 5, 1), 101);
        CHECK.same("the 40th", x.circle(5, 5, 1), 101);
        CHECK.same("40 lessons", x.count(0), 40);
        CHECK.same("its number is 39", x.lessonOf(39, 0), 5);
        CHECK.refuses("no lesson 40", x, INDEX, () -> x.lessonOf(40, 0));
        for (int told : BOTH_WAYS) {
            CHECK.same("what the 41st would do", x.ifCircled(6, 6, told), NONE);
            CHECK.same("the 41st", x.circle(6, 6, told), NONE);
        }
        Check.type(x, "gg");
        CHECK.same("the 41st by its place", x.circleAt(0, 1), NONE);
        CHECK.same("refused", x.count(4), 3);
        CHECK.same("nothing is learnt", x.pairOf(6, 6, 0), 100);
        CHECK.same("nothing is kept", x.count(0), 40);
        CHECK.same("no lesson of the letter", x.letterOf(6, 3), 0);
    }

    /** Idle lessons are kept, and are among the 40. */
    private static void fortyWithIdleOnes() {
        KernLessons x = new KernLessons();
        x.set(0, 1);
        for (int i = 0; i < 40; i++) {
            x.circle(i % 10, i / 10 * 2, 1);
        }
        for (int shapes = 0; shapes < 16; shapes++) {
            x.base(shapes / 4, shapes % 4, 12);
        }
        CHECK.same("lessons", x.count(0), 40);
        CHECK.same("all are idle", x.count(1), 40);
        CHECK.same("no pair has learnt", x.count(2), 0);
        CHECK.same("no room among idle ones", x.circle(5, 5, -1), NONE);
        CHECK.same("refused", x.count(4), 1);
        CHECK.same("an idle lesson matters to no pair", x.forget(20), 0);
        CHECK.same("room again", x.circle(5, 5, -1), 111);
        CHECK.same("the last one is not idle", x.lessonOf(39, 3), 0);
        CHECK.same("the others are", x.count(1), 39);
        CHECK.same("the only one that matters", x.mainLesson(), 39);
    }

    private static void roomAgain() {
        KernLessons x = withLessons(39);
        x.keep(0);
        x.circle(5, 5, 1);
        x.undo();
        CHECK.same("room by undo", x.circle(6, 6, 1), 101);
        CHECK.same("full", x.circle(7, 7, 1), NONE);
        CHECK.same("back to 39", x.goBack(0), 39);
        CHECK.same("room by goBack", x.circle(7, 7, 1), 101);
        CHECK.same("full", x.circle(6, 6, 1), NONE);
        CHECK.same("one pair was set by the last one", x.forget(39), 1);
        CHECK.same("room by forget", x.circle(6, 6, 1), 101);
        CHECK.same("full", x.circle(8, 8, 1), NONE);
    }

    private static void forgetAtTheEnds() {
        KernLessons x = Past.FULL.make();
        int[] second = new int[4];
        for (int what = 0; what < 3; what++) {
            second[what] = x.lessonOf(1, what);
        }
        CHECK.same("as ifForgotten of the first one", x.ifForgotten(0), x.forget(0));
        CHECK.same("39 left", x.count(0), 39);
        for (int what = 0; what < 3; what++) {
            CHECK.same("the second one is the first one now", x.lessonOf(0, what), second[what]);
        }
        CHECK.refuses("no lesson 39 any more", x, INDEX, () -> x.lessonOf(39, 0));
        CHECK.refuses("nor to forget", x, INDEX, () -> x.forget(39));
        int otherwise = x.ifForgotten(38);
        CHECK.same("as ifForgotten of the last one", x.forget(38), otherwise);
        while (x.count(0) > 0) {
            x.forget(x.count(0) / 2);
        }
        CHECK.same("forgotten: one of the past, and all", x.count(5), 41);
        CHECK.refuses("none is left", x, INDEX, () -> x.forget(0));
        for (int shapes = 0; shapes < 16; shapes++) {
            CHECK.same("the base is left", x.shapesOf(shapes / 4, shapes % 4, 0), x.shapesOf(shapes / 4, shapes % 4, 1));
        }
        CHECK.same("no pair has learnt", x.count(2), 0);
        CHECK.same("no lesson matters", x.mainLesson(), NONE);
    }

    /** All 100 pairs may have the same shapes: then the shapes' lesson sets 99 pairs and the one itself otherwise. */
    private static void forgetTellsAllPairs() {
        KernLessons x = new KernLessons();
        for (int letter = 0; letter < 10; letter++) {
            x.shape(letter, 2, 2);
        }
        x.circle(0, 0, 1);
        x.circle(9, 9, 1);
        CHECK.same("pairs with the shapes", x.shapesOf(2, 2, 2), 100);
        CHECK.same("all but the other pair", x.ifForgotten(0), 99);
        CHECK.same("all but the other pair", x.ifForgotten(1), 99);
        CHECK.same("forget tells the same", x.forget(0), 99);
        CHECK.same("the only one sets one pair", x.forget(0), 1);
        KernLessons y = new KernLessons();
        for (int i = 0; i < 4; i++) {
            y.circle(0, 1, 1);
        }
        y.base(0, 1, 3);
        CHECK.same("the last one is idle", y.lessonOf(3, 3), 1);
        CHECK.same("so it takes the place of the first one", y.forget(0), 0);
        CHECK.same("none is idle", y.count(1), 0);
        CHECK.same("the kerning is as before", y.pairOf(0, 1, 0), 112);
    }

    private static void againByWhatIsNow() {
        KernLessons x = new KernLessons();
        x.circle(0, 1, 1);
        x.circle(0, 5, 1);
        CHECK.same("shapes", x.shapesOf(0, 1, 0), 101);
        x.shape(5, 2, 1);
        CHECK.same("the pairs do not meet any more", x.shapesOf(0, 1, 0), 100);
        CHECK.same("own part", x.pairOf(0, 1, 2), 103);
        CHECK.same("own part with other shapes", x.pairOf(0, 5, 2), 103);
        x.shape(5, 1, 3);
        CHECK.same("they meet again", x.shapesOf(0, 1, 0), 101);
        x.shape(0, 0, 2);
        CHECK.same("nor by another right shape", x.shapesOf(0, 1, 0), 100);
        CHECK.same("but both at other shapes", x.shapesOf(2, 1, 0), 101);
        x.shape(0, 0, 0);
        CHECK.same("they meet again", x.shapesOf(0, 1, 0), 101);
        x.set(1, 3);
        CHECK.same("too few pairs now", x.shapesOf(0, 1, 0), 100);
        x.set(0, 6);
        CHECK.same("by the step as it is now", x.pairOf(0, 5, 0), 106);
        x.base(0, 1, 12);
        CHECK.same("from the base as it is now", x.count(1), 2);
        CHECK.same("gone through", x.count(6), 7);
        x.width(0, 13);
        x.set(2, 1);
        x.set(3, 40);
        x.circle(3, 3, 1);
        CHECK.same("not by width, circle or the settings 2 and 3", x.count(6), 7);
    }

    /** "Pairs of two letters, perhaps the same." */
    private static void letterWithItself() {
        for (int letter = 0; letter < 10; letter++) {
            KernLessons x = new KernLessons();
            CHECK.same("circled with itself", x.circle(letter, letter, -1), 97);
            CHECK.same("both letters", x.lessonOf(0, 0), letter);
            CHECK.same("both letters", x.lessonOf(0, 1), letter);
            CHECK.same("counted twice", x.letterOf(letter, 3), 2);
            CHECK.same("one pair is set otherwise", x.forget(0), 1);
        }
    }
}
