/** Promises 6 and 7: circle and forget, and how a lesson is learnt. */
public final class LessonsTest {
    private static final Class<IndexOutOfBoundsException> INDEX = IndexOutOfBoundsException.class;
    private static final Class<IllegalArgumentException> ARGUMENT = IllegalArgumentException.class;

    private static final Check CHECK = new Check("LessonsTest");

    public static void main(String[] args) {
        steps();
        leastStep();
        bounds();
        shapesLearn();
        shapesLearnDownwards();
        otherOwnParts();
        fivePairs();
        firstAndLastPair();
        fullLessons();
        circleRefuses();
        forget();
        forgetMakesIdle();
        forgetRefuses();
        CHECK.done();
    }

    private static void steps() {
        KernLessons x = new KernLessons();
        x.set(0, 6);
        CHECK.same("first step", x.circle(0, 1, 1), 106);
        CHECK.same("turned about", x.circle(0, 1, -1), 103);
        CHECK.same("step then", x.pairOf(0, 1, 3), 3);
        CHECK.same("the same way again", x.circle(0, 1, -1), 100);
        CHECK.same("turned about again", x.circle(0, 1, 1), 101);
        CHECK.same("half of 3, rounded down", x.pairOf(0, 1, 3), 1);
        CHECK.same("another pair begins with the first step", x.circle(1, 0, -1), 94);
        CHECK.same("lessons of the pair", x.pairOf(0, 1, 4), 4);
        CHECK.same("circle is undoable", x.count(7), 6);
        CHECK.same("circle goes through nothing", x.count(6), 1);
    }

    private static void leastStep() {
        KernLessons x = new KernLessons();
        x.circle(2, 2, -1);
        x.circle(2, 2, 1);
        CHECK.same("step 1", x.pairOf(2, 2, 3), 1);
        CHECK.same("step at least 1", x.circle(2, 2, -1), 97);
        CHECK.same("step at least 1", x.pairOf(2, 2, 3), 1);
        CHECK.same("step at least 1", x.circle(2, 2, 1), 98);
    }

    private static void bounds() {
        KernLessons x = new KernLessons();
        x.set(0, 5);
        x.circle(0, 1, 1);
        CHECK.same("below 12", x.circle(0, 1, 1), 110);
        CHECK.same("cut at 12", x.circle(0, 1, 1), 112);
        CHECK.same("the step although less was taken", x.pairOf(0, 1, 3), 5);
        CHECK.same("idle", x.circle(0, 1, 1), KernLessons.NONE);
        CHECK.same("an idle circle is not kept", x.count(0), 3);
        CHECK.same("an idle circle is refused", x.count(4), 1);
        CHECK.same("a refused circle is undoable", x.count(7), 5);
        CHECK.same("back from 12 by half", x.circle(0, 1, -1), 110);
        x.circle(1, 0, -1);
        x.circle(1, 0, -1);
        CHECK.same("cut at -12", x.circle(1, 0, -1), 88);
        CHECK.same("idle at -12", x.circle(1, 0, -1), KernLessons.NONE);
        x.undo();
        CHECK.same("a refused circle undone", x.count(4), 1);
        CHECK.same("back from -12 by half", x.circle(1, 0, 1), 90);
    }

    private static void shapesLearn() {
        KernLessons x = new KernLessons();
        x.circle(0, 1, 1);
        CHECK.same("one pair teaches nothing", x.shapesOf(0, 1, 0), 100);
        CHECK.same("one lesson more of one pair", x.circle(0, 1, 1), 106);
        CHECK.same("one pair teaches nothing", x.shapesOf(0, 1, 0), 100);
        CHECK.same("a pair with other shapes", x.circle(0, 2, 1), 103);
        CHECK.same("pairs with other shapes teach nothing", x.shapesOf(0, 1, 0), 100);
        CHECK.same("the second pair", x.circle(4, 9, 1), 103);
        CHECK.same("two pairs teach", x.shapesOf(0, 1, 0), 101);
        CHECK.same("the kerning stays", x.pairOf(0, 1, 0), 106);
        CHECK.same("own part of the first pair", x.pairOf(0, 1, 2), 105);
        CHECK.same("own part of the second pair", x.pairOf(4, 9, 2), 102);
        CHECK.same("a pair that has not learnt moves", x.pairOf(8, 5, 0), 101);
        CHECK.same("its own part stays", x.pairOf(8, 5, 2), 100);
        CHECK.same("a pair with other shapes stays", x.pairOf(0, 2, 0), 103);
        CHECK.same("the other way round stays", x.pairOf(5, 8, 0), 100);
        CHECK.same("the first step from a moved kerning", x.circle(8, 5, 1), 104);
        CHECK.same("three pairs teach one step", x.shapesOf(0, 1, 0), 102);
        CHECK.same("shapes off their base", x.count(3), 1);
    }

    private static void shapesLearnDownwards() {
        KernLessons x = new KernLessons();
        x.circle(3, 3, -1);
        x.circle(7, 7, -1);
        CHECK.same("two pairs teach downwards", x.shapesOf(3, 3, 0), 99);
        CHECK.same("own part", x.pairOf(3, 3, 2), 98);
        CHECK.same("kerning", x.pairOf(3, 3, 0), 97);
        CHECK.same("a pair that has not learnt", x.pairOf(3, 7, 0), 99);
        x.circle(3, 3, 1);
        CHECK.same("own part 1 up", x.pairOf(3, 3, 2), 99);
        CHECK.same("own parts below 0 do not teach upwards", x.shapesOf(3, 3, 0), 99);
    }

    private static void otherOwnParts() {
        KernLessons x = new KernLessons();
        x.circle(0, 1, -1);
        x.circle(4, 1, 1);
        CHECK.same("pairs told otherwise do not count", x.shapesOf(0, 1, 0), 100);
        x.circle(8, 1, 1);
        CHECK.same("two of three teach", x.shapesOf(0, 1, 0), 101);
        CHECK.same("own part told otherwise goes with them", x.pairOf(0, 1, 2), 96);
        CHECK.same("kerning told otherwise stays", x.pairOf(0, 1, 0), 97);
        CHECK.same("own part", x.pairOf(8, 1, 2), 102);
        // Own parts 0: of (0,1) by turning about, of no use for either way.
        KernLessons y = new KernLessons();
        y.set(0, 1);
        y.circle(0, 1, 1);
        y.circle(0, 1, -1);
        CHECK.same("own part 0", y.pairOf(0, 1, 2), 100);
        y.circle(4, 1, 1);
        CHECK.same("an own part 0 does not count", y.shapesOf(0, 1, 0), 100);
        y.circle(8, 1, 1);
        CHECK.same("two above 0 count", y.shapesOf(0, 1, 0), 101);
        CHECK.same("the own part 0 goes with them", y.pairOf(0, 1, 2), 99);
        CHECK.same("its kerning stays", y.pairOf(0, 1, 0), 100);
    }

    private static void fivePairs() {
        KernLessons x = new KernLessons();
        x.set(1, 5);
        int[][] pairs = {{0, 1}, {0, 5}, {4, 1}, {4, 5}};
        for (int[] pair : pairs) {
            x.circle(pair[0], pair[1], 1);
        }
        CHECK.same("four pairs of five", x.shapesOf(0, 1, 0), 100);
        x.circle(8, 9, 1);
        CHECK.same("five pairs of five", x.shapesOf(0, 1, 0), 101);
    }

    /** The pairs of the letters 0 and 9 and themselves are the first and the last one of all. */
    private static void firstAndLastPair() {
        for (int letter : new int[] {0, 9}) {
            int other = letter == 0 ? 4 : 5;
            int shape = letter % 4;
            KernLessons x = new KernLessons();
            x.circle(letter, letter, -1);
            CHECK.same("alone below 0", x.tightShare(), 0.01);
            CHECK.same("alone without", x.ifForgotten(0), 1);
            x.circle(other, other, -1);
            CHECK.same("the shapes learn from it", x.shapesOf(shape, shape, 0), 99);
            CHECK.same("own part", x.pairOf(letter, letter, 2), 98);
            CHECK.same("pairs with the shapes", x.shapesOf(shape, shape, 2), 9);
            CHECK.same("pairs that learnt", x.shapesOf(shape, shape, 3), 2);
            CHECK.same("shapes off their base", x.count(3), 1);
            CHECK.same("without it", x.ifForgotten(0), 8);
            Check.type(x, letter == 0 ? "aa" : "jj");
            CHECK.same("width by places", x.text(0), 29);
            CHECK.same("width by counts", x.text(1), 29);
        }
    }

    private static void fullLessons() {
        KernLessons x = new KernLessons();
        x.set(0, 1);
        for (int i = 0; i < 40; i++) {
            CHECK.isTrue("lesson " + i + " is kept", x.circle(0, 2, i % 2 == 0 ? 1 : -1) != KernLessons.NONE);
        }
        CHECK.same("40 lessons", x.count(0), 40);
        CHECK.same("the 41st is refused", x.circle(5, 5, 1), KernLessons.NONE);
        CHECK.same("what it would do", x.ifCircled(5, 5, 1), KernLessons.NONE);
        CHECK.same("still 40", x.count(0), 40);
        CHECK.same("refused", x.count(4), 1);
        CHECK.same("nothing learnt", x.pairOf(5, 5, 0), 100);
        x.forget(39);
        CHECK.same("room again", x.circle(5, 5, 1), 101);
    }

    private static void circleRefuses() {
        KernLessons x = new KernLessons();
        CHECK.refuses("first letter -1", x, INDEX, () -> x.circle(-1, 0, 1));
        CHECK.refuses("first letter 10", x, INDEX, () -> x.circle(10, 0, 1));
        CHECK.refuses("second letter -1", x, INDEX, () -> x.circle(1, -1, 1));
        CHECK.refuses("second letter 10", x, INDEX, () -> x.circle(1, 10, 1));
        CHECK.refuses("told 0", x, ARGUMENT, () -> x.circle(1, 1, 0));
        CHECK.refuses("told 2", x, ARGUMENT, () -> x.circle(1, 1, 2));
        CHECK.refuses("told -2", x, ARGUMENT, () -> x.circle(1, 1, -2));
        CHECK.refuses("circle, both wrong", x, INDEX, () -> x.circle(1, 10, 0));
        CHECK.same("nothing was refused", x.count(4), 0);
        CHECK.same("nothing was saved", x.count(7), 0);
    }

    private static void forget() {
        KernLessons x = new KernLessons();
        x.circle(0, 1, 1);
        x.circle(4, 1, 1);
        x.circle(2, 3, -1);
        CHECK.same("would move the pair and the unlearnt ones", x.ifForgotten(0), 8);
        CHECK.same("forgets", x.forget(0), 8);
        CHECK.same("lessons left", x.count(0), 2);
        CHECK.same("numbers 1 less: first letter", x.lessonOf(0, 0), 4);
        CHECK.same("numbers 1 less: told", x.lessonOf(1, 2), 0);
        CHECK.same("numbers 1 less: second letter", x.lessonOf(1, 1), 3);
        CHECK.same("kerning gone", x.pairOf(0, 1, 0), 100);
        CHECK.same("kerning of the other pair stays", x.pairOf(4, 1, 0), 103);
        CHECK.same("its own part has all", x.pairOf(4, 1, 2), 103);
        CHECK.same("the shapes have learnt nothing", x.shapesOf(0, 1, 0), 100);
        CHECK.same("forgotten", x.count(5), 1);
        CHECK.same("gone through again", x.count(6), 1);
        CHECK.same("forget is undoable", x.count(7), 4);
        CHECK.same("forgets the last one", x.forget(1), 1);
        CHECK.same("forgets the only one", x.forget(0), 1);
        CHECK.same("none left", x.count(0), 0);
        CHECK.same("forgotten", x.count(5), 3);
        x.undo();
        CHECK.same("a forgotten lesson is back", x.count(0), 1);
        CHECK.same("and its kerning", x.pairOf(4, 1, 0), 103);
        CHECK.same("forgotten lessons undone", x.count(5), 2);
    }

    private static void forgetMakesIdle() {
        KernLessons x = new KernLessons();
        x.base(0, 1, 12);
        x.circle(0, 1, -1);
        x.circle(0, 1, 1);
        CHECK.same("kerning", x.pairOf(0, 1, 0), 110);
        CHECK.same("the second lesson alone is idle", x.forget(0), 1);
        CHECK.same("idle now", x.lessonOf(0, 3), 1);
        CHECK.same("an idle lesson is kept", x.count(0), 1);
        CHECK.same("idle lessons", x.count(1), 1);
        CHECK.same("no step", x.pairOf(0, 1, 3), 0);
        CHECK.same("first step behind an idle lesson", x.circle(0, 1, -1), 109);
        CHECK.same("the new lesson is not idle", x.lessonOf(1, 3), 0);
        CHECK.same("forgetting an idle lesson moves nothing", x.forget(0), 0);
    }

    private static void forgetRefuses() {
        KernLessons x = new KernLessons();
        CHECK.refuses("forget without lessons", x, INDEX, () -> x.forget(0));
        x.circle(0, 0, 1);
        CHECK.refuses("forget -1", x, INDEX, () -> x.forget(-1));
        CHECK.refuses("forget 1 of 1", x, INDEX, () -> x.forget(1));
        CHECK.refuses("forget the greatest number", x, INDEX, () -> x.forget(Integer.MAX_VALUE));
    }
}
