/** Promises 15 to 20: letterOf, pairOf, shapesOf, lessonOf, count, setting. */
public final class LooksTest {
    private static final Class<IndexOutOfBoundsException> INDEX = IndexOutOfBoundsException.class;
    private static final Class<IllegalArgumentException> ARGUMENT = IllegalArgumentException.class;

    private static final Check CHECK = new Check("LooksTest");

    public static void main(String[] args) {
        letterOf();
        pairOf();
        shapesOf();
        lessonOf();
        count();
        setting();
        looksChangeNothing();
        CHECK.done();
    }

    private static void letterOf() {
        KernLessons x = new KernLessons();
        x.width(6, 29);
        x.shape(6, 3, 1);
        x.base(1, 0, 12);
        x.circle(6, 6, 1);
        x.circle(6, 0, -1);
        x.circle(0, 6, 1);
        x.circle(0, 1, 1);
        CHECK.same("width", x.letterOf(6, 0), 29);
        CHECK.same("left shape", x.letterOf(6, 1), 3);
        CHECK.same("right shape", x.letterOf(6, 2), 1);
        CHECK.same("lessons, itself twice", x.letterOf(6, 3), 4);
        CHECK.same("lessons on both sides", x.letterOf(0, 3), 3);
        CHECK.same("lessons of a second letter", x.letterOf(1, 3), 1);
        CHECK.same("no lessons", x.letterOf(9, 3), 0);
        x.base(1, 0, -12);
        CHECK.same("an idle lesson counts too", x.letterOf(0, 3), 3);
        CHECK.refuses("letter -1", x, INDEX, () -> x.letterOf(-1, 0));
        CHECK.refuses("letter 10", x, INDEX, () -> x.letterOf(10, 0));
        CHECK.refuses("what -1", x, ARGUMENT, () -> x.letterOf(0, -1));
        CHECK.refuses("what 4", x, ARGUMENT, () -> x.letterOf(0, 4));
        CHECK.refuses("letterOf, both wrong", x, INDEX, () -> x.letterOf(10, 4));
    }

    private static void pairOf() {
        KernLessons x = new KernLessons();
        x.base(0, 1, -3);
        x.circle(0, 1, -1);
        x.circle(4, 5, -1);
        x.circle(0, 1, 1);
        CHECK.same("kerning by the table", x.pairOf(0, 1, 0), 95);
        CHECK.same("kerning by all lessons", x.pairOf(0, 1, 1), 95);
        CHECK.same("own part", x.pairOf(0, 1, 2), 99);
        CHECK.same("step", x.pairOf(0, 1, 3), 1);
        CHECK.same("lessons", x.pairOf(0, 1, 4), 2);
        CHECK.same("kerning of an unlearnt pair by the table", x.pairOf(8, 1, 0), 96);
        CHECK.same("kerning of an unlearnt pair by all lessons", x.pairOf(8, 1, 1), 96);
        CHECK.same("the pair the other way", x.pairOf(1, 0, 4), 0);
        CHECK.refuses("first -1", x, INDEX, () -> x.pairOf(-1, 0, 0));
        CHECK.refuses("first 10", x, INDEX, () -> x.pairOf(10, 0, 0));
        CHECK.refuses("second -1", x, INDEX, () -> x.pairOf(0, -1, 0));
        CHECK.refuses("second 10", x, INDEX, () -> x.pairOf(0, 10, 0));
        CHECK.refuses("what -1", x, ARGUMENT, () -> x.pairOf(0, 0, -1));
        CHECK.refuses("what 5", x, ARGUMENT, () -> x.pairOf(0, 0, 5));
        CHECK.refuses("pairOf, both wrong", x, INDEX, () -> x.pairOf(0, 10, 5));
    }

    private static void shapesOf() {
        KernLessons x = new KernLessons();
        x.base(0, 1, 7);
        x.circle(0, 1, 1);
        x.circle(4, 5, 1);
        x.circle(4, 5, 1);
        CHECK.same("kerning", x.shapesOf(0, 1, 0), 109);
        CHECK.same("base", x.shapesOf(0, 1, 1), 107);
        CHECK.same("pairs", x.shapesOf(0, 1, 2), 9);
        CHECK.same("pairs that learnt", x.shapesOf(0, 1, 3), 2);
        CHECK.same("the other way: kerning", x.shapesOf(1, 0, 0), 100);
        CHECK.same("the other way: pairs that learnt", x.shapesOf(1, 0, 3), 0);
        CHECK.same("few pairs", x.shapesOf(3, 2, 2), 4);
        CHECK.same("some pairs", x.shapesOf(3, 1, 2), 6);
        x.shape(3, 3, 0);
        CHECK.same("one right shape fewer", x.shapesOf(3, 2, 2), 2);
        CHECK.same("one right shape more", x.shapesOf(0, 1, 2), 12);
        CHECK.same("left shapes as before", x.shapesOf(0, 3, 2), 8);
        CHECK.refuses("right -1", x, INDEX, () -> x.shapesOf(-1, 0, 0));
        CHECK.refuses("right 4", x, INDEX, () -> x.shapesOf(4, 0, 0));
        CHECK.refuses("left -1", x, INDEX, () -> x.shapesOf(0, -1, 0));
        CHECK.refuses("left 4", x, INDEX, () -> x.shapesOf(0, 4, 0));
        CHECK.refuses("what -1", x, ARGUMENT, () -> x.shapesOf(0, 0, -1));
        CHECK.refuses("what 4", x, ARGUMENT, () -> x.shapesOf(0, 0, 4));
        CHECK.refuses("shapesOf, both wrong", x, INDEX, () -> x.shapesOf(0, 4, 4));
    }

    private static void lessonOf() {
        KernLessons x = new KernLessons();
        x.circle(3, 8, 1);
        x.circle(9, 0, -1);
        CHECK.same("first letter", x.lessonOf(0, 0), 3);
        CHECK.same("second letter", x.lessonOf(0, 1), 8);
        CHECK.same("too tight", x.lessonOf(0, 2), 1);
        CHECK.same("too wide", x.lessonOf(1, 2), 0);
        CHECK.same("not idle", x.lessonOf(1, 3), 0);
        x.base(1, 0, -12);
        CHECK.same("idle", x.lessonOf(1, 3), 1);
        CHECK.same("the other one not idle", x.lessonOf(0, 3), 0);
        x.ifForgotten(1);
        CHECK.same("a look does not learn", x.lessonOf(1, 3), 1);
        x.undo();
        CHECK.same("undone", x.lessonOf(1, 3), 0);
        CHECK.refuses("lesson -1", x, INDEX, () -> x.lessonOf(-1, 0));
        CHECK.refuses("lesson 2 of 2", x, INDEX, () -> x.lessonOf(2, 0));
        CHECK.refuses("what -1", x, ARGUMENT, () -> x.lessonOf(0, -1));
        CHECK.refuses("what 4", x, ARGUMENT, () -> x.lessonOf(0, 4));
        CHECK.refuses("lessonOf, both wrong", x, INDEX, () -> x.lessonOf(2, 4));
    }

    private static void count() {
        KernLessons x = new KernLessons();
        x.base(2, 2, -12);
        x.circle(2, 6, -1);
        x.circle(2, 6, 1);
        x.circle(2, 6, 1);
        x.circle(0, 1, 1);
        x.circle(4, 1, 1);
        x.circle(8, 9, 1);
        x.base(2, 2, 12);
        x.forget(4);
        int[] due = {4, 2, 2, 1, 1, 1, 3, 6};
        for (int what = 0; what < 8; what++) {
            CHECK.same("count " + what, x.count(what), due[what]);
        }
        CHECK.refuses("what -1", x, ARGUMENT, () -> x.count(-1));
        CHECK.refuses("what 8", x, ARGUMENT, () -> x.count(8));
    }

    private static void setting() {
        KernLessons x = new KernLessons();
        x.set(0, 4);
        x.set(1, 5);
        x.set(2, 19);
        x.set(3, 599);
        int[] due = {4, 5, 19, 599};
        for (int i = 0; i < 4; i++) {
            CHECK.same("setting " + i, x.setting(i), due[i]);
        }
        CHECK.refuses("setting -1", x, INDEX, () -> x.setting(-1));
        CHECK.refuses("setting 4", x, INDEX, () -> x.setting(4));
    }

    private static void looksChangeNothing() {
        KernLessons x = new KernLessons();
        x.circle(0, 1, 1);
        x.circle(4, 1, 1);
        x.circle(0, 1, -1);
        Check.type(x, "ab.eb");
        long due = x.digest();
        for (int what = 0; what < 5; what++) {
            x.pairOf(0, 1, what);
        }
        x.ifCircled(4, 1, -1);
        x.ifForgotten(1);
        x.mainLesson();
        x.tightShare();
        for (int what = 0; what < 6; what++) {
            x.text(what);
        }
        CHECK.same("looks change nothing", x.digest(), due);
    }
}
