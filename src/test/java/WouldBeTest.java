/** Promises 22 to 25: ifCircled, ifForgotten, mainLesson, tightShare. */
public final class WouldBeTest {
    private static final Class<IndexOutOfBoundsException> INDEX = IndexOutOfBoundsException.class;
    private static final Class<IllegalArgumentException> ARGUMENT = IllegalArgumentException.class;

    private static final Check CHECK = new Check("WouldBeTest");

    public static void main(String[] args) {
        ifCircled();
        ifForgotten();
        mainLesson();
        tightShare();
        CHECK.done();
    }

    private static void ifCircled() {
        KernLessons x = new KernLessons();
        CHECK.same("first step up", x.ifCircled(0, 1, 1), 103);
        CHECK.same("first step down", x.ifCircled(0, 1, -1), 97);
        x.circle(0, 1, 1);
        CHECK.same("the same way", x.ifCircled(0, 1, 1), 106);
        CHECK.same("turned about", x.ifCircled(0, 1, -1), 102);
        CHECK.same("shapes would learn, the kerning stays", x.ifCircled(4, 1, 1), 103);
        CHECK.same("nothing is learnt", x.shapesOf(0, 1, 0), 100);
        CHECK.same("nothing is kept", x.count(0), 1);
        CHECK.same("nothing is saved", x.count(7), 1);
        x.base(2, 2, 12);
        CHECK.same("idle", x.ifCircled(2, 6, 1), KernLessons.NONE);
        CHECK.same("not refused", x.count(4), 0);
        CHECK.same("not idle the other way", x.ifCircled(2, 6, -1), 109);
        x.base(2, 2, 10);
        CHECK.same("cut at 12", x.ifCircled(2, 6, 1), 112);
        CHECK.refuses("first -1", x, INDEX, () -> x.ifCircled(-1, 0, 1));
        CHECK.refuses("first 10", x, INDEX, () -> x.ifCircled(10, 0, 1));
        CHECK.refuses("second -1", x, INDEX, () -> x.ifCircled(0, -1, 1));
        CHECK.refuses("second 10", x, INDEX, () -> x.ifCircled(0, 10, 1));
        CHECK.refuses("told 0", x, ARGUMENT, () -> x.ifCircled(0, 0, 0));
        CHECK.refuses("told 2", x, ARGUMENT, () -> x.ifCircled(0, 0, 2));
        CHECK.refuses("ifCircled, both wrong", x, INDEX, () -> x.ifCircled(0, 10, 0));
    }

    private static void ifForgotten() {
        KernLessons x = new KernLessons();
        x.circle(0, 1, 1);
        CHECK.same("the pair alone", x.ifForgotten(0), 1);
        x.circle(4, 1, 1);
        CHECK.same("the pair, and the 7 that learnt nothing", x.ifForgotten(1), 8);
        CHECK.same("nothing is forgotten", x.count(0), 2);
        CHECK.same("nothing is gone through", x.count(6), 0);
        x.circle(3, 3, 1);
        x.circle(3, 3, -1);
        CHECK.same("a lesson that a later one follows", x.ifForgotten(2), 1);
        x.base(3, 3, 12);
        CHECK.same("an idle lesson", x.ifForgotten(2), 0);
        CHECK.refuses("lesson -1", x, INDEX, () -> x.ifForgotten(-1));
        CHECK.refuses("lesson 4 of 4", x, INDEX, () -> x.ifForgotten(4));
    }

    private static void mainLesson() {
        KernLessons x = new KernLessons();
        CHECK.same("without lessons", x.mainLesson(), KernLessons.NONE);
        x.circle(2, 3, 1);
        CHECK.same("the only one", x.mainLesson(), 0);
        x.circle(0, 1, 1);
        CHECK.same("the first of two alike", x.mainLesson(), 0);
        x.circle(4, 1, 1);
        CHECK.same("the first of those that taught the shapes", x.mainLesson(), 1);
        x.base(0, 1, 12);
        CHECK.same("idle ones do not matter", x.mainLesson(), 0);
        x.base(2, 3, 12);
        CHECK.same("the first one, if none matters", x.mainLesson(), 0);
    }

    private static void tightShare() {
        KernLessons x = new KernLessons();
        CHECK.same("none", x.tightShare(), 0.0);
        x.circle(0, 1, -1);
        CHECK.same("one pair", x.tightShare(), 0.01);
        x.circle(4, 1, -1);
        CHECK.same("all pairs of the shapes", x.tightShare(), 0.09);
        x.circle(2, 3, 1);
        CHECK.same("kernings above 0 are not tight", x.tightShare(), 0.09);
        for (int right = 0; right < 4; right++) {
            for (int left = 0; left < 4; left++) {
                x.base(right, left, -12);
            }
        }
        CHECK.same("all but the one circled as too tight", x.pairOf(2, 3, 0), 91);
        CHECK.same("all", x.tightShare(), 1.0);
    }
}
