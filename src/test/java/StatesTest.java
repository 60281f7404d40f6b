/** Promises 12 to 14: keep, goBack, undo. */
public final class StatesTest {
    private static final Class<IllegalArgumentException> ARGUMENT = IllegalArgumentException.class;
    private static final Class<IllegalStateException> STATE = IllegalStateException.class;

    private static final Check CHECK = new Check("StatesTest");

    public static void main(String[] args) {
        keepAndGoBack();
        snapshotHoldsAll();
        slotsRefuse();
        undo();
        undoHoldsAll();
        sixStates();
        CHECK.done();
    }

    private static void keepAndGoBack() {
        KernLessons x = new KernLessons();
        CHECK.same("keep without lessons", x.keep(0), 0);
        x.circle(0, 1, 1);
        x.circle(4, 1, 1);
        CHECK.same("keep with lessons", x.keep(1), 2);
        CHECK.same("keep is not undoable", x.count(7), 2);
        x.circle(2, 2, 1);
        CHECK.same("back to slot 0", x.goBack(0), 0);
        CHECK.same("kerning of slot 0", x.pairOf(0, 1, 0), 100);
        CHECK.same("goBack is undoable", x.count(7), 4);
        CHECK.same("back to slot 1", x.goBack(1), 2);
        CHECK.same("kerning of slot 1", x.pairOf(0, 1, 0), 103);
        CHECK.same("shapes of slot 1", x.shapesOf(0, 1, 0), 101);
        x.circle(0, 1, 1);
        CHECK.same("the snapshot stays", x.goBack(1), 2);
        CHECK.same("as it was", x.pairOf(0, 1, 0), 103);
        CHECK.same("keep in place of another", x.keep(0), 2);
        x.forget(0);
        CHECK.same("back to the later one", x.goBack(0), 2);
        x.undo();
        CHECK.same("goBack undone", x.count(0), 1);
        x.undo();
        x.undo();
        CHECK.same("slots stay with undo", x.goBack(0), 2);
    }

    private static void snapshotHoldsAll() {
        KernLessons x = new KernLessons();
        changeAll(x);
        x.keep(1);
        Check.retype(x, "ab");
        long due = x.digest();
        int saved = x.count(7);
        changeAllOtherwise(x);
        CHECK.isTrue("changed", x.digest() != due);
        x.goBack(1);
        CHECK.same("saved states are not of the snapshot", x.count(7), 6);
        CHECK.same("counted refusals of the snapshot", x.count(4), 1);
        CHECK.same("counted forgotten of the snapshot", x.count(5), 1);
        CHECK.same("counted going through of the snapshot", x.count(6), 5);
        CHECK.same("the buffer is not of the snapshot", x.clearBuffer(), 3);
        Check.type(x, "ab");
        CHECK.same("saved states as many as before", saved, 6);
        CHECK.same("all as in the snapshot", x.digest(), due);
    }

    private static void changeAll(KernLessons x) {
        x.width(0, 20);
        x.shape(1, 2, 3);
        x.base(1, 1, 4);
        x.set(0, 2);
        x.set(2, 3);
        x.base(0, 0, 12);
        x.circle(0, 0, 1);
        x.circle(5, 9, 1);
        x.circle(5, 5, 1);
        x.circle(9, 9, -1);
        x.forget(2);
    }

    private static void changeAllOtherwise(KernLessons x) {
        x.width(0, 21);
        x.shape(1, 0, 1);
        x.base(1, 1, -12);
        x.set(1, 3);
        x.set(3, 40);
        x.circle(7, 7, -1);
        x.circle(5, 9, -1);
        x.circle(5, 9, -1);
        x.forget(0);
        Check.retype(x, "abc");
    }

    private static void slotsRefuse() {
        KernLessons x = new KernLessons();
        CHECK.refuses("keep in slot -1", x, ARGUMENT, () -> x.keep(-1));
        CHECK.refuses("keep in slot 2", x, ARGUMENT, () -> x.keep(2));
        CHECK.refuses("goBack to slot -1", x, ARGUMENT, () -> x.goBack(-1));
        CHECK.refuses("goBack to slot 2", x, ARGUMENT, () -> x.goBack(2));
        x.keep(0);
        CHECK.refuses("goBack to the other slot", x, STATE, () -> x.goBack(1));
        x.goBack(0);
        CHECK.same("goBack to the same state is undoable", x.count(7), 1);
    }

    private static void undo() {
        KernLessons x = new KernLessons();
        CHECK.refuses("undo without states", x, STATE, x::undo);
        x.circle(0, 1, 1);
        x.circle(0, 1, 1);
        CHECK.same("one left", x.undo(), 1);
        CHECK.same("the lesson before", x.pairOf(0, 1, 0), 103);
        CHECK.same("none left", x.undo(), 0);
        CHECK.same("no lesson", x.pairOf(0, 1, 0), 100);
        CHECK.refuses("undo once more", x, STATE, x::undo);
        x.width(0, 16);
        CHECK.same("what changed nothing is undone", x.undo(), 0);
    }

    private static void undoHoldsAll() {
        KernLessons x = new KernLessons();
        changeAll(x);
        Check.type(x, "ab");
        long due = x.digest();
        x.width(3, 30);
        x.undo();
        // One state fewer is saved: count(7) is part of the digest, so save one again.
        CHECK.same("a state less", x.count(7), 5);
        x.width(0, 20);
        CHECK.same("all as before", x.digest(), due);
        x.keep(0);
        x.clearBuffer();
        long kept = x.digest();
        x.forget(0);
        x.undo();
        x.width(0, 20);
        CHECK.same("slots and buffer stay", x.digest(), kept);
    }

    private static void sixStates() {
        KernLessons x = new KernLessons();
        for (int width = 17; width <= 24; width++) {
            x.width(0, width);
        }
        CHECK.same("six states at most", x.count(7), 6);
        for (int left = 5; left >= 0; left--) {
            CHECK.same("states left", x.undo(), left);
            CHECK.same("width then", x.letterOf(0, 0), 18 + left);
        }
        CHECK.refuses("the oldest were dropped", x, STATE, x::undo);
        x.width(0, 30);
        x.undo();
        CHECK.same("states are saved again", x.letterOf(0, 0), 18);
    }
}
