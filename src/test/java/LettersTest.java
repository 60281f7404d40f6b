/** Promises 1 to 5: a new object, width, shape, base, set. */
public final class LettersTest {
    private static final Class<IndexOutOfBoundsException> INDEX = IndexOutOfBoundsException.class;
    private static final Class<IllegalArgumentException> ARGUMENT = IllegalArgumentException.class;
    private static final Class<IllegalStateException> STATE = IllegalStateException.class;

    private static final Check CHECK = new Check("LettersTest");

    public static void main(String[] args) {
        newObject();
        width();
        shape();
        shapeGoesThroughAgain();
        base();
        baseGoesThroughAgain();
        set();
        setGoesThroughAgain();
        CHECK.done();
    }

    private static void newObject() {
        KernLessons x = new KernLessons();
        for (int what = 0; what < 8; what++) {
            CHECK.same("new count " + what, x.count(what), 0);
        }
        for (int letter = 0; letter < 10; letter++) {
            CHECK.same("new width", x.letterOf(letter, 0), 16);
            CHECK.same("new left shape", x.letterOf(letter, 1), letter % 4);
            CHECK.same("new right shape", x.letterOf(letter, 2), letter % 4);
            CHECK.same("new lessons of a letter", x.letterOf(letter, 3), 0);
        }
        int[] settings = {3, 2, 6, 200};
        for (int i = 0; i < 4; i++) {
            CHECK.same("new setting " + i, x.setting(i), settings[i]);
        }
        for (int first = 0; first < 10; first++) {
            for (int second = 0; second < 10; second++) {
                CHECK.same("new kerning", x.pairOf(first, second, 0), 100);
                CHECK.same("new own part", x.pairOf(first, second, 2), 100);
            }
        }
        for (int right = 0; right < 4; right++) {
            for (int left = 0; left < 4; left++) {
                CHECK.same("new kerning of shapes", x.shapesOf(right, left, 0), 100);
                CHECK.same("new base", x.shapesOf(right, left, 1), 100);
            }
        }
        CHECK.same("new buffer", x.clearBuffer(), 0);
        CHECK.same("NONE", KernLessons.NONE, -1);
        CHECK.refuses("goBack to an empty slot 0", x, STATE, () -> x.goBack(0));
        CHECK.refuses("goBack to an empty slot 1", x, STATE, () -> x.goBack(1));
        CHECK.refuses("undo on a new object", x, STATE, x::undo);
    }

    private static void width() {
        KernLessons x = new KernLessons();
        CHECK.same("width before", x.width(3, 30), 16);
        CHECK.same("width before", x.width(3, 13), 30);
        CHECK.same("width then", x.letterOf(3, 0), 13);
        CHECK.same("width of another letter", x.letterOf(2, 0), 16);
        CHECK.same("width of the first letter", x.width(0, 14), 16);
        CHECK.same("width of the last letter", x.width(9, 15), 16);
        CHECK.same("width goes through nothing", x.count(6), 0);
        CHECK.same("width is undoable", x.count(7), 4);
        x.undo();
        CHECK.same("width undone", x.letterOf(9, 0), 16);
        x.width(9, 16);
        CHECK.same("width that changes nothing is undoable", x.count(7), 4);
        CHECK.refuses("width of letter -1", x, INDEX, () -> x.width(-1, 20));
        CHECK.refuses("width of letter 10", x, INDEX, () -> x.width(10, 20));
        CHECK.refuses("width 12", x, ARGUMENT, () -> x.width(0, 12));
        CHECK.refuses("width 31", x, ARGUMENT, () -> x.width(0, 31));
        CHECK.refuses("width, both wrong", x, INDEX, () -> x.width(10, 31));
    }

    private static void shape() {
        KernLessons x = new KernLessons();
        CHECK.same("shapes before", x.shape(5, 3, 2), 5);
        CHECK.same("left shape then", x.letterOf(5, 1), 3);
        CHECK.same("right shape then", x.letterOf(5, 2), 2);
        CHECK.same("shapes before", x.shape(5, 0, 3), 14);
        CHECK.same("shapes of the last letter", x.shape(9, 0, 0), 5);
        CHECK.same("shape goes through again", x.count(6), 3);
        CHECK.same("shape is undoable", x.count(7), 3);
        x.undo();
        CHECK.same("left shape undone", x.letterOf(9, 1), 1);
        CHECK.same("right shape undone", x.letterOf(9, 2), 1);
        CHECK.same("going through again undone", x.count(6), 2);
        CHECK.refuses("shape of letter -1", x, INDEX, () -> x.shape(-1, 0, 0));
        CHECK.refuses("shape of letter 10", x, INDEX, () -> x.shape(10, 0, 0));
        CHECK.refuses("left shape -1", x, ARGUMENT, () -> x.shape(0, -1, 0));
        CHECK.refuses("left shape 4", x, ARGUMENT, () -> x.shape(0, 4, 0));
        CHECK.refuses("right shape -1", x, ARGUMENT, () -> x.shape(0, 0, -1));
        CHECK.refuses("right shape 4", x, ARGUMENT, () -> x.shape(0, 0, 4));
        CHECK.refuses("shape, both wrong", x, INDEX, () -> x.shape(10, 4, 4));
    }

    private static void shapeGoesThroughAgain() {
        KernLessons x = new KernLessons();
        x.base(0, 2, 5);
        x.base(0, 3, 12);
        x.circle(0, 1, 1);
        CHECK.same("kerning before", x.pairOf(0, 1, 0), 103);
        x.shape(1, 2, 1);
        CHECK.same("kerning with another left shape", x.pairOf(0, 1, 0), 108);
        CHECK.same("own part with another left shape", x.pairOf(0, 1, 2), 103);
        x.shape(1, 3, 1);
        CHECK.same("kerning of an idle lesson", x.pairOf(0, 1, 0), 112);
        CHECK.same("own part of an idle lesson", x.pairOf(0, 1, 2), 100);
        CHECK.same("step of an idle lesson", x.pairOf(0, 1, 3), 0);
        CHECK.same("lessons not idle", x.pairOf(0, 1, 4), 0);
        CHECK.same("the lesson is idle", x.lessonOf(0, 3), 1);
        CHECK.same("idle lessons", x.count(1), 1);
        CHECK.same("pairs that learnt", x.count(2), 0);
        x.shape(1, 1, 1);
        CHECK.same("the lesson is not idle any more", x.lessonOf(0, 3), 0);
        CHECK.same("kerning with the first shape", x.pairOf(0, 1, 0), 103);
    }

    private static void base() {
        KernLessons x = new KernLessons();
        CHECK.same("base before", x.base(1, 2, 12), 100);
        CHECK.same("base before", x.base(1, 2, -12), 112);
        CHECK.same("base before", x.base(3, 3, 1), 100);
        CHECK.same("base then", x.shapesOf(1, 2, 1), 88);
        CHECK.same("kerning of the shapes then", x.shapesOf(1, 2, 0), 88);
        CHECK.same("base of the shapes the other way", x.shapesOf(2, 1, 1), 100);
        CHECK.same("kerning of a pair", x.pairOf(1, 2, 0), 88);
        CHECK.same("kerning of the pair the other way", x.pairOf(2, 1, 0), 100);
        CHECK.same("base goes through again", x.count(6), 3);
        CHECK.same("base is undoable", x.count(7), 3);
        x.undo();
        CHECK.same("base undone", x.shapesOf(3, 3, 1), 100);
        CHECK.refuses("right shape -1", x, INDEX, () -> x.base(-1, 0, 0));
        CHECK.refuses("right shape 4", x, INDEX, () -> x.base(4, 0, 0));
        CHECK.refuses("left shape -1", x, INDEX, () -> x.base(0, -1, 0));
        CHECK.refuses("left shape 4", x, INDEX, () -> x.base(0, 4, 0));
        CHECK.refuses("base -13", x, ARGUMENT, () -> x.base(0, 0, -13));
        CHECK.refuses("base 13", x, ARGUMENT, () -> x.base(0, 0, 13));
        CHECK.refuses("base, both wrong", x, INDEX, () -> x.base(0, 4, 13));
    }

    private static void baseGoesThroughAgain() {
        KernLessons x = new KernLessons();
        x.circle(0, 1, -1);
        x.circle(4, 1, -1);
        CHECK.same("the shapes learnt", x.shapesOf(0, 1, 0), 99);
        x.base(0, 1, -10);
        CHECK.same("kerning cut at -12", x.pairOf(0, 1, 0), 88);
        CHECK.same("kerning cut at -12", x.pairOf(4, 1, 0), 88);
        CHECK.same("the shapes learnt from the new base", x.shapesOf(0, 1, 0), 89);
        CHECK.same("own part", x.pairOf(0, 1, 2), 99);
        CHECK.same("step, although less was taken", x.pairOf(0, 1, 3), 3);
        CHECK.same("unlearnt pair with these shapes", x.pairOf(8, 9, 0), 89);
    }

    private static void set() {
        KernLessons x = new KernLessons();
        int[] atFirst = {3, 2, 6, 200};
        int[] least = {1, 2, 1, 40};
        int[] most = {6, 5, 20, 600};
        for (int i = 0; i < 4; i++) {
            int setting = i;
            CHECK.same("setting before " + i, x.set(i, least[i]), atFirst[i]);
            CHECK.same("least setting " + i, x.set(i, most[i]), least[i]);
            CHECK.same("most setting " + i, x.setting(i), most[i]);
            CHECK.refuses("too little for " + i, x, ARGUMENT, () -> x.set(setting, least[setting] - 1));
            CHECK.refuses("too much for " + i, x, ARGUMENT, () -> x.set(setting, most[setting] + 1));
        }
        CHECK.same("settings 0 and 1 go through again", x.count(6), 4);
        CHECK.same("set is undoable", x.count(7), 6);
        x.undo();
        CHECK.same("set undone", x.setting(3), 40);
        CHECK.refuses("setting -1", x, INDEX, () -> x.set(-1, 3));
        CHECK.refuses("setting 4", x, INDEX, () -> x.set(4, 3));
        CHECK.refuses("set, both wrong", x, INDEX, () -> x.set(4, -1));
    }

    private static void setGoesThroughAgain() {
        KernLessons x = new KernLessons();
        x.circle(0, 1, 1);
        x.circle(4, 1, 1);
        x.circle(0, 1, 1);
        CHECK.same("kerning by steps of 3", x.pairOf(0, 1, 0), 106);
        CHECK.same("the shapes learnt twice", x.shapesOf(0, 1, 0), 102);
        x.set(0, 3);
        CHECK.same("a setting to its own value goes through again", x.count(6), 1);
        x.set(0, 5);
        CHECK.same("kerning by steps of 5", x.pairOf(0, 1, 0), 110);
        CHECK.same("kerning by a step of 5", x.pairOf(4, 1, 0), 105);
        x.set(1, 3);
        CHECK.same("the shapes learn from three pairs only", x.shapesOf(0, 1, 0), 100);
        CHECK.same("kerning by steps of 5", x.pairOf(0, 1, 0), 110);
        x.set(2, 7);
        x.set(3, 300);
        CHECK.same("settings 2 and 3 go through nothing", x.count(6), 3);
    }
}
