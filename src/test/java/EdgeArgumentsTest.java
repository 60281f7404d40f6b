/**
 * Each argument of each call: all that is allowed passes, what is next below and next above throws what the
 * document names, and all that can be seen stays; if several exceptions apply, the one named first is thrown.
 */
public final class EdgeArgumentsTest {
    private static final Class<IndexOutOfBoundsException> INDEX = IndexOutOfBoundsException.class;
    private static final Class<IllegalArgumentException> ARGUMENT = IllegalArgumentException.class;
    private static final Class<IllegalStateException> STATE = IllegalStateException.class;

    private static final int[] LETTER = {0, 9};
    private static final int[] UP_TO_3 = {0, 3};
    private static final int[] KERNING = {-12, 12};
    private static final int[] SLOT = {0, 1};
    private static final int[][] SETTING_VALUE = {{1, 6}, {2, 5}, {1, 20}, {40, 600}};
    private static final int[] WRONG_TOLD = {0, 2, -2, Integer.MIN_VALUE, Integer.MAX_VALUE};

    private static final Check CHECK = new Check("EdgeArgumentsTest");

    public static void main(String[] args) {
        letters();
        bases();
        settings();
        lessons();
        lessonNumbers();
        codes();
        places();
        slots();
        undo();
        looks();
        wouldBe();
        firstNamedWins();
        firstNamedWinsInLooks();
        CHECK.done();
    }

    private static void letters() {
        CHECK.rangeOnAll("width of letter", LETTER, INDEX, (x, v) -> x.width(v, 20));
        CHECK.rangeOnAll("width", new int[] {13, 30}, ARGUMENT, (x, v) -> x.width(9, v));
        CHECK.rangeOnAll("shape of letter", LETTER, INDEX, (x, v) -> x.shape(v, 1, 2));
        CHECK.rangeOnAll("left shape", UP_TO_3, ARGUMENT, (x, v) -> x.shape(0, v, 3));
        CHECK.rangeOnAll("right shape", UP_TO_3, ARGUMENT, (x, v) -> x.shape(0, 3, v));
    }

    private static void bases() {
        CHECK.rangeOnAll("base, right", UP_TO_3, INDEX, (x, v) -> x.base(v, 3, 5));
        CHECK.rangeOnAll("base, left", UP_TO_3, INDEX, (x, v) -> x.base(3, v, 5));
        CHECK.rangeOnAll("base", KERNING, ARGUMENT, (x, v) -> x.base(0, 1, v));
    }

    private static void settings() {
        for (int i = 0; i < 4; i++) {
            int setting = i;
            CHECK.rangeOnAll("set " + i, SETTING_VALUE[i], ARGUMENT, (x, v) -> x.set(setting, v));
        }
        // 5 is a value of the settings 0, 1 and 2, and 40 of the setting 3.
        CHECK.rangeOnAll("set, setting", UP_TO_3, INDEX, (x, v) -> x.set(v, v == 3 ? 40 : 5));
        CHECK.rangeOnAll("setting", UP_TO_3, INDEX, KernLessons::setting);
    }

    private static void lessons() {
        CHECK.rangeOnAll("circle, first", LETTER, INDEX, (x, v) -> x.circle(v, 9, 1));
        CHECK.rangeOnAll("circle, second", LETTER, INDEX, (x, v) -> x.circle(9, v, -1));
        CHECK.rangeOnAll("ifCircled, first", LETTER, INDEX, (x, v) -> x.ifCircled(v, 9, 1));
        CHECK.rangeOnAll("ifCircled, second", LETTER, INDEX, (x, v) -> x.ifCircled(9, v, -1));
        for (Past past : Past.values()) {
            for (int told : new int[] {1, -1}) {
                CHECK.passesOn(past, "circle, told " + told, x -> x.circle(0, 1, told));
                CHECK.passesOn(past, "ifCircled, told " + told, x -> x.ifCircled(0, 1, told));
            }
        }
        for (int told : WRONG_TOLD) {
            CHECK.refusesOnAll("circle, told " + told, ARGUMENT, x -> x.circle(0, 1, told));
            CHECK.refusesOnAll("ifCircled, told " + told, ARGUMENT, x -> x.ifCircled(0, 1, told));
        }
    }

    /** Without lessons no number is allowed: then the least is 0, and the most -1. */
    private static void lessonNumbers() {
        for (Past past : Past.values()) {
            int[] ends = {0, past.lessons - 1};
            CHECK.range(past, "forget", ends, INDEX, KernLessons::forget);
            CHECK.range(past, "ifForgotten", ends, INDEX, KernLessons::ifForgotten);
            CHECK.range(past, "lessonOf", ends, INDEX, (x, v) -> x.lessonOf(v, 0));
            CHECK.refusesOn(past, "forget " + past.lessons, INDEX, x -> x.forget(past.lessons));
        }
        CHECK.range(Past.SOME, "lessonOf, what", UP_TO_3, ARGUMENT, (x, v) -> x.lessonOf(0, v));
        CHECK.range(Past.FULL, "lessonOf, what", UP_TO_3, ARGUMENT, (x, v) -> x.lessonOf(39, v));
    }

    private static void codes() {
        int[] ends = {33, 126};
        CHECK.range(Past.NEW, "append", ends, ARGUMENT, KernLessons::append);
        CHECK.range(Past.SOME, "append", ends, ARGUMENT, KernLessons::append);
        for (int code = 33; code <= 126; code++) {
            int allowed = code;
            CHECK.refusesOn(Past.FULL, "append " + code, STATE, x -> x.append(allowed));
        }
    }

    private static void places() {
        for (int told : new int[] {1, -1}) {
            CHECK.refusesOn(Past.NEW, "circleAt without a text", STATE, x -> x.circleAt(0, told));
        }
        for (Past past : new Past[] {Past.SOME, Past.FULL}) {
            for (int i = -1; i <= past.buffer.length() + 1; i++) {
                int place = i;
                if (i >= 0 && i < past.buffer.length() && past.buffer.substring(i).matches("[a-j][a-j].*")) {
                    CHECK.passesOn(past, "circleAt " + i, x -> x.circleAt(place, 1));
                } else {
                    CHECK.refusesOn(past, "circleAt " + i, INDEX, x -> x.circleAt(place, 1));
                }
            }
            CHECK.refusesOn(past, "circleAt the least place", INDEX, x -> x.circleAt(Integer.MIN_VALUE, 1));
            CHECK.refusesOn(past, "circleAt the greatest place", INDEX, x -> x.circleAt(Integer.MAX_VALUE, 1));
            for (int told : WRONG_TOLD) {
                CHECK.refusesOn(past, "circleAt, told " + told, ARGUMENT, x -> x.circleAt(0, told));
            }
        }
    }

    private static void slots() {
        CHECK.rangeOnAll("keep", SLOT, ARGUMENT, KernLessons::keep);
        CHECK.range(Past.FULL, "goBack", SLOT, ARGUMENT, KernLessons::goBack);
        for (int slot : new int[] {-1, 2, Integer.MIN_VALUE, Integer.MAX_VALUE}) {
            CHECK.refusesOnAll("goBack " + slot, ARGUMENT, x -> x.goBack(slot));
        }
        CHECK.refusesOn(Past.NEW, "goBack to slot 0 that is empty", STATE, x -> x.goBack(0));
        CHECK.refusesOn(Past.NEW, "goBack to slot 1 that is empty", STATE, x -> x.goBack(1));
        CHECK.refusesOn(Past.SOME, "goBack to slot 0 that is empty", STATE, x -> x.goBack(0));
        CHECK.passesOn(Past.SOME, "goBack to slot 1 that is filled", x -> x.goBack(1));
    }

    private static void undo() {
        CHECK.refusesOn(Past.NEW, "undo", STATE, KernLessons::undo);
        CHECK.passesOn(Past.SOME, "undo", KernLessons::undo);
        CHECK.passesOn(Past.FULL, "undo", KernLessons::undo);
    }

    private static void looks() {
        CHECK.rangeOnAll("letterOf", LETTER, INDEX, (x, v) -> x.letterOf(v, 3));
        CHECK.rangeOnAll("letterOf, what", UP_TO_3, ARGUMENT, (x, v) -> x.letterOf(9, v));
        CHECK.rangeOnAll("pairOf, first", LETTER, INDEX, (x, v) -> x.pairOf(v, 9, 4));
        CHECK.rangeOnAll("pairOf, second", LETTER, INDEX, (x, v) -> x.pairOf(9, v, 1));
        CHECK.rangeOnAll("pairOf, what", new int[] {0, 4}, ARGUMENT, (x, v) -> x.pairOf(9, 9, v));
        CHECK.rangeOnAll("shapesOf, right", UP_TO_3, INDEX, (x, v) -> x.shapesOf(v, 3, 3));
        CHECK.rangeOnAll("shapesOf, left", UP_TO_3, INDEX, (x, v) -> x.shapesOf(3, v, 2));
        CHECK.rangeOnAll("shapesOf, what", UP_TO_3, ARGUMENT, (x, v) -> x.shapesOf(3, 3, v));
        CHECK.rangeOnAll("count", new int[] {0, 7}, ARGUMENT, KernLessons::count);
        CHECK.rangeOnAll("text", new int[] {0, 5}, ARGUMENT, KernLessons::text);
    }

    private static void wouldBe() {
        for (Past past : Past.values()) {
            CHECK.passesOn(past, "mainLesson", KernLessons::mainLesson);
            CHECK.passesOn(past, "tightShare", x -> (long) x.tightShare());
            CHECK.passesOn(past, "digest", KernLessons::digest);
            CHECK.passesOn(past, "firstError", KernLessons::firstError);
            CHECK.passesOn(past, "clearBuffer", KernLessons::clearBuffer);
        }
    }

    private static void firstNamedWins() {
        for (int beside : new int[] {-1, 10}) {
            CHECK.refusesOnAll("width, all wrong", INDEX, x -> x.width(beside, 12));
            CHECK.refusesOnAll("shape, letter and left wrong", INDEX, x -> x.shape(beside, 4, 0));
            CHECK.refusesOnAll("shape, letter and right wrong", INDEX, x -> x.shape(beside, 0, -1));
            CHECK.refusesOnAll("base, right and kerning wrong", INDEX, x -> x.base(beside, 0, 13));
            CHECK.refusesOnAll("base, left and kerning wrong", INDEX, x -> x.base(0, beside, -13));
            CHECK.refusesOnAll("set, all wrong", INDEX, x -> x.set(beside, 0));
            CHECK.refusesOnAll("circle, first and told wrong", INDEX, x -> x.circle(beside, 0, 0));
            CHECK.refusesOnAll("circle, second and told wrong", INDEX, x -> x.circle(0, beside, 2));
            CHECK.refusesOnAll("ifCircled, first and told wrong", INDEX, x -> x.ifCircled(beside, 0, -2));
            CHECK.refusesOnAll("ifCircled, second and told wrong", INDEX, x -> x.ifCircled(0, beside, 0));
        }
        CHECK.refusesOn(Past.FULL, "append 32 to a full buffer", ARGUMENT, x -> x.append(32));
        CHECK.refusesOn(Past.FULL, "append 127 to a full buffer", ARGUMENT, x -> x.append(127));
        CHECK.refusesOn(Past.NEW, "circleAt, text, place and told wrong", STATE, x -> x.circleAt(-1, 0));
        CHECK.refusesOn(Past.NEW, "circleAt, text and place wrong", STATE, x -> x.circleAt(60, 1));
        CHECK.refusesOn(Past.NEW, "circleAt, text and told wrong", STATE, x -> x.circleAt(0, 2));
        CHECK.refusesOn(Past.SOME, "circleAt, place and told wrong", INDEX, x -> x.circleAt(4, 0));
        CHECK.refusesOn(Past.FULL, "circleAt, place and told wrong", INDEX, x -> x.circleAt(59, -2));
        CHECK.refusesOn(Past.NEW, "goBack, slot wrong and all empty", ARGUMENT, x -> x.goBack(2));
    }

    private static void firstNamedWinsInLooks() {
        for (int beside : new int[] {-1, 10}) {
            CHECK.refusesOnAll("letterOf, all wrong", INDEX, x -> x.letterOf(beside, 4));
            CHECK.refusesOnAll("pairOf, first and what wrong", INDEX, x -> x.pairOf(beside, 0, 5));
            CHECK.refusesOnAll("pairOf, second and what wrong", INDEX, x -> x.pairOf(0, beside, -1));
            CHECK.refusesOnAll("shapesOf, right and what wrong", INDEX, x -> x.shapesOf(beside, 0, 4));
            CHECK.refusesOnAll("shapesOf, left and what wrong", INDEX, x -> x.shapesOf(0, beside, -1));
        }
        for (Past past : Past.values()) {
            CHECK.refusesOn(past, "lessonOf, all wrong", INDEX, x -> x.lessonOf(past.lessons, 4));
            CHECK.refusesOn(past, "lessonOf, all wrong", INDEX, x -> x.lessonOf(-1, -1));
        }
    }
}
