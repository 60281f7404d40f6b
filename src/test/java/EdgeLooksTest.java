/** What the looks answer at the ends of their ranges: without anything, and with all that an object can hold. */
public final class EdgeLooksTest {
    private static final int NONE = KernLessons.NONE;

    private static final Check CHECK = new Check("EdgeLooksTest");

    public static void main(String[] args) {
        newLooks();
        returnsTheValueBefore();
        lessonsOfALetter();
        pairWithManyLessons();
        ownPartsAtTheEnds();
        tableAndLessonsAgree();
        pairsWithShapes();
        shapesOffTheirBase();
        lessonIdleTheLatestTime();
        counts();
        settingsCountAgain();
        ifCircledIsCircle();
        ifForgottenIsForget();
        mainLessonIsTheFirst();
        mainLessonIsTheLast();
        noLessonMatters();
        shares();
        digests();
        CHECK.done();
    }

    private static void newLooks() {
        KernLessons x = new KernLessons();
        for (int letter = 0; letter < 10; letter++) {
            int[] due = {16, letter % 4, letter % 4, 0};
            for (int what = 0; what < 4; what++) {
                CHECK.same("letter " + letter + ", property " + what, x.letterOf(letter, what), due[what]);
            }
        }
        // Shapes 0 and 1 have three letters, 2 and 3 have two.
        int[] letters = {3, 3, 2, 2};
        for (int right = 0; right < 4; right++) {
            for (int left = 0; left < 4; left++) {
                int[] due = {100, 100, letters[right] * letters[left], 0};
                for (int what = 0; what < 4; what++) {
                    CHECK.same("shapes, property " + what, x.shapesOf(right, left, what), due[what]);
                }
            }
        }
        int[] due = {100, 100, 100, 0, 0};
        for (int what = 0; what < 5; what++) {
            CHECK.same("first pair, property " + what, x.pairOf(0, 0, what), due[what]);
            CHECK.same("last pair, property " + what, x.pairOf(9, 9, what), due[what]);
        }
        CHECK.same("no main lesson", x.mainLesson(), NONE);
        CHECK.same("no tight pair", x.tightShare(), 0.0);
    }

    /** width, shape, base and set answer what was before, at both ends. */
    private static void returnsTheValueBefore() {
        KernLessons x = new KernLessons();
        CHECK.same("first width", x.width(9, 13), 16);
        CHECK.same("least width", x.width(9, 30), 13);
        CHECK.same("most width", x.width(9, 30), 30);
        CHECK.same("the shapes 1 and 1", x.shape(9, 0, 0), 5);
        CHECK.same("the shapes 0 and 0", x.shape(9, 3, 3), 0);
        CHECK.same("the shapes 3 and 3", x.shape(9, 3, 0), 15);
        CHECK.same("the shapes 3 and 0", x.shape(9, 0, 3), 12);
        CHECK.same("the shapes 0 and 3", x.shape(9, 0, 3), 3);
        CHECK.same("the base 0", x.base(3, 0, -12), 100);
        CHECK.same("the base -12", x.base(3, 0, 12), 88);
        CHECK.same("the base 12", x.base(3, 0, 12), 112);
        CHECK.same("the base the other way round", x.base(0, 3, 0), 100);
        int[][] values = {{3, 1, 6}, {2, 2, 5}, {6, 1, 20}, {200, 40, 600}};
        for (int i = 0; i < 4; i++) {
            CHECK.same("first value of " + i, x.set(i, values[i][1]), values[i][0]);
            CHECK.same("least value of " + i, x.set(i, values[i][2]), values[i][1]);
            CHECK.same("most value of " + i, x.set(i, values[i][2]), values[i][2]);
            CHECK.same("value then of " + i, x.setting(i), values[i][2]);
        }
    }

    private static KernLessons turningAbout(int first, int second) {
        KernLessons x = new KernLessons();
        x.set(0, 1);
        for (int i = 0; i < 40; i++) {
            x.circle(first, second, i % 2 == 0 ? 1 : -1);
        }
        return x;
    }

    private static void lessonsOfALetter() {
        CHECK.same("40 lessons of itself", turningAbout(7, 7).letterOf(7, 3), 80);
        KernLessons x = turningAbout(9, 0);
        CHECK.same("40 lessons as the first letter", x.letterOf(9, 3), 40);
        CHECK.same("40 lessons as the second letter", x.letterOf(0, 3), 40);
        CHECK.same("no lesson", x.letterOf(8, 3), 0);
        x.circle(9, 0, 1);
        CHECK.same("a refused circle is no lesson", x.letterOf(9, 3), 40);
        x.base(1, 0, 12);
        CHECK.same("idle lessons too", x.letterOf(9, 3), 40);
        x.forget(39);
        CHECK.same("one forgotten", x.letterOf(9, 3), 39);
    }

    private static void pairWithManyLessons() {
        KernLessons x = turningAbout(9, 9);
        int[] due = {100, 100, 100, 1, 40};
        for (int what = 0; what < 5; what++) {
            CHECK.same("property " + what, x.pairOf(9, 9, what), due[what]);
        }
        // From 12 on, the first lesson is idle: 39 are left, and the last one is not.
        x.base(1, 1, 12);
        int[] then = {111, 111, 99, 1, 39};
        for (int what = 0; what < 5; what++) {
            CHECK.same("property " + what + " at the bound", x.pairOf(9, 9, what), then[what]);
        }
        CHECK.same("idle ones", x.count(1), 1);
    }

    /** From a base at one bound, lessons lead to the other: an own part goes from -24 to 24. */
    private static void ownPartsAtTheEnds() {
        for (int told : new int[] {1, -1}) {
            KernLessons x = new KernLessons();
            x.set(0, 6);
            x.base(2, 3, -12 * told);
            for (int i = 1; i <= 4; i++) {
                CHECK.same("6 more", x.circle(2, 3, told), 100 + told * (6 * i - 12));
            }
            CHECK.same("own part", x.pairOf(2, 3, 2), 100 + told * 24);
            CHECK.same("kerning", x.pairOf(2, 3, 0), 100 + told * 12);
            CHECK.same("kerning of the shapes", x.shapesOf(2, 3, 0), 100 - told * 12);
            CHECK.same("refused", x.circle(2, 3, told), NONE);
        }
    }

    private static void tableAndLessonsAgree() {
        for (Past past : Past.values()) {
            KernLessons x = past.make();
            KernLessons y = past.make();
            for (int pair = 0; pair < 100; pair++) {
                CHECK.same("pair " + pair + " of " + past, x.pairOf(pair / 10, pair % 10, 0),
                    y.pairOf(pair / 10, pair % 10, 1));
            }
        }
        KernLessons x = new KernLessons();
        x.base(1, 2, 7);
        CHECK.same("without lessons, by the table", x.pairOf(1, 2, 0), 107);
        CHECK.same("without lessons, by all lessons", x.pairOf(1, 2, 1), 107);
    }

    private static void pairsWithShapes() {
        KernLessons x = new KernLessons();
        for (int letter = 0; letter < 10; letter++) {
            x.shape(letter, 3, 0);
        }
        CHECK.same("all pairs", x.shapesOf(0, 3, 2), 100);
        CHECK.same("no pair", x.shapesOf(3, 0, 2), 0);
        CHECK.same("no pair", x.shapesOf(0, 0, 2), 0);
        x.set(0, 1);
        for (int i = 0; i < 40; i++) {
            // In turn, so that the shapes stay far from the bounds and no lesson is idle.
            x.circle(i / 10, i % 10, i % 2 == 0 ? 1 : -1);
        }
        CHECK.same("pairs that have learnt", x.shapesOf(0, 3, 3), 40);
        CHECK.same("no pair has learnt", x.shapesOf(3, 0, 3), 0);
        CHECK.same("pairs that have learnt", x.count(2), 40);
        x.shape(0, 3, 3);
        CHECK.same("the pairs of another right shape", x.shapesOf(3, 3, 2), 10);
        CHECK.same("those that have learnt", x.shapesOf(3, 3, 3), 10);
        CHECK.same("the others", x.shapesOf(0, 3, 2), 90);
        CHECK.same("those that have learnt", x.shapesOf(0, 3, 3), 30);
    }

    /** Two pairs for each two shapes: all 16 kernings leave their base. */
    private static void shapesOffTheirBase() {
        KernLessons x = new KernLessons();
        for (int shapes = 0; shapes < 16; shapes++) {
            CHECK.same("off their base", x.count(3), shapes);
            x.circle(shapes / 4, shapes % 4, 1);
            CHECK.same("one pair moves no shapes", x.count(3), shapes);
            x.circle(shapes / 4 + 4, shapes % 4, 1);
        }
        CHECK.same("all shapes", x.count(3), 16);
        CHECK.same("pairs that have learnt", x.count(2), 32);
        x.base(3, 3, 12);
        CHECK.same("idle lessons leave the shapes at their base", x.count(3), 15);
        CHECK.same("two of them", x.count(1), 2);
        x.set(1, 3);
        CHECK.same("all at their base", x.count(3), 0);
    }

    private static void lessonIdleTheLatestTime() {
        KernLessons x = new KernLessons();
        x.circle(0, 1, 1);
        x.base(0, 1, 12);
        CHECK.same("idle", x.lessonOf(0, 3), 1);
        x.keep(0);
        x.base(0, 1, 11);
        CHECK.same("just not idle", x.lessonOf(0, 3), 0);
        CHECK.same("back", x.goBack(0), 1);
        CHECK.same("idle in the snapshot", x.lessonOf(0, 3), 1);
        x.undo();
        CHECK.same("not idle before", x.lessonOf(0, 3), 0);
        x.base(0, 1, -12);
        CHECK.same("not idle at the other bound", x.lessonOf(0, 3), 0);
        CHECK.same("too tight", x.lessonOf(0, 2), 1);
        x.circle(9, 9, -1);
        CHECK.same("too wide", x.lessonOf(1, 2), 0);
        CHECK.same("last letter, first", x.lessonOf(1, 0), 9);
        CHECK.same("last letter, second", x.lessonOf(1, 1), 9);
    }

    private static void counts() {
        KernLessons x = Past.FULL.make();
        CHECK.same("lessons", x.count(0), 40);
        CHECK.same("refused", x.count(4), 1);
        CHECK.same("forgotten", x.count(5), 1);
        CHECK.same("gone through by set, forget, shape, base and set", x.count(6), 5);
        CHECK.same("saved states", x.count(7), 6);
        int idle = 0;
        for (int lesson = 0; lesson < 40; lesson++) {
            idle += x.lessonOf(lesson, 3);
        }
        CHECK.same("idle lessons", x.count(1), idle);
        int learnt = 0;
        int off = 0;
        for (int shapes = 0; shapes < 16; shapes++) {
            learnt += x.shapesOf(shapes / 4, shapes % 4, 3);
            off += x.shapesOf(shapes / 4, shapes % 4, 0) == x.shapesOf(shapes / 4, shapes % 4, 1) ? 0 : 1;
        }
        CHECK.same("pairs that have learnt", x.count(2), learnt);
        CHECK.same("shapes off their base", x.count(3), off);
    }

    /** "Behind each set() of the setting 0 or 1, also to the value that it has": only of these. */
    private static void settingsCountAgain() {
        KernLessons x = new KernLessons();
        int[] again = {1, 1, 0, 0};
        int due = 0;
        for (int setting = 0; setting < 4; setting++) {
            x.set(setting, x.setting(setting));
            due += again[setting];
            CHECK.same("gone through behind set " + setting, x.count(6), due);
        }
        x.shape(0, 0, 0);
        CHECK.same("also behind shape() that changes nothing", x.count(6), 3);
        x.base(0, 0, 0);
        CHECK.same("also behind base() that changes nothing", x.count(6), 4);
        x.circle(0, 0, 1);
        x.ifForgotten(0);
        x.pairOf(0, 0, 1);
        x.mainLesson();
        x.digest();
        CHECK.same("not by looks", x.count(6), 4);
        x.forget(0);
        CHECK.same("behind forget()", x.count(6), 5);
    }

    private static void ifCircledIsCircle() {
        for (Past past : Past.values()) {
            for (int pair = 0; pair < 100; pair++) {
                for (int told : new int[] {1, -1}) {
                    KernLessons x = past.make();
                    CHECK.same("pair " + pair + " told " + told + " on " + past,
                        x.ifCircled(pair / 10, pair % 10, told), x.circle(pair / 10, pair % 10, told));
                }
            }
        }
    }

    private static void ifForgottenIsForget() {
        for (Past past : Past.values()) {
            for (int lesson = 0; lesson < past.lessons; lesson++) {
                KernLessons x = past.make();
                int[] before = new int[100];
                for (int pair = 0; pair < 100; pair++) {
                    before[pair] = x.pairOf(pair / 10, pair % 10, 0);
                }
                int would = x.ifForgotten(lesson);
                CHECK.same("lesson " + lesson + " of " + past, x.forget(lesson), would);
                int otherwise = 0;
                for (int pair = 0; pair < 100; pair++) {
                    otherwise += x.pairOf(pair / 10, pair % 10, 0) == before[pair] ? 0 : 1;
                }
                CHECK.same("pairs set otherwise without " + lesson + " of " + past, otherwise, would);
            }
        }
    }

    private static void mainLessonIsTheFirst() {
        KernLessons x = new KernLessons();
        for (int i = 0; i < 40; i++) {
            x.circle(i % 10, (i + i / 10) % 10, 1);
            if (i == 0) {
                CHECK.same("the only one", x.mainLesson(), 0);
            }
        }
        KernLessons y = new KernLessons();
        y.set(1, 5);
        y.circle(0, 1, 1);
        y.circle(2, 3, 1);
        y.circle(4, 5, 1);
        CHECK.same("three alike", y.mainLesson(), 0);
        int most = -1;
        int main = NONE;
        for (int lesson = 0; lesson < 40; lesson++) {
            int otherwise = x.ifForgotten(lesson);
            if (otherwise > most) {
                most = otherwise;
                main = lesson;
            }
        }
        CHECK.same("the first one with the greatest ifForgotten", x.mainLesson(), main);
    }

    /** 39 lessons of one pair, none of which the shapes need, and one of another pair, which they do. */
    private static void mainLessonIsTheLast() {
        KernLessons x = new KernLessons();
        x.set(0, 1);
        x.circle(0, 1, 1);
        x.circle(0, 1, 1);
        for (int i = 0; i < 37; i++) {
            x.circle(0, 1, i % 2 == 0 ? 1 : -1);
        }
        x.circle(4, 1, 1);
        CHECK.same("lessons", x.count(0), 40);
        CHECK.same("one of the many", x.ifForgotten(38), 1);
        CHECK.same("the pair and the 7 that have not learnt", x.ifForgotten(39), 8);
        CHECK.same("the last of 40", x.mainLesson(), 39);
    }

    private static void noLessonMatters() {
        KernLessons x = new KernLessons();
        x.circle(0, 0, 1);
        x.circle(4, 4, 1);
        x.base(0, 0, 12);
        CHECK.same("an idle lesson matters to no pair", x.ifForgotten(0), 0);
        CHECK.same("the first one, if none matters", x.mainLesson(), 0);
        x.forget(0);
        CHECK.same("an idle one alone", x.mainLesson(), 0);
        x.forget(0);
        CHECK.same("none", x.mainLesson(), NONE);
    }

    private static void shares() {
        KernLessons x = new KernLessons();
        x.base(2, 2, -1);
        CHECK.same("-1 is below 0", x.tightShare(), 0.04);
        x.base(2, 2, 0);
        CHECK.same("0 is not", x.tightShare(), 0.0);
        x.base(2, 2, 1);
        CHECK.same("nor is 1", x.tightShare(), 0.0);
        for (int shapes = 0; shapes < 16; shapes++) {
            x.base(shapes / 4, shapes % 4, -1);
        }
        CHECK.same("all", x.tightShare(), 1.0);
        x.set(0, 1);
        x.circle(0, 0, 1);
        CHECK.same("all but one at 0", x.tightShare(), 0.99);
        x.circle(0, 0, -1);
        CHECK.same("that one too", x.tightShare(), 1.0);
        x.base(3, 3, 12);
        CHECK.same("all but four", x.tightShare(), 0.96);
    }

    /** The digest's list, of a new object and of a full one, and that it holds what may differ alone. */
    private static void digests() {
        for (Past past : Past.values()) {
            CHECK.same("digest of " + past, past.make().digest(),
                DigestTest.due(past.make(), past.fillsSlot(0), past.fillsSlot(1), past.buffer));
        }
        KernLessons x = new KernLessons();
        long before = x.digest();
        x.keep(0);
        CHECK.same("slot 0 alone", x.digest() - before, 31 * 31);
        x.keep(1);
        CHECK.same("both slots", x.digest() - before, 31 * 31 + 31);
        KernLessons y = new KernLessons();
        y.append(33);
        KernLessons z = new KernLessons();
        z.append(126);
        CHECK.same("one character alone", z.digest() - y.digest(), 93);
    }
}
