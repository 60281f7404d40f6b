import java.util.List;

/** What is saved and what is not, at no saved state, at the sixth and the seventh; slots that hold nothing. */
public final class EdgeStatesTest {
    private static final Class<IllegalStateException> STATE = IllegalStateException.class;

    private static final Check CHECK = new Check("EdgeStatesTest");

    public static void main(String[] args) {
        pastsAreAsTold();
        undoableLetters();
        undoableLessons();
        undoableStates();
        notUndoable();
        looksChangeNothing();
        looksOfLessonsChangeNothing();
        seventhState();
        undoTakesCountsBack();
        undoLeavesSlots();
        undoIsNotUndoable();
        snapshotOfNothing();
        snapshotIsTakenAnew();
        snapshotStays();
        goBackTakesCountsBack();
        goBackLeavesSavedStates();
        CHECK.done();
    }

    private static void pastsAreAsTold() {
        for (Past past : Past.values()) {
            KernLessons x = past.make();
            CHECK.same("lessons of " + past, x.count(0), past.lessons);
            CHECK.same("saved states of " + past, x.count(7), past.saved);
            for (int i = 0; i < 2; i++) {
                int slot = i;
                if (past.fillsSlot(slot)) {
                    CHECK.passesOn(past, "goBack to slot " + slot, y -> y.goBack(slot));
                } else {
                    CHECK.refusesOn(past, "goBack to slot " + slot, STATE, y -> y.goBack(slot));
                }
            }
            CHECK.same("length of the buffer of " + past, x.clearBuffer(), past.buffer.length());
        }
        CHECK.same("all that FULL saved differs", Past.seenOf(Past.FULL.make()).stream().distinct().count(), 9);
        CHECK.isTrue("SOME has an idle lesson", Past.SOME.make().count(1) == 1);
    }

    /** "Each method that is marked undoable saves the state from before it": one state more, and undo restores all. */
    private static void undoable(Past past, String what, Check.On call) {
        KernLessons x = past.make();
        KernLessons twin = past.make();
        call.of(x);
        CHECK.same(what + " saves a state on " + past, x.count(7), Math.min(6, past.saved + 1));
        CHECK.same("states left behind " + what + " on " + past, x.undo(), Math.min(5, past.saved));
        if (past == Past.FULL) {
            // The oldest state was dropped: so it must be on the twin.
            twin.width(0, 16);
            twin.undo();
        }
        CHECK.isTrue("undo restores all behind " + what + " on " + past, Past.seenOf(x).equals(Past.seenOf(twin)));
    }

    private static void undoableOnAll(String what, Check.On call) {
        for (Past past : Past.values()) {
            undoable(past, what, call);
        }
    }

    private static void undoableLetters() {
        undoableOnAll("width", x -> x.width(4, 13));
        undoableOnAll("width that changes nothing", x -> x.width(4, x.letterOf(4, 0)));
        undoableOnAll("shape", x -> x.shape(1, 3, 2));
        undoableOnAll("shape that changes nothing", x -> x.shape(4, x.letterOf(4, 1), x.letterOf(4, 2)));
        undoableOnAll("base", x -> x.base(0, 1, 12));
        undoableOnAll("base that changes nothing", x -> x.base(0, 1, x.shapesOf(0, 1, 1) - 100));
        int[] values = {6, 5, 20, 600};
        for (int i = 0; i < 4; i++) {
            int setting = i;
            undoableOnAll("set " + i, x -> x.set(setting, values[setting]));
            undoableOnAll("set " + i + " that changes nothing", x -> x.set(setting, x.setting(setting)));
        }
    }

    private static void undoableLessons() {
        undoable(Past.NEW, "circle", x -> x.circle(2, 2, 1));
        undoable(Past.SOME, "circle", x -> x.circle(8, 1, 1));
        undoable(Past.SOME, "circle that is refused as idle", x -> x.circle(3, 3, -1));
        undoable(Past.FULL, "circle that is refused at 40 lessons", x -> x.circle(2, 2, 1));
        undoable(Past.SOME, "circleAt", x -> x.circleAt(3, -1));
        undoable(Past.FULL, "circleAt that is refused", x -> x.circleAt(58, 1));
        undoable(Past.SOME, "forget of the first one", x -> x.forget(0));
        undoable(Past.SOME, "forget of an idle one", x -> x.forget(2));
        undoable(Past.FULL, "forget of the first one", x -> x.forget(0));
        undoable(Past.FULL, "forget of the last one", x -> x.forget(39));
    }

    private static void undoableStates() {
        undoable(Past.SOME, "goBack", x -> x.goBack(1));
        undoable(Past.FULL, "goBack to slot 0", x -> x.goBack(0));
        undoable(Past.FULL, "goBack to slot 1", x -> x.goBack(1));
    }

    /** append, clearBuffer, firstError and keep are not marked: they save nothing. */
    private static void notUndoable() {
        for (Past past : Past.values()) {
            KernLessons x = past.make();
            KernLessons twin = past.make();
            if (past != Past.FULL) {
                x.append('a');
            }
            x.firstError();
            x.clearBuffer();
            twin.clearBuffer();
            CHECK.same("saved by append and clearBuffer on " + past, x.count(7), past.saved);
            CHECK.isTrue("only the buffer is other on " + past, Past.seenOf(x).equals(Past.seenOf(twin)));
            KernLessons y = past.make();
            CHECK.same("keep returns the lessons of " + past, y.keep(0), past.lessons);
            CHECK.same("saved by keep on " + past, y.count(7), past.saved);
            List<Long> kept = Past.seenOf(y);
            if (past.fillsSlot(0)) {
                List<Long> before = Past.seenOf(past.make());
                CHECK.isTrue("keep leaves the saved states of " + past,
                    kept.subList(0, past.saved + 1).equals(before.subList(0, past.saved + 1)));
            }
        }
    }

    private static void changesNothing(String what, Check.On look) {
        for (Past past : Past.values()) {
            KernLessons x = past.make();
            look.of(x);
            CHECK.isTrue(what + " changes nothing on " + past, Past.seenOf(x).equals(Past.seenOf(past.make())));
        }
    }

    private static void looksChangeNothing() {
        for (int i = 0; i < 4; i++) {
            int what = i;
            changesNothing("letterOf " + i, x -> x.letterOf(0, what));
            changesNothing("shapesOf " + i, x -> x.shapesOf(0, 1, what));
            changesNothing("setting " + i, x -> x.setting(what));
        }
        for (int i = 0; i < 5; i++) {
            int what = i;
            changesNothing("pairOf " + i, x -> x.pairOf(0, 1, what));
        }
        for (int i = 0; i < 6; i++) {
            int what = i;
            changesNothing("text " + i, x -> x.text(what));
        }
        for (int i = 0; i < 8; i++) {
            int what = i;
            changesNothing("count " + i, x -> x.count(what));
        }
        changesNothing("firstError", KernLessons::firstError);
    }

    private static void looksOfLessonsChangeNothing() {
        changesNothing("ifCircled", x -> x.ifCircled(8, 1, 1));
        changesNothing("ifCircled that would be idle", x -> x.ifCircled(3, 7, -1));
        changesNothing("each lesson's properties", x -> {
            for (int lesson = 0; lesson < x.count(0); lesson++) {
                for (int what = 0; what < 4; what++) {
                    x.lessonOf(lesson, what);
                }
            }
            return 0;
        });
        changesNothing("each ifForgotten", x -> {
            for (int lesson = 0; lesson < x.count(0); lesson++) {
                x.ifForgotten(lesson);
            }
            return 0;
        });
        changesNothing("mainLesson", KernLessons::mainLesson);
        changesNothing("tightShare", x -> (long) x.tightShare());
        changesNothing("digest", KernLessons::digest);
    }

    /** "At most 6 states are saved; the oldest one is dropped first." */
    private static void seventhState() {
        for (int calls = 0; calls <= 8; calls++) {
            KernLessons x = new KernLessons();
            for (int i = 1; i <= calls; i++) {
                x.width(0, 16 + i);
                CHECK.same("saved states at the call " + i, x.count(7), Math.min(6, i));
            }
            for (int i = calls; i > Math.max(0, calls - 6); i--) {
                CHECK.same("the latest first", x.letterOf(0, 0), 16 + i);
                CHECK.same("states left of " + calls, x.undo(), Math.min(6, calls) - (calls - i) - 1);
                CHECK.same("then the one before", x.letterOf(0, 0), 16 + i - 1);
            }
            CHECK.refuses("one undo too many, of " + calls, x, STATE, x::undo);
        }
    }

    private static void undoTakesCountsBack() {
        KernLessons x = new KernLessons();
        x.base(0, 0, 12);
        x.circle(0, 0, 1);
        x.circle(0, 0, -1);
        x.forget(0);
        CHECK.same("refused", x.count(4), 1);
        CHECK.same("forgotten", x.count(5), 1);
        CHECK.same("gone through", x.count(6), 2);
        x.undo();
        CHECK.same("forgotten, undone", x.count(5), 0);
        CHECK.same("gone through, undone", x.count(6), 1);
        x.undo();
        CHECK.same("still refused", x.count(4), 1);
        x.undo();
        CHECK.same("refused, undone", x.count(4), 0);
        x.undo();
        CHECK.same("gone through at the beginning", x.count(6), 0);
    }

    private static void undoLeavesSlots() {
        KernLessons x = new KernLessons();
        x.circle(0, 0, 1);
        x.keep(0);
        x.append('b');
        x.undo();
        CHECK.same("a snapshot that is later than the saved state", x.goBack(0), 1);
        CHECK.same("a character that is later than the saved state", x.clearBuffer(), 1);
    }

    /** "Restores the latest saved state, and drops it": there is no way back to the state before undo(). */
    private static void undoIsNotUndoable() {
        KernLessons x = new KernLessons();
        x.width(0, 17);
        x.width(0, 18);
        CHECK.same("dropped", x.undo(), 1);
        CHECK.same("not the one from before undo", x.undo(), 0);
        CHECK.same("but the one before", x.letterOf(0, 0), 16);
    }

    private static void snapshotOfNothing() {
        KernLessons x = new KernLessons();
        CHECK.same("keep without lessons", x.keep(0), 0);
        CHECK.refuses("the other slot is still empty", x, STATE, () -> x.goBack(1));
        x.circle(0, 0, 1);
        x.width(0, 30);
        CHECK.same("back to no lessons", x.goBack(0), 0);
        CHECK.same("no kerning", x.pairOf(0, 0, 0), 100);
        CHECK.same("the first width", x.letterOf(0, 0), 16);
    }

    /** "Takes a snapshot, in place of the one in the slot": the other slot holds what it held. */
    private static void snapshotIsTakenAnew() {
        KernLessons x = new KernLessons();
        x.width(0, 17);
        x.keep(0);
        x.width(0, 18);
        x.keep(1);
        x.width(0, 19);
        x.keep(0);
        x.goBack(1);
        CHECK.same("slot 1", x.letterOf(0, 0), 18);
        x.goBack(0);
        CHECK.same("slot 0 taken anew", x.letterOf(0, 0), 19);
        x.undo();
        x.undo();
        x.undo();
        x.undo();
        CHECK.same("undone", x.letterOf(0, 0), 17);
        x.goBack(0);
        CHECK.same("undo does not bring the first one back", x.letterOf(0, 0), 19);
    }

    /** "Goes back to a snapshot, which stays": also when the object goes on from it, and by undo(). */
    private static void snapshotStays() {
        KernLessons x = Past.FULL.make();
        x.goBack(1);
        long due = x.digest();
        for (int i = 0; i < 3; i++) {
            x.forget(0);
            x.width(3, 13);
            x.shape(0, 2, 2);
            x.base(2, 2, -5);
            x.set(0, 6);
            x.circle(0, 9, 1);
            CHECK.isTrue("another state", x.digest() != due);
            CHECK.same("40 lessons in the snapshot", x.goBack(1), 40);
            CHECK.same("the snapshot stays", x.digest(), due);
        }
    }

    private static void goBackTakesCountsBack() {
        KernLessons x = new KernLessons();
        x.base(0, 0, 12);
        x.circle(0, 0, 1);
        x.keep(1);
        x.circle(0, 0, 1);
        x.circle(0, 0, -1);
        x.forget(0);
        x.goBack(1);
        int[] due = {0, 0, 0, 0, 1, 0, 1, 6};
        for (int what = 0; what < 8; what++) {
            CHECK.same("count " + what + " of the snapshot", x.count(what), due[what]);
        }
    }

    /** "A snapshot is all but the buffer, the slots and the saved states." */
    private static void goBackLeavesSavedStates() {
        KernLessons x = new KernLessons();
        x.keep(0);
        for (int i = 1; i <= 7; i++) {
            x.width(0, 16 + i);
        }
        x.append('a');
        x.keep(1);
        x.goBack(0);
        CHECK.same("the buffer stays", x.clearBuffer(), 1);
        for (int i = 7; i >= 2; i--) {
            x.undo();
            CHECK.same("the saved states stay", x.letterOf(0, 0), 16 + i);
        }
        CHECK.same("none left", x.count(7), 0);
        x.goBack(1);
        CHECK.same("the other slot stays", x.letterOf(0, 0), 23);
    }
}
