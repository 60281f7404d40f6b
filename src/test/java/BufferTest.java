/** Promises 8 to 11: append, clearBuffer, firstError, circleAt. */
public final class BufferTest {
    private static final Class<IndexOutOfBoundsException> INDEX = IndexOutOfBoundsException.class;
    private static final Class<IllegalArgumentException> ARGUMENT = IllegalArgumentException.class;
    private static final Class<IllegalStateException> STATE = IllegalStateException.class;

    private static final Check CHECK = new Check("BufferTest");

    public static void main(String[] args) {
        append();
        clearBuffer();
        firstError();
        circleAt();
        circleAtRefuses();
        CHECK.done();
    }

    private static void append() {
        KernLessons x = new KernLessons();
        CHECK.same("least code", x.append(33), 1);
        CHECK.same("most code", x.append(126), 2);
        CHECK.refuses("code 32", x, ARGUMENT, () -> x.append(32));
        CHECK.refuses("code 127", x, ARGUMENT, () -> x.append(127));
        CHECK.refuses("code -1", x, ARGUMENT, () -> x.append(-1));
        for (int i = 3; i <= 60; i++) {
            CHECK.same("length", x.append('a'), i);
        }
        CHECK.refuses("the 61st character", x, STATE, () -> x.append('a'));
        CHECK.refuses("append, both wrong", x, ARGUMENT, () -> x.append(127));
        CHECK.same("the length stays", x.clearBuffer(), 60);
        CHECK.same("append is not undoable", x.count(7), 0);
    }

    private static void clearBuffer() {
        KernLessons x = new KernLessons();
        CHECK.same("empty already", x.clearBuffer(), 0);
        Check.type(x, "ab.c");
        CHECK.same("length before", x.clearBuffer(), 4);
        CHECK.same("empty then", x.clearBuffer(), 0);
        CHECK.same("begins anew", x.append('j'), 1);
        CHECK.same("clearBuffer is not undoable", x.count(7), 0);
    }

    private static void firstError() {
        String[] texts = {"", "a", "j", "abc.de", "a.", "k", "a.b.c", "`", ".", ".a", "a..b", "abk", "a.k", "aA", "ab/",
            "a.b..", "abc~.", "a.."};
        int[] errors = {0, 1, 1, 6, 2, 0, 5, 0, 0, 0, 2, 2, 2, 1, 2, 4, 3, 2};
        KernLessons x = new KernLessons();
        for (int i = 0; i < texts.length; i++) {
            Check.retype(x, texts[i]);
            CHECK.same("first error of " + texts[i], x.firstError(), errors[i]);
            CHECK.same("the buffer stays", x.clearBuffer(), texts[i].length());
        }
        // A text may be longer than the buffer: a space in the last place is no error.
        Check.type(x, "a.".repeat(30));
        CHECK.same("a space in the 60th place", x.firstError(), 60);
        CHECK.same("but no text", x.text(2), KernLessons.NONE);
    }

    private static void circleAt() {
        KernLessons x = new KernLessons();
        Check.type(x, "ab.cdj");
        CHECK.same("the first pair", x.circleAt(0, 1), 103);
        CHECK.same("first letter", x.lessonOf(0, 0), 0);
        CHECK.same("second letter", x.lessonOf(0, 1), 1);
        CHECK.same("the last pair", x.circleAt(4, -1), 97);
        CHECK.same("first letter", x.lessonOf(1, 0), 3);
        CHECK.same("second letter", x.lessonOf(1, 1), 9);
        CHECK.same("told too wide", x.lessonOf(1, 2), 0);
        CHECK.same("circleAt is undoable", x.count(7), 2);
        CHECK.same("the buffer stays", x.firstError(), 6);
        CHECK.same("refused at 12", x.base(3, 1, -12), 100);
        CHECK.same("refused", x.circleAt(4, -1), KernLessons.NONE);
        CHECK.same("counted as refused", x.count(4), 1);
        CHECK.same("undoable though refused", x.count(7), 4);
        x.undo();
        CHECK.same("undone", x.count(4), 0);
        CHECK.same("undo leaves the buffer", x.clearBuffer(), 6);
    }

    private static void circleAtRefuses() {
        KernLessons x = new KernLessons();
        CHECK.refuses("no text", x, STATE, () -> x.circleAt(0, 1));
        Check.type(x, "ab.c");
        CHECK.refuses("place -1", x, INDEX, () -> x.circleAt(-1, 1));
        CHECK.refuses("least place", x, INDEX, () -> x.circleAt(Integer.MIN_VALUE, 1));
        CHECK.refuses("a letter before a space", x, INDEX, () -> x.circleAt(1, 1));
        CHECK.refuses("a space", x, INDEX, () -> x.circleAt(2, 1));
        CHECK.refuses("the last letter", x, INDEX, () -> x.circleAt(3, 1));
        CHECK.refuses("behind the text", x, INDEX, () -> x.circleAt(4, 1));
        CHECK.refuses("greatest place", x, INDEX, () -> x.circleAt(Integer.MAX_VALUE, 1));
        CHECK.refuses("told 0", x, ARGUMENT, () -> x.circleAt(0, 0));
        CHECK.refuses("told 2", x, ARGUMENT, () -> x.circleAt(0, 2));
        CHECK.refuses("place and told wrong", x, INDEX, () -> x.circleAt(1, 0));
        x.append('.');
        CHECK.refuses("no text, and all else wrong", x, STATE, () -> x.circleAt(9, 0));
        CHECK.refuses("a space at the end", x, STATE, () -> x.circleAt(0, 1));
        Check.retype(x, "abz");
        CHECK.refuses("an error in the text", x, STATE, () -> x.circleAt(0, 1));
    }
}
