/** The buffer from empty to full, each character where it may and may not stand, and texts at the ends of their widths. */
public final class EdgeTextsTest {
    private static final Class<IndexOutOfBoundsException> INDEX = IndexOutOfBoundsException.class;
    private static final Class<IllegalStateException> STATE = IllegalStateException.class;
    private static final int NONE = KernLessons.NONE;

    private static final Check CHECK = new Check("EdgeTextsTest");

    public static void main(String[] args) {
        emptyBuffer();
        lengths();
        eachCode();
        errorPlaces();
        firstOfSeveral();
        noText();
        circleAtTheEnds();
        circleAtNeedsAText();
        leastAndMostWidth();
        spaces();
        pairsInAText();
        widestWord();
        words();
        lineJustWideEnough();
        greatestLine();
        wideWords();
        fewestLinesAtTheEnds();
        textGoesByTheTable();
        CHECK.done();
    }

    private static void emptyBuffer() {
        KernLessons x = new KernLessons();
        CHECK.same("no error in an empty buffer", x.firstError(), 0);
        CHECK.same("nothing to clear", x.clearBuffer(), 0);
        for (int what = 0; what < 6; what++) {
            CHECK.same("an empty buffer tells no text", x.text(what), NONE);
        }
        CHECK.refuses("no pair in it", x, STATE, () -> x.circleAt(0, 1));
    }

    private static void lengths() {
        KernLessons x = new KernLessons();
        for (int round = 0; round < 2; round++) {
            for (int i = 1; i <= 60; i++) {
                CHECK.same("new length", x.append('a'), i);
            }
            CHECK.refuses("the 61st", x, STATE, () -> x.append('a'));
            CHECK.refuses("the 61st, a space", x, STATE, () -> x.append('.'));
            CHECK.same("no error in a full buffer", x.firstError(), 60);
            CHECK.same("a full buffer may be a text", x.text(2), 1);
            CHECK.same("full", x.clearBuffer(), 60);
            CHECK.same("empty", x.clearBuffer(), 0);
        }
    }

    /** Each code that can be typed: at the beginning, behind a letter, behind a space. */
    private static void eachCode() {
        for (int code = 33; code <= 126; code++) {
            boolean letter = code >= 'a' && code <= 'j';
            errorOf("", code, letter ? 1 : 0);
            errorOf("e", code, letter || code == '.' ? 2 : 1);
            errorOf("e.", code, letter ? 3 : 2);
        }
    }

    private static void errorOf(String before, int code, int due) {
        KernLessons x = new KernLessons();
        Check.type(x, before);
        CHECK.same("length", x.append(code), before.length() + 1);
        CHECK.same("first error of " + before + (char) code, x.firstError(), due);
        boolean text = due > before.length() && code != '.';
        CHECK.same("words of " + before + (char) code, x.text(2), !text ? NONE : before.isEmpty() ? 1 : before.length());
        CHECK.same("the buffer stays", x.clearBuffer(), before.length() + 1);
    }

    private static void errorPlaces() {
        for (int place = 0; place < 60; place++) {
            KernLessons x = new KernLessons();
            Check.type(x, "a".repeat(place) + "k" + "a".repeat(59 - place));
            CHECK.same("the only error", x.firstError(), place);
            CHECK.same("no text", x.text(0), NONE);
        }
        KernLessons x = new KernLessons();
        Check.type(x, "a".repeat(59));
        x.append('.');
        CHECK.same("a longer text begins with a space in the 60th place", x.firstError(), 60);
        CHECK.same("but this is none", x.text(2), NONE);
        Check.retype(x, "a".repeat(58) + "..");
        CHECK.same("a second space in the 60th place", x.firstError(), 59);
    }

    private static void firstOfSeveral() {
        KernLessons x = new KernLessons();
        Check.type(x, "ab..k.");
        CHECK.same("the second space, not what follows", x.firstError(), 3);
        Check.type(x, "abc");
        CHECK.same("good characters mend nothing", x.firstError(), 3);
        Check.retype(x, ".a");
        CHECK.same("a space at the beginning", x.firstError(), 0);
        Check.retype(x, "a.b.c.d");
        CHECK.same("words of one letter", x.firstError(), 7);
        Check.retype(x, "kkk");
        CHECK.same("the first of three", x.firstError(), 0);
    }

    private static void noText() {
        KernLessons x = new KernLessons();
        for (String text : new String[] {".", "a.", ".a", "a..a", "k", "`", "aA", "a-b", "a/b", "~", "!"}) {
            Check.retype(x, text);
            for (int what = 0; what < 6; what++) {
                CHECK.same("text " + what + " of " + text, x.text(what), NONE);
            }
        }
        Check.retype(x, "a.");
        CHECK.same("none yet", x.text(2), NONE);
        x.append('a');
        CHECK.same("a letter more makes it a text", x.text(2), 2);
    }

    private static void circleAtTheEnds() {
        KernLessons x = new KernLessons();
        Check.type(x, "a");
        CHECK.refuses("one letter", x, INDEX, () -> x.circleAt(0, 1));
        x.append('j');
        CHECK.same("the first place of two", x.circleAt(0, 1), 103);
        CHECK.same("the letter at the place", x.lessonOf(0, 0), 0);
        CHECK.same("the one behind it", x.lessonOf(0, 1), 9);
        CHECK.refuses("the last letter has none behind it", x, INDEX, () -> x.circleAt(1, 1));
        Check.retype(x, "a.b");
        for (int i = -1; i < 4; i++) {
            int place = i;
            CHECK.refuses("words of one letter, place " + i, x, INDEX, () -> x.circleAt(place, 1));
        }
        Check.retype(x, "ab".repeat(29) + "cd");
        CHECK.same("the last pair of a full buffer", x.circleAt(58, -1), 97);
        CHECK.same("the letter at the place 58", x.lessonOf(1, 0), 2);
        CHECK.same("the one at the place 59", x.lessonOf(1, 1), 3);
        CHECK.refuses("the place 59", x, INDEX, () -> x.circleAt(59, -1));
        CHECK.refuses("the place 60", x, INDEX, () -> x.circleAt(60, -1));
        CHECK.same("the buffer stays", x.clearBuffer(), 60);
    }

    private static void circleAtNeedsAText() {
        for (String text : new String[] {"ab.", "abk", ".ab", "ab..ab"}) {
            KernLessons x = new KernLessons();
            Check.type(x, text);
            CHECK.refuses("two letters in " + text, x, STATE, () -> x.circleAt(text.indexOf("ab"), 1));
        }
        KernLessons x = new KernLessons();
        Check.type(x, "ab");
        x.base(0, 1, 11);
        CHECK.same("just not refused", x.circleAt(0, 1), 112);
        CHECK.same("refused", x.circleAt(0, 1), NONE);
        CHECK.same("counted", x.count(4), 1);
        CHECK.same("saved", x.count(7), 3);
    }

    private static void allBases(KernLessons x, int kerning) {
        for (int shapes = 0; shapes < 16; shapes++) {
            x.base(shapes / 4, shapes % 4, kerning);
        }
    }

    private static void allWidths(KernLessons x, int width) {
        for (int letter = 0; letter < 10; letter++) {
            x.width(letter, width);
        }
    }

    private static void widthsAre(KernLessons x, String text, int due) {
        Check.retype(x, text);
        CHECK.same("letter by letter: " + text, x.text(0), due);
        CHECK.same("by how often: " + text, x.text(1), due);
    }

    private static void leastAndMostWidth() {
        KernLessons x = new KernLessons();
        String full = "abcdefghij".repeat(6);
        allWidths(x, 13);
        widthsAre(x, "j", 13);
        allBases(x, -12);
        widthsAre(x, "j", 13);
        widthsAre(x, "ja", 14);
        widthsAre(x, full, 60 * 13 - 59 * 12);
        CHECK.same("the narrowest full buffer is one line", x.text(4), 1);
        allWidths(x, 30);
        allBases(x, 12);
        widthsAre(x, "a", 30);
        widthsAre(x, full, 60 * 30 + 59 * 12);
        CHECK.same("the widest word", x.text(3), 2508);
        CHECK.same("one word is one line", x.text(4), 1);
        CHECK.same("one word is one line", x.text(5), 1);
    }

    private static void spaces() {
        KernLessons x = new KernLessons();
        allBases(x, 12);
        x.set(2, 1);
        widthsAre(x, "a.b", 33);
        widthsAre(x, "a.".repeat(29) + "a", 30 * 16 + 29);
        x.set(2, 20);
        widthsAre(x, "a.b", 52);
        widthsAre(x, "a.".repeat(29) + "a", 30 * 16 + 29 * 20);
        // The letters at both sides of a space are no pair, but those beside them are.
        widthsAre(x, "ab.cd", 4 * 16 + 2 * 12 + 20);
    }

    private static void pairsInAText() {
        KernLessons x = new KernLessons();
        x.circle(0, 0, -1);
        x.circle(0, 1, 1);
        x.width(1, 17);
        widthsAre(x, "aa", 29);
        widthsAre(x, "aaa", 42);
        widthsAre(x, "aaab", 42 + 17 + 3);
        widthsAre(x, "ba", 33);
        widthsAre(x, "a.a.ab.aa", 16 + 16 + 36 + 29 + 18);
        widthsAre(x, "a".repeat(60), 60 * 16 - 59 * 3);
    }

    private static void widestWord() {
        KernLessons x = new KernLessons();
        String[] texts = {"a", "abc.a.b", "a.abc.b", "a.b.abc", "ab.cd", "a.b.c"};
        int[] due = {16, 48, 48, 48, 32, 16};
        for (int i = 0; i < texts.length; i++) {
            Check.retype(x, texts[i]);
            CHECK.same("widest word of " + texts[i], x.text(3), due[i]);
        }
        allWidths(x, 13);
        allBases(x, -12);
        x.width(9, 30);
        Check.retype(x, "abcdefghi.j");
        CHECK.same("a short word may be the widest", x.text(3), 30);
    }

    private static void words() {
        KernLessons x = new KernLessons();
        for (int words = 1; words <= 30; words++) {
            Check.retype(x, "a.".repeat(words - 1) + "a");
            CHECK.same("words", x.text(2), words);
        }
        Check.retype(x, "a.".repeat(29) + "ab");
        CHECK.same("30 words, the last one of two letters", x.text(2), 30);
    }

    private static void linesAre(KernLessons x, String text, int due) {
        Check.retype(x, text);
        CHECK.same("lines by filling: " + text, x.text(4), due);
        CHECK.same("lines from behind: " + text, x.text(5), due);
    }

    /** 16 + 8 + 16 is 40, the least setting of the greatest width. */
    private static void lineJustWideEnough() {
        KernLessons x = new KernLessons();
        x.set(2, 8);
        x.set(3, 40);
        linesAre(x, "a.b", 1);
        x.set(2, 9);
        linesAre(x, "a.b", 2);
        x.set(3, 41);
        linesAre(x, "a.b", 1);
        x.width(0, 17);
        linesAre(x, "a.b", 2);
        x.width(1, 15);
        linesAre(x, "a.b", 1);
        x.set(3, 40);
        linesAre(x, "a.b.a.b", 4);
        x.set(2, 8);
        linesAre(x, "a.b.a.b", 2);
        x.circle(0, 1, -1);
        x.set(2, 6);
        linesAre(x, "ab.c", 2);
    }

    /** 16 words of 30 and 15 spaces of 8 are 600, the greatest setting of the greatest width. */
    private static void greatestLine() {
        KernLessons x = new KernLessons();
        x.set(2, 8);
        x.set(3, 600);
        x.width(0, 30);
        String words = "a.".repeat(15);
        linesAre(x, words + "a", 1);
        CHECK.same("just 600", x.text(0), 600);
        x.width(1, 15);
        linesAre(x, words + "bc", 2);
        CHECK.same("just 601", x.text(0), 601);
        x.set(3, 599);
        linesAre(x, words + "a", 2);
        CHECK.same("just one more than the line", x.text(0), 600);
    }

    /** A word that is wider than a line stands alone in it, wherever it is. */
    private static void wideWords() {
        KernLessons x = new KernLessons();
        x.set(3, 40);
        x.set(2, 1);
        linesAre(x, "abc", 1);
        linesAre(x, "abc.a", 2);
        linesAre(x, "a.abc", 2);
        linesAre(x, "a.b.abc.a.b", 3);
        linesAre(x, "abc.abc.abc", 3);
        linesAre(x, "a.abc.a.abc.a", 5);
        // 40 just fits, alone and with nothing else: 16 + 16 and a kerning of 8.
        x.base(0, 1, 8);
        linesAre(x, "ab", 1);
        linesAre(x, "ab.ab", 2);
        x.base(0, 1, -12);
        linesAre(x, "ab.c", 1);
        CHECK.same("20, 1 and 16", x.text(0), 37);
    }

    private static void fewestLinesAtTheEnds() {
        KernLessons x = new KernLessons();
        String words = "a.".repeat(29) + "a";
        allWidths(x, 30);
        x.set(2, 20);
        x.set(3, 40);
        linesAre(x, words, 30);
        x.set(3, 79);
        linesAre(x, words, 30);
        x.set(3, 80);
        linesAre(x, words, 15);
        x.set(3, 130);
        linesAre(x, words, 10);
        x.set(3, 600);
        linesAre(x, words, 3);
        allWidths(x, 13);
        x.set(2, 1);
        linesAre(x, words, 1);
        CHECK.same("30 times 13, 29 times 1", x.text(0), 419);
        x.set(3, 419);
        linesAre(x, words, 1);
        x.set(3, 418);
        linesAre(x, words, 2);
        linesAre(x, "a", 1);
    }

    private static void textGoesByTheTable() {
        KernLessons x = new KernLessons();
        Check.type(x, "ab.eb.ib");
        CHECK.same("without lessons", x.text(0), 108);
        x.circleAt(0, 1);
        CHECK.same("one pair", x.text(0), 111);
        x.circleAt(3, 1);
        CHECK.same("two pairs, and the one that has not learnt", x.text(0), 115);
        CHECK.same("by how often", x.text(1), 115);
        CHECK.same("the widest word", x.text(3), 35);
        x.undo();
        CHECK.same("undone", x.text(0), 111);
        x.forget(0);
        CHECK.same("forgotten", x.text(1), 108);
    }
}
