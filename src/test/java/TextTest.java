/** Promise 21: text. */
public final class TextTest {
    private static final Class<IllegalArgumentException> ARGUMENT = IllegalArgumentException.class;

    private static final Check CHECK = new Check("TextTest");

    public static void main(String[] args) {
        noText();
        widths();
        lines();
        fullBuffer();
        textRefuses();
        CHECK.done();
    }

    private static void all(KernLessons x, String text, int width, int words, int widest, int lines) {
        Check.retype(x, text);
        int[] due = {width, width, words, widest, lines, lines};
        for (int what = 0; what < 6; what++) {
            CHECK.same("text " + what + " of " + text, x.text(what), due[what]);
        }
    }

    private static void noText() {
        KernLessons x = new KernLessons();
        String[] texts = {"", "a.", ".a", "a..b", "ak", "A", "."};
        for (String text : texts) {
            Check.retype(x, text);
            for (int what = 0; what < 6; what++) {
                CHECK.same("text " + what + " of " + text, x.text(what), KernLessons.NONE);
            }
        }
    }

    private static void widths() {
        KernLessons x = new KernLessons();
        all(x, "a", 16, 1, 16, 1);
        all(x, "ab.cd", 70, 2, 32, 1);
        x.width(0, 30);
        x.width(3, 13);
        all(x, "ab.cd", 81, 2, 46, 1);
        x.circle(0, 1, 1);
        x.circle(1, 0, -1);
        x.base(2, 3, -12);
        all(x, "ab.cd", 72, 2, 49, 1);
        all(x, "abab.aba", 95 + 6 + 76, 2, 95, 1);
        x.set(2, 20);
        all(x, "a.b.a", 116, 3, 30, 1);
        // The letters at both sides of a space are no pair.
        all(x, "a.b", 66, 2, 30, 1);
        x.shape(4, 1, 0);
        x.circle(4, 1, 1);
        CHECK.same("the shapes learnt", x.shapesOf(0, 1, 0), 101);
        all(x, "ib", 33, 1, 33, 1);
        all(x, "j", 16, 1, 16, 1);
    }

    private static void lines() {
        KernLessons x = new KernLessons();
        x.set(3, 40);
        x.set(2, 8);
        all(x, "a.b", 40, 2, 16, 1);
        x.set(2, 9);
        all(x, "a.b", 41, 2, 16, 2);
        // A word that is wider than a line stands alone.
        all(x, "abcd", 64, 1, 64, 1);
        all(x, "a.abcd.b", 16 + 9 + 64 + 9 + 16, 3, 64, 3);
        x.set(2, 1);
        all(x, "a.b.c.d.e", 84, 5, 16, 3);
        x.set(3, 50);
        all(x, "a.b.c.d.e", 84, 5, 16, 2);
        all(x, "ab.c.de.f.gh", 32 * 3 + 16 * 2 + 4, 5, 32, 3);
        x.set(3, 600);
        all(x, "ab.c.de.f.gh", 132, 5, 32, 1);
        x.set(3, 131);
        all(x, "ab.c.de.f.gh", 132, 5, 32, 2);
        x.set(3, 132);
        all(x, "ab.c.de.f.gh", 132, 5, 32, 1);
    }

    private static void fullBuffer() {
        KernLessons x = new KernLessons();
        x.set(2, 20);
        String words = "a.".repeat(29) + "b";
        all(x, words, 30 * 16 + 29 * 20, 30, 16, 5);
        x.set(3, 40);
        all(x, words, 30 * 16 + 29 * 20, 30, 16, 30);
        all(x, "j".repeat(60), 960, 1, 960, 1);
        x.set(3, 600);
        all(x, words, 30 * 16 + 29 * 20, 30, 16, 2);
    }

    private static void textRefuses() {
        KernLessons x = new KernLessons();
        CHECK.refuses("what -1, and no text", x, ARGUMENT, () -> x.text(-1));
        CHECK.refuses("what 6, and no text", x, ARGUMENT, () -> x.text(6));
        Check.type(x, "ab");
        CHECK.refuses("what 6", x, ARGUMENT, () -> x.text(6));
    }
}
