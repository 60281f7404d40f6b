/** Promise 26: digest, against the list of the document, taken from the other looks. */
public final class DigestTest {
    private static final Check CHECK = new Check("DigestTest");

    private long hash = 3529L;

    private void add(long value) {
        hash = 31L * hash + value;
    }

    /** The digest of an object whose slots and characters are as told. */
    static long due(KernLessons x, boolean slot0, boolean slot1, String buffer) {
        DigestTest sum = new DigestTest();
        for (int what = 0; what < 8; what++) {
            sum.add(x.count(what));
        }
        for (int setting = 0; setting < 4; setting++) {
            sum.add(x.setting(setting));
        }
        for (int letter = 0; letter < 10; letter++) {
            for (int what = 0; what < 4; what++) {
                sum.add(x.letterOf(letter, what));
            }
        }
        for (int pair = 0; pair < 100; pair++) {
            for (int what : new int[] {0, 2, 3, 4}) {
                sum.add(x.pairOf(pair / 10, pair % 10, what));
            }
        }
        for (int shapes = 0; shapes < 16; shapes++) {
            for (int what = 0; what < 4; what++) {
                sum.add(x.shapesOf(shapes / 4, shapes % 4, what));
            }
        }
        for (int lesson = 0; lesson < x.count(0); lesson++) {
            for (int what = 0; what < 4; what++) {
                sum.add(x.lessonOf(lesson, what));
            }
            sum.add(x.ifForgotten(lesson));
        }
        for (int what = 0; what < 6; what++) {
            sum.add(x.text(what));
        }
        sum.add(x.mainLesson());
        sum.add(Double.doubleToLongBits(x.tightShare()));
        sum.add(slot0 ? 1 : 0);
        sum.add(slot1 ? 1 : 0);
        sum.add(buffer.length());
        for (int i = 0; i < buffer.length(); i++) {
            sum.add(buffer.charAt(i));
        }
        return sum.hash;
    }

    public static void main(String[] args) {
        KernLessons x = new KernLessons();
        CHECK.same("new", x.digest(), due(x, false, false, ""));
        x.circle(0, 1, -1);
        x.circle(4, 1, -1);
        x.circle(2, 7, 1);
        CHECK.same("with lessons", x.digest(), due(x, false, false, ""));
        x.keep(1);
        CHECK.same("with slot 1", x.digest(), due(x, false, true, ""));
        Check.type(x, "ab.ej");
        CHECK.same("with a text", x.digest(), due(x, false, true, "ab.ej"));
        Check.type(x, "~!");
        CHECK.same("with no text", x.digest(), due(x, false, true, "ab.ej~!"));
        x.keep(0);
        CHECK.same("with both slots", x.digest(), due(x, true, true, "ab.ej~!"));
        allShares();
        noRoomTaken();
        CHECK.done();
    }

    /** Each share from 0 to 1: its bits are told without the library. */
    private static void allShares() {
        for (int rows = 0; rows < 10; rows++) {
            KernLessons x = new KernLessons();
            x.set(1, 5);
            for (int letter = 0; letter < 10; letter++) {
                x.shape(letter, letter % 4, letter < 10 - rows ? 0 : 1);
            }
            for (int left = 0; left < 4; left++) {
                x.base(1, left, -4);
            }
            for (int second = 0; second <= 10; second++) {
                CHECK.same("share", x.tightShare(), (rows * 10 + second) / 100.0);
                CHECK.same("with this share", x.digest(), due(x, false, false, ""));
                if (second < 10) {
                    x.circle(0, second, -1);
                }
            }
        }
    }

    /** The dearest calls make no objects: as many as an object is used for take next to no memory. */
    private static void noRoomTaken() {
        KernLessons x = new KernLessons();
        for (int i = 0; i < 40; i++) {
            x.circle(i % 10, i * 7 % 10, i % 3 == 0 ? 1 : -1);
        }
        Check.type(x, "abc.def.ghij");
        com.sun.management.ThreadMXBean threads =
            (com.sun.management.ThreadMXBean) java.lang.management.ManagementFactory.getThreadMXBean();
        long thread = Thread.currentThread().getId();
        x.digest();
        long before = threads.getThreadAllocatedBytes(thread);
        for (int i = 0; i < 150; i++) {
            x.digest();
            x.width(0, 13 + i % 10);
            x.keep(0);
        }
        long taken = threads.getThreadAllocatedBytes(thread) - before;
        CHECK.isTrue("bytes taken by 450 calls: " + taken, taken < 10_000);
    }
}
