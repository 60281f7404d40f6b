import java.util.ArrayList;
import java.util.List;

/** Objects with the same past each time: what a call must leave alone is seen beside one on which it was not made. */
enum Past {
    /** A new object. */
    NEW(0, 0, ""),

    /** A lesson that is idle among three, one saved state fewer than there can be, a snapshot in slot 1, a text. */
    SOME(3, 5, "ab.eb") {
        @Override
        void live(KernLessons x) {
            x.width(2, 20);
            x.circle(0, 1, 1);
            x.circle(4, 1, 1);
            x.keep(1);
            x.circle(3, 7, -1);
            x.base(3, 3, -12);
        }
    },

    /** All that an object can hold: lessons, saved states, snapshots and characters. */
    FULL(40, 6, "abcdefghij.".repeat(5) + "abcde") {
        @Override
        void live(KernLessons x) {
            x.set(0, 1);
            circles(x, 0, 21);
            x.forget(5);
            x.keep(0);
            circles(x, 21, 41);
            x.keep(1);
            x.shape(9, 3, 0);
            x.base(1, 1, 12);
            x.set(1, 3);
            x.circle(0, 0, 1);
            x.width(7, 30);
            x.set(3, 50);
        }
    };

    final int lessons;
    final int saved;
    final String buffer;

    Past(int lessons, int saved, String buffer) {
        this.lessons = lessons;
        this.saved = saved;
        this.buffer = buffer;
    }

    void live(KernLessons x) {
    }

    KernLessons make() {
        KernLessons x = new KernLessons();
        live(x);
        Check.type(x, buffer);
        return x;
    }

    boolean fillsSlot(int slot) {
        return this == FULL || this == SOME && slot == 1;
    }

    private static void circles(KernLessons x, int from, int end) {
        for (int i = from; i < end; i++) {
            x.circle(i % 10, (3 * i + i / 10) % 10, i % 3 == 0 ? 1 : -1);
        }
    }

    /** All that can be seen of the object, its saved states and snapshots too, which takes the saved ones away. */
    static List<Long> seenOf(KernLessons x) {
        List<Long> seen = new ArrayList<>();
        seen.add(x.digest());
        while (x.count(7) > 0) {
            x.undo();
            seen.add(x.digest());
        }
        for (int slot = 0; slot < 2; slot++) {
            try {
                x.goBack(slot);
                seen.add(x.digest());
            } catch (IllegalStateException e) {
                seen.add(-1L);
            }
        }
        return seen;
    }
}
