/** What the tests share: each test's main counts what is wrong here and ends with done(). */
final class Check {
    /** A call of which only the exception matters. */
    interface Call {
        void run();
    }

    /** A call on an object with a past. */
    interface On {
        long of(KernLessons x);
    }

    /** A call of which one argument varies. */
    interface Varied {
        long of(KernLessons x, int argument);
    }

    private final String test;
    private int wrong = 0;
    private int asked = 0;

    Check(String test) {
        this.test = test;
    }

    void same(String what, long got, long due) {
        asked++;
        if (got != due) {
            fail(what + " answered " + got + ", due is " + due);
        }
    }

    void same(String what, double got, double due) {
        asked++;
        if (Double.doubleToLongBits(got) != Double.doubleToLongBits(due)) {
            fail(what + " answered " + got + ", due is " + due);
        }
    }

    void isTrue(String what, boolean holds) {
        asked++;
        if (!holds) {
            fail(what);
        }
    }

    /** The call must throw just this exception, and leave the object as it was. */
    void refuses(String what, KernLessons x, Class<? extends RuntimeException> due, Call call) {
        long before = x.digest();
        thrownIs(what, due.getSimpleName(), thrownBy(y -> {
            call.run();
            return 0;
        }, x));
        if (x.digest() != before) {
            fail(what + " threw, but changed the object");
        }
    }

    /** On an object with this past, the call must throw just this exception, and change nothing that can be seen. */
    void refusesOn(Past past, String what, Class<? extends RuntimeException> due, On call) {
        KernLessons x = past.make();
        thrownIs(what + " on " + past, due.getSimpleName(), thrownBy(call, x));
        isTrue(what + " on " + past + " threw, but changed the object",
            Past.seenOf(x).equals(Past.seenOf(past.make())));
    }

    void refusesOnAll(String what, Class<? extends RuntimeException> due, On call) {
        for (Past past : Past.values()) {
            refusesOn(past, what, due, call);
        }
    }

    void passesOn(Past past, String what, On call) {
        thrownIs(what + " on " + past, "nothing", thrownBy(call, past.make()));
    }

    /** The values from least to most pass; beside them, and far from them, the exception is thrown. */
    void range(Past past, String what, int[] ends, Class<? extends RuntimeException> due, Varied call) {
        int least = ends[0];
        int most = ends[1];
        for (int value = least; value <= most; value++) {
            int allowed = value;
            passesOn(past, what + " " + value, x -> call.of(x, allowed));
        }
        for (int value : new int[] {least - 1, most + 1, Integer.MIN_VALUE, Integer.MAX_VALUE}) {
            refusesOn(past, what + " " + value, due, x -> call.of(x, value));
        }
    }

    void rangeOnAll(String what, int[] ends, Class<? extends RuntimeException> due, Varied call) {
        for (Past past : Past.values()) {
            range(past, what, ends, due, call);
        }
    }

    private void thrownIs(String what, String due, String thrown) {
        isTrue(what + " threw " + thrown + ", due is " + due, thrown.equals(due));
    }

    /** What the machine throws bears other names than what the document names. */
    private static String thrownBy(On call, KernLessons x) {
        try {
            call.of(x);
            return "nothing";
        } catch (RuntimeException e) {
            return e.getClass().getSimpleName();
        }
    }

    static void type(KernLessons x, String text) {
        for (int i = 0; i < text.length(); i++) {
            x.append(text.charAt(i));
        }
    }

    static void retype(KernLessons x, String text) {
        x.clearBuffer();
        type(x, text);
    }

    private void fail(String message) {
        wrong++;
        if (wrong <= 20) {
            System.out.println(test + ": " + message);
        }
    }

    void done() {
        System.out.println(test + ": " + asked + " checks, " + wrong + " wrong");
        if (wrong != 0 || asked == 0) {
            System.exit(1);
        }
    }
}
