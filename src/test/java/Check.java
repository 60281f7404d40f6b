/** What the tests share: each test's main counts what is wrong here and ends with done(). */
final class Check {
    /** A call of which only the exception matters. */
    interface Call {
        void run();
    }

    private final String test;
    private int wrong = 0;
    private int asked = 0;

    Check(String test) {
        this.test = test;
    }

    void same(String what, long got, long due) {
        asked++;
        if (got != due) {
            fail(what + " answered " + got + ", due is " + due);
        }
    }

    void same(String what, double got, double due) {
        asked++;
        if (Double.doubleToLongBits(got) != Double.doubleToLongBits(due)) {
            fail(what + " answered " + got + ", due is " + due);
        }
    }

    void isTrue(String what, boolean holds) {
        asked++;
        if (!holds) {
            fail(what);
        }
    }

    /** The call must throw just this exception, and leave the object as it was. */
    void refuses(String what, KernLessons x, Class<? extends RuntimeException> due, Call call) {
        asked++;
        long before = x.digest();
        String thrown = "nothing";
        try {
            call.run();
        } catch (RuntimeException e) {
            thrown = e.getClass().getSimpleName();
        }
        if (!thrown.equals(due.getSimpleName())) {
            fail(what + " threw " + thrown + ", due is " + due.getSimpleName());
        }
        if (x.digest() != before) {
            fail(what + " threw, but changed the object");
        }
    }

    static void type(KernLessons x, String text) {
        for (int i = 0; i < text.length(); i++) {
            x.append(text.charAt(i));
        }
    }

    static void retype(KernLessons x, String text) {
        x.clearBuffer();
        type(x, text);
    }

    private void fail(String message) {
        wrong++;
        if (wrong <= 20) {
            System.out.println(test + ": " + message);
        }
    }

    void done() {
        System.out.println(test + ": " + asked + " checks, " + wrong + " wrong");
        if (wrong != 0 || asked == 0) {
            System.exit(1);
        }
    }
}
