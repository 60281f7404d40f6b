import java.util.Random;

/** Long runs of calls, each answer compared with the model's; the runs are the same each time. */
public final class ModelTest {
    private static final int RUNS = 400;
    private static final int CALLS = 512;

    private static final Check CHECK = new Check("ModelTest");

    private interface Answer {
        double of();
    }

    private final KernLessons x = new KernLessons();
    private final Model model = new Model();
    private final Random random;
    /** Few letters make lessons meet; many make shapes learn from several pairs. */
    private final int letters;
    private final int run;

    private ModelTest(int run) {
        this.run = run;
        this.random = new Random(run);
        this.letters = 2 + run % 9;
    }

    public static void main(String[] args) {
        for (int run = 0; run < RUNS; run++) {
            new ModelTest(run).runAll();
        }
        CHECK.done();
    }

    private void runAll() {
        for (int i = 0; i < CALLS; i++) {
            int kind = random.nextInt(100);
            if (kind < 45) {
                learnOrChange(kind);
            } else if (kind < 65) {
                writeOrKeep(kind);
            } else {
                look(kind);
            }
            if (i % 64 == 63) {
                digest();
            }
        }
    }

    private void digest() {
        long due = DigestTest.due(x, model.hasSlot(0), model.hasSlot(1), model.buffer());
        CHECK.same("run " + run + ": digest", x.digest(), due);
    }

    /** Mostly from least to most, now and then a bit beyond, or far. */
    private int near(int least, int most) {
        int kind = random.nextInt(60);
        if (kind == 0) {
            return least - 1;
        }
        if (kind == 1) {
            return most + 1;
        }
        if (kind == 2) {
            return random.nextInt();
        }
        return least + random.nextInt(most - least + 1);
    }

    private int told() {
        return random.nextInt(40) == 0 ? near(-2, 2) : random.nextInt(3) == 0 ? -1 : 1;
    }

    private int lesson() {
        return near(0, Math.max(0, model.count(0) - 1));
    }

    private void learnOrChange(int kind) {
        int a = near(0, letters - 1);
        int b = near(0, letters - 1);
        int told = told();
        if (kind < 28) {
            same("circle(" + a + ", " + b + ", " + told, () -> x.circle(a, b, told), () -> model.circle(a, b, told));
        } else if (kind < 31) {
            int lesson = lesson();
            same("forget(" + lesson, () -> x.forget(lesson), () -> model.forget(lesson));
        } else if (kind < 34) {
            int width = near(13, 30);
            same("width(" + a + ", " + width, () -> x.width(a, width), () -> model.width(a, width));
        } else if (kind < 37) {
            int l = near(0, 3);
            int r = near(0, 3);
            same("shape(" + a + ", " + l + ", " + r, () -> x.shape(a, l, r), () -> model.shape(a, l, r));
        } else if (kind < 41) {
            int l = near(0, 3);
            int r = near(0, 3);
            int k = near(-12, 12);
            same("base(" + r + ", " + l + ", " + k, () -> x.base(r, l, k), () -> model.base(r, l, k));
        } else {
            int setting = near(0, 3);
            int value = setting == 0 ? near(1, 6) : setting == 1 ? near(2, 5) : setting == 2 ? near(1, 20) : near(40, 600);
            same("set(" + setting + ", " + value, () -> x.set(setting, value), () -> model.set(setting, value));
        }
    }

    private void writeOrKeep(int kind) {
        int slot = near(0, 1);
        if (kind < 52) {
            type();
        } else if (kind < 54) {
            same("firstError(", x::firstError, model::firstError);
        } else if (kind < 58) {
            int place = near(0, Math.max(0, model.buffer().length() - 1));
            int told = told();
            same("circleAt(" + place + ", " + told, () -> x.circleAt(place, told), () -> model.circleAt(place, told));
        } else if (kind < 60) {
            same("keep(" + slot, () -> x.keep(slot), () -> model.keep(slot));
        } else if (kind < 61) {
            same("goBack(" + slot, () -> x.goBack(slot), () -> model.goBack(slot));
        } else {
            same("undo(", x::undo, model::undo);
        }
    }

    private void type() {
        if (random.nextInt(6) == 0) {
            same("clearBuffer(", x::clearBuffer, model::clearBuffer);
        }
        boolean behindSpace = true;
        for (int i = random.nextInt(9); i >= 0; i--) {
            int code = !behindSpace && i > 0 && random.nextInt(4) == 0 ? '.' : 'a' + random.nextInt(letters);
            int typed = random.nextInt(300) == 0 ? near(33, 126) : code;
            behindSpace = code == '.';
            same("append(" + typed, () -> x.append(typed), () -> model.append(typed));
        }
    }

    private void look(int kind) {
        int a = near(0, letters - 1);
        int b = near(0, letters - 1);
        int r = near(0, 3);
        int l = near(0, 3);
        int what = near(0, 4);
        int lesson = lesson();
        if (kind < 68) {
            same("letterOf(" + a + ", " + r, () -> x.letterOf(a, r), () -> model.letterOf(a, r));
        } else if (kind < 75) {
            same("pairOf(" + a + ", " + b + ", " + what, () -> x.pairOf(a, b, what), () -> model.pairOf(a, b, what));
        } else if (kind < 79) {
            same("shapesOf(" + r + ", " + l + ", " + what, () -> x.shapesOf(r, l, what), () -> model.shapesOf(r, l, what));
        } else if (kind < 82) {
            same("lessonOf(" + lesson + ", " + r, () -> x.lessonOf(lesson, r), () -> model.lessonOf(lesson, r));
        } else if (kind < 86) {
            int count = near(0, 7);
            same("count(" + count, () -> x.count(count), () -> model.count(count));
        } else if (kind < 87) {
            same("setting(" + r, () -> x.setting(r), () -> model.setting(r));
        } else if (kind < 92) {
            int number = near(0, 5);
            same("text(" + number, () -> x.text(number), () -> model.text(number));
        } else if (kind < 95) {
            int told = told();
            same("ifCircled(" + a + ", " + b + ", " + told, () -> x.ifCircled(a, b, told),
                () -> model.ifCircled(a, b, told));
        } else if (kind < 97) {
            same("ifForgotten(" + lesson, () -> x.ifForgotten(lesson), () -> model.ifForgotten(lesson));
        } else if (kind < 98) {
            same("mainLesson(", x::mainLesson, model::mainLesson);
        } else {
            same("tightShare(", x::tightShare, model::tightShare);
        }
    }

    private void same(String call, Answer got, Answer due) {
        String answer = answer(got);
        String wanted = answer(due);
        CHECK.isTrue("run " + run + ": " + call + ") answered " + answer + ", due is " + wanted,
            answer.equals(wanted));
    }

    private static String answer(Answer asked) {
        try {
            return String.valueOf(asked.of());
        } catch (RuntimeException e) {
            return "throws." + e.getClass().getSimpleName();
        }
    }
}
