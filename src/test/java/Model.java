import java.util.ArrayDeque;
import java.util.ArrayList;
import java.util.Arrays;
import java.util.Deque;
import java.util.HashMap;
import java.util.List;
import java.util.Map;
import java.util.TreeMap;

/**
 * The document once more, held otherwise: a state is a value, nothing learnt is kept in it but the lessons,
 * and each question goes through all of them again.
 */
final class Model {
    private record Lesson(int first, int second, int told) {
    }

    private record Meeting(int right, int left) {
    }

    private record Pair(int first, int second) {
    }

    private static final class State {
        int[] width = new int[10];
        int[] left = new int[10];
        int[] right = new int[10];
        Map<Meeting, Integer> base = new HashMap<>();
        int[] setting = {3, 2, 6, 200};
        List<Lesson> lessons = new ArrayList<>();
        int refused;
        int forgotten;
        int replays;

        State() {
            for (int i = 0; i < 10; i++) {
                width[i] = 16;
                left[i] = i % 4;
                right[i] = i % 4;
            }
        }

        State copy() {
            State other = new State();
            other.width = width.clone();
            other.left = left.clone();
            other.right = right.clone();
            other.base = new HashMap<>(base);
            other.setting = setting.clone();
            other.lessons = new ArrayList<>(lessons);
            other.refused = refused;
            other.forgotten = forgotten;
            other.replays = replays;
            return other;
        }

        Meeting meeting(Pair p) {
            return new Meeting(right[p.first], left[p.second]);
        }
    }

    /** What the lessons come to. */
    private static final class Learnt {
        final State state;
        final Map<Meeting, Integer> shapes = new HashMap<>();
        final Map<Pair, Integer> own = new HashMap<>();
        final Map<Pair, List<int[]>> history = new HashMap<>();
        final List<Boolean> idle = new ArrayList<>();

        Learnt(State state, List<Lesson> lessons) {
            this.state = state;
            for (int r = 0; r < 4; r++) {
                for (int l = 0; l < 4; l++) {
                    Meeting m = new Meeting(r, l);
                    shapes.put(m, state.base.getOrDefault(m, 0));
                }
            }
            for (Lesson lesson : lessons) {
                idle.add(!take(lesson));
            }
        }

        int own(Pair p) {
            return own.getOrDefault(p, 0);
        }

        int kerning(Pair p) {
            return shapes.get(state.meeting(p)) + own(p);
        }

        List<int[]> history(Pair p) {
            return history.getOrDefault(p, List.of());
        }

        private boolean take(Lesson lesson) {
            Pair p = new Pair(lesson.first, lesson.second);
            int was = kerning(p);
            if (lesson.told == 1 && was == 12 || lesson.told == -1 && was == -12) {
                return false;
            }
            List<int[]> before = history.computeIfAbsent(p, q -> new ArrayList<>());
            int step = state.setting[0];
            if (!before.isEmpty()) {
                int[] last = before.get(before.size() - 1);
                step = last[1] == lesson.told ? last[0] : last[0] == 1 ? 1 : last[0] / 2;
            }
            before.add(new int[] {step, lesson.told});
            int is = lesson.told == 1 ? Math.min(12, was + step) : Math.max(-12, was - step);
            own.put(p, own(p) + is - was);
            teachShapes(state.meeting(p), lesson.told);
            return true;
        }

        private void teachShapes(Meeting m, int told) {
            List<Pair> learnt = history.keySet().stream().filter(q -> state.meeting(q).equals(m)).toList();
            long agreeing = learnt.stream().filter(q -> told == 1 ? own(q) > 0 : own(q) < 0).count();
            int kerning = shapes.get(m);
            if (agreeing < state.setting[1] || kerning == (told == 1 ? 12 : -12)) {
                return;
            }
            shapes.put(m, kerning + told);
            for (Pair q : learnt) {
                own.put(q, own(q) - told);
            }
        }
    }

    private State state = new State();
    private final Deque<State> saved = new ArrayDeque<>();
    private final State[] slots = new State[2];
    private String buffer = "";

    private Learnt learnt() {
        return new Learnt(state, state.lessons);
    }

    private static void index(boolean holds) {
        if (!holds) {
            throw new IndexOutOfBoundsException();
        }
    }

    private static void argument(boolean holds) {
        if (!holds) {
            throw new IllegalArgumentException();
        }
    }

    private static void allowed(boolean holds) {
        if (!holds) {
            throw new IllegalStateException();
        }
    }

    private static boolean in(int value, int least, int most) {
        return least <= value && value <= most;
    }

    private void save() {
        saved.addLast(state.copy());
        if (saved.size() > 6) {
            saved.removeFirst();
        }
    }

    int width(int letter, int width) {
        index(in(letter, 0, 9));
        argument(in(width, 13, 30));
        save();
        int before = state.width[letter];
        state.width[letter] = width;
        return before;
    }

    int shape(int letter, int left, int right) {
        index(in(letter, 0, 9));
        argument(in(left, 0, 3) && in(right, 0, 3));
        save();
        int before = 4 * state.left[letter] + state.right[letter];
        state.left[letter] = left;
        state.right[letter] = right;
        state.replays++;
        return before;
    }

    int base(int right, int left, int kerning) {
        index(in(right, 0, 3) && in(left, 0, 3));
        argument(in(kerning, -12, 12));
        save();
        Integer before = state.base.put(new Meeting(right, left), kerning);
        state.replays++;
        return before == null ? 100 : before + 100;
    }

    int set(int setting, int value) {
        index(in(setting, 0, 3));
        int[][] range = {{1, 6}, {2, 5}, {1, 20}, {40, 600}};
        argument(in(value, range[setting][0], range[setting][1]));
        save();
        int before = state.setting[setting];
        state.setting[setting] = value;
        state.replays += setting < 2 ? 1 : 0;
        return before;
    }

    int circle(int first, int second, int told) {
        int would = ifCircled(first, second, told);
        save();
        if (would == -1) {
            state.refused++;
        } else {
            state.lessons.add(new Lesson(first, second, told));
        }
        return would;
    }

    int forget(int lesson) {
        int would = ifForgotten(lesson);
        save();
        state.lessons.remove(lesson);
        state.forgotten++;
        state.replays++;
        return would;
    }

    int append(int code) {
        argument(in(code, 33, 126));
        allowed(buffer.length() < 60);
        buffer += (char) code;
        return buffer.length();
    }

    int clearBuffer() {
        int length = buffer.length();
        buffer = "";
        return length;
    }

    int firstError() {
        int good = 0;
        while (good < buffer.length() && buffer.substring(0, good + 1).matches("[a-j]+(\\.[a-j]+)*\\.?")) {
            good++;
        }
        return good;
    }

    private boolean isText() {
        return buffer.matches("[a-j]+(\\.[a-j]+)*");
    }

    int circleAt(int place, int told) {
        allowed(isText());
        index(place >= 0 && place < buffer.length() - 1);
        index(buffer.charAt(place) != '.' && buffer.charAt(place + 1) != '.');
        return circle(buffer.charAt(place) - 'a', buffer.charAt(place + 1) - 'a', told);
    }

    int keep(int slot) {
        argument(in(slot, 0, 1));
        slots[slot] = state.copy();
        return state.lessons.size();
    }

    int goBack(int slot) {
        argument(in(slot, 0, 1));
        allowed(slots[slot] != null);
        save();
        state = slots[slot].copy();
        return state.lessons.size();
    }

    int undo() {
        allowed(!saved.isEmpty());
        state = saved.removeLast();
        return saved.size();
    }

    int letterOf(int letter, int what) {
        index(in(letter, 0, 9));
        argument(in(what, 0, 3));
        long firsts = state.lessons.stream().filter(l -> l.first == letter).count();
        long seconds = state.lessons.stream().filter(l -> l.second == letter).count();
        return new int[] {state.width[letter], state.left[letter], state.right[letter], (int) (firsts + seconds)}[what];
    }

    int pairOf(int first, int second, int what) {
        index(in(first, 0, 9) && in(second, 0, 9));
        argument(in(what, 0, 4));
        Pair p = new Pair(first, second);
        Learnt l = learnt();
        List<int[]> history = l.history(p);
        int step = history.isEmpty() ? 0 : history.get(history.size() - 1)[0];
        int kerning = l.kerning(p) + 100;
        return new int[] {kerning, kerning, l.own(p) + 100, step, history.size()}[what];
    }

    int shapesOf(int right, int left, int what) {
        index(in(right, 0, 3) && in(left, 0, 3));
        argument(in(what, 0, 3));
        Meeting m = new Meeting(right, left);
        Learnt l = learnt();
        long rights = Arrays.stream(state.right).filter(r -> r == right).count();
        long lefts = Arrays.stream(state.left).filter(s -> s == left).count();
        long learnt = l.history.keySet().stream().filter(q -> state.meeting(q).equals(m)).count();
        int base = state.base.getOrDefault(m, 0);
        return new int[] {l.shapes.get(m) + 100, base + 100, (int) (rights * lefts), (int) learnt}[what];
    }

    int lessonOf(int lesson, int what) {
        index(in(lesson, 0, state.lessons.size() - 1));
        argument(in(what, 0, 3));
        Lesson l = state.lessons.get(lesson);
        return new int[] {l.first, l.second, l.told == 1 ? 1 : 0, learnt().idle.get(lesson) ? 1 : 0}[what];
    }

    int count(int what) {
        argument(in(what, 0, 7));
        Learnt l = learnt();
        int moved = 0;
        for (Meeting m : l.shapes.keySet()) {
            moved += l.shapes.get(m).equals(state.base.getOrDefault(m, 0)) ? 0 : 1;
        }
        int idle = (int) l.idle.stream().filter(i -> i).count();
        return new int[] {state.lessons.size(), idle, l.history.size(), moved, state.refused, state.forgotten,
            state.replays, saved.size()}[what];
    }

    int setting(int setting) {
        index(in(setting, 0, 3));
        return state.setting[setting];
    }

    int text(int what) {
        argument(in(what, 0, 5));
        if (!isText()) {
            return -1;
        }
        Learnt l = learnt();
        List<Integer> words = new ArrayList<>();
        for (String word : buffer.split("\\.")) {
            int width = 0;
            for (int i = 0; i < word.length(); i++) {
                width += state.width[word.charAt(i) - 'a'];
                if (i > 0) {
                    width += l.kerning(new Pair(word.charAt(i - 1) - 'a', word.charAt(i) - 'a'));
                }
            }
            words.add(width);
        }
        int all = lineWidth(words);
        int widest = words.stream().max(Integer::compare).orElseThrow();
        int lines = fewestLines(words, new TreeMap<>());
        return new int[] {all, all, words.size(), widest, lines, lines}[what];
    }

    private int lineWidth(List<Integer> words) {
        return words.stream().mapToInt(w -> w).sum() + (words.size() - 1) * state.setting[2];
    }

    private int fewestLines(List<Integer> words, Map<Integer, Integer> known) {
        if (words.isEmpty()) {
            return 0;
        }
        Integer told = known.get(words.size());
        if (told != null) {
            return told;
        }
        int fewest = 1000;
        for (int n = 1; n <= words.size(); n++) {
            if (n == 1 || lineWidth(words.subList(0, n)) <= state.setting[3]) {
                fewest = Math.min(fewest, 1 + fewestLines(words.subList(n, words.size()), known));
            }
        }
        known.put(words.size(), fewest);
        return fewest;
    }

    int ifCircled(int first, int second, int told) {
        index(in(first, 0, 9) && in(second, 0, 9));
        argument(told == 1 || told == -1);
        if (state.lessons.size() == 40) {
            return -1;
        }
        List<Lesson> more = new ArrayList<>(state.lessons);
        more.add(new Lesson(first, second, told));
        Learnt l = new Learnt(state, more);
        return l.idle.get(more.size() - 1) ? -1 : l.kerning(new Pair(first, second)) + 100;
    }

    int ifForgotten(int lesson) {
        index(in(lesson, 0, state.lessons.size() - 1));
        List<Lesson> fewer = new ArrayList<>(state.lessons);
        fewer.remove(lesson);
        Learnt with = learnt();
        Learnt without = new Learnt(state, fewer);
        int otherwise = 0;
        for (int i = 0; i < 100; i++) {
            Pair p = new Pair(i / 10, i % 10);
            otherwise += with.kerning(p) == without.kerning(p) ? 0 : 1;
        }
        return otherwise;
    }

    int mainLesson() {
        int main = -1;
        for (int i = state.lessons.size() - 1; i >= 0; i--) {
            if (main == -1 || ifForgotten(i) >= ifForgotten(main)) {
                main = i;
            }
        }
        return main;
    }

    double tightShare() {
        Learnt l = learnt();
        int tight = 0;
        for (int i = 0; i < 100; i++) {
            tight += l.kerning(new Pair(i / 10, i % 10)) < 0 ? 1 : 0;
        }
        return tight / 100.0;
    }

    boolean hasSlot(int slot) {
        return slots[slot] != null;
    }

    String buffer() {
        return buffer;
    }
}
