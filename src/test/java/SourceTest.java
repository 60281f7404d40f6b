import java.io.IOException;
import java.nio.file.Files;
import java.nio.file.Path;
import java.util.ArrayDeque;
import java.util.Deque;
import java.util.List;
import java.util.regex.Pattern;

/** What can be seen of LANGUAGE.md's rules in the text of the program. */
public final class SourceTest {
    private static final Check CHECK = new Check("SourceTest");
    private static final Path PROGRAM = Path.of("src/main/java/KernLessons.java");
    private static final int MOST_LINES = 60;
    private static final int NO_METHOD = -1;

    private static final String[] FORBIDDEN = {"->", "::", "\\bcatch\\b", "\\bfinally\\b", "\\bassert\\b",
        "\\bsynchronized\\b", "\\bpackage\\b", "\\bprotected\\b", "Exact\\b", "\\bSystem\\.(?!arraycopy)",
        "\\bArrays\\.(?!fill|copyOf)", "\\bMath\\.(?!max|min)", "\\bDouble\\b", "\\bObject\\b", "\\bequals\\b",
        "\\bhashCode\\b", "\\btoString\\b", "^import (?!java\\.util\\.Arrays;)", "\\bstatic \\{", "\" \\+", "\\+ \""};

    public static void main(String[] args) throws IOException {
        List<String> lines = Files.readAllLines(PROGRAM);
        words(lines);
        methodLengths(lines);
        CHECK.done();
    }

    private static void words(List<String> lines) {
        for (int i = 0; i < lines.size(); i++) {
            String line = lines.get(i);
            CHECK.isTrue("line " + (i + 1) + " is ASCII", line.chars().allMatch(c -> c < 128));
            String code = line.strip();
            if (code.startsWith("//") || code.startsWith("/*") || code.startsWith("*")) {
                continue;
            }
            for (String forbidden : FORBIDDEN) {
                CHECK.isTrue("line " + (i + 1) + " has " + forbidden + ": " + code,
                    !Pattern.compile(forbidden).matcher(line).find());
            }
        }
    }

    /** A method is a block that stands right in a class; blocks open and close at the ends and starts of lines. */
    private static void methodLengths(List<String> lines) {
        Deque<Integer> methods = new ArrayDeque<>();
        Deque<Boolean> inClass = new ArrayDeque<>();
        int seen = 0;
        for (int i = 0; i < lines.size(); i++) {
            String code = lines.get(i).strip();
            if (code.startsWith("}") && !inClass.isEmpty()) {
                inClass.pop();
                int start = methods.pop();
                seen += start == NO_METHOD ? 0 : 1;
                CHECK.isTrue("the method of line " + (start + 1) + " is short",
                    start == NO_METHOD || i - start < MOST_LINES);
            }
            if (code.endsWith("{")) {
                boolean isMethod = !inClass.isEmpty() && inClass.peek() && !code.contains(" class ");
                methods.push(isMethod ? i : NO_METHOD);
                inClass.push(code.contains(" class "));
            }
        }
        CHECK.isTrue("all blocks are closed", methods.isEmpty());
        CHECK.isTrue("methods were seen: " + seen, seen > 60);
    }
}
