import java.io.IOException;
import java.lang.reflect.InvocationTargetException;
import java.lang.reflect.Method;
import java.lang.reflect.Modifier;
import java.nio.file.Files;
import java.nio.file.Path;
import java.util.Set;
import java.util.TreeSet;
import java.util.regex.Matcher;
import java.util.regex.Pattern;

/** README.md's lines of Java, run one behind the other: each answers what is written behind it. */
public final class ReadmeTest {
    private static final Check CHECK = new Check("ReadmeTest");
    private static final Path README = Path.of("README.md");
    private static final String NEW_OBJECT = "KernLessons x = new KernLessons();";
    private static final Pattern CALL =
        Pattern.compile("x\\.(\\w+)\\((.*?)\\); +// (throws \\w+|-?[0-9.]+)(: .*)?");

    private final Set<String> shown = new TreeSet<>();
    private KernLessons x = null;

    public static void main(String[] args) throws IOException {
        ReadmeTest test = new ReadmeTest();
        boolean inJava = false;
        for (String line : Files.readAllLines(README)) {
            if (line.startsWith("```")) {
                inJava = line.equals("```java");
            } else if (inJava) {
                test.take(line);
            }
        }
        test.allAreShown();
        CHECK.done();
    }

    private void take(String line) {
        if (line.equals(NEW_OBJECT)) {
            x = new KernLessons();
            return;
        }
        Matcher call = CALL.matcher(line);
        boolean understood = x != null && call.matches();
        CHECK.isTrue("a call and its answer: " + line, understood);
        if (understood) {
            String answer = answerOf(call.group(1), call.group(2));
            CHECK.isTrue("answered " + answer + ": " + line, answer.equals(call.group(3)));
            shown.add(call.group(1));
        }
    }

    private String answerOf(String name, String arguments) {
        String[] texts = arguments.isEmpty() ? new String[0] : arguments.split(", ");
        Class<?>[] types = new Class<?>[texts.length];
        Object[] values = new Object[texts.length];
        for (int i = 0; i < texts.length; i++) {
            types[i] = int.class;
            values[i] = texts[i].startsWith("'") ? texts[i].charAt(1) : Integer.parseInt(texts[i]);
        }
        try {
            return String.valueOf(KernLessons.class.getMethod(name, types).invoke(x, values));
        } catch (InvocationTargetException e) {
            return "throws " + e.getCause().getClass().getSimpleName();
        } catch (ReflectiveOperationException e) {
            return "no such call";
        }
    }

    private void allAreShown() {
        for (Method method : KernLessons.class.getDeclaredMethods()) {
            CHECK.isTrue("not shown: " + method.getName(),
                !Modifier.isPublic(method.getModifiers()) || shown.contains(method.getName()));
        }
    }
}
