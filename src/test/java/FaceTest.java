import java.lang.reflect.Constructor;
import java.lang.reflect.Field;
import java.lang.reflect.Method;
import java.lang.reflect.Modifier;
import java.util.Set;
import java.util.TreeSet;

/** The public face: just what the document prints, and LANGUAGE.md's rule 1. */
public final class FaceTest {
    private static final Check CHECK = new Check("FaceTest");

    /** LANGUAGE.md, rule 5. */
    private static final Set<Class<?>> CONSTANT_TYPES = Set.of(int.class, long.class, boolean.class, char.class,
        String.class, int[].class, long[].class, char[].class, byte[].class);

    private static final String[] FACE = {
        "int width(int int) IndexOutOfBoundsException IllegalArgumentException",
        "int shape(int int int) IndexOutOfBoundsException IllegalArgumentException",
        "int base(int int int) IndexOutOfBoundsException IllegalArgumentException",
        "int set(int int) IndexOutOfBoundsException IllegalArgumentException",
        "int circle(int int int) IndexOutOfBoundsException IllegalArgumentException",
        "int forget(int) IndexOutOfBoundsException",
        "int append(int) IllegalArgumentException IllegalStateException",
        "int clearBuffer()",
        "int firstError()",
        "int circleAt(int int) IllegalStateException IndexOutOfBoundsException IllegalArgumentException",
        "int keep(int) IllegalArgumentException",
        "int goBack(int) IllegalArgumentException IllegalStateException",
        "int undo() IllegalStateException",
        "int letterOf(int int) IndexOutOfBoundsException IllegalArgumentException",
        "int pairOf(int int int) IndexOutOfBoundsException IllegalArgumentException",
        "int shapesOf(int int int) IndexOutOfBoundsException IllegalArgumentException",
        "int lessonOf(int int) IndexOutOfBoundsException IllegalArgumentException",
        "int count(int) IllegalArgumentException",
        "int setting(int) IndexOutOfBoundsException",
        "int text(int) IllegalArgumentException",
        "int ifCircled(int int int) IndexOutOfBoundsException IllegalArgumentException",
        "int ifForgotten(int) IndexOutOfBoundsException",
        "int mainLesson()",
        "double tightShare()",
        "long digest()",
    };

    public static void main(String[] args) {
        CHECK.isTrue("the class is public and final",
            Modifier.isPublic(KernLessons.class.getModifiers()) && Modifier.isFinal(KernLessons.class.getModifiers()));
        Set<String> due = new TreeSet<>(Set.of(FACE));
        Set<String> names = new TreeSet<>();
        Set<String> found = new TreeSet<>();
        for (Method method : KernLessons.class.getDeclaredMethods()) {
            if (Modifier.isPublic(method.getModifiers())) {
                found.add(face(method));
                names.add(method.getName());
            } else {
                CHECK.isTrue("private: " + method, Modifier.isPrivate(method.getModifiers()));
            }
        }
        for (Method method : KernLessons.class.getDeclaredMethods()) {
            CHECK.isTrue("no private method has the name of a public one: " + method,
                Modifier.isPublic(method.getModifiers()) || !names.contains(method.getName()));
        }
        CHECK.isTrue("the methods are " + found + ", due are " + due, found.equals(due));
        fields();
        constructors();
        CHECK.done();
    }

    private static void fields() {
        for (Field field : KernLessons.class.getDeclaredFields()) {
            boolean constant = field.getName().equals("NONE") && field.getType() == int.class
                && field.getModifiers() == (Modifier.PUBLIC | Modifier.STATIC | Modifier.FINAL);
            CHECK.isTrue("private: " + field, constant || Modifier.isPrivate(field.getModifiers()));
            CHECK.isTrue("a constant of an allowed type: " + field, !Modifier.isStatic(field.getModifiers())
                || Modifier.isFinal(field.getModifiers()) && CONSTANT_TYPES.contains(field.getType()));
        }
    }

    private static void constructors() {
        Constructor<?>[] all = KernLessons.class.getDeclaredConstructors();
        CHECK.same("constructors", all.length, 1);
        CHECK.isTrue("it is public and takes nothing",
            Modifier.isPublic(all[0].getModifiers()) && all[0].getParameterCount() == 0);
    }

    private static String face(Method method) {
        StringBuilder text = new StringBuilder(method.getReturnType() + " " + method.getName() + "(");
        for (Class<?> type : method.getParameterTypes()) {
            text.append(text.charAt(text.length() - 1) == '(' ? "" : " ").append(type);
        }
        text.append(")");
        for (Class<?> type : method.getExceptionTypes()) {
            text.append(" ").append(type.getSimpleName());
        }
        return text.toString();
    }
}
