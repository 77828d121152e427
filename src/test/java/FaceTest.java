import java.lang.reflect.Constructor;
import java.lang.reflect.Field;
import java.lang.reflect.Method;
import java.lang.reflect.Modifier;
import java.util.Arrays;
import java.util.Set;
import java.util.TreeSet;
import java.util.stream.Collectors;

/** The class shows each line of the document's face, and nothing else. */
public final class FaceTest {
    private static final String SECTION = "The public face";
    private static final String[] METHODS = {
        "public int machine(int kind) throws IllegalArgumentException, IllegalStateException;",
        "public int out(int machine, int from, int to)"
            + " throws IndexOutOfBoundsException, IllegalArgumentException, IllegalStateException;",
        "public int job(int due, int weight) throws IllegalArgumentException, IllegalStateException;",
        "public void due(int job, int due) throws IndexOutOfBoundsException, IllegalArgumentException;",
        "public int step(int job, int kind, int hours, int wait)"
            + " throws IndexOutOfBoundsException, IllegalArgumentException, IllegalStateException;",
        "public int run(int nodes) throws IllegalArgumentException, IllegalStateException;",
        "public int improve(int n) throws IllegalArgumentException, IllegalStateException;",
        "public int at(int step, int what) throws IndexOutOfBoundsException, IllegalStateException;",
        "public int order(int k) throws IllegalStateException, IndexOutOfBoundsException;",
        "public long about(int what) throws IndexOutOfBoundsException, IllegalStateException;",
        "public long alone(int job) throws IndexOutOfBoundsException, IllegalStateException;",
        "public int promise(int job) throws IndexOutOfBoundsException, IllegalStateException;",
        "public int clash(int k) throws IllegalArgumentException, IllegalStateException;",
        "public int check() throws IllegalStateException;",
    };

    public static void main(String[] args) {
        Sentences document = new Sentences(SECTION);
        document.more(1, SECTION, "public final class WorkPlans {", FaceTest::theClass);
        document.more(1, SECTION, "public static final int NONE = -1;", FaceTest::theConstant);
        document.more(1, SECTION, "public WorkPlans(int seed);", FaceTest::theConstructor);
        Set<String> shown = shownMethods();
        for (int i = 0; i < METHODS.length; i++) {
            String line = withoutNames(METHODS[i]);
            document.more(2 + i, SECTION, METHODS[i],
                () -> Expect.same("the class shows it", "true", Boolean.toString(shown.remove(line))));
        }
        Expect.part("Promise 1 (" + SECTION + ")", () -> Expect.same("shown beside it", "[]", shown.toString()));
        document.end("FaceTest");
    }

    private static void theClass() {
        Expect.same("the class", "public final", Modifier.toString(WorkPlans.class.getModifiers()));
        Expect.same("what it extends", "Object", WorkPlans.class.getSuperclass().getSimpleName());
        Expect.answers("what it implements", 0, () -> WorkPlans.class.getInterfaces().length);
        Expect.same("its package", "", WorkPlans.class.getPackageName());
    }

    private static void theConstant() {
        Set<String> shown = new TreeSet<>();
        for (Field f : WorkPlans.class.getDeclaredFields()) {
            if (!Modifier.isPrivate(f.getModifiers())) {
                shown.add(Modifier.toString(f.getModifiers()) + " " + f.getType() + " " + f.getName());
            }
        }
        Expect.same("all fields that are shown", "[public static final int NONE]", shown.toString());
        Expect.answers("its number", -1, () -> WorkPlans.NONE);
    }

    private static void theConstructor() {
        Set<String> shown = new TreeSet<>();
        for (Constructor<?> c : WorkPlans.class.getDeclaredConstructors()) {
            shown.add(Modifier.toString(c.getModifiers()) + "(" + names(c.getParameterTypes()) + ")"
                + names(c.getExceptionTypes()));
        }
        Expect.same("all constructors", "[public(int)]", shown.toString());
    }

    private static Set<String> shownMethods() {
        Set<String> shown = new TreeSet<>();
        for (Method m : WorkPlans.class.getDeclaredMethods()) {
            if (!Modifier.isPrivate(m.getModifiers())) {
                shown.add(Modifier.toString(m.getModifiers()) + " " + m.getReturnType().getSimpleName() + " "
                    + m.getName() + "(" + names(m.getParameterTypes()) + ") throws " + names(m.getExceptionTypes()) + ";");
            }
        }
        return shown;
    }

    /** Compiled classes do not hold the names of parameters. */
    private static String withoutNames(String line) {
        return line.replaceAll("int \\w+([,)])", "int$1");
    }

    private static String names(Class<?>[] types) {
        return Arrays.stream(types).map(Class::getSimpleName).collect(Collectors.joining(", "));
    }
}
