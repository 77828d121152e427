import java.lang.reflect.Constructor;
import java.lang.reflect.Field;
import java.lang.reflect.Method;
import java.lang.reflect.Modifier;
import java.util.Arrays;
import java.util.Set;
import java.util.TreeSet;
import java.util.stream.Collectors;

/** The class shows what the document's face has, and nothing else. */
public final class FaceTest {
    private static final String[] METHODS = {
        "int machine(int) IllegalArgumentException IllegalStateException",
        "int out(int int int) IndexOutOfBoundsException IllegalArgumentException IllegalStateException",
        "int job(int int) IllegalArgumentException IllegalStateException",
        "void due(int int) IndexOutOfBoundsException IllegalArgumentException",
        "int step(int int int int) IndexOutOfBoundsException IllegalArgumentException IllegalStateException",
        "int run(int) IllegalArgumentException IllegalStateException",
        "int improve(int) IllegalArgumentException IllegalStateException",
        "int at(int int) IndexOutOfBoundsException IllegalStateException",
        "int order(int) IllegalStateException IndexOutOfBoundsException",
        "long about(int) IndexOutOfBoundsException IllegalStateException",
        "long alone(int) IndexOutOfBoundsException IllegalStateException",
        "int promise(int) IndexOutOfBoundsException IllegalStateException",
        "int clash(int) IllegalArgumentException IllegalStateException",
        "int check() IllegalStateException",
    };

    public static void main(String[] args) {
        Set<String> methods = new TreeSet<>();
        for (Method m : WorkPlans.class.getDeclaredMethods()) {
            if (!Modifier.isPrivate(m.getModifiers())) {
                methods.add(m.getReturnType().getSimpleName() + " " + m.getName() + "("
                    + names(m.getParameterTypes()) + ") " + names(m.getExceptionTypes()));
            }
        }
        Expect.same("methods", new TreeSet<>(Arrays.asList(METHODS)).toString(), methods.toString());

        Set<String> fields = new TreeSet<>();
        for (Field f : WorkPlans.class.getDeclaredFields()) {
            if (!Modifier.isPrivate(f.getModifiers())) {
                fields.add(Modifier.toString(f.getModifiers()) + " " + f.getType() + " " + f.getName());
            }
        }
        Expect.same("fields", "[public static final int NONE]", fields.toString());
        Expect.answers("NONE", -1, () -> WorkPlans.NONE);

        Set<String> constructors = new TreeSet<>();
        for (Constructor<?> c : WorkPlans.class.getDeclaredConstructors()) {
            constructors.add(Modifier.toString(c.getModifiers()) + "(" + names(c.getParameterTypes()) + ")");
        }
        Expect.same("constructors", "[public(int)]", constructors.toString());
        Expect.same("the class", "public final", Modifier.toString(WorkPlans.class.getModifiers()));
        Expect.end("FaceTest");
    }

    private static String names(Class<?>[] types) {
        return Arrays.stream(types).map(Class::getSimpleName).collect(Collectors.joining(" "));
    }
}
