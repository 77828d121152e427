import java.io.IOException;
import java.lang.reflect.Field;
import java.lang.reflect.Method;
import java.lang.reflect.Modifier;
import java.nio.file.Files;
import java.nio.file.Path;
import java.util.ArrayList;
import java.util.List;
import java.util.Set;
import java.util.TreeSet;
import java.util.regex.Matcher;
import java.util.regex.Pattern;

/** The rules of LANGUAGE.md that can be seen from the program's text and its compiled classes. */
public final class LanguageTest {
    private static final Path PROGRAM = Path.of("src", "main", "java", "WorkPlans.java");
    private static final String OWN = "WorkPlans(\\$\\w+)?";
    private static final String FIELDS = "int|long|boolean|int\\[\\]|long\\[\\]|boolean\\[\\]|" + OWN;

    private static final List<Class<?>> CLASSES = new ArrayList<>();
    private static String code;

    public static void main(String[] args) throws IOException {
        CLASSES.add(WorkPlans.class);
        CLASSES.addAll(List.of(WorkPlans.class.getDeclaredClasses()));
        code = withoutWords(Files.readString(PROGRAM));
        Expect.part("Rule 1", LanguageTest::nestedAreHidden);
        Expect.part("Rule 1, names", LanguageTest::noPrivateBearsPublicName);
        Expect.part("Rule 2", () -> hasNone("->", "::", "\\bnew \\w+\\([^)]*\\) *\\{"));
        Expect.part("Rule 3", LanguageTest::fieldTypes);
        Expect.part("Rule 4", LanguageTest::library);
        Expect.part("Rule 5", LanguageTest::staticFields);
        Expect.part("Rule 6", LanguageTest::exceptions);
        Expect.part("Rule 11", LanguageTest::sizes);
        Expect.end("LanguageTest");
    }

    /** Comments and written texts may say anything. */
    private static String withoutWords(String text) {
        return text.replaceAll("(?s)/\\*.*?\\*/", "").replaceAll("//[^\n]*", "").replaceAll("\"[^\"\n]*\"", "\"\"");
    }

    private static Set<String> found(String pattern) {
        Set<String> all = new TreeSet<>();
        Matcher m = Pattern.compile(pattern).matcher(code);
        while (m.find()) {
            all.add(m.group());
        }
        return all;
    }

    private static void hasNone(String... patterns) {
        for (String pattern : patterns) {
            Expect.same("found of " + pattern, "[]", found(pattern).toString());
        }
    }

    private static void nestedAreHidden() {
        for (Class<?> c : WorkPlans.class.getDeclaredClasses()) {
            int modifiers = c.getModifiers();
            boolean hidden = !Modifier.isPublic(modifiers) && !Modifier.isProtected(modifiers);
            Expect.same(c + " is hidden", "true", Boolean.toString(hidden));
            Expect.same(c + " is static", "true", Boolean.toString(Modifier.isStatic(modifiers)));
        }
        hasNone("(?m)^(package|import)\\b.*");
    }

    private static void noPrivateBearsPublicName() {
        Set<String> shown = new TreeSet<>();
        for (Method m : WorkPlans.class.getDeclaredMethods()) {
            if (Modifier.isPublic(m.getModifiers())) {
                shown.add(m.getName());
            }
        }
        for (Class<?> c : CLASSES) {
            for (Method m : c.getDeclaredMethods()) {
                boolean twice = !Modifier.isPublic(m.getModifiers()) && shown.contains(m.getName());
                Expect.same(m + " bears a public name", "false", Boolean.toString(twice));
            }
        }
    }

    private static void fieldTypes() {
        for (Class<?> c : CLASSES) {
            for (Field f : c.getDeclaredFields()) {
                boolean allowed = f.getType().getTypeName().matches(FIELDS);
                Expect.same(f + " is of a type that the program needs", "true", Boolean.toString(allowed));
            }
        }
    }

    private static void library() {
        Expect.same("what is called of the library", "[System.arraycopy]", found("\\b[A-Z]\\w*[a-z]\\w*\\.[a-z]\\w*").toString());
        hasNone("\\bjava\\.", "\\w+Exact\\b", "\\.(equals|hashCode|toString|getClass|clone)\\b");
    }

    private static void staticFields() {
        for (Class<?> c : CLASSES) {
            for (Field f : c.getDeclaredFields()) {
                if (Modifier.isStatic(f.getModifiers())) {
                    boolean constant = Modifier.isFinal(f.getModifiers()) && f.getType().isPrimitive();
                    Expect.same(f + " is a constant", "true", Boolean.toString(constant));
                }
            }
        }
        hasNone("\\bstatic\\s*\\{");
    }

    private static void exceptions() {
        hasNone("\\b(try|catch|finally|assert|synchronized|instanceof)\\b",
            "\\bthrow\\b(?! new (IllegalState|IllegalArgument|IndexOutOfBounds)Exception\\(\"\"\\);)");
        Expect.same("a throw is seen", "true", Boolean.toString(!found("\\bthrow new\\b").isEmpty()));
    }

    private static void sizes() {
        Expect.same("at most twelve classes", "true", Boolean.toString(CLASSES.size() <= 12));
        for (Class<?> c : CLASSES) {
            int fields = 0;
            for (Field f : c.getDeclaredFields()) {
                fields += Modifier.isStatic(f.getModifiers()) ? 0 : 1;
            }
            Expect.same(c + " has at most twenty fields", "true", Boolean.toString(fields <= 20));
            for (Method m : c.getDeclaredMethods()) {
                Expect.same(m + " takes at most seven", "true", Boolean.toString(m.getParameterCount() <= 7));
            }
        }
        Matcher m = Pattern.compile("(?m)^(    |        )(?! )(?!.*\\bclass\\b)[^\\n]*\\([^{}]*\\{\\n(?s:.*?)^\\1\\}").matcher(code);
        int methods = 0;
        while (m.find()) {
            methods++;
            long lines = m.group().lines().count();
            Expect.same(m.group().lines().findFirst() + " is short", "true", Boolean.toString(lines <= 60));
        }
        Expect.same("methods are seen", "true", Boolean.toString(methods >= 14));
    }
}
