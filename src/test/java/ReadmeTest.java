import java.io.File;
import java.io.IOException;
import java.lang.reflect.Method;
import java.lang.reflect.Modifier;
import java.nio.file.Files;
import java.nio.file.Path;
import java.util.regex.Matcher;
import java.util.regex.Pattern;
import javax.tools.ToolProvider;

/** README.md's example compiles, uses every call, and answers what its comments say in front of the colon. */
public final class ReadmeTest {
    private static final Pattern BLOCK = Pattern.compile("(?s)```java\n(.*?)```");
    private static final Pattern ANSWERED = Pattern.compile("(?:int (\\w+) = )?(plans\\.\\w+\\(.*\\)); +// (-?\\d+): .*");

    public static void main(String[] args) throws Exception {
        String readme = Files.readString(Path.of("README.md"));
        Matcher block = BLOCK.matcher(readme);
        String example = block.find() ? block.group(1) : "";
        Expect.part("README.md, every call", () -> usesEveryCall(example));
        Expect.part("README.md, every test", () -> namesEveryTest(readme));
        Path build = Files.createTempDirectory("readme");
        try {
            run(example, build);
        } finally {
            clear(build);
        }
        Expect.end("ReadmeTest");
    }

    private static void usesEveryCall(String example) {
        for (Method m : WorkPlans.class.getDeclaredMethods()) {
            if (Modifier.isPublic(m.getModifiers())) {
                boolean used = example.contains("plans." + m.getName() + "(");
                Expect.same(m.getName() + "()", "true", Boolean.toString(used));
            }
        }
    }

    private static void namesEveryTest(String readme) {
        String[] files = Path.of("src", "test", "java").toFile().list();
        for (String file : files == null ? new String[0] : files) {
            if (file.endsWith("Test.java")) {
                String name = file.substring(0, file.length() - ".java".length());
                Expect.same(name, "true", Boolean.toString(readme.contains("`" + name + "`")));
            }
        }
    }

    /** In a machine of its own: its classes are then in the same package as Expect. */
    private static void run(String example, Path build) throws Exception {
        StringBuilder code = new StringBuilder("public class Example { public static void main(String[] args) {\n");
        example.lines().forEach(line -> code.append(expecting(line)).append('\n'));
        Path source = build.resolve("Example.java");
        Files.writeString(source, code.append("Expect.end(\"README.md's example\"); } }\n"));
        String classes = System.getProperty("java.class.path");
        int failed = ToolProvider.getSystemJavaCompiler().run(null, null, null,
            "-cp", classes, "-d", build.toString(), source.toString());
        Expect.answers("compiling README.md's example", 0, () -> failed);
        if (failed == 0) {
            String java = Path.of(System.getProperty("java.home"), "bin", "java").toString();
            int wrong = new ProcessBuilder(java, "-cp", classes + File.pathSeparator + build, "Example")
                .inheritIO().start().waitFor();
            Expect.answers("README.md's example", 0, () -> wrong);
        }
    }

    /** A line whose comment begins with a number and a colon becomes a look at that answer. */
    private static String expecting(String line) {
        Matcher m = ANSWERED.matcher(line);
        if (!m.matches()) {
            return line;
        }
        String kept = m.group(1);
        String look = "Expect.answers(\"" + m.group(2) + "\", " + m.group(3) + ", () -> " + (kept == null ? m.group(2) : kept) + ");";
        return kept == null ? look : "int " + kept + " = " + m.group(2) + "; " + look;
    }

    private static void clear(Path build) throws IOException {
        String[] names = build.toFile().list();
        for (String name : names == null ? new String[0] : names) {
            Files.delete(build.resolve(name));
        }
        Files.delete(build);
    }
}
