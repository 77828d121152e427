import java.io.IOException;
import java.nio.file.Files;
import java.nio.file.Path;
import java.util.LinkedHashMap;
import java.util.Map;

/**
 * Tests by sentences of the document. A sentence is quoted as it stands there, so that a test cannot
 * name one that is not there; and what no test quotes is told as wrong.
 */
final class Sentences {
    private static final Path DOCUMENT = Path.of("..", "shared", "DOC.md");

    private final Map<String, StringBuilder> unquoted = new LinkedHashMap<>();
    private final boolean found;

    /** Reads the sections whose names begin with one of these. */
    Sentences(String... names) {
        found = Files.isRegularFile(DOCUMENT);
        if (!found) {
            System.out.println("no " + DOCUMENT + " here: sentences are tested, but not looked up");
            return;
        }
        StringBuilder section = new StringBuilder();
        for (String line : read().split("\n")) {
            if (line.startsWith("## ")) {
                section = new StringBuilder();
                String name = line.substring(3);
                for (String wanted : names) {
                    if (name.startsWith(wanted)) {
                        unquoted.put(name, section);
                    }
                }
            } else {
                section.append(line).append('\n');
            }
        }
    }

    private static String read() {
        try {
            return Files.readString(DOCUMENT);
        } catch (IOException e) {
            throw new IllegalStateException(e);
        }
    }

    /** A sentence of a promise's own section. */
    void promise(int number, String sentence, Runnable test) {
        hold("Promise " + number, "Promise " + number + ":", sentence, test);
    }

    /** A sentence of another section that says more of a promise. */
    void more(int number, String section, String sentence, Runnable test) {
        hold("Promise " + number + " (" + section + ")", section, sentence, test);
    }

    private void hold(String name, String section, String sentence, Runnable test) {
        String title = name + " '" + sentence + "'";
        if (found) {
            Expect.same(title + " looked up", "found", quote(section, sentence) ? "found" : "not found");
        }
        Expect.part(title, test);
    }

    /** Takes the sentence out of what is left to be quoted: there is one test for each. */
    private boolean quote(String name, String sentence) {
        for (Map.Entry<String, StringBuilder> e : unquoted.entrySet()) {
            int at = e.getKey().startsWith(name) ? e.getValue().indexOf(sentence) : -1;
            if (at >= 0) {
                e.getValue().replace(at, at + sentence.length(), "\n");
                return true;
            }
        }
        return false;
    }

    void end(String name) {
        for (Map.Entry<String, StringBuilder> e : unquoted.entrySet()) {
            String left = e.getValue().toString().replaceAll("```(text|java)?|`[^`]*`:?", "");
            for (String piece : left.split("\n")) {
                if (piece.matches(".*[A-Za-z0-9].*")) {
                    Expect.same(e.getKey() + ": '" + piece.strip() + "'", "a test", "none");
                }
            }
        }
        Expect.end(name);
    }
}
