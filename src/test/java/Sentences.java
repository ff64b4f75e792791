import java.io.IOException;
import java.io.UncheckedIOException;
import java.nio.file.Files;
import java.nio.file.Path;
import java.util.Map;
import java.util.TreeMap;

/** Ties each test to the sentence of the document that it tests, which must stand there in these words. */
final class Sentences {
    private static final Map<String, String> SECTIONS = sections();

    private Sentences() {
    }

    /** Runs the test of a sentence of the section, such as "Terms" or "Promise 3". */
    static void holds(String section, String sentence, Runnable test) {
        Due.about(section + ", \"" + sentence + "\": ");
        Due.due("it stands in the document", section(section).contains(sentence));
        int before = Due.askedSoFar();
        try {
            test.run();
        } catch (RuntimeException thrown) {
            Due.due("a call threw " + thrown, false);
        }
        Due.due("its test asks for answers", Due.askedSoFar() > before);
        Due.about("");
    }

    /** What stands under the heading, or under its part before a colon. */
    static String section(String heading) {
        return SECTIONS.getOrDefault(heading, "");
    }

    private static Map<String, String> sections() {
        Map<String, String> sections = new TreeMap<>();
        for (String section : document().split("\n## ")) {
            String heading = section.lines().findFirst().orElse("");
            sections.put(heading.split(":")[0], section.substring(heading.length()));
        }
        return sections;
    }

    private static String document() {
        try {
            return Files.readString(Path.of("..", "shared", "DOC.md"));
        } catch (IOException e) {
            throw new UncheckedIOException(e);
        }
    }
}
