import java.io.IOException;
import java.io.UncheckedIOException;
import java.nio.file.Files;
import java.nio.file.Path;
import java.util.Arrays;
import java.util.List;
import java.util.Map;
import java.util.TreeMap;

/**
 * The document's own words. A test of a sentence quotes it first; at the end no word of the terms and of the promises
 * may be left that no test has quoted, so that a sentence can't be forgotten.
 */
final class Doc {
    private static final Path PLACE = Path.of("../shared/DOC.md");
    private static final Map<String, String> SECTIONS = read();
    private static final Map<String, boolean[]> QUOTED = new TreeMap<>();

    private Doc() {
    }

    /** Begins a test of these words, which the document must say in this section. */
    static void says(String section, String words) {
        String text = SECTIONS.getOrDefault(section, "");
        int at = text.indexOf(words);
        if (at < 0) {
            Check.tell("the document does not say in " + section + ": " + words);
            return;
        }
        boolean[] quoted = QUOTED.computeIfAbsent(section, s -> new boolean[text.length()]);
        Arrays.fill(quoted, at, at + words.length(), true);
    }

    static void tellWhatNoTestQuoted() {
        tellUnquoted("Terms");
        for (int promise = 1; promise <= 11; promise++) {
            tellUnquoted("Promise " + promise);
        }
    }

    private static void tellUnquoted(String section) {
        String text = SECTIONS.getOrDefault(section, "");
        boolean[] quoted = QUOTED.getOrDefault(section, new boolean[text.length()]);
        StringBuilder left = new StringBuilder();
        for (int i = 0; i < text.length(); i++) {
            left.append(quoted[i] ? ' ' : text.charAt(i));
        }
        if (text.isEmpty() || !left.toString().isBlank()) {
            Check.tell("no test quotes in " + section + ": " + left.toString().trim().replaceAll("\\s+", " "));
        }
    }

    /** The text of each section by its title up to a colon; the line of the face in a promise is left to FaceTest. */
    private static Map<String, String> read() {
        Map<String, String> sections = new TreeMap<>();
        String title = "";
        for (String line : lines()) {
            if (line.startsWith("## ")) {
                title = line.substring(3).split(":")[0].trim();
            } else if (!line.startsWith("```")) {
                String text = line.replaceFirst("^`[^`]*`: ", "");
                sections.merge(title, text, (before, more) -> (before + " " + more).replaceAll("\\s+", " "));
            }
        }
        return sections;
    }

    static List<String> lines() {
        return linesOf(PLACE);
    }

    static List<String> linesOf(Path place) {
        try {
            return Files.readAllLines(place);
        } catch (IOException e) {
            throw new UncheckedIOException(e);
        }
    }
}
