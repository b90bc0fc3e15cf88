import java.io.IOException;
import java.io.UncheckedIOException;
import java.nio.file.Files;
import java.nio.file.Path;
import java.util.ArrayList;
import java.util.Arrays;
import java.util.LinkedHashMap;
import java.util.List;
import java.util.Map;

/**
 * The sentences of the document, and which of them were named. A test names the sentence that it holds by the
 * heading above it and its words, which have to stand there once; what differs in spaces and line ends is the same.
 */
final class Sentences {
    private static final Path DOCUMENT = Path.of("../shared/DOC.md");
    private static final String LAST_HEADING = "Not promised";

    /** This heading of the document has no sign in front of it. */
    private static final String PLAIN_HEADING = "Graphics state, matrices and paths";

    private static final Map<String, String> SECTIONS = read();
    private static final Map<String, boolean[]> NAMED = new LinkedHashMap<>();

    private static final List<String> HELD = new ArrayList<>();

    private Sentences() { }

    private static Map<String, String> read() {
        Map<String, StringBuilder> sections = new LinkedHashMap<>();
        String heading = "";
        try {
            for (String line : Files.readAllLines(DOCUMENT)) {
                if (line.startsWith("#") || line.equals(PLAIN_HEADING)) {
                    heading = line.replaceFirst("^#+ ", "");
                } else {
                    sections.computeIfAbsent(heading, h -> new StringBuilder()).append(line).append(' ');
                }
            }
        } catch (IOException e) {
            throw new UncheckedIOException(e);
        }
        Map<String, String> plain = new LinkedHashMap<>();
        sections.forEach((h, text) -> plain.put(h, text.toString().replaceAll("\\s+", " ")));
        return plain;
    }

    /** Begins the test of a sentence: the comparisons that follow hold it. */
    static void held(String heading, String words) {
        name(heading, words);
        HELD.add(Check.about());
    }

    /** All sentences that a test holds. */
    static List<String> allHeld() {
        return HELD;
    }

    /** Says of some words that they name no boundary. */
    static void plain(String heading, String words) {
        name(heading, words);
    }

    /** Says that nothing under a heading, from some words on, names a boundary. */
    static void plainFrom(String heading, String words) {
        String text = SECTIONS.getOrDefault(heading, "");
        name(heading, text.substring(Math.max(0, text.indexOf(words))));
    }

    private static void name(String heading, String words) {
        Check.about(heading + " | " + words);
        String text = SECTIONS.getOrDefault(heading, "");
        int at = text.indexOf(words);
        Check.due("places of these words in the document", 1, at < 0 ? 0 : text.indexOf(words, at + 1) < 0 ? 1 : 2);
        if (at >= 0) {
            boolean[] named = NAMED.computeIfAbsent(heading, h -> new boolean[text.length()]);
            Arrays.fill(named, at, at + words.length(), true);
        }
    }

    /** Every word of the document was named, up to what is not promised. */
    static void allWereNamed() {
        for (Map.Entry<String, String> section : SECTIONS.entrySet()) {
            String heading = section.getKey();
            if (heading.equals(LAST_HEADING)) {
                break;
            }
            Check.about(heading);
            Check.due("words that no test named: " + missing(heading, section.getValue()), 0,
                    missing(heading, section.getValue()).length());
        }
    }

    private static String missing(String heading, String text) {
        boolean[] named = NAMED.getOrDefault(heading, new boolean[text.length()]);
        StringBuilder missing = new StringBuilder();
        for (int i = 0; i < text.length(); i++) {
            if (!named[i] && Character.isLetterOrDigit(text.charAt(i))) {
                missing.append(i > 0 && text.charAt(i - 1) == ' ' ? " " : "").append(text.charAt(i));
            }
        }
        return missing.toString().trim();
    }
}
