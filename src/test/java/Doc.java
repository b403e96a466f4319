import java.io.IOException;
import java.nio.file.Files;
import java.nio.file.Path;
import java.util.LinkedHashMap;
import java.util.Map;

/**
 * The document by its sections, so that a test can name the words it stands for: "Promise 1" to "Promise 47",
 * "Terms" (its first lines), "Terms 1" to "Terms 3", and the other headings as they are.
 */
final class Doc {
    private static final Path FILE = Path.of("../shared/DOC.md");
    private final Map<String, String> sections = new LinkedHashMap<>();
    private final Map<String, boolean[]> quoted = new LinkedHashMap<>();

    Doc() {
        try {
            for (String part : Files.readString(FILE).split("(?m)^## ")) {
                String[] headAndRest = part.split("\n", 2);
                take(headAndRest[0].split(":")[0], headAndRest.length > 1 ? headAndRest[1] : "");
            }
        } catch (IOException e) {
            throw new IllegalStateException(FILE + " can't be read", e);
        }
    }

    private void take(String heading, String text) {
        String[] parts = text.split("======== ");
        put(heading, parts[0]);
        for (int i = 1; i < parts.length; i++) {
            put(heading + " " + i, parts[i]);
        }
    }

    private void put(String heading, String text) {
        sections.put(heading, plain(text));
        quoted.put(heading, new boolean[plain(text).length()]);
    }

    private static String plain(String text) {
        return text.replaceAll("```(text|java)?", " ").replaceAll("\\s+", " ").trim();
    }

    /** Whether a section has these words; if so they count as quoted. */
    boolean quotes(String heading, String words) {
        String text = sections.getOrDefault(heading, "");
        int place = text.indexOf(words);
        for (int i = place; i >= 0 && i < place + words.length(); i++) {
            quoted.get(heading)[i] = true;
        }
        return place >= 0;
    }

    boolean hasQuote(String heading) {
        boolean is = false;
        for (boolean one : quoted.getOrDefault(heading, new boolean[0])) {
            is |= one;
        }
        return is;
    }

    /** What no test has quoted of the sections whose heading begins so, a line each. */
    String unquoted(String start) {
        StringBuilder left = new StringBuilder();
        for (Map.Entry<String, String> section : sections.entrySet()) {
            if (section.getKey().startsWith(start)) {
                left.append(section.getKey()).append(":").append(unquotedOf(section.getKey())).append('\n');
            }
        }
        return left.toString();
    }

    private String unquotedOf(String heading) {
        StringBuilder left = new StringBuilder();
        String text = sections.get(heading);
        boolean[] is = quoted.get(heading);
        for (int i = 0; i < is.length; i++) {
            if (!is[i]) {
                left.append(i == 0 || is[i - 1] ? " | " : "").append(text.charAt(i));
            }
        }
        return left.toString();
    }
}
