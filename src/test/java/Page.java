import java.io.IOException;
import java.nio.file.Files;
import java.nio.file.Path;
import java.util.ArrayList;
import java.util.List;
import java.util.Map;
import java.util.TreeMap;

/** A page of Markdown, such as the document or README.md, by its headings. */
final class Page {
    private static final Path DOCUMENT = Path.of("..", "shared", "DOC.md");
    private static final Path README = Path.of("README.md");
    private static final String FENCE = "```";

    private final Map<String, List<String>> sections = new TreeMap<>();

    private Page(Path file) {
        String section = "";
        for (String line : linesOf(file)) {
            if (line.startsWith("## ")) {
                // "## Promise 3: write" is the section "Promise 3"
                section = line.substring(3).split(":")[0];
            }
            sections.computeIfAbsent(section, any -> new ArrayList<>()).add(line);
        }
    }

    static Page ofDocument() {
        return new Page(DOCUMENT);
    }

    static Page ofReadme() {
        return new Page(README);
    }

    private static List<String> linesOf(Path file) {
        try {
            return Files.readAllLines(file);
        } catch (IOException e) {
            throw new IllegalStateException(file + " cannot be read: " + e);
        }
    }

    /** None if the page has no such heading. */
    List<String> section(String name) {
        return sections.getOrDefault(name, List.of());
    }

    /** The first block of this kind under the heading, such as what stands between ```java and ```. */
    String block(String section, String kind) {
        StringBuilder text = new StringBuilder();
        boolean inside = false;
        for (String line : section(section)) {
            if (inside && line.equals(FENCE)) {
                return text.toString();
            }
            if (inside) {
                text.append(line).append('\n');
            }
            inside = inside || line.equals(FENCE + kind);
        }
        throw new IllegalStateException("no block of " + kind + " under " + section);
    }
}
