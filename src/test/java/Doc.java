import java.io.IOException;
import java.nio.file.Files;
import java.nio.file.Path;
import java.util.LinkedHashMap;
import java.util.Map;

/** The document, by its headings. */
final class Doc {
    private static final Path DOCUMENT = Path.of("../shared/DOC.md");

    private Doc() {
    }

    /** Each heading with what stands below it. */
    static Map<String, String> sections() throws IOException {
        Map<String, String> sections = new LinkedHashMap<>();
        for (String section : Files.readString(DOCUMENT).split("(?m)^## ")) {
            int end = section.indexOf('\n');
            sections.put(section.substring(0, end), section.substring(end));
        }
        return sections;
    }
}
