import java.io.IOException;
import java.nio.file.Files;
import java.nio.file.Path;
import java.util.ArrayList;
import java.util.List;

/** The document, cut into its sections. Read from the project's folder. */
final class Document {
    /** What stands below a heading, in one line, without headings, fences and the calls' own lines in code. */
    static final class Section {
        final String title;
        final String text;

        Section(String title, String text) {
            this.title = title;
            this.text = text;
        }
    }

    private static final Path PATH = Path.of("../shared/DOC.md");

    private final String raw;

    private Document(String raw) {
        this.raw = raw;
    }

    /** Null where there is no document to be read. */
    static Document read() {
        try {
            return new Document(Files.readString(PATH));
        } catch (IOException e) {
            System.out.println("no document at " + PATH + ": what is compared with it is left out");
            return null;
        }
    }

    static String plain(String text) {
        return text.replaceAll("\\s+", " ").trim();
    }

    boolean has(String words) {
        return plain(raw).contains(plain(words));
    }

    /** The class as the document writes it down, line by line. */
    List<String> face() {
        int from = raw.indexOf("```java") + "```java".length();
        List<String> lines = new ArrayList<>();
        for (String line : raw.substring(from, raw.indexOf("```", from)).split("\n")) {
            if (!line.isBlank()) {
                lines.add(line.trim());
            }
        }
        return lines;
    }

    List<Section> sections() {
        List<Section> sections = new ArrayList<>();
        for (String part : raw.split("(?m)^## ")) {
            int end = part.indexOf('\n');
            if (end >= 0 && !part.startsWith("# ")) {
                sections.add(new Section(part.substring(0, end).trim(), plain(bare(part.substring(end)))));
            }
        }
        return sections;
    }

    private static String bare(String text) {
        return text.replaceAll("(?m)^```\\w*$", "").replaceAll("(?m)^=+ \\d ", "")
                .replaceAll("(?m)^`[^`]*`: ", "");
    }
}
