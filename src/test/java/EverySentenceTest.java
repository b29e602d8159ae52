import java.io.IOException;
import java.nio.file.DirectoryStream;
import java.nio.file.Files;
import java.nio.file.Path;
import java.util.ArrayList;
import java.util.List;
import java.util.regex.Matcher;
import java.util.regex.Pattern;

/**
 * That no sentence of the document is left without a test: each of its words must stand in the words with
 * which some test begins. Whether that is a good test can not be seen here.
 */
public final class EverySentenceTest {
    private static final Check CHECK = new Check("EverySentenceTest");
    private static final Path TESTS = Path.of("src/test/java");
    private static final Pattern BEGIN = Pattern.compile(
            "begin\\((\\w+(?:\\.\\w+)?),\\s*((?:\"[^\"]*\"[\\s+]*)+)\\)");
    // These leave something free, so that no answer can break them.
    private static final String[] FREE = {"what later calls answer is free."};
    // The first is code, which FaceTest compares line by line; the second leaves free all that it tells.
    private static final List<String> NOT_LOOKED_AT = List.of("The public face", "Not promised");

    public static void main(String[] args) throws IOException {
        Document document = Document.read();
        if (document == null) {
            return;
        }
        List<Document.Section> sections = document.sections();
        CHECK.due("sections", sections.size(), 25);
        List<boolean[]> marks = new ArrayList<>();
        for (Document.Section section : sections) {
            marks.add(new boolean[section.text.length()]);
        }
        markQuotes(sections, marks);
        for (int i = 0; i < sections.size(); i++) {
            if (!NOT_LOOKED_AT.contains(sections.get(i).title)) {
                lookForGaps(sections.get(i), marks.get(i));
            }
        }
        CHECK.end();
    }

    private static void markQuotes(List<Document.Section> sections, List<boolean[]> marks) throws IOException {
        try (DirectoryStream<Path> files = Files.newDirectoryStream(TESTS, "*Test.java")) {
            for (Path file : files) {
                Matcher begin = BEGIN.matcher(Files.readString(file));
                while (begin.find()) {
                    String words = begin.group(2).replaceAll("\"[\\s+]*\"", "").replaceAll("^\"|\"\\s*$", "");
                    mark(sections, marks, "Promise " + begin.group(1) + ":", words);
                }
            }
        }
        for (String words : FREE) {
            mark(sections, marks, "", words);
        }
    }

    // Words that stand with the promise itself are meant there, though others use the same.
    private static void mark(List<Document.Section> sections, List<boolean[]> marks, String own, String words) {
        int found = -1;
        int times = 0;
        for (int i = 0; i < sections.size(); i++) {
            Document.Section section = sections.get(i);
            int here = times(section.text, words);
            if (here > 0 && !own.isEmpty() && section.title.startsWith(own)) {
                found = i;
                times = here;
                break;
            }
            found = here > 0 ? i : found;
            times += here;
        }
        CHECK.due("places in the document where a test's words stand: " + own + " " + words, times, 1);
        if (found >= 0) {
            int from = sections.get(found).text.indexOf(words);
            for (int at = from; at < from + words.length(); at++) {
                marks.get(found)[at] = true;
            }
        }
    }

    private static int times(String text, String words) {
        int times = 0;
        for (int at = text.indexOf(words); at >= 0; at = text.indexOf(words, at + 1)) {
            times++;
        }
        return times;
    }

    private static void lookForGaps(Document.Section section, boolean[] marked) {
        int from = 0;
        for (int at = 0; at < section.text.length(); at++) {
            boolean last = at + 1 == section.text.length();
            boolean ends = ".;:".indexOf(section.text.charAt(at)) >= 0;
            if (last || ends && section.text.charAt(at + 1) == ' ') {
                lookAtPart(section, marked, from, at + 1);
                from = at + 1;
            }
        }
    }

    private static void lookAtPart(Document.Section section, boolean[] marked, int from, int to) {
        boolean isTested = true;
        for (int at = from; at < to; at++) {
            isTested &= marked[at] || !Character.isLetterOrDigit(section.text.charAt(at));
        }
        String part = section.text.substring(from, to).trim();
        CHECK.holds("tests begin with these words of \"" + section.title + "\": " + part, isTested);
    }
}
