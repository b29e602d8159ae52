import java.io.IOException;
import java.nio.file.Files;
import java.nio.file.Path;
import java.util.List;
import java.util.regex.Matcher;
import java.util.regex.Pattern;

/** Those rules of LANGUAGE.md that can be seen in the text of the class. Runs in the project's folder. */
public final class LanguageTest {
    private static final Check CHECK = new Check("LanguageTest");
    private static final String[] NEVER = {"throw", "throws", "try", "catch", "synchronized", "assert", "import",
        "package", "equals", "hashCode", "toString", "protected", "\\w*Exact", "var", "volatile", "native"};
    private static final int LONGEST_METHOD = 60;

    public static void main(String[] args) throws IOException {
        Path path = Path.of("src/main/java/JobSpread.java");
        String code = Files.readString(path).replaceAll("//[^\n]*", "").replaceAll("(?s)/\\*.*?\\*/", "");
        for (String word : NEVER) {
            CHECK.holds("the word is not there: " + word, !has(code, "\\b" + word + "\\b"));
        }
        CHECK.holds("no lambda", !code.contains("->"));
        CHECK.holds("no method reference", !code.contains("::"));
        CHECK.holds("no endless loop", !has(code, "while\\s*\\(\\s*true|for\\s*\\([^;]*;\\s*;"));
        CHECK.holds("static fields are final", !has(code, "\\bstatic\\s+(?!final)\\w+(\\[\\])?\\s+\\w+\\s*[=;]"));
        CHECK.holds("no static block", !has(code, "\\bstatic\\s*\\{"));
        CHECK.holds("classes inside are static", !has(code, "private\\s+(final\\s+)?class"));
        methodsAreShort(Files.readAllLines(path));
        privateNamesAreOther(code);
        CHECK.end();
    }

    private static boolean has(String code, String pattern) {
        return Pattern.compile(pattern).matcher(code).find();
    }

    private static void methodsAreShort(List<String> lines) {
        int start = -1;
        for (int i = 0; i < lines.size(); i++) {
            String line = lines.get(i);
            if (line.matches("( {4}| {8})(public|private) .*\\) \\{")) {
                start = i;
            }
            if (start >= 0 && line.matches("( {4}| {8})\\}")) {
                CHECK.holds("short: " + lines.get(start).trim(), i - start < LONGEST_METHOD);
                start = -1;
            }
        }
    }

    private static void privateNamesAreOther(String code) {
        Matcher open = Pattern.compile("public (?:int|long) (\\w+)\\(").matcher(code);
        while (open.find()) {
            String name = open.group(1);
            CHECK.holds("no private method bears the name " + name,
                    !has(code, "private (static )?\\w+ " + name + "\\("));
        }
    }
}
