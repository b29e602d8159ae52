import java.io.IOException;
import java.lang.reflect.Field;
import java.lang.reflect.Method;
import java.lang.reflect.Modifier;
import java.nio.file.Files;
import java.nio.file.Path;
import java.util.List;
import java.util.Set;
import java.util.regex.Matcher;
import java.util.regex.Pattern;

/** Those rules of LANGUAGE.md that can be seen in the text of the class. Runs in the project's folder. */
public final class LanguageTest {
    private static final Check CHECK = new Check("LanguageTest");
    private static final String[] NEVER = {"throw", "throws", "try", "catch", "synchronized", "assert", "import",
        "package", "equals", "hashCode", "toString", "protected", "\\w*Exact", "var", "volatile", "native", "while",
        "do", "double", "float", "instanceof", "String", "Integer", "Object"};
    // Of all that the rules leave, the class needs but this.
    private static final Set<String> LIBRARY = Set.of("Math.abs", "Math.max", "Math.floorDiv", "System.arraycopy");
    private static final int LONGEST_METHOD = 60;
    private static final int MOST_PARAMETERS = 7;
    private static final int MOST_CLASSES = 12;
    private static final int MOST_FIELDS = 20;

    public static void main(String[] args) throws IOException {
        Path path = Path.of("src/main/java/JobSpread.java");
        String code = Files.readString(path).replaceAll("//[^\n]*", "").replaceAll("(?s)/\\*.*?\\*/", "");
        for (String word : NEVER) {
            CHECK.holds("the word is not there: " + word, !has(code, "\\b" + word + "\\b"));
        }
        CHECK.holds("no lambda", !code.contains("->"));
        CHECK.holds("no method reference", !code.contains("::"));
        CHECK.holds("no endless loop", !has(code, "while\\s*\\(\\s*true|for\\s*\\([^;]*;\\s*;"));
        CHECK.holds("static fields are final", !has(code, "\\bstatic\\s+(?!final)\\w+(\\[\\])?\\s+\\w+\\s*[=;]"));
        CHECK.holds("no static block", !has(code, "\\bstatic\\s*\\{"));
        CHECK.holds("classes inside are static", !has(code, "private\\s+(final\\s+)?class"));
        CHECK.holds("signs up to 126 alone", code.chars().allMatch(sign -> sign < 127));
        methodsAreShort(Files.readAllLines(path));
        privateNamesAreOther(code);
        libraryIsKnown(code);
        noCallMakesAnObject(code);
        loopsCount(code);
        classesAreSmall();
        CHECK.end();
    }

    private static boolean has(String code, String pattern) {
        return Pattern.compile(pattern).matcher(code).find();
    }

    private static void methodsAreShort(List<String> lines) {
        int start = -1;
        for (int i = 0; i < lines.size(); i++) {
            String line = lines.get(i);
            if (line.matches("( {4}| {8})(public|private) .*\\) \\{")) {
                start = i;
            }
            if (start >= 0 && line.matches("( {4}| {8})\\}")) {
                CHECK.holds("short: " + lines.get(start).trim(), i - start < LONGEST_METHOD);
                start = -1;
            }
        }
    }

    private static void privateNamesAreOther(String code) {
        Matcher open = Pattern.compile("public (?:int|long) (\\w+)\\(").matcher(code);
        while (open.find()) {
            String name = open.group(1);
            CHECK.holds("no private method bears the name " + name,
                    !has(code, "private (static )?\\w+ " + name + "\\("));
        }
    }

    private static void libraryIsKnown(String code) {
        Matcher use = Pattern.compile("\\b[A-Z][a-z]\\w*\\.\\w+").matcher(code);
        while (use.find()) {
            CHECK.holds("of the library: " + use.group(), LIBRARY.contains(use.group()));
        }
    }

    // All calls of one run live in one room: what a call would make, many calls would make many times.
    private static void noCallMakesAnObject(String code) {
        for (String line : code.split("\n")) {
            if (has(line, "\\bnew\\b")) {
                CHECK.holds("made with the object: " + line.trim(),
                        line.matches(" +private final \\S+ \\w+ = new [^;]*;\\s*"));
            }
        }
    }

    // A counter against a bound, which goes on by a fixed step, stands in the loop's own line.
    private static void loopsCount(String code) {
        Matcher loop = Pattern.compile("for \\(.*").matcher(code);
        while (loop.find()) {
            CHECK.holds("counts: " + loop.group(), loop.group().matches(
                    "for \\(int (\\w+) = [^;]+; \\1( \\+ \\w+)? <=? [^;]+; \\1(\\+\\+| \\+= [A-Z_]+)\\) \\{"));
        }
    }

    private static void classesAreSmall() {
        Class<?>[] inside = JobSpread.class.getDeclaredClasses();
        CHECK.holds("few classes", inside.length < MOST_CLASSES);
        classIsSmall(JobSpread.class);
        for (Class<?> one : inside) {
            classIsSmall(one);
        }
    }

    private static void classIsSmall(Class<?> one) {
        int fields = 0;
        for (Field field : one.getDeclaredFields()) {
            boolean isStatic = Modifier.isStatic(field.getModifiers());
            fields += isStatic ? 0 : 1;
            CHECK.holds(field + " is a constant, if static", !isStatic
                    || Modifier.isFinal(field.getModifiers()) && field.getType() == int.class);
        }
        CHECK.holds(one + " has few fields", fields <= MOST_FIELDS);
        for (Method method : one.getDeclaredMethods()) {
            CHECK.holds(method + " takes few", method.getParameterCount() <= MOST_PARAMETERS);
        }
    }
}
