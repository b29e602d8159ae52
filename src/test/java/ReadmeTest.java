import java.io.IOException;
import java.lang.reflect.Method;
import java.nio.file.DirectoryStream;
import java.nio.file.Files;
import java.nio.file.Path;
import java.util.regex.Matcher;
import java.util.regex.Pattern;

/** README.md: its example answers as it says, and each call and each test stands there. */
public final class ReadmeTest {
    private static final Check CHECK = new Check("ReadmeTest");
    private static final Path README = Path.of("README.md");
    private static final Path SOURCE = Path.of("src/main/java/JobSpread.java");
    private static final Path TESTS = Path.of("src/test/java");
    private static final Pattern EXAMPLE = Pattern.compile("net\\.(\\w+\\(.*?\\));\\s+// (-?\\d+)");
    private static final Pattern CALL = Pattern.compile("public (?:int|long) (\\w+)\\(([^)]*)\\) \\{");
    private static final int CALLS = 20;

    public static void main(String[] args) throws IOException, ReflectiveOperationException {
        String text = Files.readString(README);
        example(text);
        calls(text);
        constants(text);
        tests(text);
        CHECK.end();
    }

    private static void example(String text) {
        JobSpread net = new JobSpread();
        Matcher line = EXAMPLE.matcher(text);
        int lines = 0;
        while (line.find()) {
            CHECK.due(line.group(1), Calls.byText(net, line.group(1)), Long.parseLong(line.group(2)));
            lines++;
        }
        CHECK.due("lines of the example", lines, text.split("\nnet\\.", -1).length - 1);
        CHECK.holds("there is an example", lines > 5);
    }

    private static void calls(String text) throws IOException {
        Matcher call = CALL.matcher(Files.readString(SOURCE));
        int calls = 0;
        while (call.find()) {
            String shown = call.group(1) + "(" + call.group(2).replaceAll("int ", "") + ")";
            CHECK.holds("the page tells of " + shown, text.contains("\n| `" + shown + "` | "));
            calls++;
        }
        CHECK.due("calls of the class", calls, CALLS);
    }

    private static void constants(String text) throws ReflectiveOperationException {
        for (String name : new String[] {"UNKNOWN", "OUTSIDE", "STATE", "FULL", "FAULT"}) {
            int number = JobSpread.class.getField(name).getInt(null);
            CHECK.holds("the page tells of " + name, text.contains("\n| `" + name + "` | " + number + " | "));
        }
        CHECK.holds("the page tells of NONE", text.contains("`NONE`, " + JobSpread.NONE));
    }

    private static void tests(String text) throws IOException, ReflectiveOperationException {
        try (DirectoryStream<Path> files = Files.newDirectoryStream(TESTS, "*Test.java")) {
            for (Path file : files) {
                String name = file.getFileName().toString().replace(".java", "");
                CHECK.holds("the page tells of " + name, text.contains("`" + name + "`"));
                Method main = Class.forName(name).getMethod("main", String[].class);
                CHECK.holds(name + " can be run", main.getReturnType() == void.class);
            }
        }
    }
}
