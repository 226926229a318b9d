import java.net.URL;
import java.net.URLClassLoader;
import java.nio.file.Files;
import java.nio.file.Path;
import java.util.regex.Matcher;
import java.util.regex.Pattern;
import javax.tools.ToolProvider;

/** The calls in README.md answer what stands behind them there: they are put into a class, compiled and run. */
public final class ReadmeTest extends Towns {
    private static final Pattern BLOCK = Pattern.compile("(?s)```java\n(.*?)```");
    private static final Pattern ANSWER =
            Pattern.compile("(?:(\\w+ (\\w+)) = )?(.+?); +// (-?\\d+|true|false)\\b.*");

    private static int answers = 0;

    public static void main(String[] args) throws Exception {
        about = "README.md";
        String source = sourceOf(Files.readString(Path.of("README.md")));
        due("at least 30 answers", answers >= 30, true);
        Path dir = Files.createTempDirectory("readme");
        Path file = dir.resolve("Readme.java");
        Files.writeString(file, source);
        String classes = System.getProperty("java.class.path");
        int failed = ToolProvider.getSystemJavaCompiler()
                .run(null, null, null, "-cp", classes, "-d", dir.toString(), file.toString());
        due("its calls compile", failed, 0);
        if (failed == 0) {
            runFrom(dir);
        }
        removeAll(dir);
        endOfTest("README.md says what is so");
    }

    private static String sourceOf(String page) {
        StringBuilder methods = new StringBuilder();
        StringBuilder calls = new StringBuilder();
        Matcher block = BLOCK.matcher(page);
        while (block.find()) {
            boolean isMethod = block.group(1).startsWith("static ");
            for (String line : block.group(1).split("\n")) {
                (isMethod ? methods : calls).append(isMethod ? line : asChecked(line)).append('\n');
            }
        }
        return "public class Readme extends Towns {\n" + methods
                + "public static int wrongAnswers() {\nabout = \"README.md\";\n" + calls + "return wrong;\n}\n}\n";
    }

    /** A call with its answer behind it becomes one that is looked at. */
    private static String asChecked(String line) {
        Matcher m = ANSWER.matcher(line);
        if (!m.matches()) {
            return line;
        }
        answers++;
        String call = m.group(3);
        String kept = m.group(1) == null ? "" : m.group(1) + " = " + call + "; ";
        String value = m.group(1) == null ? call : m.group(2);
        String shown = call.replace("\\", "\\\\").replace("\"", "\\\"");
        return kept + "due(\"" + shown + "\", " + value + ", " + m.group(4) + ");";
    }

    private static void runFrom(Path dir) throws Exception {
        // Towns is seen by classes of the same loader alone, so all are loaded once more, by one.
        URL[] places = {dir.toUri().toURL(), Path.of(System.getProperty("java.class.path")).toUri().toURL()};
        try (URLClassLoader loader = new URLClassLoader(places, ClassLoader.getPlatformClassLoader())) {
            wrong += (int) loader.loadClass("Readme").getMethod("wrongAnswers").invoke(null);
        }
    }

    private static void removeAll(Path dir) throws Exception {
        try (var files = Files.list(dir)) {
            for (Path file : files.toList()) {
                Files.delete(file);
            }
        }
        Files.delete(dir);
    }
}
