import java.io.IOException;
import java.lang.reflect.InvocationTargetException;
import java.net.URL;
import java.net.URLClassLoader;
import java.nio.file.Files;
import java.nio.file.Path;
import java.util.ArrayList;
import java.util.List;
import java.util.regex.Matcher;
import java.util.regex.Pattern;
import java.util.stream.Stream;
import javax.tools.ToolProvider;

/** What README.md shows as an example is compiled and run as it stands there, and answers what it says. */
public final class ReadmeTest {
    private static final Path README = Path.of("README.md");
    /** A statement, and behind it the number that it has to answer. */
    private static final Pattern ANSWERED = Pattern.compile("(int (\\w+) = )?(.+);\\s*// (-?\\d+)\\b.*");

    private static int wrong = 0;
    private static int made = 0;

    /** Called by the example, once for each number in it. */
    public static int due(String call, int got, int want) {
        made++;
        if (got != want) {
            fault(call + " answered " + got + ", README.md says " + want);
        }
        return got;
    }

    private static void fault(String what) {
        wrong++;
        System.out.println(what);
    }

    private static List<String> example() throws IOException {
        List<String> lines = new ArrayList<>();
        boolean inside = false;
        for (String line : Files.readAllLines(README)) {
            if (line.startsWith("```")) {
                inside = line.equals("```java");
            } else if (inside) {
                lines.add(line);
            }
        }
        return lines;
    }

    private static String asChecked(String line) {
        Matcher parts = ANSWERED.matcher(line);
        if (!parts.matches()) {
            return line;
        }
        String declared = parts.group(1) == null ? "" : parts.group(1);
        String call = parts.group(3);
        return declared + "ReadmeTest.due(\"" + call + "\", " + call + ", " + parts.group(4) + ");";
    }

    private static void runExample(List<String> lines, Path room) throws IOException, ReflectiveOperationException {
        StringBuilder source = new StringBuilder("public final class Example {\n    public static void run() {\n");
        for (String line : lines) {
            source.append(asChecked(line)).append('\n');
        }
        source.append("    }\n}\n");
        Path file = room.resolve("Example.java");
        Files.writeString(file, source);
        String path = System.getProperty("java.class.path");
        int compiled = ToolProvider.getSystemJavaCompiler().run(null, null, null,
            "--release", "17", "-cp", path, "-d", room.toString(), file.toString());
        if (compiled != 0) {
            fault("the example does not compile");
            return;
        }
        try (URLClassLoader loader = new URLClassLoader(new URL[] {room.toUri().toURL()})) {
            loader.loadClass("Example").getMethod("run").invoke(null);
        } catch (InvocationTargetException thrown) {
            fault("the example threw " + thrown.getCause());
        }
    }

    /** A line that says a number is checked, also if it is written in a way that the pattern does not know. */
    private static int numbersIn(List<String> lines) {
        int count = 0;
        for (String line : lines) {
            count += line.matches(".*//\\s*-?\\d.*") ? 1 : 0;
        }
        return count;
    }

    /** How to run the tests: the script is there, and each test is named. */
    private static void checkTests() throws IOException {
        String text = Files.readString(README);
        if (!text.contains("\n    .ci/run\n") || !Files.isExecutable(Path.of(".ci/run"))) {
            fault("README.md does not say how to run the tests, or .ci/run can't be run");
        }
        try (Stream<Path> files = Files.list(Path.of("src/test/java"))) {
            for (Path file : files.sorted().toList()) {
                String name = file.getFileName().toString().replace(".java", "");
                if (!text.contains("`" + name + "`")) {
                    fault("README.md does not name " + name);
                }
            }
        }
    }

    private static void delete(Path room) throws IOException {
        try (Stream<Path> files = Files.list(room)) {
            for (Path file : files.toList()) {
                Files.delete(file);
            }
        }
        Files.delete(room);
    }

    public static void main(String[] args) throws IOException, ReflectiveOperationException {
        List<String> lines = example();
        Path room = Files.createTempDirectory("readme");
        try {
            runExample(lines, room);
        } finally {
            delete(room);
        }
        if (made == 0 || made != numbersIn(lines)) {
            fault("README.md says " + numbersIn(lines) + " numbers, of which " + made + " were looked at");
        }
        checkTests();
        System.out.println(made + " answers of README.md, " + wrong + " faults");
        if (wrong != 0) {
            System.exit(1);
        }
    }
}
