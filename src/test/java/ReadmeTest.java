import java.io.IOException;
import java.net.URL;
import java.net.URLClassLoader;
import java.nio.file.Files;
import java.nio.file.Path;
import java.util.Set;
import java.util.TreeSet;
import java.util.regex.Matcher;
import java.util.regex.Pattern;
import java.util.stream.Stream;
import javax.tools.JavaCompiler;
import javax.tools.ToolProvider;

/** What README.md shows of the class's use is compiled and run, each line with the answer behind its "//". */
public final class ReadmeTest {
    private static final Due DUE = new Due("ReadmeTest");
    private static final Path PAGE = Path.of("README.md");
    private static final Path TESTS = Path.of("src/test/java");
    private static final Pattern SHOWN = Pattern.compile("\\s*(x\\..*); +// (-?[0-9]+|[A-Z]+): .*");
    private static int calls = 0;

    public static void main(String[] args) throws IOException, ReflectiveOperationException {
        String page = Files.readString(PAGE);
        run(program(page));
        DUE.due("calls were made", calls > 0 ? 1 : 0, 1);
        DUE.due("as many calls as an object is used for", calls <= 512 ? 1 : 0, 1);
        tests(page);
        DUE.finish();
    }

    /** The program that README.md shows calls this behind each of its lines. */
    public static void shown(String call, long got, long want) {
        calls++;
        DUE.due("README.md: " + call, got, want);
    }

    private static String program(String page) {
        StringBuilder made = new StringBuilder("public final class Shown {\n    public static void main(String[] args) {\n");
        Matcher block = Pattern.compile("(?s)```java\n(.*?)```").matcher(page);
        while (block.find()) {
            for (String line : block.group(1).split("\n")) {
                made.append(checked(line)).append('\n');
            }
        }
        return made.append("    }\n}\n").toString();
    }

    private static String checked(String line) {
        Matcher m = SHOWN.matcher(line);
        if (!m.matches()) {
            DUE.due("README.md tells no answer of: " + line, line.trim().startsWith("x.") ? 0 : 1, 1);
            return line;
        }
        String want = Character.isLetter(m.group(2).charAt(0)) ? "PoundCat." + m.group(2) : m.group(2);
        return "ReadmeTest.shown(\"" + m.group(1).replace("\"", "\\\"") + "\", " + m.group(1) + ", " + want + ");";
    }

    private static void run(String program) throws IOException, ReflectiveOperationException {
        Path place = Files.createTempDirectory("shown");
        Path source = place.resolve("Shown.java");
        Path made = place.resolve("Shown.class");
        try {
            Files.writeString(source, program);
            JavaCompiler compiler = ToolProvider.getSystemJavaCompiler();
            int failed = compiler.run(null, null, null, "-cp", System.getProperty("java.class.path"),
                    "-d", place.toString(), source.toString());
            DUE.due("README.md compiles", failed, 0);
            if (failed == 0) {
                try (URLClassLoader loader = new URLClassLoader(new URL[] {place.toUri().toURL()})) {
                    loader.loadClass("Shown").getMethod("main", String[].class).invoke(null, (Object) new String[0]);
                }
            }
        } finally {
            Files.deleteIfExists(made);
            Files.deleteIfExists(source);
            Files.deleteIfExists(place);
        }
    }

    private static void tests(String page) throws IOException {
        Set<String> there = new TreeSet<>();
        try (Stream<Path> files = Files.list(TESTS)) {
            files.map(f -> f.getFileName().toString()).filter(f -> f.endsWith("Test.java"))
                    .forEach(f -> there.add(f.replace(".java", "")));
        }
        Set<String> named = new TreeSet<>();
        Matcher m = Pattern.compile("`([A-Z][A-Za-z]*Test)`").matcher(page);
        while (m.find()) {
            named.add(m.group(1));
        }
        DUE.due("README.md names " + named + ", there are " + there, named.equals(there) ? 1 : 0, 1);
    }
}
