import java.io.IOException;
import java.nio.file.Files;
import java.nio.file.Path;
import java.util.ArrayList;
import java.util.List;
import java.util.stream.Collectors;
import java.util.stream.Stream;

/** The document from its first line to its last: each word stands in a sentence that an edge test has rows for. */
public final class DocumentTest {
    private static final Due DUE = new Due("DocumentTest");
    private static final Path TESTS = Path.of("src/test/java");

    public static void main(String[] args) throws IOException, ReflectiveOperationException {
        headings();
        runEdgeTests();
        for (String heading : Document.headings()) {
            // What is not promised can't be broken.
            if (!heading.equals(Document.NOT_PROMISED)) {
                List<String> left = Document.unquoted(heading);
                DUE.due(heading + ": words without rows " + left, left.size(), 0);
            }
        }
        DUE.finish();
    }

    /** A section that nobody knows of would otherwise go by unseen. */
    private static void headings() {
        List<String> due = new ArrayList<>(List.of(Document.WHAT_IT_IS, Document.FACE, Document.TERMS));
        for (int promise = 1; promise <= Document.LAST_PROMISE; promise++) {
            due.add(Document.promiseHeading(promise));
            DUE.due("promise " + promise + " has words", Document.text(Document.promiseHeading(promise)).isEmpty() ? 0 : 1, 1);
            DUE.due("promise " + promise + " has a call", Document.signature(promise).isEmpty() ? 0 : 1, 1);
        }
        due.add(Document.NOT_PROMISED);
        DUE.due("the headings " + Document.headings(), Document.headings().equals(due) ? 1 : 0, 1);
    }

    private static void runEdgeTests() throws IOException, ReflectiveOperationException {
        List<String> names;
        try (Stream<Path> files = Files.list(TESTS)) {
            names = files.map(f -> f.getFileName().toString()).filter(f -> f.endsWith("EdgeTest.java")).sorted()
                    .map(f -> f.replace(".java", "")).collect(Collectors.toList());
        }
        DUE.due("there are edge tests", names.isEmpty() ? 0 : 1, 1);
        for (String name : names) {
            Class.forName(name).getMethod("main", String[].class).invoke(null, (Object) new String[0]);
        }
    }
}
