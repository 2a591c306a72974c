import java.io.IOException;
import java.nio.file.Files;
import java.nio.file.Path;
import java.util.ArrayList;
import java.util.Arrays;
import java.util.LinkedHashMap;
import java.util.List;
import java.util.Map;
import java.util.regex.Matcher;
import java.util.regex.Pattern;

/** ../shared/DOC.md, cut at its headings, and which letters of it the tests of this run have quoted. */
final class Document {
    static final String WHAT_IT_IS = "What it is", FACE = "The public face", TERMS = "Terms", NOT_PROMISED = "Not promised";
    static final int LAST_PROMISE = 46;
    private static final Path PLACE = Path.of("../shared/DOC.md");
    private static final Document IT = new Document(read());

    private final Map<String, String> sections = new LinkedHashMap<>();
    private final Map<String, boolean[]> quoted = new LinkedHashMap<>();
    private final List<String> faceLines = new ArrayList<>();
    private final Map<String, String> signatures = new LinkedHashMap<>();

    private Document(String whole) {
        String[] parts = whole.split("(?m)^## ");
        for (int i = 1; i < parts.length; i++) {
            int end = parts[i].indexOf('\n');
            keep(parts[i].substring(0, end).trim(), parts[i].substring(end + 1));
        }
    }

    private static String read() {
        try {
            return Files.readString(PLACE);
        } catch (IOException e) {
            throw new IllegalStateException("the document is missing: " + PLACE, e);
        }
    }

    private void keep(String heading, String body) {
        Matcher promise = Pattern.compile("(?s)\\s*`([^`]*)`: (.*)").matcher(body);
        if (heading.startsWith("Promise ") && promise.matches()) {
            signatures.put(heading, promise.group(1));
            body = promise.group(2);
        }
        if (heading.equals(FACE)) {
            body.lines().filter(l -> !l.isBlank() && !l.startsWith("```")).forEach(l -> faceLines.add(l.trim()));
        }
        String text = plain(body);
        sections.put(heading, text);
        quoted.put(heading, new boolean[text.length()]);
    }

    /** Without what only sets parts off: ends of lines, fences, the numbers of parts. */
    private static String plain(String text) {
        return text.replaceAll("```[a-z]*|======== ([0-9]|ANSWERS\\.)", " ").replaceAll("\\s+", " ").trim();
    }

    static List<String> headings() {
        return new ArrayList<>(IT.sections.keySet());
    }

    static String promiseHeading(int number) {
        String start = "Promise " + number + ": ";
        return headings().stream().filter(h -> h.startsWith(start)).findFirst().orElse(start);
    }

    static String text(String heading) {
        return IT.sections.getOrDefault(heading, "");
    }

    /** The lines of the class as "The public face" writes it, from its head to its last brace. */
    static List<String> faceLines() {
        return IT.faceLines;
    }

    static String signature(int promise) {
        return IT.signatures.getOrDefault(promiseHeading(promise), "");
    }

    /** Marks the words wherever they stand in the section; false if they don't. */
    static boolean quote(String heading, String words) {
        String text = text(heading);
        boolean found = false;
        for (int at = text.indexOf(words); at >= 0; at = text.indexOf(words, at + 1)) {
            Arrays.fill(IT.quoted.get(heading), at, at + words.length(), true);
            found = true;
        }
        return found;
    }

    static List<String> unquoted(String heading) {
        List<String> parts = new ArrayList<>();
        StringBuilder part = new StringBuilder();
        String text = text(heading);
        for (int i = 0; i <= text.length(); i++) {
            if (i < text.length() && !IT.quoted.get(heading)[i]) {
                part.append(text.charAt(i));
            } else {
                if (!part.toString().isBlank()) {
                    parts.add(part.toString().trim());
                }
                part.setLength(0);
            }
        }
        return parts;
    }
}
