import java.lang.reflect.InvocationTargetException;
import java.lang.reflect.Method;
import java.util.HashMap;
import java.util.Map;
import java.util.regex.Matcher;
import java.util.regex.Pattern;

/**
 * An object of the class, its calls told as texts, so that what a row of a test says is what it does:
 * "row(0, 3); lay(0, 1, max); 40 * feed(0)". Beside the calls of the face there are
 * "town 'd30c101'" (TEXT 0 is so written, and town(0)) and "write 1 'd30'" (TEXT 1 is so written).
 */
final class Subject {
    /** The document promises nothing of an object behind its 512th call. */
    private static final int MOST_CALLS = 512;
    private static final Pattern CALL = Pattern.compile("([a-z]+)\\(([^)]*)\\)");
    private static final Pattern TIMES = Pattern.compile("([0-9]+) \\* (.*)");
    private static final Pattern WRITE = Pattern.compile("write ([0-9]) '([^']*)'");
    private static final Pattern TOWN = Pattern.compile("town '([^']*)'");
    private static final Map<String, Method> FACE = new HashMap<>();

    static {
        for (Method m : PoundCat.class.getMethods()) {
            if (m.getDeclaringClass() == PoundCat.class) {
                FACE.put(m.getName(), m);
            }
        }
    }

    private final PoundCat x = new PoundCat();
    private int calls = 0;

    static Subject made(String script) {
        Subject s = new Subject();
        for (String item : script.split(";")) {
            if (!item.isBlank()) {
                s.play(item.trim());
            }
        }
        return s;
    }

    private void play(String item) {
        Matcher times = TIMES.matcher(item);
        Matcher write = WRITE.matcher(item);
        Matcher town = TOWN.matcher(item);
        if (times.matches()) {
            for (int n = Integer.parseInt(times.group(1)); n > 0; n--) {
                play(times.group(2));
            }
        } else if (write.matches()) {
            write(Integer.parseInt(write.group(1)), write.group(2));
        } else if (town.matches()) {
            write(0, town.group(1));
            call("town(0)");
        } else {
            call(item);
        }
    }

    private void write(int t, String signs) {
        call("text(" + t + ", " + signs.length() + ")");
        for (int i = 0; i < signs.length(); i++) {
            if (signs.charAt(i) != ' ') {
                call("put(" + t + ", " + i + ", " + (int) signs.charAt(i) + ")");
            }
        }
    }

    long call(String text) {
        Matcher parts = CALL.matcher(text);
        if (!parts.matches() || !FACE.containsKey(parts.group(1))) {
            throw new IllegalArgumentException("no call: " + text);
        }
        calls++;
        if (calls > MOST_CALLS) {
            throw new IllegalStateException("more than " + MOST_CALLS + " calls: " + text);
        }
        try {
            return ((Number) FACE.get(parts.group(1)).invoke(x, numbers(parts.group(2)))).longValue();
        } catch (InvocationTargetException | IllegalAccessException e) {
            throw new IllegalStateException(text, e);
        }
    }

    private static Object[] numbers(String list) {
        if (list.isBlank()) {
            return new Object[0];
        }
        String[] told = list.split(",");
        Object[] made = new Object[told.length];
        for (int i = 0; i < told.length; i++) {
            String one = told[i].trim();
            made[i] = one.equals("max") ? Integer.MAX_VALUE : one.equals("min") ? Integer.MIN_VALUE : Integer.valueOf(one);
        }
        return made;
    }
}
