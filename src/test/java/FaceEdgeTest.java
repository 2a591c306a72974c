import java.io.IOException;
import java.lang.reflect.Constructor;
import java.lang.reflect.Field;
import java.lang.reflect.Member;
import java.lang.reflect.Method;
import java.lang.reflect.Modifier;
import java.nio.file.Files;
import java.nio.file.Path;
import java.util.ArrayList;
import java.util.List;
import java.util.Set;
import java.util.TreeSet;
import java.util.regex.Matcher;
import java.util.regex.Pattern;

/** "The public face" line by line as the document writes it, and what "the interface says" ahead of the calls. */
public final class FaceEdgeTest {
    private static final Edges EDGES = new Edges("FaceEdgeTest");
    private static final Path SOURCE = Path.of("src/main/java/PoundCat.java");
    private static final Pattern CALL = Pattern.compile("public (int|long) ([a-z]+)\\(([^)]*)\\);");
    private static final List<String> NAMES = new ArrayList<>();

    public static void main(String[] args) throws IOException, ReflectiveOperationException {
        String source = Files.readString(SOURCE);
        EDGES.section(Document.FACE);
        for (String line : Document.faceLines()) {
            EDGES.sentence(line);
            Matcher call = CALL.matcher(line);
            if (call.matches()) {
                call(line, call.group(1), call.group(2), call.group(3));
                EDGES.holds("the class writes it so", source.contains(line.replace(";", " {")), true);
            } else if (line.startsWith("public static final int ")) {
                constants(line);
            } else {
                rest(line);
            }
        }
        parts();
        aside();
        EDGES.finish();
    }

    private static void call(String line, String type, String name, String list) throws ReflectiveOperationException {
        NAMES.add(name);
        List<Class<?>> types = new ArrayList<>();
        for (String parameter : list.isEmpty() ? new String[0] : list.split(", ")) {
            EDGES.holds(parameter + " is an int", parameter.startsWith("int "), true);
            types.add(int.class);
        }
        Method m = PoundCat.class.getDeclaredMethod(name, types.toArray(new Class<?>[0]));
        EDGES.holds("its type", m.getReturnType().getName(), type);
        EDGES.holds("its modifiers", m.getModifiers(), Modifier.PUBLIC);
        EDGES.holds("what it throws", m.getExceptionTypes().length, 0);
        // Promise 1 is the constructor's: the first call is promise 2.
        int promise = NAMES.size() + 1;
        EDGES.holds("promise " + promise, "public " + Document.signature(promise) + ";", line);
        EDGES.holds("its heading", Document.promiseHeading(promise), "Promise " + promise + ": " + name);
    }

    private static void constants(String line) throws ReflectiveOperationException {
        Matcher m = Pattern.compile("([A-Z]+) = (-[0-9]+)").matcher(line);
        Set<String> told = new TreeSet<>();
        while (m.find()) {
            Field f = PoundCat.class.getDeclaredField(m.group(1));
            told.add(f.getName());
            EDGES.holds(f.getName(), f.getInt(null), Integer.valueOf(m.group(2)));
            EDGES.holds(f.getName(), f.getModifiers(), Modifier.PUBLIC | Modifier.STATIC | Modifier.FINAL);
            EDGES.holds(f.getName(), f.getType(), int.class);
        }
        EDGES.holds("no other constant", open(PoundCat.class.getDeclaredFields()), told);
    }

    private static void rest(String line) throws ReflectiveOperationException {
        if (line.startsWith("public final class ")) {
            EDGES.holds("the class", PoundCat.class.getModifiers(), Modifier.PUBLIC | Modifier.FINAL);
            EDGES.holds("its name", line, "public final class " + PoundCat.class.getName() + " {");
            EDGES.holds("what it extends", PoundCat.class.getSuperclass(), Object.class);
            EDGES.holds("what it implements", PoundCat.class.getInterfaces().length, 0);
        } else if (line.equals("}")) {
            EDGES.holds("calls", NAMES.size(), Document.LAST_PROMISE - 1);
            EDGES.holds("no other call", open(PoundCat.class.getDeclaredMethods()), new TreeSet<>(NAMES));
            EDGES.holds("each once", new TreeSet<>(NAMES).size(), NAMES.size());
        } else {
            Constructor<?>[] made = PoundCat.class.getDeclaredConstructors();
            EDGES.holds("the constructor", line, "public " + Document.signature(1) + ";");
            EDGES.holds("constructors", made.length, 1);
            EDGES.holds("it is public", made[0].getModifiers(), Modifier.PUBLIC);
            EDGES.holds("it takes nothing, throws nothing", made[0].toGenericString(), "public PoundCat()");
        }
    }

    private static Set<String> open(Member[] members) {
        Set<String> names = new TreeSet<>();
        for (Member m : members) {
            if (!Modifier.isPrivate(m.getModifiers())) {
                names.add(m.getName());
            }
        }
        return names;
    }

    /** The nine parts together name each call once, in the order of the face. */
    private static void parts() {
        EDGES.terms();
        Matcher part = Pattern.compile("Ahead of the calls ((?:`[a-z]+`(?:, )?)+) the interface says: ---- ([0-9]) ")
                .matcher(Document.text(Document.TERMS));
        List<String> named = new ArrayList<>();
        int parts = 0;
        while (part.find()) {
            parts++;
            EDGES.sentence(part.group().trim());
            EDGES.holds("the number of the part", part.group(2), String.valueOf(parts));
            for (String name : part.group(1).replace("`", "").split(", ")) {
                named.add(name);
                EDGES.holds(name + " is a call of the face", NAMES.contains(name), true);
            }
        }
        EDGES.holds("parts", parts, 9);
        EDGES.holds("all the calls", named, NAMES);
    }

    private static void aside() {
        EDGES.sentence("rows, texts, towns.");
        EDGES.given("");
        EDGES.inTurn("row(0, 1)", 1, "text(0, 1)", 1, "town(0)", PoundCat.STATE);
        EDGES.sentence("deeds.");
        EDGES.given(Edges.ALL_KINDS + "; hour(); feed(0); buy(1); sell(1); rule(1)");
        EDGES.looks("count(2)", 5);
        EDGES.sentence("what each weighs (aside; HOURS alone pass).");
        // Behind 40 DEEDS, too: nothing is done. The MOUSER WEIGHS 20, 19, 21, ..; the STUFFED one 12.
        for (String given : new String[] {Edges.ALL_KINDS, Edges.FORTY}) {
            EDGES.given(given);
            EDGES.looks("weighs(0, 60)", 50);
            EDGES.looks("when(0, 22)", 4);
            EDGES.tells("steady(60)", 5, 0);
            EDGES.looks("meals(0, 30, 1)", 3);
        }
        EDGES.sentence("when to buy (HOURS alone pass).");
        for (String given : new String[] {Edges.ALL_KINDS, Edges.FORTY}) {
            EDGES.given(given);
            EDGES.tells("gain(9, 1)", 0, PoundCat.NONE);
            EDGES.tells("ring(60)", 20, 60);
            EDGES.inTurn("count(1)", 0, "plan(3, 0)", 23 + 29 + 32 - 9, "count(1)", 0, "count(4)", 20);
        }
        EDGES.sentence("sacks of cats.");
        // 50: CATS 0, 1, 3; CATS 0 and 4; CATS 0, 2, 5.
        EDGES.sets("sacks(50)", 1 + 2 + 8, 3);
        EDGES.sentence("by ledgers");
        EDGES.given(Edges.ALL_KINDS + "; row(0, 0)");
        EDGES.looks("kinds(0, 0)", 63);
        EDGES.sentence("by turns.");
        EDGES.looks("fright(1)", 18);
        EDGES.sentence("chances, lots.");
        EDGES.fraction("odds(0, 19, 1, 12)", 1, 1);
        EDGES.answers("lots(1, 1)", 20);
        EDGES.sentence("what is told.");
        EDGES.looks("asked()", 0);
    }
}
