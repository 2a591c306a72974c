import java.io.IOException;
import java.lang.reflect.Constructor;
import java.lang.reflect.Field;
import java.lang.reflect.Method;
import java.lang.reflect.Modifier;
import java.nio.file.Files;
import java.nio.file.Path;
import java.util.Set;
import java.util.TreeSet;
import java.util.regex.Matcher;
import java.util.regex.Pattern;

/** The public face as the document writes it, and what of LANGUAGE.md can be seen in class and source. */
public final class FaceTest {
    private static final Due DUE = new Due("FaceTest");
    private static final Path SOURCE = Path.of("src/main/java/PoundCat.java");
    private static final String[] CALLS = {
        "int row(int,int)", "int lay(int,int,int)", "int at(int,int)", "int tear(int)",
        "int copy(int,int,int,int,int)", "int mean(int)", "int text(int,int)", "int put(int,int,int)",
        "int fault(int)", "int town(int)", "int cat(int,int)", "int mark(int,int)", "int hour()",
        "int feed(int)", "int buy(int)", "int sell(int)", "int rule(int)", "int undo(int)",
        "int keep(int)", "int on(int)", "int weighs(int,int)", "int when(int,int)", "int steady(int)",
        "int meals(int,int,int)", "int gain(int,int)", "int ring(int)", "int plan(int,int)",
        "int sacks(int)", "int sure(int)", "int ask(int)", "int kinds(int,int)", "int weights(int,int)",
        "int test(int,int)", "int fright(int)", "int odds(int,int,int,int)", "int mid(int,int,int)",
        "int lots(int,int)", "int asked()", "long upper()", "long lower()", "int pence()",
        "int count(int)", "int finding()", "int findings(int)", "long digest()"};

    public static void main(String[] args) throws IOException, IllegalAccessException {
        constants();
        calls();
        hiddenMembers();
        source();
        DUE.finish();
    }

    private static void same(String what, Object got, Object want) {
        DUE.due(what + " (" + got + ", due is " + want + ")", got.equals(want) ? 1 : 0, 1);
    }

    private static void constants() throws IllegalAccessException {
        Set<String> got = new TreeSet<>();
        for (Field f : PoundCat.class.getDeclaredFields()) {
            if (!Modifier.isPrivate(f.getModifiers())) {
                got.add(Modifier.toString(f.getModifiers()) + " " + f.getType() + " " + f.getName() + " " + f.get(null));
            }
        }
        Set<String> want = new TreeSet<>();
        for (String c : "BAD -1,FULL -2,FINDING -3,STATE -4,SPENT -6,NONE -9".split(",")) {
            want.add("public static final int " + c);
        }
        same("the constants", got, want);
    }

    private static void calls() {
        Set<String> got = new TreeSet<>();
        for (Method m : PoundCat.class.getDeclaredMethods()) {
            if (!Modifier.isPrivate(m.getModifiers())) {
                StringBuilder s = new StringBuilder();
                s.append(Modifier.toString(m.getModifiers())).append(' ').append(m.getReturnType()).append(' ');
                s.append(m.getName()).append('(');
                for (Class<?> c : m.getParameterTypes()) {
                    s.append(s.charAt(s.length() - 1) == '(' ? "" : ",").append(c);
                }
                got.add(s.append(')').toString());
            }
        }
        Set<String> want = new TreeSet<>();
        for (String c : CALLS) {
            want.add("public " + c);
        }
        same("the calls", got, want);
        Constructor<?>[] made = PoundCat.class.getDeclaredConstructors();
        DUE.due("constructors", made.length, 1);
        DUE.due("the constructor is public", made[0].getModifiers(), Modifier.PUBLIC);
        DUE.due("its parameters", made[0].getParameterCount(), 0);
        DUE.due("the class", PoundCat.class.getModifiers(), Modifier.PUBLIC | Modifier.FINAL);
    }

    private static void hiddenMembers() {
        Set<String> open = new TreeSet<>();
        for (String c : CALLS) {
            open.add(c.substring(c.indexOf(' ') + 1, c.indexOf('(')));
        }
        names(PoundCat.class, open);
        Class<?>[] inside = PoundCat.class.getDeclaredClasses();
        DUE.due("at most twelve classes", inside.length + 1 <= 12 ? 1 : 0, 1);
        for (Class<?> c : inside) {
            names(c, open);
            DUE.due(c + " is static", Modifier.isStatic(c.getModifiers()) ? 1 : 0, 1);
            DUE.due(c + " is hidden", Modifier.isPublic(c.getModifiers()) ? 1 : 0, 0);
        }
    }

    private static void names(Class<?> c, Set<String> open) {
        int fields = 0;
        for (Field f : c.getDeclaredFields()) {
            boolean constant = Modifier.isStatic(f.getModifiers());
            fields += constant ? 0 : 1;
            DUE.due(f + " is final if it is static", !constant || Modifier.isFinal(f.getModifiers()) ? 1 : 0, 1);
        }
        DUE.due("fields of " + c, fields <= 20 ? 1 : 0, 1);
        for (Method m : c.getDeclaredMethods()) {
            if (!Modifier.isPublic(m.getModifiers())) {
                DUE.due(m + " bears a public name", open.contains(m.getName()) ? 1 : 0, 0);
            }
            DUE.due(m + " takes at most seven", m.getParameterCount() <= 7 ? 1 : 0, 1);
        }
    }

    private static void source() throws IOException {
        String whole = Files.readString(SOURCE);
        for (int i = 0; i < whole.length(); i++) {
            if (whole.charAt(i) > 127) {
                DUE.due("sign " + i + " of the source", whole.charAt(i), 127);
            }
        }
        String code = whole.replaceAll("(?s)/\\*.*?\\*/", " ").replaceAll("//[^\n]*", " ");
        String[] barred = {"\\bthrow\\b", "\\bthrows\\b", "\\btry\\b", "\\bcatch\\b", "\\bsynchronized\\b",
            "\\bassert\\b", "\\bimport\\b", "\\bpackage\\b", "->", "::", "Exact\\b", "\"", "\\bnew (int|long)\\[[a-z]+\\.",
            "\\bprotected\\b", "\\bstatic \\{", "\\bwhile \\(true\\)", "\\bfor \\(;;\\)"};
        for (String b : barred) {
            Matcher m = Pattern.compile(b).matcher(code);
            DUE.due("the source holds " + b, m.find() ? 1 : 0, 0);
        }
        longMethods(whole);
    }

    /** Methods start at four or eight blanks in, and end with a brace as far in. */
    private static void longMethods(String whole) {
        Matcher m = Pattern.compile("(?m)^( {4}| {8})[a-z][^;=\n]*\\) \\{\n(?s:(.*?))^\\1\\}").matcher(whole);
        int seen = 0;
        while (m.find()) {
            seen++;
            long lines = m.group(2).lines().count();
            DUE.due("a method of " + lines + " lines: " + m.group().lines().findFirst().get().trim(),
                    lines <= 60 ? 1 : 0, 1);
        }
        DUE.due("methods were seen", seen > CALLS.length ? 1 : 0, 1);
    }
}
