import java.util.Arrays;
import java.util.List;
import java.util.Set;
import java.util.TreeSet;

/**
 * Rows of calls at the edges that the document names. Each row stands under the words of the document
 * that it tries, has objects of its own (made by the script that was given last), and looks at all
 * that the call may have changed.
 */
final class Edges {
    /** A TOWN with a CAT of each KIND: MOUSER 20 (4), CAT 25 (5), MOULTER 18 (7), KITTEN 5 (5), HEIR 30 (9), STUFFED 12 (3). */
    static final String ALL_KINDS = "town 'd30m204c255 o187k055h309s123'";
    /** Something of everything, so that a change shows. ROWS 0 (0, 7, 0) and 4 (empty) are there, TEXTS 0 and 2 (blank, d). */
    static final String BUSY = ALL_KINDS + "; row(0, 3); lay(0, 1, 7); row(4, 0); text(2, 2); put(2, 1, 100);"
            + " buy(2); keep(1); hour(); feed(4); rule(4); tear(5); odds(0, 20, 6, 4); at(0, 1)";
    /** 40 DEEDS: three pounds were bought (60 GOODS by 20), and 39 MEALS given to the STUFFED one. */
    static final String FORTY = ALL_KINDS + "; buy(3); 39 * feed(5)";

    private final String name;
    private final Set<Integer> begun = new TreeSet<>();
    private String heading = Document.TERMS;
    private String words = "";
    private String script = "";
    private Picture picture = null;
    private int rowsOfSentence = 1;
    private int rows = 0;
    private int wrong = 0;

    Edges(String name) {
        this.name = name;
    }

    /** The next sentences are those of a promise; each letter of it has to stand in a sentence of this test. */
    void promise(int number) {
        section(Document.promiseHeading(number));
        begun.add(number);
    }

    /** The next sentences are those of "Terms" and of what stands behind them. */
    void terms() {
        section(Document.TERMS);
    }

    void section(String of) {
        endSentence();
        heading = of;
        given("");
    }

    private void endSentence() {
        if (rowsOfSentence == 0) {
            row(words, "has no rows", heading);
        }
        rowsOfSentence = 1;
    }

    /** The words that the next rows try. */
    void sentence(String quoted) {
        endSentence();
        rowsOfSentence = 0;
        words = quoted;
        if (!Document.quote(heading, quoted)) {
            row(quoted, "are not in the document", heading);
        }
    }

    /** How the objects of the next rows are made. */
    void given(String made) {
        script = made;
        picture = null;
    }

    private Picture before() {
        if (picture == null) {
            picture = new Picture(Subject.made(script));
        }
        return picture;
    }

    private void row(String call, String what, Object... due) {
        rows++;
        rowsOfSentence++;
        if (due.length == 1 || !due[0].equals(due[1])) {
            wrong++;
            System.out.println(name + ": " + heading + " \"" + words
                    + "\": [" + script + "] " + call + " " + what + " " + Arrays.toString(due) + " (got, due)");
        }
    }

    private void same(String call, String what, long got, long want) {
        row(call, what, got, want);
    }

    /** What is to be seen otherwise than by one call of a made object. */
    void holds(String what, Object got, Object want) {
        row(what, "is so", got, want);
    }

    /** The answer alone; what the call changes is looked at by rows that are given it. */
    void answers(String call, long want) {
        same(call, "answered", Subject.made(script).call(call), want);
    }

    /** The answers of calls one behind the other on one object. */
    void inTurn(Object... callsAndAnswers) {
        Subject s = Subject.made(script);
        for (int i = 0; i + 1 < callsAndAnswers.length; i += 2) {
            String call = (String) callsAndAnswers[i];
            same(call, "answered", s.call(call), (Integer) callsAndAnswers[i + 1]);
        }
    }

    /** Changes nothing at all. */
    void looks(String call, long want) {
        aside(call, want, before().asked, before().upper, before().lower);
    }

    /** Tells a second number, and changes nothing else. */
    void tells(String call, long want, long asked) {
        aside(call, want, asked, before().upper, before().lower);
    }

    /** Tells a fraction, and changes nothing else. */
    void fraction(String call, long upper, long lower) {
        aside(call, 1, before().asked, upper, lower);
    }

    /** Tells how many sets there are and the first of them, and changes nothing else. */
    void sets(String call, long first, long many) {
        aside(call, 1, first, many, 1);
    }

    private void aside(String call, long want, long asked, long upper, long lower) {
        Subject s = Subject.made(script);
        same(call, "answered", s.call(call), want);
        Picture behind = new Picture(s);
        same(call, "then asked()", behind.asked, asked);
        same(call, "then upper()", behind.upper, upper);
        same(call, "then lower()", behind.lower, lower);
        same(call, "then finding()", behind.finding, before().finding);
        held(call, behind, 0);
    }

    /** Calls one behind the other on one object: each is refused, and at the end nothing has changed but for FINDINGS. */
    void allRefused(String... calls) {
        Subject s = Subject.made(script);
        for (String call : calls) {
            long got = s.call(call);
            boolean refused = got < 0 && got != PoundCat.NONE;
            row(call, "is refused (it answered " + got + ")", refused, true);
        }
        Picture behind = new Picture(s);
        same("at the end", "asked()", behind.asked, before().asked);
        same("at the end", "upper()", behind.upper, before().upper);
        same("at the end", "lower()", behind.lower, before().lower);
        row("at the end", "counts, PENCE, digests", behind.held, before().held);
    }

    /** Refused otherwise than by a FINDING: nothing changes. */
    void refuses(int want, String... calls) {
        for (String call : calls) {
            looks(call, want);
        }
    }

    /** Refused by a FINDING: nothing changes but finding() and findings(). */
    void finds(int finding, String... calls) {
        for (String call : calls) {
            Subject s = Subject.made(script);
            same(call, "answered", s.call(call), PoundCat.FINDING);
            Picture behind = new Picture(s);
            same(call, "then finding()", behind.finding, finding);
            same(call, "then asked()", behind.asked, before().asked);
            same(call, "then upper()", behind.upper, before().upper);
            same(call, "then lower()", behind.lower, before().lower);
            held(call, behind, finding);
        }
    }

    private void held(String call, Picture behind, int finding) {
        for (int f = 1; f <= 5; f++) {
            long due = before().findings[f - 1] + (f == finding ? 1 : 0);
            same(call, "then findings(" + f + ")", behind.findings[f - 1], due);
        }
        row(call, "then counts, PENCE, digests", behind.held, before().held);
    }

    /** Each letter of the promises that were begun has to stand in a sentence with rows. */
    void finish() {
        endSentence();
        for (int number : begun) {
            section(Document.promiseHeading(number));
            List<String> missed = Document.unquoted(heading);
            if (!missed.isEmpty()) {
                row(missed.toString(), "has no rows", number);
            }
        }
        System.out.println(name + ": " + (rows - wrong) + " of " + rows + " rows are as due");
        if (wrong != 0 || rows == 0) {
            System.exit(1);
        }
    }
}
