/** The edges of promise 35: fright. */
public final class TurnsEdgeTest {
    private static final int BAD = PoundCat.BAD, STATE = PoundCat.STATE;
    private static final Edges EDGES = new Edges("TurnsEdgeTest");

    public static void main(String[] args) {
        turns();
        held();
        hours();
        refused();
        EDGES.finish();
    }

    /** THE POUND by 0, 1, 2 times each. */
    private static void frights(String script, int none, int one, int two) {
        EDGES.given(script);
        EDGES.looks("fright(0)", none);
        EDGES.looks("fright(1)", one);
        EDGES.looks("fright(2)", two);
    }

    private static void turns() {
        EDGES.promise(35);
        EDGES.sentence("By turns one gives a MEAL to a CAT, or none, the other one frightens a CAT (it WEIGHS 5 less, 1 at least),"
                + " or none, n (0 .. 2) times each,");
        frights("town 'd10c500'", 49, 44, 39);
        frights("town 'd10c505'", 49, 49, 49);
        frights("town 'd10c509'", 49, 53, 57);
        frights("town 'd10h509'", 49, 62, 75);
        frights("town 'd10k509'", 52, 51, 50);
        frights("town 'd10k501'", 52, 47, 42);
        frights("town 'd10s509'", 50, 45, 40);
        // Others that eat more than the one that RULES don't help it, and are not frightened.
        frights("town 'd10c501h509h509h509h509h509'", 49, 45, 41);
        frights("town 'd10c010h509h509h509h509h509'; rule(5)", 49, 62, 75);
    }

    private static void held() {
        // The one who feeds is first: 1 and 5, less 5; frightened first it would WEIGH 6.
        frights("town 'd10s010'", 1, 1, 1);
        frights("town 'd10s059'", 5, 1, 1);
        frights("town 'd10s060'", 6, 1, 1);
        frights("town 'd10s070'", 7, 2, 1);
        frights("town 'd10s110'", 11, 6, 1);
        frights("town 'd10s120'", 12, 7, 2);
        frights("town 'd10c015'", 1, 1, 1);
        frights("town 'd10c016'", 1, 1, 2);
        frights("town 'd10c019'", 1, 4, 8);
        frights("town 'd10c014'", 1, 1, 1);
        frights("town 'd10k010'", 3, 3, 3);
        // Held to 1 by the first fright, it WEIGHS 1 and not 0 when it is fed again: 3, 5, 1, 3, 1, 1.
        frights("town 'd10c032'", 2, 1, 1);
        frights("town 'd10m019'; hour()", 3, 7, 11);
        // Held to 200 by a MEAL, then 195.
        frights("town 'd10c999'; 12 * feed(0)", 199, 194, 194);
        frights("town 'd10c995'; 20 * feed(0)", 198, 194, 194);
        frights("town 'd10c991'; 20 * feed(0)", 118, 114, 110);
        frights("town 'd10k999'; 26 * feed(0)", 200, 197, 196);
        frights("town 'd10h999'; 6 * feed(0); hour()", 200, 197, 197);
    }

    private static void hours() {
        EDGES.sentence("then an HOUR passes: THE POUND then, the first one wanting it great, the other one small.");
        // One HOUR, at the end, by the number that it has.
        frights("town 'd10m505'", 49, 49, 49);
        frights("town 'd10m505'; hour()", 51, 51, 51);
        frights("town 'd10o505'", 48, 48, 48);
        frights("town 'd10o505'; hour()", 47, 47, 47);
        frights("town 'd10o505'; 4 * hour()", 43, 43, 43);
        frights("town 'd10s505'", 50, 45, 40);
        // No DEED, also with 40 of them; the HEIR of 47 in HOUR 1.
        frights(Edges.BUSY, 49, 62, 75);
        frights(Edges.FORTY, 19, 18, 17);
    }

    private static void refused() {
        EDGES.sentence("BAD;");
        for (String given : new String[] {"", Edges.BUSY, Edges.FORTY}) {
            // BAD ahead of STATE.
            EDGES.given(given);
            EDGES.refuses(BAD, "fright(-1)", "fright(3)", "fright(min)", "fright(max)");
        }
        EDGES.sentence("STATE: no CATS.");
        EDGES.given("");
        EDGES.refuses(STATE, "fright(0)", "fright(2)");
    }
}
