/** The edges of promises 32 to 34: kinds, weights, test, and of the ledgers that they take. */
public final class LedgersEdgeTest {
    private static final int BAD = PoundCat.BAD, NONE = PoundCat.NONE;
    private static final int NOTHING = 1, UNLIKE = 3, SIZE = 5;
    private static final Edges EDGES = new Edges("LedgersEdgeTest");
    /** CAT 0 WEIGHS 200: 99 and 12 times 9. */
    private static final String HEAVY = "town 'd10c999'; 12 * feed(0)";

    public static void main(String[] args) {
        pairs();
        kinds();
        kindsAtTheEdges();
        refused("kinds(");
        weights();
        refused("weights(");
        test();
        refused("test(");
        EDGES.finish();
    }

    private static void given(String script, Object... ledger) {
        StringBuilder made = new StringBuilder(script).append("; row(3, ").append(ledger.length).append(")");
        for (int i = 0; i < ledger.length; i++) {
            made.append("; lay(3, ").append(i).append(", ").append(ledger[i]).append(")");
        }
        EDGES.given(made.toString());
    }

    private static Object[] times(int n, Object... pair) {
        Object[] ledger = new Object[n];
        for (int i = 0; i < n; i++) {
            ledger[i] = pair[i % pair.length];
        }
        return ledger;
    }

    private static void pairs() {
        EDGES.terms();
        EDGES.sentence("(a ROW of pairs, 0 to 8: in how many HOURS from now on 0 .. 40, what it WEIGHED then 1 .. 200:"
                + " NOTHING; SIZE; UNLIKE; behind BAD).");
        // A STUFFED one of 20; 0 to 8 pairs that are true of it.
        for (int n = 0; n <= 16; n += 2) {
            given("town 'd10s200'", times(n, 40, 20));
            EDGES.looks("kinds(0, 3)", n == 0 ? 63 : 32);
            EDGES.tells("weights(0, 3)", n == 0 ? 200 : 1, n == 0 ? 1 : 20);
            EDGES.tells("test(0, 3)", n == 0 ? 2 : 0, n == 0 ? 2 : 1);
        }
        // The last of 8 pairs counts.
        Object[] ledger = times(16, 40, 20);
        ledger[15] = 21;
        given("town 'd10s200'", ledger);
        EDGES.looks("kinds(0, 3)", 0);
        EDGES.tells("weights(0, 3)", 0, NONE);
        EDGES.looks("test(0, 3)", NONE);
        // The least and the greatest that may stand there; a CAT and a MOULTER of 20 do WEIGH 1 in 40 HOURS.
        for (Object hours : new Object[] {0, 40}) {
            for (Object weight : new Object[] {1, 200}) {
                given("town 'd10s200'", hours, weight);
                EDGES.looks("kinds(0, 3)", hours.equals(40) && weight.equals(1) ? 5 : 0);
                EDGES.tells("weights(0, 3)", 1, (Integer) weight);
            }
        }
    }

    private static void kindsBy(String script, int want, Object... ledger) {
        given(script, ledger);
        EDGES.looks("kinds(0, 3)", want);
    }

    private static void kinds() {
        EDGES.promise(32);
        EDGES.sentence("Of which KINDS (bits) a CAT can be by these, WEIGHING now what it does.");
        String cat = "town 'd10c255'";
        kindsBy(cat, 63);
        kindsBy(cat, 63, 0, 25);
        kindsBy(cat, 0, 0, 24);
        kindsBy(cat, 0, 0, 26);
        // In one HOUR 24, 24, 23, 27, 24, 25; in two 23, 26, 22, 29, 26, 25.
        kindsBy(cat, 19, 1, 24);
        kindsBy(cat, 4, 1, 23);
        kindsBy(cat, 8, 1, 27);
        kindsBy(cat, 32, 1, 25);
        kindsBy(cat, 0, 1, 26);
        kindsBy(cat, 18, 2, 26);
        kindsBy(cat, 1, 1, 24, 2, 23);
        kindsBy(cat, 0, 1, 24, 2, 22);
        kindsBy(cat, 0, 1, 24, 1, 23);
        // The pairs may come in any order, and of one HOUR twice.
        kindsBy(cat, 18, 2, 26, 1, 24, 2, 26, 0, 25);
        // In 40 HOURS 1, 45, 1, 105, 45, 25.
        kindsBy(cat, 5, 40, 1);
        kindsBy(cat, 18, 40, 45);
        kindsBy(cat, 8, 40, 105);
        // Whatever KIND it truly is, and whatever APPETITE it has.
        for (String signs : new String[] {"c250", "m259", "o251", "k255", "h259", "s250"}) {
            kindsBy("town 'd10" + signs + "'", 19, 1, 24);
        }
        // The last CAT, by the ROWS of both ends.
        EDGES.given("town 'd10c100c100c100c100c100c255'; row(0, 2); lay(0, 0, 1); lay(0, 1, 24); row(5, 0)");
        EDGES.looks("kinds(5, 0)", 19);
        EDGES.looks("kinds(0, 0)", 0);
        EDGES.looks("kinds(5, 5)", 63);
    }

    private static void kindsAtTheEdges() {
        // Of 1: in one HOUR 1, 1, 1, 3, 1, 1; in two 1, 3, 1, 5, 3, 1.
        kindsBy("town 'd10c010'", 55, 1, 1);
        kindsBy("town 'd10c010'", 8, 1, 3);
        kindsBy("town 'd10c010'", 37, 2, 1);
        kindsBy("town 'd10c010'", 18, 2, 3);
        // Of 200: in one HOUR 199, 199, 198, 200, 199, 200; in 40 HOURS 160, 200, 150, 200, 200, 200.
        kindsBy(HEAVY, 19, 1, 199);
        kindsBy(HEAVY, 4, 1, 198);
        kindsBy(HEAVY, 40, 1, 200);
        kindsBy(HEAVY, 58, 40, 200);
        kindsBy(HEAVY, 1, 40, 160);
        kindsBy(HEAVY, 4, 40, 150);
        // 41 falls by 40 to 1, 42 to 2; the MOULTER's 51 by 50.
        kindsBy("town 'd10c410'", 5, 40, 1);
        kindsBy("town 'd10c420'", 1, 40, 2);
        kindsBy("town 'd10c420'", 4, 40, 1);
        kindsBy("town 'd10c510'", 4, 40, 1);
        kindsBy("town 'd10c520'", 4, 40, 2);
        // From now on: 1 WEIGHED in HOUR 40 is 3 behind HOUR 41 as a MOUSER.
        kindsBy("town 'd10c100'; 40 * hour()", 55, 1, 1);
        kindsBy("town 'd10c100'; 40 * hour()", 18, 2, 3);
        kindsBy("town 'd10c100'; 39 * hour()", 26, 1, 3);
    }

    private static void refused(String call) {
        EDGES.sentence("BAD;");
        for (String given : new String[] {Edges.BUSY, Edges.FORTY}) {
            EDGES.given(given);
            for (String i : new String[] {"-1", "6", "min", "max"}) {
                // BAD ahead of NOTHING (ROW 1), of SIZE (ROW 0).
                EDGES.refuses(BAD, call + i + ", 4)", call + i + ", 1)", call + i + ", 0)", call + i + ", 6)");
            }
            EDGES.refuses(BAD, call + "0, -1)", call + "0, 6)", call + "0, min)", call + "0, max)");
        }
        EDGES.given("");
        EDGES.refuses(BAD, call + "0, 0)", call + "0, 6)", call + "-1, 0)");
        EDGES.given("row(3, 1)");
        EDGES.refuses(BAD, call + "0, 3)", call + "0, 0)");
        given("town 'd10c101'", 41, 201);
        EDGES.refuses(BAD, call + "1, 3)", call + "-1, 3)");
        EDGES.sentence("NOTHING;");
        EDGES.given(Edges.BUSY + "; row(3, 2); tear(3)");
        EDGES.finds(NOTHING, call + "0, 1)", call + "5, 3)", call + "0, 5)");
        EDGES.sentence("SIZE;");
        for (int n : new int[] {1, 3, 15, 17, 18, 19, 39, 40}) {
            given(Edges.BUSY, times(n, 1, 20));
            EDGES.finds(SIZE, call + "0, 3)", call + "5, 3)");
            // SIZE ahead of UNLIKE.
            given(Edges.ALL_KINDS, times(n, 41, 0));
            EDGES.finds(SIZE, call + "0, 3)");
        }
        EDGES.given(Edges.ALL_KINDS + "; row(3, 18)");
        EDGES.finds(SIZE, call + "0, 3)");
        EDGES.sentence("UNLIKE.");
        for (Object hours : new Object[] {-1, 41, "min", "max"}) {
            given(Edges.BUSY, hours, 20);
            EDGES.finds(UNLIKE, call + "0, 3)");
            given(Edges.ALL_KINDS, 1, 19, 2, 21, hours, 20);
            EDGES.finds(UNLIKE, call + "0, 3)");
        }
        for (Object weight : new Object[] {0, 201, -1, "min", "max"}) {
            given(Edges.BUSY, 0, weight);
            EDGES.finds(UNLIKE, call + "0, 3)");
            given(Edges.ALL_KINDS, 1, 19, 2, weight, 3, 20);
            EDGES.finds(UNLIKE, call + "0, 3)");
        }
        // Also behind a pair that no KIND fits, and in the last of 8.
        given(Edges.ALL_KINDS, 0, 99, 41, 20);
        EDGES.finds(UNLIKE, call + "0, 3)");
        EDGES.given(Edges.ALL_KINDS + "; row(3, 16)");
        EDGES.finds(UNLIKE, call + "0, 3)");
        Object[] ledger = times(16, 0, 20);
        ledger[14] = 41;
        given(Edges.ALL_KINDS, ledger);
        EDGES.finds(UNLIKE, call + "0, 3)");
    }

    private static void weightsBy(String script, int many, int least, Object... ledger) {
        given(script, ledger);
        EDGES.tells("weights(0, 3)", many, least);
    }

    private static void weights() {
        EDGES.promise(33);
        EDGES.sentence("How many weights (1 .. 200) it can have now by these; the least by asked()");
        for (String letter : new String[] {"c", "m", "o", "k", "h", "s"}) {
            weightsBy("town 'd10" + letter + "500'", 200, 1);
            weightsBy("town 'd10" + letter + "500'", 1, 1, 0, 1);
            weightsBy("town 'd10" + letter + "500'", 1, 200, 0, 200);
        }
        // 40 HOURS take 40 of a CAT, 50 of a MOULTER, give 80 to a KITTEN and 20 to a MOUSER.
        weightsBy("town 'd10c500'", 41, 1, 40, 1);
        weightsBy("town 'd10c500'", 1, 42, 40, 2);
        weightsBy("town 'd10c500'", 1, 200, 40, 160);
        weightsBy("town 'd10o500'", 51, 1, 40, 1);
        weightsBy("town 'd10o500'", 1, 200, 40, 150);
        weightsBy("town 'd10k500'", 81, 120, 40, 200);
        weightsBy("town 'd10k500'", 1, 1, 40, 81);
        weightsBy("town 'd10k500'", 1, 119, 40, 199);
        weightsBy("town 'd10s500'", 1, 200, 40, 200);
        // A MOUSER of 1 is held by HOUR 0: 1, 3, as one of 2; 199 and 200 both come to 200 by HOUR 1.
        weightsBy("town 'd10m500'", 2, 1, 1, 1);
        weightsBy("town 'd10m500'", 2, 1, 2, 3);
        weightsBy("town 'd10h500'", 2, 1, 2, 3);
        weightsBy("town 'd10m500'", 2, 199, 2, 200);
        weightsBy("town 'd10m500'", 1, 198, 2, 199);
        weightsBy("town 'd10h500'", 1, 200, 1, 199);
        // A MOULTER of 3 comes to 1 as those of 1 and 2 do.
        weightsBy("town 'd10o500'", 3, 1, 1, 1);
        weightsBy("town 'd10o500'; hour()", 2, 1, 1, 1);
        // What it truly WEIGHS now is no matter.
        weightsBy("town 'd10c010'", 1, 99, 0, 99);
        weightsBy(HEAVY, 2, 1, 1, 1);
        EDGES.sentence("(NONE: there is none).");
        weightsBy("town 'd10c500'", 0, NONE, 40, 161);
        weightsBy("town 'd10o500'", 0, NONE, 40, 151);
        weightsBy("town 'd10k500'", 0, NONE, 40, 80);
        weightsBy("town 'd10k500'", 0, NONE, 1, 2);
        weightsBy("town 'd10k500'", 0, NONE, 1, 1);
        weightsBy("town 'd10c500'", 0, NONE, 1, 200);
        weightsBy("town 'd10m500'", 0, NONE, 1, 200);
        weightsBy("town 'd10s500'", 0, NONE, 0, 5, 1, 6);
        weightsBy("town 'd10c500'", 0, NONE, 0, 5, 0, 6);
    }

    private static void testBy(String script, int hours, int part, Object... ledger) {
        given(script, ledger);
        EDGES.tells("test(0, 3)", hours, part);
    }

    private static void test() {
        EDGES.promise(34);
        EDGES.sentence("In how many HOURS (0 .. 40; the first) what it WEIGHS tells most of these KINDS apart:"
                + " the greatest part of those that WEIGH alike is least; that part by asked().");
        // Now all six are alike; in one HOUR 24, 24, 23, 27, 24, 25; in two 23, 26, 22, 29, 26, 25. MOUSER and HEIR stay alike.
        testBy("town 'd10c255'", 2, 2);
        testBy("town 'd10c255'", 2, 2, 1, 24);
        testBy("town 'd10c255'", 0, 1, 1, 23);
        testBy("town 'd10c255'", 0, 1, 40, 105);
        testBy("town 'd10c255'", 0, 2, 2, 26);
        // A CAT and a MOULTER of 25 part at once, in HOUR 0; from HOUR 1 on they part in HOUR 4.
        testBy("town 'd10c255'", 1, 1, 40, 1);
        testBy("town 'd10c255'; hour()", 4, 1, 40, 1);
        testBy("town 'd10c255'; 2 * hour()", 3, 1, 40, 1);
        // Of 1 (37: CAT, MOULTER, STUFFED) they never part; of 200 (40: KITTEN, STUFFED) neither do these.
        testBy("town 'd10c010'", 0, 3, 2, 1);
        testBy(HEAVY, 0, 2, 1, 200);
        // Of 200 (58) MOUSER and HEIR fall to 199 for one HOUR.
        testBy(HEAVY, 1, 2, 40, 200);
        testBy(HEAVY, 2, 2, 1, 199);
        EDGES.sentence("NONE: there is no KIND.");
        given("town 'd10c255'; row(0, 1); lay(0, 0, 5); at(0, 0)", 0, 24);
        EDGES.looks("test(0, 3)", NONE);
        given("town 'd10c255'", 1, 26);
        EDGES.looks("test(0, 3)", NONE);
        given(HEAVY, 40, 1);
        EDGES.looks("test(0, 3)", NONE);
    }
}
