/** The edges of promises 29 to 31: sacks, sure, ask. */
public final class SacksEdgeTest {
    private static final int BAD = PoundCat.BAD, STATE = PoundCat.STATE, NONE = PoundCat.NONE;
    private static final int NOUGHT = 4;
    private static final Edges EDGES = new Edges("SacksEdgeTest");
    private static final String SIX_ALIKE = "town 'd10c100c100c100c100c100c100'";
    private static final String SIX_OF_200 = "town 'd10h999h999h999h999h999h999'; 6 * feed(0); 6 * feed(1);"
            + " 6 * feed(2); 6 * feed(3); 6 * feed(4); 6 * feed(5)";

    public static void main(String[] args) {
        sacks();
        sacksOfNone();
        sure();
        ask();
        EDGES.finish();
    }

    private static void sacks() {
        EDGES.promise(29);
        EDGES.sentence("How many sets of CATS WEIGH v (0 .. 1200) now, told by upper() (lower() is 1);");
        int[] many = {1, 6, 15, 20, 15, 6, 1};
        EDGES.given(SIX_ALIKE);
        for (int k = 0; k <= 6; k++) {
            EDGES.sets("sacks(" + 10 * k + ")", (1 << k) - 1, many[k]);
        }
        EDGES.given(SIX_OF_200);
        for (int k = 0; k <= 6; k++) {
            EDGES.sets("sacks(" + 200 * k + ")", (1 << k) - 1, many[k]);
        }
        // Behind a fraction that was told the lower number is 1 again.
        EDGES.given(Edges.BUSY);
        EDGES.looks("lower()", 27);
        EDGES.sets("sacks(0)", 0, 1);
        EDGES.sets("sacks(1200)", NONE, 0);
        // Now, not at first: a CAT of 5 WEIGHS 4 behind an HOUR.
        EDGES.given("town 'd10c050c080'; hour()");
        EDGES.sets("sacks(5)", NONE, 0);
        EDGES.sets("sacks(4)", 1, 1);
        EDGES.sets("sacks(11)", 3, 1);
        EDGES.sentence("the first by asked() (bits; NONE): 1.");
        // Of {2} and {0, 1} the first is that of the smaller number; of {0} and {1, 2}, too.
        EDGES.given("town 'd10c010c020c030'");
        EDGES.sets("sacks(3)", 3, 2);
        EDGES.given("town 'd10c030c010c020'");
        EDGES.sets("sacks(3)", 1, 2);
        EDGES.given("town 'd10c010c010c010c010c010c050'");
        EDGES.sets("sacks(5)", 31, 2);
        EDGES.sets("sacks(10)", 63, 1);
        EDGES.given("town 'd10c010'");
        EDGES.sets("sacks(0)", 0, 1);
        EDGES.sets("sacks(1)", 1, 1);
    }

    private static void sacksOfNone() {
        EDGES.sets("sacks(2)", NONE, 0);
        EDGES.given(SIX_ALIKE);
        EDGES.sets("sacks(1)", NONE, 0);
        EDGES.sets("sacks(59)", NONE, 0);
        EDGES.sets("sacks(61)", NONE, 0);
        EDGES.sets("sacks(1200)", NONE, 0);
        EDGES.given(SIX_OF_200);
        EDGES.sets("sacks(1199)", NONE, 0);
        EDGES.sets("sacks(1)", NONE, 0);
        refused("sacks(");
    }

    private static void refused(String call) {
        EDGES.sentence("BAD;");
        for (String given : new String[] {"", Edges.BUSY, Edges.FORTY}) {
            // BAD ahead of STATE, of NOUGHT.
            EDGES.given(given);
            EDGES.refuses(BAD, call + "-1)", call + "1201)", call + "min)", call + "max)");
        }
        EDGES.sentence(call.equals("sacks(") ? "STATE: no CATS." : "STATE;");
        // STATE ahead of NOUGHT, also of a sack that WEIGHS nothing.
        EDGES.given("");
        EDGES.refuses(STATE, call + "0)", call + "1)", call + "1200)");
        EDGES.given("row(0, 1); lay(0, 0, 5); at(0, 0); tear(3)");
        EDGES.refuses(STATE, call + "0)", call + "1200)");
    }

    private static void none(String call, String last) {
        EDGES.sentence("NOUGHT");
        EDGES.given(SIX_ALIKE);
        EDGES.finds(NOUGHT, call + "1)", call + "59)", call + "61)", call + "1200)");
        EDGES.given(SIX_OF_200);
        EDGES.finds(NOUGHT, call + "1)", call + "1199)");
        EDGES.given(Edges.BUSY);
        EDGES.finds(NOUGHT, call + "1)", call + "1200)");
        EDGES.sentence(last);
        EDGES.given("");
        EDGES.refuses(BAD, call + "-1)");
        EDGES.refuses(STATE, call + "1)");
        EDGES.given("town 'd10c020'");
        EDGES.refuses(BAD, call + "1201)");
        EDGES.finds(NOUGHT, call + "1)");
    }

    private static void sure() {
        EDGES.promise(30);
        EDGES.sentence("CATS (bits) that are in each such set; those in none by asked().");
        EDGES.given(SIX_ALIKE);
        EDGES.tells("sure(0)", 0, 63);
        EDGES.tells("sure(10)", 0, 0);
        EDGES.tells("sure(30)", 0, 0);
        EDGES.tells("sure(50)", 0, 0);
        EDGES.tells("sure(60)", 63, 0);
        EDGES.given(SIX_OF_200);
        EDGES.tells("sure(1200)", 63, 0);
        EDGES.tells("sure(0)", 0, 63);
        EDGES.given("town 'd10c010'");
        EDGES.tells("sure(0)", 0, 1);
        EDGES.tells("sure(1)", 1, 0);
        // {5} and {0 .. 4}; with CAT 5 and one of the others.
        EDGES.given("town 'd10c010c010c010c010c010c050'");
        EDGES.tells("sure(5)", 0, 0);
        EDGES.tells("sure(6)", 32, 0);
        EDGES.tells("sure(4)", 0, 32);
        EDGES.tells("sure(10)", 63, 0);
        // {0, 3} and {1, 2, 3}, never CAT 4.
        EDGES.given("town 'd10c030c010c020c400c900'");
        EDGES.tells("sure(43)", 8, 16);
        refused("sure(");
        none("sure(", ": there is no set. (In this order.)");
    }

    private static void ask() {
        EDGES.promise(31);
        EDGES.sentence("The CAT (the first) of which it is best to know whether it is in it: the greater number of sets,"
                + " with it or without, is least; that by asked().");
        // One set alone: nothing is better than CAT 0.
        EDGES.given(SIX_ALIKE);
        EDGES.tells("ask(0)", 0, 1);
        EDGES.tells("ask(60)", 0, 1);
        // With it or without: 1 and 5, 5 and 10, 10 and 10, 10 and 5, 5 and 1.
        EDGES.tells("ask(10)", 0, 5);
        EDGES.tells("ask(20)", 0, 10);
        EDGES.tells("ask(30)", 0, 10);
        EDGES.tells("ask(40)", 0, 10);
        EDGES.tells("ask(50)", 0, 5);
        EDGES.given(SIX_OF_200);
        EDGES.tells("ask(1200)", 0, 1);
        EDGES.given("town 'd10c010'");
        EDGES.tells("ask(0)", 0, 1);
        EDGES.tells("ask(1)", 0, 1);
        // {4, 5}, {3, 5}: CATS 3 and 4 part them, 0, 1, 2 and 5 don't.
        EDGES.given("town 'd10c990c990c990c020c020c030'");
        EDGES.tells("ask(5)", 3, 1);
        // The last alone parts {0} or {1} or {2}, each with 5, from {0, 1, 2}: 1 and 3; each other: 2 and 2.
        EDGES.given("town 'd10c030c030c030c990c990c060'");
        EDGES.tells("ask(9)", 0, 2);
        refused("ask(");
        none("ask(", ". (In this order.)");
    }
}
