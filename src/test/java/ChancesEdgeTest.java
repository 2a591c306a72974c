/** The edges of promises 36 to 38: odds, mid, lots. */
public final class ChancesEdgeTest {
    private static final int BAD = PoundCat.BAD, FULL = PoundCat.FULL, STATE = PoundCat.STATE;
    private static final Edges EDGES = new Edges("ChancesEdgeTest");
    private static final String STUFFED = "town 'd10s104'";

    public static void main(String[] args) {
        odds();
        oddsOfNoMouser();
        oddsHeld();
        oddsRefused();
        mid();
        midRefused();
        seeds();
        lots();
        lotsByNumbers();
        lotsRefused();
        lotsFull();
        EDGES.finish();
    }

    private static void odds() {
        EDGES.promise(36);
        EDGES.sentence("Chances that a CAT WEIGHS v (0 .. 200) or more in n (0 .. 6) HOURS, if there are no mice by p (0 .. 12)"
                + " of 12 in each that is odd, each by itself");
        for (String letter : new String[] {"m", "h"}) {
            EDGES.given("town 'd10" + letter + "200'");
            // No HOUR: it WEIGHS 20.
            EDGES.fraction("odds(0, 0, 0, 0)", 1, 1);
            EDGES.fraction("odds(0, 20, 0, 12)", 1, 1);
            EDGES.fraction("odds(0, 21, 0, 0)", 0, 1);
            EDGES.fraction("odds(0, 200, 0, 6)", 0, 1);
            // HOUR 0 has no mice whatever p is; HOUR 1 has: 21, or 18.
            EDGES.fraction("odds(0, 19, 1, 12)", 1, 1);
            EDGES.fraction("odds(0, 20, 1, 0)", 0, 1);
            EDGES.fraction("odds(0, 18, 2, 12)", 1, 1);
            EDGES.fraction("odds(0, 19, 2, 12)", 0, 1);
            EDGES.fraction("odds(0, 19, 2, 11)", 1, 12);
            EDGES.fraction("odds(0, 19, 2, 1)", 11, 12);
            EDGES.fraction("odds(0, 19, 2, 0)", 1, 1);
            EDGES.fraction("odds(0, 21, 2, 6)", 1, 2);
            EDGES.fraction("odds(0, 22, 2, 0)", 0, 1);
            // Three odd ones of six: 23, 20, 17, 14.
            EDGES.fraction("odds(0, 23, 6, 0)", 1, 1);
            EDGES.fraction("odds(0, 23, 6, 1)", 1331, 1728);
            EDGES.fraction("odds(0, 23, 6, 11)", 1, 1728);
            EDGES.fraction("odds(0, 23, 6, 12)", 0, 1);
            EDGES.fraction("odds(0, 24, 6, 0)", 0, 1);
            // All three by 1 of 1728, two of them by 33.
            EDGES.fraction("odds(0, 20, 6, 11)", 17, 864);
            EDGES.fraction("odds(0, 17, 6, 6)", 7, 8);
            EDGES.fraction("odds(0, 14, 6, 12)", 1, 1);
            EDGES.fraction("odds(0, 15, 6, 12)", 0, 1);
            EDGES.fraction("odds(0, 0, 6, 12)", 1, 1);
            EDGES.fraction("odds(0, 200, 6, 0)", 0, 1);
        }
    }

    private static void oddsOfNoMouser() {
        EDGES.sentence("(a MOUSER, an HEIR then WEIGHS as a CAT): 1.");
        EDGES.given("town 'd10c200o200k200s200'");
        int[] inSix = {14, 12, 32, 20};
        for (int i = 0; i < 4; i++) {
            for (int p : new int[] {0, 5, 12}) {
                EDGES.fraction("odds(" + i + ", " + inSix[i] + ", 6, " + p + ")", 1, 1);
                EDGES.fraction("odds(" + i + ", " + (inSix[i] + 1) + ", 6, " + p + ")", 0, 1);
            }
        }
        // A MOULTER from HOUR 1 on: in HOUR 4 2 less.
        EDGES.given("town 'd10o520'; hour()");
        int[] moulted = {50, 49, 48, 47, 45, 44, 43};
        for (int n = 0; n <= 6; n++) {
            EDGES.fraction("odds(0, " + moulted[n] + ", " + n + ", 5)", 1, 1);
            EDGES.fraction("odds(0, " + (moulted[n] + 1) + ", " + n + ", 5)", 0, 1);
        }
        // The last CAT; and by the number that the HOUR truly has.
        EDGES.given("town 'd10c200c200c200c200c200m200'; 39 * hour()");
        EDGES.fraction("odds(5, 40, 1, 3)", 3, 4);
        EDGES.fraction("odds(5, 37, 1, 3)", 1, 1);
        EDGES.given("town 'd10c200c200c200c200c200m200'; 40 * hour()");
        EDGES.fraction("odds(5, 39, 1, 3)", 1, 1);
        EDGES.fraction("odds(5, 40, 1, 3)", 0, 1);
    }

    private static void oddsHeld() {
        // In HOUR 1 it WEIGHS 1: with mice 3, without 1 (not 0); then 2, or 1; then 4 or 3 with mice, 1 without.
        EDGES.given("town 'd10m010'; hour()");
        EDGES.fraction("odds(0, 1, 1, 12)", 1, 1);
        EDGES.fraction("odds(0, 2, 1, 12)", 0, 1);
        EDGES.fraction("odds(0, 2, 2, 4)", 2, 3);
        EDGES.fraction("odds(0, 3, 3, 4)", 2, 3);
        EDGES.fraction("odds(0, 4, 3, 4)", 4, 9);
        // In HOUR 1 it WEIGHS 199: with mice 200 (not 201), then 199; without 198.
        EDGES.given("town 'd10m999'; 12 * feed(0); hour()");
        EDGES.fraction("odds(0, 200, 1, 4)", 2, 3);
        EDGES.fraction("odds(0, 199, 2, 4)", 2, 3);
        EDGES.fraction("odds(0, 200, 2, 0)", 0, 1);
        EDGES.fraction("odds(0, 200, 3, 4)", 4, 9);
        // A fraction told before is gone, also by 0.
        EDGES.given(Edges.BUSY);
        EDGES.fraction("odds(5, 13, 0, 0)", 0, 1);
        EDGES.fraction("odds(5, 12, 6, 12)", 1, 1);
    }

    private static void refusedCat(String call, String end) {
        for (String given : new String[] {Edges.BUSY, Edges.FORTY}) {
            EDGES.given(given);
            EDGES.refuses(BAD, call + "-1" + end, call + "6" + end, call + "min" + end, call + "max" + end);
        }
        EDGES.given("");
        EDGES.refuses(BAD, call + "0" + end, call + "-1" + end);
        EDGES.given("town 'd10m200'; odds(0, 19, 2, 1)");
        EDGES.refuses(BAD, call + "1" + end);
    }

    private static void oddsRefused() {
        EDGES.sentence("BAD.");
        refusedCat("odds(", ", 0, 0, 0)");
        EDGES.refuses(BAD, "odds(0, -1, 0, 0)", "odds(0, 201, 0, 0)", "odds(0, min, 0, 0)", "odds(0, max, 0, 0)");
        EDGES.refuses(BAD, "odds(0, 0, -1, 0)", "odds(0, 0, 7, 0)", "odds(0, 0, min, 0)", "odds(0, 0, max, 0)");
        EDGES.refuses(BAD, "odds(0, 0, 0, -1)", "odds(0, 0, 0, 13)", "odds(0, 0, 0, min)", "odds(0, 0, 0, max)");
        EDGES.refuses(BAD, "odds(1, 201, 7, 13)", "odds(-1, -1, -1, -1)");
    }

    private static void mid() {
        EDGES.promise(37);
        EDGES.sentence("The mean of what it WEIGHS then: 1.");
        EDGES.given("town 'd10m200c010k990s200'");
        EDGES.fraction("mid(0, 0, 0)", 20, 1);
        EDGES.fraction("mid(0, 0, 12)", 20, 1);
        EDGES.fraction("mid(0, 1, 5)", 19, 1);
        // 21 less p by 4; three odd HOURS of six: 23 less 3 p by 4.
        EDGES.fraction("mid(0, 2, 0)", 21, 1);
        EDGES.fraction("mid(0, 2, 1)", 83, 4);
        EDGES.fraction("mid(0, 2, 2)", 41, 2);
        EDGES.fraction("mid(0, 2, 4)", 20, 1);
        EDGES.fraction("mid(0, 2, 12)", 18, 1);
        EDGES.fraction("mid(0, 6, 0)", 23, 1);
        EDGES.fraction("mid(0, 6, 1)", 89, 4);
        EDGES.fraction("mid(0, 6, 11)", 59, 4);
        EDGES.fraction("mid(0, 6, 12)", 14, 1);
        EDGES.fraction("mid(1, 6, 5)", 1, 1);
        EDGES.fraction("mid(2, 6, 5)", 111, 1);
        EDGES.fraction("mid(3, 6, 5)", 20, 1);
        // In HOUR 1 it WEIGHS 1: 3 with mice, 1 without; then 2 or 1; then 4, 1, 3, 1 by 121, 11, 11, 1 of 144.
        EDGES.given("town 'd10m010'; hour()");
        EDGES.fraction("mid(0, 1, 1)", 17, 6);
        EDGES.fraction("mid(0, 1, 12)", 1, 1);
        EDGES.fraction("mid(0, 2, 1)", 23, 12);
        EDGES.fraction("mid(0, 3, 1)", 4 * 121 + 11 + 3 * 11 + 1, 144);
        EDGES.given("town 'd10o520'; 2 * hour()");
        EDGES.fraction("mid(0, 2, 5)", 47, 1);
        EDGES.fraction("mid(0, 3, 5)", 45, 1);
        EDGES.fraction("mid(0, 6, 5)", 42, 1);
        // In HOUR 1 it WEIGHS 199: 200 with mice (not 201), 198 without.
        EDGES.given("town 'd10h999'; 6 * feed(0); hour()");
        EDGES.fraction("mid(0, 1, 0)", 200, 1);
        EDGES.fraction("mid(0, 1, 6)", 199, 1);
        EDGES.fraction("mid(0, 1, 12)", 198, 1);
        EDGES.given("town 'd10k999'; 26 * feed(0)");
        EDGES.fraction("mid(0, 6, 3)", 200, 1);
    }

    private static void midRefused() {
        EDGES.sentence("BAD.");
        refusedCat("mid(", ", 0, 0)");
        EDGES.refuses(BAD, "mid(0, -1, 0)", "mid(0, 7, 0)", "mid(0, min, 0)", "mid(0, max, 0)");
        EDGES.refuses(BAD, "mid(0, 0, -1)", "mid(0, 0, 13)", "mid(0, 0, min)", "mid(0, 0, max)", "mid(1, 7, 13)");
    }

    private static void seeds() {
        EDGES.terms();
        EDGES.sentence("LOTS: a number comes from the one ahead by 48271 times it modulo 2147483647,"
                + " the first from a seed (1 .. 2147483646).");
        // 48271: by 8, cut, 6033, modulo 4 1. BUYING.
        EDGES.given(STUFFED + "; lots(1, 1)");
        EDGES.looks("count(3)", 10);
        // 2147435376: by 8 268429422, modulo 4 2. SELLING, or an HOUR.
        EDGES.given(STUFFED + "; lots(1, 2147483646)");
        EDGES.looks("count(1)", 1);
        EDGES.given(STUFFED + "; buy(1); lots(1, 2147483646)");
        EDGES.looks("count(1)", 0);
        EDGES.looks("count(3)", 0);
        // Twenty of seed 1 take 1 0 0 3 2 0 2 3 0 3 0 1 1 1 1 0 1 2 1 1: 8 bought, 2 sold, 1 not sold and 3 HOURS, 6 MEALS.
        EDGES.given(STUFFED + "; lots(20, 1)");
        EDGES.looks("count(1)", 4);
        EDGES.looks("count(2)", 20);
        EDGES.looks("count(3)", 60);
        EDGES.looks("pence()", -60);
        // Those of the greatest seed 2 3 3 0 1 3 1 0 3 0 3 2 2 2 2 3 2 1 2 2: 3 bought and sold, 5 not sold and 6 HOURS.
        EDGES.given(STUFFED + "; lots(20, 2147483646)");
        EDGES.looks("count(1)", 11);
        EDGES.looks("count(3)", 0);
        EDGES.looks("pence()", 0);
    }

    private static void lots() {
        EDGES.promise(38);
        EDGES.sentence("n (1 .. 20) DEEDS truly by LOTS of a seed: for each a number:");
        EDGES.given(STUFFED);
        EDGES.answers("lots(1, 1)", 10);
        EDGES.answers("lots(20, 1)", 10);
        for (int n : new int[] {1, 2, 19, 20}) {
            EDGES.given(STUFFED + "; lots(" + n + ", 1)");
            EDGES.looks("count(2)", n);
            EDGES.answers("undo(0)", n);
        }
        // They can be undone one by one: the last of twenty is BUYING.
        EDGES.given(STUFFED + "; lots(20, 1); undo(19)");
        EDGES.looks("count(3)", 50);
        EDGES.looks("count(2)", 19);
    }

    private static void lotsByNumbers() {
        EDGES.sentence("it by 8, cut, modulo 4: 0 a MEAL to CAT it modulo how many there are, 1 BUYING one pound,"
                + " 2 SELLING one pound (if there are so many GOODS, else an HOUR), 3 an HOUR: THE POUND then.");
        // Seed 11: 530981, 0; modulo 1, 2, .. 6: 0, 1, 2, 1, 1, 5.
        int[] fed = {0, 1, 2, 1, 1, 5};
        StringBuilder signs = new StringBuilder("d10");
        for (int n = 1; n <= 6; n++) {
            signs.append("c203");
            EDGES.given("town '" + signs + "'; lots(1, 11)");
            for (int i = 0; i < n; i++) {
                EDGES.tells("cat(" + i + ", 1)", 1, i == fed[n - 1] ? 23 : 20);
            }
        }
        EDGES.given("town 'd10c203'");
        EDGES.answers("lots(1, 11)", 23);
        // Seed 2: 96542, 3, an HOUR. Seed 10: 482710, 2, SELLING.
        EDGES.answers("lots(1, 2)", 19);
        EDGES.given("town 'd10c203'; lots(1, 2)");
        EDGES.looks("count(1)", 1);
        EDGES.given("town 'd10c203'; buy(2); lots(1, 10)");
        EDGES.looks("count(3)", 20);
        EDGES.looks("pence()", -10);
        EDGES.looks("count(1)", 0);
        // Just so many GOODS; one too few by a MEAL; by another one that RULES.
        EDGES.given("town 'd10c203'; buy(1); lots(1, 10)");
        EDGES.looks("count(3)", 0);
        EDGES.looks("count(1)", 0);
        EDGES.given("town 'd10c201'; buy(1); feed(0); lots(1, 10)");
        EDGES.looks("count(3)", 20);
        EDGES.looks("count(1)", 1);
        EDGES.given("town 'd10c200c210'; buy(1); rule(1); lots(1, 10)");
        EDGES.looks("count(3)", 20);
        EDGES.looks("count(1)", 1);
        EDGES.given("town 'd10c200c210'; rule(1)");
        EDGES.answers("lots(1, 1)", 21);
        EDGES.answers("lots(1, 2)", 20);
    }

    private static void lotsRefused() {
        EDGES.sentence("BAD;");
        for (String given : new String[] {"", Edges.BUSY, Edges.FORTY}) {
            // BAD ahead of STATE, of FULL.
            EDGES.given(given);
            EDGES.refuses(BAD, "lots(0, 1)", "lots(21, 1)", "lots(-1, 1)", "lots(min, 1)", "lots(max, 1)");
            EDGES.refuses(BAD, "lots(1, 0)", "lots(1, max)", "lots(1, -1)", "lots(1, min)", "lots(20, 0)", "lots(0, 0)");
        }
        EDGES.sentence("STATE: no CATS;");
        EDGES.given("");
        EDGES.refuses(STATE, "lots(1, 1)", "lots(20, 2147483646)");
    }

    private static void lotsFull() {
        EDGES.sentence("FULL: with n more there would be more than 40 DEEDS.");
        EDGES.given(Edges.FORTY);
        EDGES.refuses(FULL, "lots(1, 1)", "lots(20, 1)");
        EDGES.given(Edges.FORTY + "; undo(39)");
        EDGES.refuses(FULL, "lots(2, 1)", "lots(20, 1)");
        EDGES.answers("lots(1, 1)", 20);
        EDGES.given(Edges.FORTY + "; undo(21)");
        EDGES.refuses(FULL, "lots(20, 1)");
        EDGES.given(STUFFED + "; 21 * feed(0); lots(19, 1)");
        EDGES.looks("count(2)", 40);
        EDGES.given(STUFFED + "; 20 * feed(0); lots(20, 1)");
        EDGES.looks("count(2)", 40);
        EDGES.refuses(FULL, "lots(1, 1)", "hour()", "feed(0)");
        EDGES.sentence("(FULL last.)");
        EDGES.refuses(BAD, "lots(21, 1)", "lots(1, 0)");
    }
}
