/** The edges of promises 26 to 28: gain, ring, plan. */
public final class TradeEdgeTest {
    private static final int BAD = PoundCat.BAD, STATE = PoundCat.STATE, NONE = PoundCat.NONE;
    private static final int BEYOND = 2;
    private static final Edges EDGES = new Edges("TradeEdgeTest");

    public static void main(String[] args) {
        gain();
        gainByTurns();
        gainRefused();
        ring();
        ringRefused();
        plan();
        planAlike();
        planHeld();
        planRow();
        planRefused();
        EDGES.finish();
    }

    private static void gain() {
        EDGES.promise(26);
        EDGES.sentence("The most PENCE gained by BUYING k (1 .. 9) pounds in a (0 .. n) HOURS and SELLING in b (a .. n)"
                + " as many whole pounds as these GOODS are then (n 0 .. 20;");
        // 21 falls to 1 in 20 HOURS: 21 pounds for one.
        EDGES.given("town 'd10c210'");
        EDGES.tells("gain(1, 20)", 200, 20);
        EDGES.tells("gain(9, 20)", 1800, 20);
        EDGES.tells("gain(1, 19)", 90, 19);
        // 21 by 10 are 2 whole pounds, by 11 but one; 189 by 18 are 10 whole pounds, by 19 but 9.
        EDGES.tells("gain(1, 11)", 10, 11);
        EDGES.tells("gain(1, 10)", 0, NONE);
        EDGES.tells("gain(9, 3)", 10, 3);
        EDGES.tells("gain(9, 2)", 0, NONE);
        // 2 falls to 1 and stays.
        EDGES.given("town 'd10c020'");
        EDGES.tells("gain(1, 1)", 10, 1);
        EDGES.tells("gain(1, 20)", 10, 1);
        EDGES.tells("gain(9, 20)", 90, 1);
        // 1800 GOODS by 180 are 10 pounds: in 20 HOURS for a CAT, in 16 for a MOULTER.
        EDGES.given("town 'd10c999o999'; 12 * feed(0); 12 * feed(1)");
        EDGES.tells("gain(9, 20)", 10, 20);
        EDGES.tells("gain(9, 19)", 0, NONE);
        EDGES.tells("gain(8, 20)", 0, NONE);
        EDGES.given("town 'd10c999o999'; 12 * feed(0); 12 * feed(1); rule(1)");
        EDGES.tells("gain(9, 16)", 10, 16);
        EDGES.tells("gain(9, 20)", 10, 16);
        EDGES.tells("gain(9, 15)", 0, NONE);
        EDGES.sentence("0 at least: not at all),");
        EDGES.given("town 'd10k200s200c010'");
        EDGES.tells("gain(1, 0)", 0, NONE);
        EDGES.tells("gain(9, 0)", 0, NONE);
        EDGES.tells("gain(9, 20)", 0, NONE);
        EDGES.given("town 'd10k200s200c010'; rule(1)");
        EDGES.tells("gain(9, 20)", 0, NONE);
        EDGES.given("town 'd10k200s200c010'; rule(2)");
        EDGES.tells("gain(9, 20)", 0, NONE);
        EDGES.sentence("the one that RULES now;");
        EDGES.given(Edges.ALL_KINDS + "; rule(1)");
        EDGES.tells("gain(1, 20)", 40, 20);
        EDGES.given(Edges.ALL_KINDS + "; rule(1); rule(5)");
        EDGES.tells("gain(1, 20)", 0, NONE);
        // GOODS that were there before, PENCE and 40 DEEDS are no matter.
        EDGES.given(Edges.ALL_KINDS + "; rule(1); 39 * buy(9)");
        EDGES.tells("gain(1, 20)", 40, 20);
    }

    private static void gainByTurns() {
        EDGES.sentence("the first a, and b, by asked() (100 times a, and b; NONE: nothing is gained).");
        // From HOUR 1 on it WEIGHS 1, 3, 2, 4, 3, 5, 4, ..: 6 by 2 are 3 pounds for two.
        EDGES.given("town 'd10m010'; hour()");
        EDGES.tells("gain(2, 1)", 0, NONE);
        EDGES.tells("gain(2, 2)", 10, 102);
        EDGES.tells("gain(2, 20)", 10, 102);
        // 27 by 2 are 13 pounds for nine; 36 by 3, later, but 12.
        EDGES.tells("gain(9, 20)", 40, 102);
        EDGES.tells("gain(1, 20)", 0, NONE);
        // From HOUR 0 on 5, 4, 6, 5, 7: bought by 5 at once or by 6 later, 6 pounds of five either way.
        EDGES.given("town 'd10m050'");
        EDGES.tells("gain(5, 1)", 10, 1);
        EDGES.tells("gain(5, 20)", 10, 1);
        // Nine of them by 4 are 11 at once; by 6 and by 5 but 10.
        EDGES.tells("gain(9, 20)", 20, 1);
        // From HOUR 1 on 4, 6, 5, 7: nothing is gained but by 6 and 5.
        EDGES.given("town 'd10m050'; hour()");
        EDGES.tells("gain(5, 1)", 0, NONE);
        EDGES.tells("gain(5, 2)", 10, 102);
    }

    private static void gainRefused() {
        EDGES.sentence("BAD;");
        for (String given : new String[] {"", Edges.BUSY, Edges.FORTY}) {
            // BAD ahead of STATE.
            EDGES.given(given);
            EDGES.refuses(BAD, "gain(0, 1)", "gain(10, 1)", "gain(-1, 1)", "gain(min, 1)", "gain(max, 1)");
            EDGES.refuses(BAD, "gain(1, -1)", "gain(1, 21)", "gain(9, 21)", "gain(1, min)", "gain(1, max)", "gain(0, -1)");
        }
        EDGES.sentence("STATE: no CATS.");
        EDGES.given("");
        EDGES.refuses(STATE, "gain(1, 0)", "gain(9, 20)");
    }

    private static void ring() {
        EDGES.promise(27);
        EDGES.sentence("The greatest difference of THE POUND and the DOG in n (0 .. 60) HOURS, now and each of them;"
                + " in how many HOURS it is so first by asked().");
        EDGES.given("town 'd01k010'");
        EDGES.tells("ring(0)", 0, 0);
        EDGES.tells("ring(1)", 2, 1);
        EDGES.tells("ring(59)", 118, 59);
        EDGES.tells("ring(60)", 120, 60);
        EDGES.given("town 'd01k999'");
        EDGES.tells("ring(50)", 198, 50);
        EDGES.tells("ring(51)", 199, 51);
        EDGES.tells("ring(60)", 199, 51);
        EDGES.given("town 'd99c010'");
        EDGES.tells("ring(0)", 98, 0);
        EDGES.tells("ring(60)", 98, 0);
        EDGES.given("town 'd99s990'");
        EDGES.tells("ring(0)", 0, 0);
        EDGES.tells("ring(60)", 0, 0);
        // 1 above, alike, 1 below, 2 below.
        EDGES.given("town 'd20c210c600'");
        EDGES.tells("ring(0)", 1, 0);
        EDGES.tells("ring(1)", 1, 0);
        EDGES.tells("ring(2)", 1, 0);
        EDGES.tells("ring(3)", 2, 3);
        EDGES.tells("ring(20)", 19, 20);
        EDGES.tells("ring(60)", 19, 20);
        EDGES.given("town 'd20c210c600'; rule(1)");
        EDGES.tells("ring(60)", 40, 0);
        EDGES.given("town 'd10m999'; 12 * feed(0); 28 * hour()");
        // 200, 199, 200, .. as HOURS go; from HOUR 28 on 200, 199, 200, ..
        EDGES.tells("ring(0)", 190, 0);
        EDGES.tells("ring(60)", 190, 0);
    }

    private static void ringRefused() {
        EDGES.sentence("BAD;");
        for (String given : new String[] {"", Edges.BUSY, Edges.FORTY}) {
            // BAD ahead of STATE.
            EDGES.given(given);
            EDGES.refuses(BAD, "ring(-1)", "ring(61)", "ring(min)", "ring(max)");
        }
        EDGES.sentence("STATE: no CATS.");
        EDGES.given("");
        EDGES.refuses(STATE, "ring(0)", "ring(60)");
    }

    /** The answer, and the ROW that comes of it, which was a longer one. */
    private static void planned(String script, int worth, int... row) {
        String call = "plan(" + row.length + ", 3)";
        EDGES.given(script + "; row(3, 9); lay(3, 0, 77); lay(3, 8, 77)");
        EDGES.answers(call, worth);
        EDGES.given(script + "; row(3, 9); lay(3, 0, 77); lay(3, 8, 77); " + call);
        for (int i = 0; i < row.length; i++) {
            EDGES.tells("at(3, " + i + ")", 1, row[i]);
        }
        EDGES.finds(BEYOND, "at(3, " + row.length + ")");
    }

    private static void plan() {
        EDGES.promise(28);
        EDGES.sentence("The most of what the one that RULES WEIGHS behind each of n (0 .. 3) HOURS together, less 3 for each"
                + " MEAL, one MEAL or none being given (to any) ahead of each;");
        planned("town 'd10c509'", 0);
        planned("town 'd10c509'", 58 - 3, 0);
        planned("town 'd10c509'", 58 + 66 - 6, 0, 0);
        planned("town 'd10c509'", 58 + 66 + 74 - 9, 0, 0, 0);
        planned("town 'd10c509h999'; rule(1)", 116 + 136 + 153 - 9, 1, 1, 1);
        // A MEAL to one that doesn't RULE takes 3 and brings nothing.
        planned("town 'd10s999h999c999k999m999o999'", 99 + 99 + 99, NONE, NONE, NONE);
        planned("town 'd10c500h999c999k999m999o999'", 49 + 48 + 47, NONE, NONE, NONE);
        planned("town 'd10c999c999c999c999c999o509'; rule(5)", 57 + 65 + 73 - 9, 5, 5, 5);
        // HOURS 1, 2, 3 of a MOUSER: 2 more, 1 less, 2 more.
        planned("town 'd10m504'; hour()", 55 + 58 + 64 - 9, 0, 0, 0);
        // HOURS 3, 4, 5 of a MOULTER: 1 less, 2 less, 1 less.
        planned("town 'd10o500'; 3 * hour()", 45 + 43 + 42, NONE, NONE, NONE);
        planned("town 'd10k500'", 52 + 54 + 56, NONE, NONE, NONE);
    }

    private static void planAlike() {
        EDGES.sentence("the first such row (NONE for nothing ahead of CAT 0, 1, ..; HOUR by HOUR)");
        // A MEAL that adds 3 ahead of the last HOUR brings just what it takes, one that adds 1 ahead of the first of three.
        planned("town 'd10c503'", 49, NONE);
        planned("town 'd10c504'", 53 - 3, 0);
        planned("town 'd10c503'", 52 + 51 - 3, 0, NONE);
        planned("town 'd10c503'", 52 + 54 + 53 - 6, 0, 0, NONE);
        planned("town 'd10c501'", 49 + 48 + 47, NONE, NONE, NONE);
        planned("town 'd10c502'", 51 + 52 + 51 - 6, 0, 0, NONE);
        planned("town 'd10c501'", 49 + 48, NONE, NONE);
        planned("town 'd10c502'", 51 + 50 - 3, 0, NONE);
        planned("town 'd10k507'", 52, NONE);
        planned("town 'd10k509'", 56 - 3, 0);
        planned("town 'd10h501'", 49, NONE);
        planned("town 'd10h502'", 53 - 3, 0);
    }

    private static void planHeld() {
        // Held to 1: without a MEAL it WEIGHS 1; with one of 4 it WEIGHS 4, less 3.
        planned("town 'd10c014'", 1, NONE);
        planned("town 'd10c015'", 5 - 3, 0);
        planned("town 'd10c010'", 1 + 1 + 1, NONE, NONE, NONE);
        planned("town 'd10o010'", 1 + 1 + 1, NONE, NONE, NONE);
        // MEALS of 3 ahead of two HOURS: 3, 5, 4; ahead of all three 3, 5, 7, which takes 3 more. MEALS of 2: 2, 3, 2.
        planned("town 'd10c013'", 3 + 5 + 4 - 6, 0, 0, NONE);
        planned("town 'd10c012'", 1 + 1 + 1, NONE, NONE, NONE);
        // Held to 200 at the MEAL, which of 199 brings but 1 behind each HOUR; it is better given of 198, an HOUR later.
        planned("town 'd10c995'; 20 * feed(0)", 198 + 197, NONE, NONE);
        planned("town 'd10c995'; 20 * feed(0)", 198 + 199 + 198 - 3, NONE, 0, NONE);
        // Of 198 it brings 2 behind three HOURS; of 197 it brings 3 behind two: alike.
        planned("town 'd10c999'; 11 * feed(0)", 197 + 199 + 198 - 3, NONE, 0, NONE);
        planned("town 'd10c999'; 12 * feed(0)", 199 + 198 + 197, NONE, NONE, NONE);
        planned("town 'd10k999'; 26 * feed(0)", 200 + 200 + 200, NONE, NONE, NONE);
    }

    private static void planRow() {
        EDGES.sentence("comes to a ROW (anew).");
        for (int r = 0; r <= 5; r++) {
            EDGES.given(Edges.ALL_KINDS + "; row(0, 2); plan(1, " + r + ")");
            EDGES.looks("count(9)", r == 0 ? 1 : 2);
            EDGES.tells("at(" + r + ", 0)", 1, 0);
            EDGES.finds(BEYOND, "at(" + r + ", 1)");
        }
        EDGES.given("town 'd10c509'; plan(0, 5)");
        EDGES.looks("count(9)", 1);
        EDGES.finds(BEYOND, "at(5, 0)");
        // No DEED, nothing told, also with 40 DEEDS.
        EDGES.given(Edges.BUSY + "; plan(3, 2)");
        EDGES.looks("count(2)", 4);
        EDGES.looks("count(1)", 1);
        EDGES.looks("count(4)", 47);
        EDGES.looks("asked()", 7);
        EDGES.looks("upper()", 8);
        EDGES.given(Edges.FORTY);
        EDGES.answers("plan(0, 0)", 0);
        EDGES.answers("plan(1, 0)", 23 - 3);
    }

    private static void planRefused() {
        EDGES.sentence("BAD;");
        for (String given : new String[] {"", Edges.BUSY, Edges.FORTY}) {
            // BAD ahead of STATE.
            EDGES.given(given);
            EDGES.refuses(BAD, "plan(-1, 0)", "plan(4, 0)", "plan(min, 0)", "plan(max, 0)");
            EDGES.refuses(BAD, "plan(0, -1)", "plan(0, 6)", "plan(3, min)", "plan(3, max)", "plan(4, 6)");
        }
        EDGES.sentence("STATE: no CATS.");
        for (String given : new String[] {"", "row(0, 2); lay(0, 1, 3)"}) {
            EDGES.given(given);
            EDGES.refuses(STATE, "plan(0, 0)", "plan(3, 0)", "plan(3, 5)");
        }
    }
}
