/** The edges of promises 22 to 25: weighs, when, steady, meals. */
public final class AheadEdgeTest {
    private static final int BAD = PoundCat.BAD, STATE = PoundCat.STATE, NONE = PoundCat.NONE;
    private static final Edges EDGES = new Edges("AheadEdgeTest");

    public static void main(String[] args) {
        weighs();
        weighsRefused();
        when();
        whenRefused();
        steady();
        steadyRefused();
        meals();
        mealsHeld();
        mealsRefused();
        EDGES.finish();
    }

    private static void weighs() {
        EDGES.promise(22);
        EDGES.sentence("What a CAT WEIGHS in n (0 .. 60) HOURS.");
        EDGES.given(Edges.ALL_KINDS);
        int[] now = {20, 25, 18, 5, 30, 12};
        int[] next = {19, 24, 16, 7, 29, 12};
        int[] last = {50, 1, 1, 125, 60, 12};
        for (int i = 0; i < 6; i++) {
            EDGES.looks("weighs(" + i + ", 0)", now[i]);
            EDGES.looks("weighs(" + i + ", 1)", next[i]);
            EDGES.looks("weighs(" + i + ", 60)", last[i]);
        }
        // 60 HOURS take 60 of a CAT and 75 of a MOULTER.
        EDGES.given("town 'd10c610c620o760o770k700k710'");
        int[] inAll = {1, 2, 1, 2, 190, 191};
        for (int i = 0; i < 6; i++) {
            EDGES.looks("weighs(" + i + ", 60)", inAll[i]);
        }
        EDGES.given("town 'd10k999c020o030m010h010'");
        EDGES.looks("weighs(0, 50)", 199);
        EDGES.looks("weighs(0, 51)", 200);
        EDGES.looks("weighs(0, 52)", 200);
        EDGES.looks("weighs(0, 60)", 200);
        EDGES.looks("weighs(1, 1)", 1);
        EDGES.looks("weighs(1, 2)", 1);
        EDGES.looks("weighs(2, 1)", 1);
        EDGES.looks("weighs(3, 1)", 1);
        EDGES.looks("weighs(3, 2)", 3);
        EDGES.looks("weighs(4, 3)", 2);
        // From HOUR 39 on (mice) and from HOUR 40 on: as many HOURS with mice as without.
        EDGES.given(Edges.ALL_KINDS + "; 39 * hour()");
        EDGES.looks("weighs(0, 0)", 38);
        EDGES.looks("weighs(0, 1)", 40);
        EDGES.looks("weighs(0, 59)", 69);
        EDGES.looks("weighs(0, 60)", 68);
        EDGES.given(Edges.ALL_KINDS + "; 40 * hour()");
        EDGES.looks("weighs(0, 0)", 40);
        EDGES.looks("weighs(0, 1)", 39);
        EDGES.looks("weighs(0, 60)", 70);
        // A MOULTER from HOUR 1, 2, 3 on: in HOURS 4 and 8 2 less.
        EDGES.given("town 'd10o520'; hour()");
        int[] moulted = {50, 49, 48, 47, 45, 44, 43, 42, 40, 39};
        for (int n = 0; n < 10; n++) {
            EDGES.looks("weighs(0, " + n + ")", moulted[n]);
        }
        for (int hours = 2; hours <= 3; hours++) {
            EDGES.given("town 'd10o520'; " + hours + " * hour()");
            for (int n = 0; n + hours <= 10; n++) {
                EDGES.looks("weighs(0, " + n + ")", moulted[n + hours - 1]);
            }
        }
        EDGES.given(Edges.ALL_KINDS + "; 40 * hour()");
        EDGES.looks("weighs(3, 57)", 199);
        EDGES.looks("weighs(3, 58)", 200);
    }

    private static void refusedCat(String call, String end) {
        for (String given : new String[] {Edges.BUSY, Edges.FORTY}) {
            EDGES.given(given);
            EDGES.refuses(BAD, call + "-1" + end, call + "6" + end, call + "min" + end, call + "max" + end);
        }
        EDGES.given("town 'd10c101'");
        EDGES.refuses(BAD, call + "1" + end, call + "-1" + end);
        EDGES.given("");
        EDGES.refuses(BAD, call + "0" + end, call + "-1" + end, call + "1" + end);
        EDGES.given(Edges.BUSY);
    }

    private static void weighsRefused() {
        EDGES.sentence("BAD.");
        refusedCat("weighs(", ", 0)");
        EDGES.refuses(BAD, "weighs(0, -1)", "weighs(0, 61)", "weighs(0, min)", "weighs(0, max)", "weighs(6, 61)");
    }

    private static void when() {
        EDGES.promise(23);
        EDGES.sentence("In how many HOURS (0 .. 60) a CAT WEIGHS v (1 .. 200) first.");
        EDGES.given("town 'd10c610c620k010k799m200o180'");
        EDGES.looks("when(0, 61)", 0);
        EDGES.looks("when(0, 60)", 1);
        EDGES.looks("when(0, 2)", 59);
        EDGES.looks("when(0, 1)", 60);
        EDGES.looks("when(1, 2)", 60);
        EDGES.looks("when(2, 1)", 0);
        EDGES.looks("when(2, 121)", 60);
        EDGES.looks("when(3, 199)", 60);
        // 20, 19, 21, 20, 22: the first of those alike.
        EDGES.looks("when(4, 20)", 0);
        EDGES.looks("when(4, 21)", 2);
        // 12 HOURS take 15 of the MOULTER, the next one 2.
        EDGES.looks("when(5, 1)", 13);
        EDGES.given("town 'd10k999k989c010s200'");
        EDGES.looks("when(0, 199)", 50);
        EDGES.looks("when(0, 200)", 51);
        EDGES.looks("when(1, 200)", 51);
        EDGES.looks("when(2, 1)", 0);
        EDGES.looks("when(3, 20)", 0);
        EDGES.sentence("NONE: in none.");
        EDGES.looks("when(0, 198)", NONE);
        EDGES.looks("when(1, 199)", NONE);
        EDGES.looks("when(2, 2)", NONE);
        EDGES.looks("when(2, 200)", NONE);
        EDGES.looks("when(3, 19)", NONE);
        EDGES.looks("when(3, 200)", NONE);
        EDGES.given("town 'd10c610c620k010k799k789o180'");
        EDGES.looks("when(1, 1)", NONE);
        EDGES.looks("when(0, 62)", NONE);
        EDGES.looks("when(2, 123)", NONE);
        EDGES.looks("when(3, 200)", NONE);
        EDGES.looks("when(4, 200)", NONE);
        // It leaps from 18 to 16.
        EDGES.looks("when(5, 17)", NONE);
    }

    private static void whenRefused() {
        EDGES.sentence("BAD.");
        refusedCat("when(", ", 1)");
        EDGES.refuses(BAD, "when(0, 0)", "when(0, 201)", "when(0, -1)", "when(0, min)", "when(0, max)", "when(6, 0)");
    }

    private static void steady() {
        EDGES.promise(24);
        EDGES.sentence("The CAT (the first) that WEIGHS most alike in n (0 .. 60) HOURS, now and each of them:"
                + " the most less the least is least; that by asked().");
        EDGES.given("town 'd10k200c200m200o200'");
        EDGES.tells("steady(0)", 0, 0);
        // Behind one: 2, 1, 1, 2; behind two: 4, 2, 2, 3; behind three: 6, 3, 2, 4.
        EDGES.tells("steady(1)", 1, 1);
        EDGES.tells("steady(2)", 1, 2);
        EDGES.tells("steady(3)", 2, 2);
        // Behind 59: 118, 19, 30 (19 .. 49), 19; behind 60: 120, 19, 31, 19.
        EDGES.tells("steady(59)", 1, 19);
        EDGES.tells("steady(60)", 1, 19);
        EDGES.given("town 'd10k010'");
        EDGES.tells("steady(0)", 0, 0);
        EDGES.tells("steady(1)", 0, 2);
        EDGES.tells("steady(60)", 0, 120);
        EDGES.given("town 'd10c500c010s990'");
        EDGES.tells("steady(60)", 1, 0);
        EDGES.given("town 'd10c500s990c010'");
        EDGES.tells("steady(60)", 1, 0);
        EDGES.given("town 'd10c500c500c500c500c500k969'; 26 * feed(5)");
        EDGES.tells("steady(0)", 0, 0);
        EDGES.tells("steady(1)", 5, 0);
        EDGES.tells("steady(60)", 5, 0);
        // The one that RULES is no better than others.
        EDGES.given("town 'd10c500c500'; rule(1); hour()");
        EDGES.tells("steady(9)", 0, 9);
        // 200, 199 behind HOUR 0, 200 again behind HOUR 1, where what goes beyond is lost.
        EDGES.given("town 'd10m999m999'; 12 * feed(0); 12 * feed(1); hour()");
        EDGES.tells("steady(1)", 0, 1);
    }

    private static void refusedNumber(String call, String end, String... numbers) {
        for (String given : new String[] {"", Edges.BUSY, Edges.FORTY}) {
            // BAD ahead of STATE.
            EDGES.given(given);
            for (String n : numbers) {
                EDGES.refuses(BAD, call + n + end);
            }
        }
    }

    private static void steadyRefused() {
        EDGES.sentence("BAD;");
        refusedNumber("steady(", ")", "-1", "61", "min", "max");
        EDGES.sentence("STATE: no CATS.");
        EDGES.given("");
        EDGES.refuses(STATE, "steady(0)", "steady(60)");
    }

    private static void meals() {
        EDGES.promise(25);
        EDGES.sentence("The fewest MEALS now (0 .. 20) by which a CAT WEIGHS v (1 .. 200) or more in n (0 .. 20) HOURS.");
        EDGES.given("town 'd10c105k105h105s105m105o105'");
        EDGES.looks("meals(0, 1, 0)", 0);
        EDGES.looks("meals(0, 10, 0)", 0);
        EDGES.looks("meals(0, 11, 0)", 1);
        EDGES.looks("meals(0, 15, 0)", 1);
        EDGES.looks("meals(0, 16, 0)", 2);
        EDGES.looks("meals(0, 105, 0)", 19);
        EDGES.looks("meals(0, 106, 0)", 20);
        EDGES.looks("meals(0, 110, 0)", 20);
        // 20 HOURS take 20 of what the MEALS gave ahead of them: 10 and 5 m less 20, 1 at least.
        EDGES.looks("meals(0, 1, 20)", 0);
        EDGES.looks("meals(0, 2, 20)", 3);
        EDGES.looks("meals(0, 90, 20)", 20);
        // 20 HOURS give a KITTEN 40, a MOUSER 10; they take 25 of a MOULTER.
        EDGES.looks("meals(1, 50, 20)", 0);
        EDGES.looks("meals(1, 51, 20)", 1);
        EDGES.looks("meals(1, 90, 20)", 20);
        EDGES.looks("meals(2, 20, 20)", 0);
        EDGES.looks("meals(2, 200, 20)", 18);
        EDGES.looks("meals(2, 200, 0)", 19);
        EDGES.looks("meals(3, 10, 20)", 0);
        EDGES.looks("meals(4, 120, 20)", 20);
        EDGES.looks("meals(5, 85, 20)", 20);
        EDGES.sentence("NONE: by no 20.");
        EDGES.looks("meals(0, 111, 0)", NONE);
        EDGES.looks("meals(0, 91, 20)", NONE);
        EDGES.looks("meals(1, 91, 20)", NONE);
        EDGES.looks("meals(3, 11, 20)", NONE);
        EDGES.looks("meals(4, 121, 20)", NONE);
        EDGES.looks("meals(5, 86, 20)", NONE);
        EDGES.given("town 'd10c500k501'");
        EDGES.looks("meals(0, 50, 0)", 0);
        EDGES.looks("meals(0, 51, 0)", NONE);
        EDGES.looks("meals(1, 51, 0)", NONE);
        EDGES.looks("meals(1, 52, 1)", 0);
    }

    private static void mealsHeld() {
        EDGES.given("town 'd10c999h999'");
        EDGES.looks("meals(0, 198, 0)", 11);
        EDGES.looks("meals(0, 199, 0)", 12);
        EDGES.looks("meals(0, 200, 0)", 12);
        EDGES.looks("meals(0, 199, 1)", 12);
        EDGES.looks("meals(0, 200, 1)", NONE);
        EDGES.looks("meals(0, 180, 20)", 12);
        EDGES.looks("meals(0, 181, 20)", NONE);
        EDGES.looks("meals(1, 200, 1)", NONE);
        EDGES.looks("meals(1, 200, 2)", 6);
        // HOUR 1: 98 and 5 times 18 are 188.
        EDGES.given("town 'd10c999h999'; hour()");
        EDGES.looks("meals(1, 190, 1)", 5);
        EDGES.looks("meals(1, 191, 1)", 6);
        EDGES.looks("meals(1, 200, 1)", 6);
        // The 40 DEEDS are no matter: nothing is done.
        EDGES.given(Edges.FORTY);
        EDGES.looks("meals(0, 100, 0)", 20);
    }

    private static void mealsRefused() {
        EDGES.sentence("BAD.");
        refusedCat("meals(", ", 1, 0)");
        EDGES.refuses(BAD, "meals(0, 0, 0)", "meals(0, 201, 0)", "meals(0, -1, 0)", "meals(0, min, 0)", "meals(0, max, 0)");
        EDGES.refuses(BAD, "meals(0, 1, -1)", "meals(0, 1, 21)", "meals(0, 1, min)", "meals(0, 1, max)", "meals(6, 0, 21)");
    }
}
