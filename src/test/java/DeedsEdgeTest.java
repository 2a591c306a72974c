/** The edges of promises 14 to 21, of MEALS, HOURS, BUYING, SELLING, and of the 40 DEEDS. */
public final class DeedsEdgeTest {
    private static final int BAD = PoundCat.BAD, FULL = PoundCat.FULL, STATE = PoundCat.STATE, SPENT = PoundCat.SPENT;
    private static final int NOTHING = 1;
    private static final Edges EDGES = new Edges("DeedsEdgeTest");

    public static void main(String[] args) {
        meals();
        hours();
        heldHours();
        lostBeyond();
        fortyDeeds();
        hour();
        feed();
        buy();
        sell();
        sellRefused();
        rule();
        undo();
        undoAtTheEdges();
        undoRefused();
        keep();
        on();
        onAndUndo();
        onRefused();
        EDGES.finish();
    }

    private static void meals() {
        EDGES.terms();
        EDGES.sentence("By a MEAL one WEIGHS APPETITE more; a KITTEN half of that (cut); an HEIR twice as much as a MOUSER;"
                + " a STUFFED one nothing.");
        for (int appetite = 0; appetite <= 9; appetite++) {
            EDGES.given("town 'd10c10Am10Ao10Ak10Ah10As10A'".replace('A', (char) ('0' + appetite)));
            EDGES.answers("feed(0)", 10 + appetite);
            EDGES.answers("feed(1)", 10 + appetite);
            EDGES.answers("feed(2)", 10 + appetite);
            EDGES.answers("feed(4)", 10 + 2 * appetite);
            EDGES.answers("feed(5)", 10);
        }
        int[] half = {0, 0, 1, 1, 2, 2, 3, 3, 4, 4};
        for (int appetite = 0; appetite <= 9; appetite++) {
            EDGES.given("town 'd10k10" + appetite + "'");
            EDGES.answers("feed(0)", 10 + half[appetite]);
        }
    }

    /** What one WEIGHS behind each HOUR from the first on. */
    private static void weighs(String town, int... due) {
        EDGES.given("town '" + town + "'");
        Object[] calls = new Object[2 * due.length];
        for (int t = 0; t < due.length; t++) {
            calls[2 * t] = "hour()";
            calls[2 * t + 1] = due[t];
        }
        EDGES.inTurn(calls);
    }

    private static void hours() {
        EDGES.sentence("In an HOUR one WEIGHS 1 less;");
        weighs("d10c200", 19, 18, 17, 16, 15, 14, 13, 12, 11);
        EDGES.sentence("a MOUSER (HEIR, too) 2 more instead, if the number of the HOUR is odd (mice);");
        weighs("d10m200", 19, 21, 20, 22, 21, 23, 22, 24, 23);
        weighs("d10h200", 19, 21, 20, 22, 21, 23, 22, 24, 23);
        EDGES.sentence("a MOULTER 2 less instead, if 4 divides it;");
        weighs("d10o200", 18, 17, 16, 15, 13, 12, 11, 10, 8);
        EDGES.sentence("a KITTEN 2 more instead (it grows);");
        weighs("d10k200", 22, 24, 26, 28, 30);
        EDGES.sentence("a STUFFED one as much as it did.");
        weighs("d10s200", 20, 20, 20, 20, 20);
        weighs("d10s010", 1, 1, 1, 1, 1);
        weighs("d10s990", 99, 99, 99, 99, 99);
    }

    private static void heldHours() {
        EDGES.sentence("One WEIGHS 1 at least,");
        weighs("d10c030", 2, 1, 1, 1);
        weighs("d10m010", 1, 3, 2, 4);
        weighs("d10h010", 1, 3, 2, 4);
        weighs("d10m020", 1, 3, 2, 4);
        weighs("d10o010", 1, 1, 1, 1, 1);
        weighs("d10o020", 1, 1, 1, 1, 1);
        weighs("d10o030", 1, 1, 1, 1, 1);
        weighs("d10o040", 2, 1, 1, 1, 1);
        weighs("d10o070", 5, 4, 3, 2, 1, 1);
        weighs("d10k010", 3, 5);
        EDGES.sentence("200 at most");
        // 99 and 20 times 5 are 199, 92 and 12 times 9 are 200, 98 and 25 times 4 are 198, 99 and 5 times 18 are 189.
        EDGES.given("town 'd10c995'; 20 * feed(0)");
        EDGES.looks("count(4)", 199);
        EDGES.answers("feed(0)", 200);
        EDGES.given("town 'd10c929'; 11 * feed(0)");
        EDGES.answers("feed(0)", 200);
        EDGES.given("town 'd10c939'; 11 * feed(0)");
        EDGES.answers("feed(0)", 200);
        EDGES.given("town 'd10c919'; 11 * feed(0)");
        EDGES.answers("feed(0)", 199);
        EDGES.given("town 'd10k989'; 25 * feed(0)");
        EDGES.inTurn("hour()", 200, "hour()", 200, "feed(0)", 200, "hour()", 200);
        EDGES.given("town 'd10k999'; 25 * feed(0)");
        EDGES.inTurn("hour()", 200, "hour()", 200);
        EDGES.given("town 'd10h999'; 5 * feed(0)");
        EDGES.inTurn("count(4)", 189, "feed(0)", 200, "feed(0)", 200, "hour()", 199, "hour()", 200, "hour()", 199);
    }

    private static void lostBeyond() {
        EDGES.sentence("(what goes beyond is lost, by each MEAL, each HOUR).");
        // Nothing is owed below 1 or saved above 200: the next MEAL, the next HOUR start from there.
        EDGES.given("town 'd10c039'; 9 * hour()");
        EDGES.inTurn("count(4)", 1, "feed(0)", 10, "hour()", 9);
        EDGES.given("town 'd10c999'; 30 * feed(0)");
        EDGES.inTurn("count(4)", 200, "hour()", 199, "hour()", 198, "feed(0)", 200, "hour()", 199);
        EDGES.given("town 'd10o992'; 39 * feed(0)");
        EDGES.answers("hour()", 175);
        EDGES.given("town 'd10o999'; 13 * feed(0)");
        EDGES.inTurn("hour()", 198, "hour()", 197, "hour()", 196, "hour()", 195, "hour()", 193);
    }

    private static void fortyDeeds() {
        EDGES.sentence("These are DEEDS 0, 1, .. (40 at most).");
        String[] deeds = {"hour()", "feed(0)", "buy(1)", "sell(1)", "rule(1)", "lots(1, 1)"};
        int[] then = {19, 24, 80, 40, 25, 20};
        for (int d = 0; d < deeds.length; d++) {
            EDGES.given(Edges.FORTY + "; undo(39)");
            EDGES.answers(deeds[d], then[d]);
            EDGES.given(Edges.FORTY + "; undo(39); " + deeds[d]);
            EDGES.looks("count(2)", 40);
            EDGES.refuses(FULL, "hour()", "feed(0)", "feed(5)", "buy(1)", "rule(2)", "lots(1, 1)");
        }
        // Other calls are no DEEDS.
        EDGES.given(Edges.FORTY);
        EDGES.answers("keep(0)", 40);
        EDGES.looks("weighs(0, 60)", 50);
        EDGES.answers("plan(3, 0)", 75);
        EDGES.answers("undo(39)", 1);
    }

    private static void hour() {
        EDGES.promise(14);
        EDGES.sentence("An HOUR: THE POUND then.");
        EDGES.given(Edges.ALL_KINDS);
        EDGES.answers("hour()", 19);
        EDGES.given(Edges.ALL_KINDS + "; rule(3)");
        EDGES.answers("hour()", 7);
        EDGES.given(Edges.ALL_KINDS + "; rule(5)");
        EDGES.answers("hour()", 12);
        EDGES.given(Edges.ALL_KINDS + "; 39 * hour()");
        // 20 HOURS of one less, 19 of two more; then mice once more.
        EDGES.looks("count(4)", 38);
        EDGES.looks("count(1)", 39);
        EDGES.answers("hour()", 40);
        EDGES.given(Edges.ALL_KINDS + "; 40 * hour()");
        EDGES.looks("count(1)", 40);
        EDGES.sentence("STATE: no CATS;");
        EDGES.given("");
        EDGES.refuses(STATE, "hour()");
        EDGES.given("row(0, 3); text(0, 7); town(0)");
        EDGES.refuses(STATE, "hour()");
        EDGES.sentence("FULL: 40 DEEDS.");
        EDGES.given(Edges.FORTY);
        EDGES.refuses(FULL, "hour()");
        EDGES.given(Edges.ALL_KINDS + "; 40 * hour()");
        EDGES.refuses(FULL, "hour()");
        EDGES.sentence("(FULL last.)");
        EDGES.given(Edges.FORTY + "; undo(39)");
        EDGES.answers("hour()", 19);
    }

    private static void feed() {
        EDGES.promise(15);
        EDGES.sentence("A MEAL: what it WEIGHS then.");
        EDGES.given(Edges.ALL_KINDS + "; rule(1)");
        int[] due = {24, 30, 25, 7, 48, 12};
        for (int i = 0; i < 6; i++) {
            EDGES.answers("feed(" + i + ")", due[i]);
        }
        EDGES.given(Edges.ALL_KINDS + "; feed(5)");
        EDGES.looks("count(2)", 1);
        EDGES.looks("count(1)", 0);
        EDGES.sentence("BAD;");
        EDGES.given(Edges.BUSY);
        EDGES.refuses(BAD, "feed(-1)", "feed(6)", "feed(min)", "feed(max)");
        EDGES.given("town 'd10c101'");
        EDGES.refuses(BAD, "feed(1)", "feed(-1)");
        EDGES.given("");
        EDGES.refuses(BAD, "feed(0)", "feed(-1)", "feed(max)");
        EDGES.given(Edges.FORTY);
        EDGES.refuses(BAD, "feed(6)", "feed(-1)", "feed(min)", "feed(max)");
        EDGES.sentence("FULL.");
        for (int i = 0; i < 6; i++) {
            EDGES.refuses(FULL, "feed(" + i + ")");
        }
        EDGES.given(Edges.FORTY + "; undo(39)");
        EDGES.answers("feed(0)", 24);
    }

    private static void buy() {
        EDGES.promise(16);
        EDGES.sentence("BUYING: GOODS then.");
        EDGES.given(Edges.ALL_KINDS);
        EDGES.answers("buy(1)", 20);
        EDGES.answers("buy(9)", 180);
        EDGES.given(Edges.ALL_KINDS + "; buy(1); buy(9)");
        EDGES.looks("count(3)", 200);
        EDGES.looks("pence()", -100);
        EDGES.given("town 'd10k010'; buy(1)");
        EDGES.looks("count(3)", 1);
        EDGES.looks("pence()", -10);
        // Nine pounds by 200, 34 times: the last of them is the 40th DEED.
        EDGES.given("town 'd10h999'; 6 * feed(0); 33 * buy(9)");
        EDGES.answers("buy(9)", 34 * 9 * 200);
        EDGES.looks("pence()", -33 * 90);
        EDGES.sentence("BAD: also n not 1 .. 9;");
        for (String given : new String[] {"", Edges.BUSY, Edges.FORTY}) {
            // BAD ahead of STATE, of FULL.
            EDGES.given(given);
            EDGES.refuses(BAD, "buy(0)", "buy(10)", "buy(-1)", "buy(min)", "buy(max)");
        }
        EDGES.sentence("STATE: no CATS;");
        EDGES.given("");
        EDGES.refuses(STATE, "buy(1)", "buy(9)");
        EDGES.sentence("FULL.");
        EDGES.given(Edges.FORTY);
        EDGES.refuses(FULL, "buy(1)", "buy(9)");
        EDGES.sentence("(FULL last.)");
        EDGES.given(Edges.FORTY + "; undo(39)");
        EDGES.answers("buy(9)", 240);
    }

    private static void sell() {
        EDGES.terms();
        EDGES.sentence("SELLING n: GOODS are so much less (as far as there are so many), PENCE 10 n more.");
        EDGES.given(Edges.ALL_KINDS + "; buy(9); sell(1)");
        EDGES.looks("count(3)", 160);
        EDGES.looks("pence()", -80);
        EDGES.given(Edges.ALL_KINDS + "; buy(9); sell(9)");
        EDGES.looks("count(3)", 0);
        EDGES.looks("pence()", 0);
        // By a lighter one that RULES PENCE are above 0.
        EDGES.given(Edges.ALL_KINDS + "; buy(1); rule(3); sell(4)");
        EDGES.looks("count(3)", 0);
        EDGES.looks("pence()", 30);
        EDGES.promise(17);
        EDGES.sentence("SELLING: GOODS then.");
        EDGES.given(Edges.ALL_KINDS + "; buy(9)");
        EDGES.answers("sell(1)", 160);
        EDGES.answers("sell(9)", 0);
        EDGES.sentence("BAD: also n not 1 .. 9;");
        for (String given : new String[] {"", Edges.BUSY, Edges.FORTY, Edges.ALL_KINDS}) {
            // BAD ahead of STATE, of SPENT, of FULL.
            EDGES.given(given);
            EDGES.refuses(BAD, "sell(0)", "sell(10)", "sell(-1)", "sell(min)", "sell(max)");
        }
        EDGES.given(Edges.ALL_KINDS + "; 2 * buy(9)");
        EDGES.refuses(BAD, "sell(0)", "sell(10)");
        EDGES.sentence("STATE: no CATS;");
        EDGES.given("");
        EDGES.refuses(STATE, "sell(1)", "sell(9)");
    }

    private static void sellRefused() {
        EDGES.sentence("SPENT: not so many GOODS;");
        EDGES.given(Edges.ALL_KINDS);
        EDGES.refuses(SPENT, "sell(1)", "sell(9)");
        EDGES.given(Edges.ALL_KINDS + "; buy(3)");
        EDGES.answers("sell(3)", 0);
        EDGES.refuses(SPENT, "sell(4)", "sell(9)");
        // 60 GOODS by 12 are 5 pounds; 60 by 24 are 2; 20 by 25 are none.
        EDGES.given(Edges.ALL_KINDS + "; buy(3); rule(5)");
        EDGES.answers("sell(5)", 0);
        EDGES.refuses(SPENT, "sell(6)");
        EDGES.given(Edges.ALL_KINDS + "; buy(3); feed(0)");
        EDGES.answers("sell(2)", 12);
        EDGES.refuses(SPENT, "sell(3)");
        EDGES.given(Edges.ALL_KINDS + "; buy(1); rule(1)");
        EDGES.refuses(SPENT, "sell(1)");
        EDGES.given("town 'd10c210k200'; buy(1); rule(1)");
        EDGES.answers("sell(1)", 1);
        EDGES.given("town 'd10c200k210'; buy(1); rule(1)");
        EDGES.refuses(SPENT, "sell(1)");
        EDGES.sentence("FULL.");
        EDGES.given(Edges.FORTY);
        EDGES.refuses(FULL, "sell(1)", "sell(3)");
        EDGES.sentence("(FULL last.)");
        EDGES.refuses(SPENT, "sell(4)", "sell(9)");
        EDGES.given(Edges.FORTY + "; undo(39)");
        EDGES.answers("sell(3)", 0);
    }

    private static void rule() {
        EDGES.promise(18);
        EDGES.sentence("Another one RULES: THE POUND then.");
        EDGES.given(Edges.ALL_KINDS);
        int[] due = {0, 25, 18, 5, 30, 12};
        for (int i = 1; i < 6; i++) {
            EDGES.answers("rule(" + i + ")", due[i]);
        }
        EDGES.given(Edges.ALL_KINDS + "; rule(5)");
        EDGES.looks("count(5)", 5);
        EDGES.looks("count(4)", 12);
        EDGES.answers("rule(0)", 20);
        EDGES.sentence("BAD;");
        for (String given : new String[] {Edges.BUSY, Edges.FORTY}) {
            EDGES.given(given);
            EDGES.refuses(BAD, "rule(-1)", "rule(6)", "rule(min)", "rule(max)");
        }
        EDGES.given("");
        EDGES.refuses(BAD, "rule(0)", "rule(1)", "rule(-1)");
        EDGES.given("town 'd10c101'");
        EDGES.refuses(BAD, "rule(1)", "rule(-1)");
        EDGES.sentence("STATE: it does;");
        EDGES.refuses(STATE, "rule(0)");
        EDGES.given(Edges.BUSY);
        EDGES.refuses(STATE, "rule(4)");
        EDGES.given(Edges.ALL_KINDS + "; rule(5); rule(0)");
        EDGES.refuses(STATE, "rule(0)");
        EDGES.sentence("FULL.");
        EDGES.given(Edges.FORTY);
        EDGES.refuses(FULL, "rule(1)", "rule(5)");
        EDGES.sentence("(FULL last.)");
        EDGES.refuses(STATE, "rule(0)");
        EDGES.given(Edges.FORTY + "; undo(39)");
        EDGES.answers("rule(1)", 25);
    }

    private static void undo() {
        EDGES.promise(19);
        EDGES.sentence("DEEDS from number n on are undone: how many.");
        String four = Edges.ALL_KINDS + "; hour(); buy(2); feed(0); rule(3)";
        EDGES.given(four);
        for (int n = 0; n <= 4; n++) {
            EDGES.answers("undo(" + n + ")", 4 - n);
        }
        int[][] due = {{0, 0, 0, 20, 0}, {1, 1, 0, 19, 0}, {2, 1, 38, 19, 0}, {3, 1, 38, 23, 0}, {4, 1, 38, 7, 3}};
        for (int n = 0; n <= 4; n++) {
            EDGES.given(four + "; undo(" + n + ")");
            EDGES.looks("count(2)", due[n][0]);
            EDGES.looks("count(1)", due[n][1]);
            EDGES.looks("count(3)", due[n][2]);
            EDGES.looks("count(4)", due[n][3]);
            EDGES.looks("count(5)", due[n][4]);
            EDGES.looks("pence()", n < 2 ? 0 : -20);
        }
        EDGES.given(Edges.ALL_KINDS + "; buy(1); sell(1); undo(1)");
        EDGES.looks("count(3)", 20);
        EDGES.looks("pence()", -10);
        // Undone DEEDS don't come back by others behind them.
        EDGES.given(four + "; undo(1); feed(0)");
        EDGES.looks("count(2)", 2);
        EDGES.looks("count(4)", 23);
        EDGES.looks("count(5)", 0);
        EDGES.given(Edges.FORTY);
        EDGES.answers("undo(0)", 40);
        EDGES.answers("undo(39)", 1);
        EDGES.given(Edges.FORTY + "; undo(0)");
        EDGES.looks("digest()", Subject.made(Edges.ALL_KINDS).call("digest()"));
    }

    /** What was lost at 1 and at 200 is there again when the DEED that lost it is undone. */
    private static void undoAtTheEdges() {
        EDGES.given("town 'd10o020'; hour(); undo(0)");
        EDGES.looks("count(4)", 2);
        EDGES.given("town 'd10c020'; 5 * hour(); undo(0)");
        EDGES.looks("count(4)", 2);
        EDGES.given("town 'd10h999'; 7 * feed(0); undo(5)");
        EDGES.looks("count(4)", 189);
        EDGES.given("town 'd10k999'; 25 * feed(0); 2 * hour(); undo(25)");
        EDGES.looks("count(4)", 199);
        // From behind the last DEED on there are none.
        EDGES.given("");
        EDGES.looks("undo(0)", 0);
        EDGES.given(Edges.ALL_KINDS);
        EDGES.looks("undo(0)", 0);
        EDGES.given(Edges.BUSY);
        EDGES.looks("undo(4)", 0);
        EDGES.given(Edges.FORTY);
        EDGES.looks("undo(40)", 0);
        EDGES.given(Edges.BUSY + "; undo(0)");
        EDGES.looks("undo(0)", 0);
        // lots() are as many DEEDS as were drawn.
        EDGES.given(Edges.ALL_KINDS + "; lots(20, 9)");
        EDGES.answers("undo(0)", 20);
        EDGES.answers("undo(19)", 1);
    }

    private static void undoRefused() {
        EDGES.sentence("BAD.");
        EDGES.given("");
        EDGES.refuses(BAD, "undo(-1)", "undo(1)", "undo(min)", "undo(max)");
        EDGES.given(Edges.ALL_KINDS);
        EDGES.refuses(BAD, "undo(-1)", "undo(1)", "undo(min)", "undo(max)");
        EDGES.given(Edges.BUSY);
        EDGES.refuses(BAD, "undo(-1)", "undo(5)", "undo(40)", "undo(min)", "undo(max)");
        EDGES.given(Edges.FORTY);
        EDGES.refuses(BAD, "undo(-1)", "undo(41)", "undo(min)", "undo(max)");
    }

    private static void keep() {
        EDGES.promise(20);
        EDGES.sentence("The TOWN (as it is, DEEDS) is kept in a place (0 .. 2): how many DEEDS.");
        EDGES.given(Edges.ALL_KINDS);
        for (int k = 0; k <= 2; k++) {
            EDGES.answers("keep(" + k + ")", 0);
        }
        EDGES.given(Edges.FORTY);
        for (int k = 0; k <= 2; k++) {
            EDGES.answers("keep(" + k + ")", 40);
        }
        EDGES.given(Edges.FORTY + "; keep(0)");
        EDGES.looks("count(2)", 40);
        EDGES.looks("count(11)", 1);
        EDGES.given(Edges.FORTY + "; keep(0); keep(1); keep(2); keep(0)");
        EDGES.looks("count(11)", 3);
        // Kept over what was kept there.
        EDGES.given(Edges.BUSY + "; undo(0); keep(1); hour(); hour()");
        EDGES.looks("count(11)", 1);
        EDGES.answers("on(1)", 0);
        EDGES.sentence("BAD;");
        for (String given : new String[] {"", Edges.BUSY, Edges.FORTY}) {
            // BAD ahead of STATE.
            EDGES.given(given);
            EDGES.refuses(BAD, "keep(-1)", "keep(3)", "keep(min)", "keep(max)");
        }
        EDGES.sentence("STATE: no CATS.");
        EDGES.given("");
        EDGES.refuses(STATE, "keep(0)", "keep(1)", "keep(2)");
    }

    private static void on() {
        EDGES.promise(21);
        EDGES.sentence("The TOWN is as it was kept: how many DEEDS.");
        EDGES.given(Edges.FORTY + "; keep(2); undo(0)");
        EDGES.answers("on(2)", 40);
        EDGES.given(Edges.FORTY + "; keep(2); undo(0); on(2)");
        EDGES.looks("count(2)", 40);
        EDGES.looks("count(3)", 60);
        EDGES.refuses(FULL, "hour()");
        EDGES.given(Edges.ALL_KINDS + "; keep(0); 40 * hour()");
        EDGES.answers("on(0)", 0);
        EDGES.given(Edges.ALL_KINDS + "; keep(0); 40 * hour(); on(0)");
        EDGES.looks("count(1)", 0);
        EDGES.looks("count(2)", 0);
        EDGES.looks("count(4)", 20);
        EDGES.looks("undo(0)", 0);
        EDGES.answers("hour()", 19);
        EDGES.given(Edges.BUSY);
        EDGES.answers("on(1)", 1);
        EDGES.given(Edges.BUSY + "; on(1)");
        int[] due = {6, 0, 1, 40, 20, 0, 30, 2, 2, 2, 2, 1};
        for (int what = 0; what <= 11; what++) {
            EDGES.looks("count(" + what + ")", due[what]);
        }
        EDGES.looks("pence()", -20);
        // What was told, FINDINGS, ROWS and TEXTS are no part of the TOWN.
        EDGES.looks("asked()", 7);
        EDGES.looks("upper()", 8);
        EDGES.looks("lower()", 27);
        EDGES.looks("finding()", NOTHING);
        EDGES.given(Edges.ALL_KINDS + "; keep(0); row(0, 2); lay(0, 1, 3); write 1 'd10'; on(0)");
        EDGES.looks("count(9)", 1);
        EDGES.looks("count(10)", 2);
        EDGES.tells("at(0, 1)", 1, 3);
        EDGES.looks("fault(1)", 3);
    }

    private static void onAndUndo() {
        // The kept one stays kept, and stays what it was, whatever is done behind it.
        EDGES.given(Edges.BUSY + "; on(1); 3 * feed(1); undo(0); rule(2)");
        EDGES.answers("on(1)", 1);
        EDGES.looks("count(11)", 1);
        EDGES.given(Edges.BUSY + "; on(1); 3 * feed(1); undo(0); rule(2); on(1)");
        EDGES.looks("count(3)", 40);
        EDGES.looks("count(5)", 0);
        EDGES.tells("cat(1, 1)", 1, 25);
        EDGES.answers("undo(0)", 1);
        EDGES.given(Edges.ALL_KINDS + "; hour(); keep(0); feed(0); keep(1); buy(1); keep(2); undo(0)");
        EDGES.answers("on(0)", 1);
        EDGES.answers("on(1)", 2);
        EDGES.answers("on(2)", 3);
        EDGES.given(Edges.ALL_KINDS + "; hour(); keep(0); feed(0); keep(1); buy(1); keep(2); undo(0); on(1)");
        EDGES.looks("count(4)", 23);
        EDGES.looks("count(3)", 0);
        EDGES.answers("undo(1)", 1);
    }

    private static void onRefused() {
        EDGES.sentence("BAD;");
        for (String given : new String[] {"", Edges.BUSY, Edges.FORTY}) {
            // BAD ahead of the FINDING.
            EDGES.given(given);
            EDGES.refuses(BAD, "on(-1)", "on(3)", "on(min)", "on(max)");
        }
        EDGES.sentence("NOTHING.");
        EDGES.finds(NOTHING, "on(0)", "on(1)", "on(2)");
        EDGES.given("");
        EDGES.finds(NOTHING, "on(0)", "on(1)", "on(2)");
        EDGES.given(Edges.BUSY);
        EDGES.finds(NOTHING, "on(0)", "on(2)");
        EDGES.given(Edges.BUSY + "; town(0)");
        EDGES.finds(NOTHING, "on(0)", "on(1)", "on(2)");
    }
}
