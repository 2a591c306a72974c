/** What "Terms" says of all calls alike: the order of refusals, FINDINGS, fractions, sets, how a TOWN begins and goes on. */
public final class TermsEdgeTest {
    private static final int BAD = -1, FULL = -2, STATE = -4, SPENT = -6, NONE = -9;
    private static final int NOTHING = 1, BEYOND = 2, UNLIKE = 3, NOUGHT = 4, SIZE = 5;
    private static final Edges EDGES = new Edges("TermsEdgeTest");

    public static void main(String[] args) {
        badAheadOfAll();
        fullAndState();
        findingsInOrder();
        nothingChanges();
        findings();
        fractions();
        sizes();
        firstHours();
        trade();
        EDGES.finish();
    }

    private static void badAheadOfAll() {
        EDGES.terms();
        EDGES.sentence("Refused is, the first of these that fits, in this order: BAD -1 (a number that is none, or not as told),");
        // Without CATS: BAD ahead of STATE and of NOTHING.
        EDGES.refuses(BAD, "buy(0)", "sell(10)", "keep(3)", "on(-1)", "steady(61)", "gain(0, 0)", "gain(1, 21)", "ring(-1)",
                "plan(4, 0)", "plan(0, 6)", "sacks(1201)", "sure(-1)", "ask(1201)", "fright(3)", "lots(0, 1)", "lots(1, 0)",
                "row(6, -1)", "at(6, -1)", "lay(-1, -1, 0)", "tear(6)", "copy(0, 0, 6, 0, -1)", "mean(-1)", "text(4, -1)",
                "put(4, -1, 0)", "fault(4)", "town(4)", "kinds(0, 0)", "weights(0, 0)", "test(0, 0)");
        // With 40 DEEDS and three pounds of GOODS: BAD ahead of FULL and of SPENT.
        EDGES.given(Edges.FORTY);
        EDGES.refuses(BAD, "feed(6)", "feed(-1)", "buy(0)", "buy(10)", "sell(0)", "sell(10)", "rule(6)", "rule(-1)",
                "lots(21, 1)", "lots(1, 0)");
        // Ahead of UNLIKE, NOUGHT, SIZE.
        EDGES.given(Edges.BUSY);
        EDGES.refuses(BAD, "mark(1, 6)", "mark(6, 1)", "mark(1, 0)", "kinds(6, 0)", "weights(-1, 0)", "test(6, 0)",
                "sure(1201)", "ask(-1)");
    }

    private static void fullAndState() {
        EDGES.sentence("FULL -2, STATE -4 (not now), SPENT -6 (more than told), FINDING -3 (finding() tells which),"
                + " unless a call says so otherwise.");
        EDGES.given(Edges.FORTY);
        EDGES.refuses(FULL, "hour()", "feed(0)", "buy(9)", "sell(3)", "rule(1)", "lots(1, 1)");
        // FULL last: behind STATE, behind SPENT.
        EDGES.refuses(STATE, "rule(0)");
        EDGES.refuses(SPENT, "sell(4)");
        EDGES.given("");
        EDGES.refuses(STATE, "hour()", "buy(1)", "sell(1)", "keep(0)", "steady(0)", "gain(1, 0)", "ring(0)", "plan(0, 0)",
                "sacks(0)", "sure(1)", "ask(1)", "fright(0)", "lots(1, 1)");
        EDGES.given(Edges.ALL_KINDS);
        EDGES.refuses(SPENT, "sell(1)");
        EDGES.given(Edges.BUSY);
        EDGES.refuses(STATE, "rule(4)", "town(2)");
    }

    private static void findingsInOrder() {
        EDGES.sentence("NONE -9.");
        EDGES.given(Edges.ALL_KINDS);
        EDGES.looks("fault(0)", NONE);
        EDGES.looks("when(0, 200)", NONE);
        EDGES.looks("meals(5, 13, 0)", NONE);
        EDGES.sentence("FINDING -3 (finding() tells which)");
        // As the calls name them: SIZE, NOTHING, BEYOND of copy(); NOTHING, SIZE, UNLIKE of ledgers.
        EDGES.given(Edges.BUSY + "; row(3, 3); lay(3, 0, 41)");
        EDGES.finds(SIZE, "copy(1, 9, 2, 9, -1)");
        EDGES.finds(NOTHING, "copy(1, 9, 0, 9, 1)", "copy(0, 9, 1, 9, 1)", "at(1, -1)", "lay(1, 40, 0)", "put(1, 60, 0)",
                "kinds(0, 1)", "weights(0, 1)", "test(0, 1)");
        EDGES.finds(BEYOND, "copy(0, 9, 0, 9, 1)");
        EDGES.finds(SIZE, "kinds(0, 3)", "weights(0, 3)", "test(0, 3)");
    }

    private static void nothingChanges() {
        EDGES.sentence("What is refused changes nothing but finding(), findings().");
        // All of them, one behind the other; what was told, held, done and kept stays as it is.
        EDGES.given(Edges.BUSY);
        EDGES.allRefused("row(0, 41)", "row(6, 1)", "lay(6, 0, 9)", "at(6, 0)", "tear(6)", "copy(6, 0, 0, 0, 1)", "mean(6)",
                "text(0, 61)", "put(4, 0, 9)", "fault(4)", "town(2)", "town(4)", "cat(0, 5)", "mark(0, 0)", "feed(6)", "buy(0)",
                "sell(0)", "sell(1)", "rule(4)", "rule(6)", "undo(5)", "undo(-1)", "keep(3)", "on(3)", "weighs(0, 61)",
                "when(0, 0)", "steady(61)", "meals(0, 0, 0)", "gain(0, 0)", "ring(61)", "plan(4, 0)", "plan(0, 6)",
                "sacks(1201)", "sure(1201)", "ask(1201)", "kinds(6, 0)", "weights(6, 0)", "test(6, 0)", "fright(3)",
                "odds(0, 201, 0, 0)", "mid(0, 7, 0)", "lots(0, 1)", "lots(1, 0)", "count(12)", "findings(6)");
        EDGES.allRefused("row(0, -1)", "lay(1, 0, 9)", "lay(0, 3, 9)", "at(1, 0)", "at(0, 3)", "tear(1)",
                "copy(0, 0, 0, 0, -1)", "copy(1, 0, 0, 0, 1)", "copy(0, 0, 0, 1, 3)", "mean(1)", "mean(4)", "text(0, -1)",
                "put(1, 0, 9)", "put(0, 60, 9)", "fault(1)", "town(1)", "mark(1, 1)", "on(0)", "sure(1)", "ask(1)",
                "kinds(0, 1)", "weights(0, 0)", "test(0, 0)");
        EDGES.given(Edges.FORTY);
        EDGES.allRefused("hour()", "feed(0)", "buy(1)", "sell(1)", "sell(4)", "rule(0)", "rule(1)", "lots(1, 1)", "lots(20, 1)");
        EDGES.given("");
        EDGES.allRefused("hour()", "buy(1)", "sell(1)", "keep(0)", "steady(0)", "gain(1, 0)", "ring(0)", "plan(3, 0)",
                "sacks(0)", "sure(0)", "ask(0)", "fright(0)", "lots(1, 1)", "town(0)", "on(0)", "tear(0)", "cat(0, 0)");
    }

    private static void findings() {
        EDGES.given(Edges.BUSY + "; row(3, 2); lay(3, 1, 201)");
        EDGES.sentence("FINDINGS: 1 NOTHING (a ROW, a TEXT, a kept TOWN that is missing),");
        EDGES.finds(NOTHING, "at(1, 0)", "lay(1, 0, 0)", "tear(1)", "copy(1, 0, 0, 0, 1)", "copy(0, 0, 1, 0, 1)", "mean(1)",
                "put(1, 0, 0)", "fault(1)", "town(1)", "on(0)", "on(2)", "kinds(0, 1)", "weights(0, 1)", "test(0, 1)");
        EDGES.sentence("2 BEYOND (a place of a ROW, a TEXT that there is not),");
        EDGES.finds(BEYOND, "at(0, 3)", "lay(0, 3, 0)", "copy(0, 3, 0, 0, 1)", "put(2, 2, 0)");
        EDGES.sentence("3 UNLIKE (a CAT of another KIND; a number that is none),");
        EDGES.finds(UNLIKE, "mark(1, 1)", "kinds(0, 3)", "weights(0, 3)", "test(0, 3)");
        EDGES.sentence("4 NOUGHT (shared among none; nothing fits),");
        EDGES.finds(NOUGHT, "mean(4)", "sure(1200)", "ask(1200)");
        EDGES.sentence("5 SIZE (fewer than none; too many, not as many as due).");
        EDGES.finds(SIZE, "row(0, -1)", "text(0, -1)", "copy(0, 0, 0, 0, -1)", "kinds(0, 0)", "weights(0, 0)", "test(0, 0)");
        EDGES.given(Edges.BUSY + "; row(3, 18)");
        EDGES.finds(SIZE, "kinds(0, 3)", "weights(0, 3)", "test(0, 3)");
    }

    private static void fractions() {
        EDGES.sentence("Chances, means, numbers of sets are told by upper(), lower(), in lowest terms,");
        // By 12 in one odd HOUR: 1, 6, 8, 9, 10 of 12 without mice.
        EDGES.given("town 'd10m200'; hour()");
        EDGES.fraction("odds(0, 21, 1, 1)", 11, 12);
        EDGES.fraction("odds(0, 21, 1, 2)", 5, 6);
        EDGES.fraction("odds(0, 21, 1, 3)", 3, 4);
        EDGES.fraction("odds(0, 21, 1, 4)", 2, 3);
        EDGES.fraction("odds(0, 21, 1, 6)", 1, 2);
        EDGES.fraction("odds(0, 21, 1, 8)", 1, 3);
        EDGES.fraction("odds(0, 21, 1, 9)", 1, 4);
        EDGES.fraction("odds(0, 21, 1, 10)", 1, 6);
        EDGES.sentence("the lower number above 0 (0 by 1).");
        EDGES.fraction("odds(0, 21, 1, 12)", 0, 1);
        EDGES.fraction("odds(0, 21, 1, 0)", 1, 1);
        EDGES.sets("sacks(1)", NONE, 0);
        EDGES.sentence("Sets (of CATS, of KINDS) are told by bits.");
        EDGES.sets("sacks(0)", 0, 1);
        EDGES.given("town 'd10c010c020c040c080c160c320'");
        for (int set = 0; set <= 63; set++) {
            EDGES.sets("sacks(" + set + ")", set, 1);
            EDGES.tells("sure(" + set + ")", set, 63 - set);
        }
        EDGES.sets("sacks(64)", NONE, 0);
    }

    private static void sizes() {
        EDGES.sentence("ROWS 0 .. 5 are rows of 0 to 40 ints, TEXTS 0 .. 3 rows of 0 to 60 bytes, or missing (at first).");
        EDGES.given("");
        for (int r = 0; r <= 5; r++) {
            EDGES.finds(NOTHING, "at(" + r + ", 0)");
            EDGES.answers("row(" + r + ", 0)", 0);
            EDGES.answers("row(" + r + ", 40)", 40);
            EDGES.finds(SIZE, "row(" + r + ", -1)");
            EDGES.refuses(BAD, "row(" + r + ", 41)");
        }
        EDGES.refuses(BAD, "row(-1, 0)", "row(6, 0)");
        for (int t = 0; t <= 3; t++) {
            EDGES.finds(NOTHING, "put(" + t + ", 0, 0)");
            EDGES.answers("text(" + t + ", 0)", 0);
            EDGES.answers("text(" + t + ", 60)", 60);
            EDGES.finds(SIZE, "text(" + t + ", -1)");
            EDGES.refuses(BAD, "text(" + t + ", 61)");
        }
        EDGES.refuses(BAD, "text(-1, 0)", "text(4, 0)");
        EDGES.sentence("A TOWN (without CATS at first) is a TEXT:");
        EDGES.looks("count(0)", 0);
        EDGES.refuses(STATE, "hour()");
    }

    private static void firstHours() {
        EDGES.sentence("HOUR 0 is at first, CAT 0 RULES, there are no PENCE, no GOODS.");
        for (String given : new String[] {"", Edges.ALL_KINDS, Edges.BUSY + "; town(0)"}) {
            EDGES.given(given);
            EDGES.looks("count(1)", 0);
            EDGES.looks("count(5)", 0);
            EDGES.looks("count(3)", 0);
            EDGES.looks("pence()", 0);
        }
        EDGES.sentence("THE POUND is what the one WEIGHS that RULES.");
        EDGES.given(Edges.ALL_KINDS);
        EDGES.looks("count(4)", 20);
        EDGES.given(Edges.ALL_KINDS + "; rule(4); feed(4)");
        EDGES.looks("count(4)", 48);
        EDGES.given(Edges.ALL_KINDS + "; rule(4); feed(0)");
        EDGES.looks("count(4)", 30);
        EDGES.sentence("An HOUR: all WEIGH as told by the number that it has, then the HOUR is 1 more.");
        int[][] due = {{20, 25, 18, 5, 30, 12}, {19, 24, 16, 7, 29, 12}, {21, 23, 15, 9, 31, 12}, {20, 22, 14, 11, 30, 12},
            {22, 21, 13, 13, 32, 12}, {21, 20, 11, 15, 31, 12}};
        for (int t = 0; t <= 5; t++) {
            EDGES.given(Edges.ALL_KINDS + "; " + t + " * hour()");
            EDGES.looks("count(1)", t);
            for (int i = 0; i < 6; i++) {
                EDGES.tells("cat(" + i + ", 1)", 1, due[t][i]);
            }
        }
    }

    private static void trade() {
        EDGES.sentence("BUYING n (1 .. 9) pounds: GOODS are n times THE POUND more, PENCE 10 n less (below 0, too).");
        for (int n = 1; n <= 9; n++) {
            EDGES.given(Edges.ALL_KINDS + "; buy(" + n + ")");
            EDGES.looks("count(3)", 20 * n);
            EDGES.looks("pence()", -10 * n);
        }
        EDGES.sentence("What is done: an HOUR, a MEAL, BUYING, SELLING, another one that RULES.");
        EDGES.given(Edges.ALL_KINDS + "; hour(); feed(5); buy(1); sell(1); rule(1)");
        EDGES.looks("count(2)", 5);
        EDGES.given(Edges.ALL_KINDS + "; rule(0); sell(1); buy(0); feed(6)");
        EDGES.looks("count(2)", 0);
    }
}
