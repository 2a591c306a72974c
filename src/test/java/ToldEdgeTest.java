/** The edges of promises 39 to 46: asked, upper, lower, pence, count, finding, findings, digest. */
public final class ToldEdgeTest {
    private static final int BAD = PoundCat.BAD, NONE = PoundCat.NONE;
    private static final Edges EDGES = new Edges("ToldEdgeTest");
    /** A ROW 0 with 7, told; then a call. */
    private static final String SEVEN = Edges.ALL_KINDS + "; row(0, 4); lay(0, 0, 7); lay(0, 1, 20); lay(0, 2, 1); lay(0, 3, 19);"
            + " row(1, 0); row(2, 2); lay(2, 1, 201); at(0, 0)";

    public static void main(String[] args) {
        asked();
        askedByOthers();
        upperAndLower();
        pence();
        countTown();
        countRest();
        finding();
        findings();
        digestOfLittle();
        digestOfMuch();
        EDGES.finish();
    }

    private static void asked() {
        EDGES.promise(39);
        EDGES.sentence("What the latest lay(), at(), mean(), cat(), steady(), gain(), ring(), sacks(), sure(), ask(), weights(), test()");
        String[] calls = {"lay(0, 1, 5)", "at(0, 3)", "mean(0)", "cat(4, 3)", "steady(1)", "gain(9, 20)", "ring(3)",
            "sacks(30)", "sure(0)", "ask(30)", "weights(0, 1)", "test(0, 1)"};
        int[] told = {20, 19, 11, 18, 0, NONE, 1, 10, 63, 2, 1, 2};
        for (int c = 0; c < calls.length; c++) {
            EDGES.given(SEVEN + "; " + calls[c]);
            EDGES.looks("asked()", told[c]);
        }
        EDGES.given(SEVEN + "; mean(0); cat(4, 3); at(0, 3)");
        EDGES.looks("asked()", 19);
        EDGES.sentence("that was not refused");
        String[] refused = {"lay(6, 0, 1)", "lay(3, 0, 1)", "lay(0, 4, 1)", "at(-1, 0)", "at(3, 0)", "at(0, 4)", "mean(6)",
            "mean(3)", "mean(1)", "cat(6, 0)", "cat(0, 5)", "steady(61)", "gain(0, 1)", "gain(1, 21)", "ring(61)",
            "sacks(1201)", "sure(1201)", "sure(1)", "ask(-1)", "ask(1)", "weights(6, 0)", "weights(0, 3)", "weights(0, 2)",
            "test(0, 6)", "test(0, 3)", "test(0, 2)"};
        for (String call : refused) {
            EDGES.given(SEVEN + "; " + call);
            EDGES.looks("asked()", 7);
        }
        EDGES.sentence("(nor NONE)");
        // By ROW 0 (20 in 7 HOURS, 19 in one) CAT 1, which WEIGHS 25, is of no KIND.
        EDGES.given(SEVEN + "; test(1, 0)");
        EDGES.looks("asked()", 7);
        // What is NONE by asked() itself was told.
        EDGES.given(SEVEN + "; sacks(1)");
        EDGES.looks("asked()", NONE);
        EDGES.given(SEVEN + "; weights(5, 0)");
        EDGES.looks("asked()", NONE);
        EDGES.given(SEVEN + "; gain(1, 0)");
        EDGES.looks("asked()", NONE);
        EDGES.sentence("told; 0 before.");
        EDGES.given("");
        EDGES.looks("asked()", 0);
        EDGES.given("at(0, 0); row(0, 1); steady(0); town(0); count(3)");
        EDGES.looks("asked()", 0);
    }

    private static void askedByOthers() {
        String[] others = {"row(3, 2)", "tear(0)", "copy(0, 0, 2, 0, 2)", "text(1, 3)", "put(0, 0, 99)", "fault(0)", "town(0)",
            "mark(0, 1)", "hour()", "feed(0)", "buy(1)", "buy(1); sell(1)", "rule(1)", "hour(); undo(0)", "keep(0)",
            "keep(0); on(0)", "weighs(0, 9)", "when(0, 20)", "when(0, 200)", "meals(0, 30, 1)", "meals(5, 30, 1)", "plan(2, 3)",
            "kinds(0, 1)", "fright(1)", "odds(0, 20, 3, 4)", "mid(0, 3, 4)", "lots(1, 5)", "upper()", "lower()", "pence()",
            "count(4)", "finding()", "findings(1)", "digest()"};
        for (String call : others) {
            EDGES.given(SEVEN + "; " + call);
            EDGES.looks("asked()", 7);
        }
    }

    private static void upperAndLower() {
        String third = Edges.ALL_KINDS + "; odds(0, 20, 3, 4)";
        EDGES.promise(40);
        EDGES.sentence("The upper number that was told last;");
        EDGES.given(third);
        EDGES.looks("upper()", 2);
        EDGES.given(third + "; mid(0, 2, 1)");
        EDGES.looks("upper()", 83);
        EDGES.given(third + "; sacks(30)");
        EDGES.looks("upper()", 3);
        EDGES.given(third + "; sacks(1)");
        EDGES.looks("upper()", 0);
        for (String call : new String[] {"odds(0, 20, 7, 4)", "mid(6, 0, 0)", "sacks(1201)", "sure(0)", "ask(0)", "hour()", "town(0)"}) {
            EDGES.given(third + "; " + call);
            EDGES.looks("upper()", 2);
            EDGES.looks("lower()", 3);
        }
        EDGES.sentence("0 before.");
        for (String given : new String[] {"", Edges.FORTY, "sacks(0)", Edges.ALL_KINDS + "; sure(0); ask(0); cat(0, 1)"}) {
            EDGES.given(given);
            EDGES.looks("upper()", 0);
        }
        EDGES.promise(41);
        EDGES.sentence("Its lower number;");
        EDGES.given(third);
        EDGES.looks("lower()", 3);
        EDGES.given(third + "; mid(0, 2, 1)");
        EDGES.looks("lower()", 4);
        EDGES.given(third + "; sacks(30)");
        EDGES.looks("lower()", 1);
        EDGES.given(third + "; sacks(1)");
        EDGES.looks("lower()", 1);
        EDGES.given(third + "; odds(0, 200, 6, 5)");
        EDGES.looks("lower()", 1);
        EDGES.sentence("1 before.");
        for (String given : new String[] {"", Edges.FORTY, "sacks(0)", Edges.ALL_KINDS + "; sure(0); ask(0); cat(0, 1)"}) {
            EDGES.given(given);
            EDGES.looks("lower()", 1);
        }
    }

    private static void pence() {
        EDGES.promise(42);
        EDGES.sentence("PENCE (below 0, too).");
        EDGES.looks("pence()", 0);
        EDGES.given(Edges.ALL_KINDS + "; buy(1)");
        EDGES.looks("pence()", -10);
        EDGES.given(Edges.ALL_KINDS + "; 40 * buy(9)");
        EDGES.looks("pence()", -3600);
        EDGES.looks("count(3)", 40 * 9 * 20);
        // Bought by 200, sold by 1.
        EDGES.given("town 'd10h999c010'; 6 * feed(0); buy(1); rule(1); 22 * sell(9)");
        EDGES.looks("pence()", 22 * 90 - 10);
        EDGES.looks("count(3)", 200 - 22 * 9);
        EDGES.given("town 'd10h999c010'; 6 * feed(0); buy(1); rule(1); 22 * sell(9); undo(8)");
        EDGES.looks("pence()", -10);
    }

    private static void countTown() {
        EDGES.promise(43);
        EDGES.sentence("0 CATS, 1 the HOUR, 2 DEEDS, 3 GOODS, 4 THE POUND (0 without CATS), 5 who RULES, 6 the DOG,");
        EDGES.given("");
        for (int what = 0; what <= 6; what++) {
            EDGES.looks("count(" + what + ")", 0);
        }
        EDGES.given("text(0, 7); town(0); hour()");
        EDGES.looks("count(4)", 0);
        int[] due = {6, 1, 4, 40, 47, 4, 30};
        EDGES.given(Edges.BUSY);
        for (int what = 0; what <= 6; what++) {
            EDGES.looks("count(" + what + ")", due[what]);
        }
        EDGES.sentence("7 MOUSERS (HEIRS, too), 8 KITTENS (STUFFED ones, too),");
        EDGES.looks("count(7)", 2);
        EDGES.looks("count(8)", 2);
        EDGES.given("town 'd10c101o101'");
        EDGES.looks("count(7)", 0);
        EDGES.looks("count(8)", 0);
        EDGES.given("town 'd10m101m101m101h101h101h101'");
        EDGES.looks("count(7)", 6);
        EDGES.looks("count(8)", 0);
        EDGES.given("town 'd10k101k101k101s101s101s101'");
        EDGES.looks("count(7)", 0);
        EDGES.looks("count(8)", 6);
    }

    private static void countRest() {
        EDGES.sentence("9 ROWS, 10 TEXTS that are there, 11 kept TOWNS.");
        EDGES.looks("count(9)", 0);
        EDGES.looks("count(10)", 1);
        EDGES.looks("count(11)", 0);
        EDGES.given("row(0, 0); row(1, 0); row(2, 0); row(3, 0); row(4, 0); row(5, 0); text(0, 0); text(1, 0); text(2, 0); text(3, 0)");
        EDGES.looks("count(9)", 6);
        EDGES.looks("count(10)", 4);
        EDGES.given("row(5, 40); row(5, 1); text(3, 60); text(3, 1)");
        EDGES.looks("count(9)", 1);
        EDGES.looks("count(10)", 1);
        EDGES.given(Edges.ALL_KINDS + "; keep(0); keep(1); keep(2)");
        EDGES.looks("count(11)", 3);
        EDGES.given(Edges.ALL_KINDS + "; keep(2); keep(2); on(2)");
        EDGES.looks("count(11)", 1);
        EDGES.given(Edges.ALL_KINDS + "; keep(0); keep(1); keep(2); town(0)");
        EDGES.looks("count(11)", 0);
        EDGES.sentence("BAD.");
        for (String given : new String[] {"", Edges.BUSY, Edges.FORTY}) {
            EDGES.given(given);
            EDGES.refuses(BAD, "count(-1)", "count(12)", "count(min)", "count(max)");
        }
    }

    private static void finding() {
        EDGES.promise(44);
        EDGES.sentence("The latest FINDING (0 before any).");
        EDGES.given("");
        EDGES.looks("finding()", 0);
        EDGES.given(Edges.ALL_KINDS + "; row(6, 0); hour(); sell(1); rule(0); findings(0); count(12)");
        EDGES.looks("finding()", 0);
        String[] found = {"tear(0)", "row(0, 1); at(0, 1)", "town 'd10c101'; mark(0, 1)", "row(0, 0); mean(0)", "row(0, -1)"};
        for (int f = 1; f <= 5; f++) {
            EDGES.given(found[f - 1]);
            EDGES.looks("finding()", f);
            // Another one behind it; a call that is allowed, and one that is refused otherwise, leave it.
            EDGES.given(found[f - 1] + "; text(0, -1)");
            EDGES.looks("finding()", 5);
            EDGES.given("text(0, -1); " + found[f - 1] + "; row(2, 3); at(2, 0); row(6, 0); keep(0); town 'd11k101'; finding()");
            EDGES.looks("finding()", f);
        }
    }

    private static void findings() {
        EDGES.promise(45);
        EDGES.sentence("How often a FINDING (1 .. 5) was answered.");
        EDGES.given("");
        for (int f = 1; f <= 5; f++) {
            EDGES.looks("findings(" + f + ")", 0);
        }
        EDGES.given("town 'd10c101'; 3 * tear(0); row(0, 0); 2 * at(0, 0); 4 * mark(0, 1); mean(0); 5 * row(0, -1); 2 * row(6, 0)");
        int[] often = {3, 2, 4, 1, 5};
        for (int f = 1; f <= 5; f++) {
            EDGES.looks("findings(" + f + ")", often[f - 1]);
        }
        // The 512th call of an object is its last.
        EDGES.given("511 * tear(0)");
        EDGES.answers("findings(1)", 511);
        EDGES.answers("findings(2)", 0);
        EDGES.answers("tear(5)", PoundCat.FINDING);
        EDGES.sentence("BAD.");
        for (String given : new String[] {"", Edges.BUSY}) {
            EDGES.given(given);
            EDGES.refuses(BAD, "findings(0)", "findings(6)", "findings(-1)", "findings(min)", "findings(max)");
        }
    }

    private static long mixed(long... values) {
        long h = 17;
        for (long v : values) {
            h = 31 * h + v;
        }
        return h;
    }

    private static void digestOfLittle() {
        EDGES.promise(46);
        EDGES.sentence("h = 17; then h = 31 h + v for each v: count() 0 to 11; PENCE;");
        EDGES.given("");
        EDGES.looks("digest()", mixed(0, 0, 0, 0, 0, 0, 0, 0, 0, 0, 0, 0, 0, -1, -1, -1, -1, -1, -1, -1, -1, -1, -1, -1, -1, -1));
        EDGES.sentence("of each CAT cat() 0 to 4;");
        EDGES.given("write 0 'd10h999'; town(0); 6 * feed(0); hour(); buy(9); text(0, 0)");
        EDGES.looks("digest()", mixed(1, 1, 8, 1791, 199, 0, 10, 1, 0, 0, 1, 0, -90, 4, 199, 9, 18, 1,
                -1, -1, -1, -1, -1, -1, -1, -1, -1, 0, -1, -1, -1));
        EDGES.sentence("of each kept TOWN how many DEEDS (-1: missing);");
        EDGES.given("town 'd10s109'; keep(2); 40 * feed(0); keep(0); undo(0); text(0, 0)");
        EDGES.looks("digest()", mixed(1, 0, 0, 0, 10, 0, 10, 0, 1, 0, 1, 2, 0, 5, 10, 9, 0, 0,
                40, -1, 0, -1, -1, -1, -1, -1, -1, 0, -1, -1, -1));
        EDGES.sentence("of each ROW its size (-1: missing) and places, of each TEXT likewise.");
        EDGES.given("row(0, 0); row(5, 3); lay(5, 0, min); lay(5, 1, max); lay(5, 2, -1); text(0, 0); text(3, 4); put(3, 0, -128);"
                + " put(3, 1, 127); put(3, 2, 255)");
        EDGES.looks("digest()", mixed(0, 0, 0, 0, 0, 0, 0, 0, 0, 2, 2, 0, 0, -1, -1, -1,
                0, -1, -1, -1, -1, 3, Integer.MIN_VALUE, Integer.MAX_VALUE, -1, 0, -1, -1, 4, -128, 127, -1, 32));
        // An empty ROW is another thing than a missing one.
        EDGES.given("row(0, 0); tear(0)");
        EDGES.looks("digest()", mixed(0, 0, 0, 0, 0, 0, 0, 0, 0, 0, 0, 0, 0, -1, -1, -1, -1, -1, -1, -1, -1, -1, -1, -1, -1, -1));
    }

    /** Six ROWS of 40, four TEXTS of 60. */
    private static void digestOfMuch() {
        StringBuilder made = new StringBuilder();
        long[] values = new long[13 + 3 + 6 * 41 + 4 * 61];
        values[9] = 6;
        values[10] = 4;
        values[13] = values[14] = values[15] = -1;
        int place = 16;
        for (int r = 0; r <= 5; r++) {
            made.append("row(").append(r).append(", 40); lay(").append(r).append(", 39, max);");
            values[place] = 40;
            values[place + 40] = Integer.MAX_VALUE;
            place += 41;
        }
        for (int t = 0; t <= 3; t++) {
            made.append("text(").append(t).append(", 60); put(").append(t).append(", 59, -128);");
            values[place] = 60;
            java.util.Arrays.fill(values, place + 1, place + 60, 32);
            values[place + 60] = -128;
            place += 61;
        }
        EDGES.given(made.toString());
        EDGES.looks("digest()", mixed(values));
    }
}
