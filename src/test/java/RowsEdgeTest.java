/** The edges of promises 1 to 9: a new object, ROWS, and the bytes of TEXTS. */
public final class RowsEdgeTest {
    private static final int BAD = PoundCat.BAD;
    private static final int NOTHING = 1, BEYOND = 2, NOUGHT = 4, SIZE = 5;
    private static final Edges EDGES = new Edges("RowsEdgeTest");

    public static void main(String[] args) {
        newObject();
        row();
        lay();
        at();
        tear();
        copy();
        copyRefused();
        mean();
        text();
        put();
        EDGES.finish();
    }

    private static void newObject() {
        EDGES.promise(1);
        EDGES.sentence("No ROWS, TEXTS, CATS, DOG.");
        for (int what = 0; what <= 11; what++) {
            EDGES.looks("count(" + what + ")", 0);
        }
        for (int r = 0; r <= 5; r++) {
            EDGES.finds(NOTHING, "at(" + r + ", 0)");
        }
        for (int t = 0; t <= 3; t++) {
            EDGES.finds(NOTHING, "fault(" + t + ")");
        }
        EDGES.finds(NOTHING, "on(0)", "on(1)", "on(2)");
        EDGES.refuses(BAD, "cat(0, 0)");
        EDGES.looks("pence()", 0);
        EDGES.looks("asked()", 0);
        EDGES.looks("upper()", 0);
        EDGES.looks("lower()", 1);
        EDGES.looks("finding()", 0);
        // Another object's ROWS, TEXTS, TOWN are its own.
        Subject.made(Edges.BUSY);
        EDGES.looks("count(0)", 0);
        EDGES.looks("count(9)", 0);
    }

    private static void row() {
        EDGES.promise(2);
        EDGES.sentence("A ROW is there with n ints 0: n.");
        EDGES.answers("row(0, 0)", 0);
        EDGES.answers("row(0, 1)", 1);
        EDGES.answers("row(0, 40)", 40);
        EDGES.answers("row(5, 40)", 40);
        EDGES.given("row(0, 0)");
        EDGES.looks("count(9)", 1);
        EDGES.finds(BEYOND, "at(0, 0)");
        EDGES.given("row(0, 40); row(1, 0); row(2, 1); row(3, 40); row(4, 2); row(5, 40)");
        EDGES.looks("count(9)", 6);
        EDGES.tells("at(5, 39)", 1, 0);
        EDGES.given("row(0, 40); lay(0, 0, 7); lay(0, 39, 8); row(0, 40)");
        EDGES.looks("count(9)", 1);
        EDGES.tells("at(0, 0)", 1, 0);
        EDGES.tells("at(0, 39)", 1, 0);
        EDGES.given("row(0, 40); lay(0, 39, 8); row(0, 39)");
        EDGES.finds(BEYOND, "at(0, 39)");
        EDGES.given("row(0, 40); lay(0, 39, 8); row(0, 39); row(0, 40)");
        EDGES.tells("at(0, 39)", 1, 0);
        EDGES.given("row(0, 40); lay(0, 39, 8); tear(0); row(0, 40)");
        EDGES.tells("at(0, 39)", 1, 0);
        EDGES.sentence("BAD: also n above 40;");
        for (String given : new String[] {"", "row(0, 3); lay(0, 1, 7)", Edges.BUSY}) {
            EDGES.given(given);
            EDGES.refuses(BAD, "row(0, 41)", "row(0, max)", "row(5, 41)");
            EDGES.refuses(BAD, "row(-1, 0)", "row(6, 0)", "row(min, 0)", "row(max, 0)", "row(-1, 41)", "row(6, 41)");
            // BAD ahead of the FINDING.
            EDGES.refuses(BAD, "row(-1, -1)", "row(6, -1)", "row(max, min)", "row(min, min)");
        }
        EDGES.sentence("SIZE: below 0.");
        for (String given : new String[] {"", "row(0, 3); lay(0, 1, 7)", Edges.BUSY}) {
            EDGES.given(given);
            EDGES.finds(SIZE, "row(0, -1)", "row(0, min)", "row(5, -1)");
        }
    }

    private static void lay() {
        EDGES.promise(3);
        EDGES.sentence("Place i of a ROW is v: what it was, told by asked(): 1.");
        EDGES.given("row(0, 40); row(1, 40); row(5, 1)");
        EDGES.answers("lay(0, 0, 1)", 1);
        EDGES.answers("lay(0, 39, 1)", 1);
        EDGES.answers("lay(5, 0, 1)", 1);
        EDGES.inTurn("lay(0, 39, max)", 1, "asked()", 0, "lay(0, 39, min)", 1, "asked()", Integer.MAX_VALUE,
                "lay(0, 39, 0)", 1, "asked()", Integer.MIN_VALUE, "lay(0, 39, -9)", 1, "asked()", 0,
                "lay(0, 39, -1)", 1, "asked()", -9);
        EDGES.inTurn("lay(0, 0, 3)", 1, "lay(0, 39, 4)", 1, "at(0, 0)", 1, "asked()", 3, "at(0, 39)", 1, "asked()", 4,
                "at(0, 1)", 1, "asked()", 0, "at(0, 38)", 1, "asked()", 0, "at(1, 0)", 1, "asked()", 0);
        EDGES.sentence("BAD;");
        refusedPlaces("lay(", ", 5)");
    }

    private static void at() {
        EDGES.promise(4);
        EDGES.sentence("Place i of a ROW, told by asked(): 1.");
        EDGES.given("row(0, 40); lay(0, 0, max); lay(0, 39, min); row(5, 1); lay(5, 0, -3)");
        EDGES.tells("at(0, 0)", 1, Integer.MAX_VALUE);
        EDGES.tells("at(0, 39)", 1, Integer.MIN_VALUE);
        EDGES.tells("at(0, 1)", 1, 0);
        EDGES.tells("at(5, 0)", 1, -3);
        EDGES.sentence("BAD;");
        refusedPlaces("at(", ")");
    }

    /** lay() and at() are refused alike. */
    private static void refusedPlaces(String call, String end) {
        for (String given : new String[] {"", Edges.BUSY}) {
            EDGES.given(given);
            for (String r : new String[] {"-1", "6", "min", "max"}) {
                // BAD ahead of both FINDINGS.
                EDGES.refuses(BAD, call + r + ", 0" + end, call + r + ", -1" + end, call + r + ", max" + end);
            }
        }
        EDGES.sentence("NOTHING;");
        EDGES.given(Edges.BUSY + "; row(3, 2); tear(3)");
        for (String r : new String[] {"1", "3", "5"}) {
            // NOTHING ahead of BEYOND.
            EDGES.finds(NOTHING, call + r + ", 0" + end, call + r + ", -1" + end, call + r + ", 40" + end,
                    call + r + ", min" + end, call + r + ", max" + end);
        }
        EDGES.sentence("BEYOND.");
        EDGES.finds(BEYOND, call + "0, -1" + end, call + "0, 3" + end, call + "0, min" + end, call + "0, max" + end);
        EDGES.finds(BEYOND, call + "4, 0" + end, call + "4, -1" + end, call + "4, 1" + end);
        EDGES.given("row(0, 40)");
        EDGES.finds(BEYOND, call + "0, 40" + end, call + "0, -1" + end);
    }

    private static void tear() {
        EDGES.promise(5);
        EDGES.sentence("A ROW is missing: 1.");
        EDGES.given("row(0, 0); row(3, 2); row(5, 40)");
        EDGES.answers("tear(0)", 1);
        EDGES.answers("tear(5)", 1);
        EDGES.inTurn("lay(3, 1, 6)", 1, "tear(5)", 1, "count(9)", 2, "tear(0)", 1, "count(9)", 1,
                "at(3, 1)", 1, "asked()", 6, "tear(3)", 1, "count(9)", 0, "at(3, 1)", PoundCat.FINDING);
        EDGES.given("row(3, 2); tear(3)");
        EDGES.looks("digest()", Subject.made("").call("digest()"));
        EDGES.sentence("BAD;");
        for (String given : new String[] {"", Edges.BUSY}) {
            EDGES.given(given);
            EDGES.refuses(BAD, "tear(-1)", "tear(6)", "tear(min)", "tear(max)");
        }
        EDGES.sentence("NOTHING.");
        EDGES.given("");
        EDGES.finds(NOTHING, "tear(0)", "tear(5)");
        EDGES.given(Edges.BUSY + "; row(3, 2); tear(3)");
        EDGES.finds(NOTHING, "tear(3)", "tear(1)", "tear(5)");
    }

    private static final String COUNTED = "row(0, 5); lay(0, 0, 1); lay(0, 1, 2); lay(0, 2, 3); lay(0, 3, 4); lay(0, 4, 5)";

    private static void holds(String script, int r, int... values) {
        EDGES.given(script);
        for (int i = 0; i < values.length; i++) {
            EDGES.tells("at(" + r + ", " + i + ")", 1, values[i]);
        }
        EDGES.finds(BEYOND, "at(" + r + ", " + values.length + ")");
    }

    private static void copy() {
        EDGES.promise(6);
        EDGES.sentence("n places of a ROW, from one on, come to those of another one (perhaps itself) from one on,"
                + " as if taken ahead: 1.");
        EDGES.given(COUNTED + "; row(1, 3); row(2, 0); row(3, 0)");
        EDGES.answers("copy(0, 0, 1, 0, 3)", 1);
        EDGES.answers("copy(0, 2, 1, 0, 3)", 1);
        EDGES.answers("copy(0, 4, 1, 2, 1)", 1);
        EDGES.answers("copy(0, 0, 0, 0, 5)", 1);
        // None of them: wherever a ROW has a place, and behind its last one.
        EDGES.looks("copy(0, 0, 1, 0, 0)", 1);
        EDGES.looks("copy(0, 5, 1, 3, 0)", 1);
        EDGES.looks("copy(2, 0, 3, 0, 0)", 1);
        EDGES.looks("copy(2, 0, 0, 5, 0)", 1);
        EDGES.looks("copy(0, 2, 0, 2, 3)", 1);
        holds(COUNTED + "; row(1, 3); copy(0, 2, 1, 0, 3)", 1, 3, 4, 5);
        holds(COUNTED + "; row(1, 3); copy(0, 4, 1, 2, 1)", 1, 0, 0, 5);
        holds(COUNTED + "; row(1, 3); copy(0, 2, 1, 0, 3)", 0, 1, 2, 3, 4, 5);
        holds(COUNTED + "; copy(0, 0, 0, 1, 4)", 0, 1, 1, 2, 3, 4);
        holds(COUNTED + "; copy(0, 1, 0, 0, 4)", 0, 2, 3, 4, 5, 5);
        holds(COUNTED + "; copy(0, 0, 0, 2, 3)", 0, 1, 2, 1, 2, 3);
        holds(COUNTED + "; copy(0, 2, 0, 0, 3)", 0, 3, 4, 5, 4, 5);
        holds(COUNTED + "; copy(0, 0, 0, 4, 1)", 0, 1, 2, 3, 4, 1);
        EDGES.given("row(0, 40); lay(0, 0, 8); lay(0, 39, 9); row(5, 40)");
        EDGES.inTurn("copy(0, 0, 5, 0, 40)", 1, "asked()", 0, "at(5, 0)", 1, "asked()", 8, "at(5, 39)", 1, "asked()", 9);
    }

    private static void copyRefused() {
        EDGES.sentence("BAD;");
        for (String given : new String[] {"", Edges.BUSY}) {
            EDGES.given(given);
            for (String r : new String[] {"-1", "6", "min", "max"}) {
                EDGES.refuses(BAD, "copy(" + r + ", 0, 0, 0, 1)", "copy(0, 0, " + r + ", 0, 1)");
                // BAD ahead of SIZE, of NOTHING (ROW 1), of BEYOND.
                EDGES.refuses(BAD, "copy(" + r + ", 0, 0, 0, -1)", "copy(0, 0, " + r + ", 0, min)",
                        "copy(" + r + ", 0, 1, 0, 1)", "copy(1, 0, " + r + ", 0, 1)",
                        "copy(" + r + ", 9, 0, 0, 1)", "copy(0, 0, " + r + ", -1, 99)");
            }
        }
        EDGES.sentence("SIZE: n below 0;");
        EDGES.given(Edges.BUSY);
        EDGES.finds(SIZE, "copy(0, 0, 0, 0, -1)", "copy(0, 0, 4, 0, min)");
        // SIZE ahead of NOTHING, of BEYOND.
        EDGES.finds(SIZE, "copy(1, 0, 0, 0, -1)", "copy(0, 0, 1, 0, -1)", "copy(2, 0, 3, 0, min)",
                "copy(0, 3, 0, 0, -1)", "copy(0, -1, 0, max, -1)");
        EDGES.sentence("NOTHING: either;");
        EDGES.finds(NOTHING, "copy(1, 0, 0, 0, 1)", "copy(0, 0, 1, 0, 1)", "copy(1, 0, 2, 0, 1)", "copy(5, 0, 5, 0, 1)",
                "copy(1, 0, 0, 0, 0)", "copy(0, 0, 1, 0, 0)");
        // NOTHING ahead of BEYOND.
        EDGES.finds(NOTHING, "copy(1, 0, 0, 0, 41)", "copy(0, 9, 1, 0, 1)", "copy(0, -1, 1, -1, max)", "copy(1, -1, 0, 9, 1)");
        EDGES.sentence("BEYOND: not so many there.");
        EDGES.given(COUNTED + "; row(1, 3); row(2, 0)");
        EDGES.finds(BEYOND, "copy(0, 0, 1, 0, 4)", "copy(0, 3, 1, 0, 3)", "copy(0, 0, 1, 1, 3)", "copy(0, 5, 1, 0, 1)",
                "copy(0, 0, 1, 3, 1)", "copy(0, 0, 0, 0, 6)", "copy(0, 1, 0, 0, 5)", "copy(0, 0, 0, 1, 5)");
        EDGES.finds(BEYOND, "copy(2, 0, 0, 0, 1)", "copy(0, 0, 2, 0, 1)", "copy(2, 0, 2, 0, 1)");
        EDGES.finds(BEYOND, "copy(0, -1, 1, 0, 1)", "copy(0, 0, 1, -1, 1)", "copy(0, -1, 1, 0, 0)", "copy(0, 0, 1, -1, 0)",
                "copy(0, 6, 1, 0, 0)", "copy(0, 0, 1, 4, 0)");
        for (String far : new String[] {"min", "max"}) {
            EDGES.finds(BEYOND, "copy(0, " + far + ", 1, 0, 0)", "copy(0, 0, 1, " + far + ", 0)",
                    "copy(0, " + far + ", 1, 0, 1)", "copy(0, 0, 1, " + far + ", 1)",
                    "copy(0, " + far + ", 1, 0, max)", "copy(0, 0, 1, " + far + ", max)", "copy(0, 0, 0, 0, max)");
        }
        EDGES.given("row(0, 40); row(5, 40)");
        EDGES.finds(BEYOND, "copy(0, 0, 5, 0, 41)", "copy(0, 1, 5, 0, 40)", "copy(0, 0, 5, 1, 40)", "copy(0, 40, 5, 0, 1)");
        EDGES.looks("copy(0, 40, 5, 40, 0)", 1);
    }

    private static void mean() {
        EDGES.promise(7);
        EDGES.sentence("The mean of a ROW's ints, cut, told by asked(): 1.");
        EDGES.given("row(0, 1)");
        EDGES.tells("mean(0)", 1, 0);
        EDGES.given("row(5, 1); lay(5, 0, max)");
        EDGES.tells("mean(5)", 1, Integer.MAX_VALUE);
        EDGES.given("row(0, 1); lay(0, 0, min)");
        EDGES.tells("mean(0)", 1, Integer.MIN_VALUE);
        EDGES.given("row(0, 2); lay(0, 0, max); lay(0, 1, max)");
        EDGES.tells("mean(0)", 1, Integer.MAX_VALUE);
        EDGES.given("row(0, 2); lay(0, 0, min); lay(0, 1, min)");
        EDGES.tells("mean(0)", 1, Integer.MIN_VALUE);
        EDGES.given("row(0, 2); lay(0, 0, min); lay(0, 1, max)");
        EDGES.tells("mean(0)", 1, 0);
        EDGES.given("row(0, 2); lay(0, 0, 2); lay(0, 1, 1)");
        EDGES.tells("mean(0)", 1, 1);
        EDGES.given("row(0, 2); lay(0, 0, -2); lay(0, 1, -1)");
        EDGES.tells("mean(0)", 1, -1);
        EDGES.given("row(0, 40); lay(0, 39, 39)");
        EDGES.tells("mean(0)", 1, 0);
        EDGES.given("row(0, 40); lay(0, 39, 40)");
        EDGES.tells("mean(0)", 1, 1);
        EDGES.given("row(0, 40); lay(0, 0, -79)");
        EDGES.tells("mean(0)", 1, -1);
        // What a longer ROW held is no part of it.
        EDGES.given("row(0, 3); lay(0, 2, 90); row(0, 2); lay(0, 0, 4)");
        EDGES.tells("mean(0)", 1, 2);
        StringBuilder great = new StringBuilder("row(0, 40)");
        for (int i = 0; i < 40; i++) {
            great.append("; lay(0, ").append(i).append(", max)");
        }
        EDGES.given(great.toString());
        EDGES.tells("mean(0)", 1, Integer.MAX_VALUE);
        EDGES.given(great.toString().replace("max", "min"));
        EDGES.tells("mean(0)", 1, Integer.MIN_VALUE);
        EDGES.sentence("BAD;");
        for (String given : new String[] {"", Edges.BUSY}) {
            EDGES.given(given);
            EDGES.refuses(BAD, "mean(-1)", "mean(6)", "mean(min)", "mean(max)");
        }
        EDGES.sentence("NOTHING;");
        EDGES.finds(NOTHING, "mean(1)", "mean(5)");
        EDGES.given("row(0, 1); tear(0)");
        EDGES.finds(NOTHING, "mean(0)");
        EDGES.sentence("NOUGHT.");
        EDGES.given(Edges.BUSY);
        EDGES.finds(NOUGHT, "mean(4)");
    }

    private static void text() {
        EDGES.promise(8);
        EDGES.sentence("A TEXT is there with n blanks: n.");
        EDGES.answers("text(0, 0)", 0);
        EDGES.answers("text(0, 1)", 1);
        EDGES.answers("text(0, 60)", 60);
        EDGES.answers("text(3, 60)", 60);
        EDGES.given("text(0, 0)");
        EDGES.looks("count(10)", 1);
        EDGES.finds(BEYOND, "put(0, 0, 1)");
        EDGES.given("text(0, 60); text(1, 0); text(2, 1); text(3, 60)");
        EDGES.looks("count(10)", 4);
        EDGES.looks("put(3, 0, 32)", 1032);
        EDGES.looks("put(3, 59, 32)", 1032);
        EDGES.given("text(0, 60); put(0, 0, 99); put(0, 59, 99); text(0, 60)");
        EDGES.looks("count(10)", 1);
        EDGES.looks("put(0, 0, 32)", 1032);
        EDGES.looks("put(0, 59, 32)", 1032);
        EDGES.given("text(0, 60); put(0, 59, 99); text(0, 59)");
        EDGES.finds(BEYOND, "put(0, 59, 32)");
        EDGES.given("text(0, 60); put(0, 59, 99); text(0, 59); text(0, 60)");
        EDGES.looks("put(0, 59, 32)", 1032);
        EDGES.sentence("BAD: also n above 60;");
        for (String given : new String[] {"", "text(0, 2); put(0, 1, 7)", Edges.BUSY}) {
            EDGES.given(given);
            EDGES.refuses(BAD, "text(0, 61)", "text(0, max)", "text(3, 61)");
            EDGES.refuses(BAD, "text(-1, 0)", "text(4, 0)", "text(min, 0)", "text(max, 0)", "text(-1, 61)", "text(4, 61)");
            // BAD ahead of the FINDING.
            EDGES.refuses(BAD, "text(-1, -1)", "text(4, -1)", "text(max, min)", "text(min, min)");
        }
        EDGES.sentence("SIZE: below 0.");
        for (String given : new String[] {"", "text(0, 2); put(0, 1, 7)", Edges.BUSY}) {
            EDGES.given(given);
            EDGES.finds(SIZE, "text(0, -1)", "text(0, min)", "text(3, -1)");
        }
    }

    private static void put() {
        EDGES.promise(9);
        EDGES.sentence("Byte i of a TEXT is v, cut to a byte: what it was, and 1000 more.");
        EDGES.given("text(0, 60); text(1, 60); text(3, 1)");
        EDGES.answers("put(0, 0, 1)", 1032);
        EDGES.answers("put(0, 59, 1)", 1032);
        EDGES.answers("put(3, 0, 1)", 1032);
        // A byte is -128 .. 127; what is cut are the bits above.
        EDGES.inTurn("put(0, 0, 127)", 1032, "put(0, 0, 128)", 1127, "put(0, 0, -128)", 872, "put(0, 0, -129)", 872,
                "put(0, 0, 255)", 1127, "put(0, 0, 256)", 999, "put(0, 0, 257)", 1000, "put(0, 0, max)", 1001,
                "put(0, 0, min)", 999, "put(0, 0, -1)", 1000, "put(0, 0, 0)", 999, "put(0, 0, 32)", 1000);
        EDGES.inTurn("put(0, 59, 7)", 1032, "put(0, 58, 32)", 1032, "put(1, 59, 32)", 1032, "put(0, 59, 32)", 1007,
                "asked()", 0);
        EDGES.sentence("BAD;");
        for (String given : new String[] {"", Edges.BUSY}) {
            EDGES.given(given);
            for (String t : new String[] {"-1", "4", "min", "max"}) {
                EDGES.refuses(BAD, "put(" + t + ", 0, 5)", "put(" + t + ", -1, 5)", "put(" + t + ", max, 5)");
            }
        }
        EDGES.sentence("NOTHING;");
        // NOTHING ahead of BEYOND.
        EDGES.finds(NOTHING, "put(1, 0, 5)", "put(3, 0, 5)", "put(1, -1, 5)", "put(1, 60, 5)", "put(3, min, 5)", "put(3, max, 5)");
        EDGES.sentence("BEYOND.");
        EDGES.finds(BEYOND, "put(2, -1, 5)", "put(2, 2, 5)", "put(2, min, 5)", "put(2, max, 5)");
        EDGES.given("text(0, 60); text(1, 0)");
        EDGES.finds(BEYOND, "put(0, 60, 5)", "put(0, -1, 5)", "put(1, 0, 5)", "put(1, -1, 5)");
    }
}
