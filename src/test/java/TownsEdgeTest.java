/** The edges of promises 10 to 13 and of what the document says of a TOWN: FAULTS, KINDS, MEALS, HOURS. */
public final class TownsEdgeTest {
    private static final int BAD = PoundCat.BAD, STATE = PoundCat.STATE, NONE = PoundCat.NONE;
    private static final int NOTHING = 1, UNLIKE = 3;
    private static final Edges EDGES = new Edges("TownsEdgeTest");

    public static void main(String[] args) {
        blanks();
        dogs();
        cats();
        letters();
        figures();
        tooEarly();
        tooMany();
        fault();
        town();
        townRefused();
        cat();
        heldChange();
        catRefused();
        markOfMice();
        markOfMeals();
        markRefused();
        EDGES.finish();
    }

    private static void reads(String signs, int place) {
        EDGES.given("write 1 '" + signs + "'");
        EDGES.looks("fault(1)", place);
    }

    private static void blanks() {
        EDGES.terms();
        EDGES.sentence("blanks (32) ahead, between, behind as many as wanted, none within items.");
        reads("d10c101", NONE);
        reads(" d10c101", NONE);
        reads("d10 c101", NONE);
        reads("d10c101 ", NONE);
        reads("d10c101 c101", NONE);
        reads(" ".repeat(53) + "d10c101", NONE);
        reads("d10" + " ".repeat(53) + "c101", NONE);
        reads("d10c101" + " ".repeat(53), NONE);
        reads("d10c101" + " ".repeat(49) + "c101", NONE);
        reads("d 10c101", 1);
        reads("d1 0c101", 2);
        reads("d10c 101", 4);
        reads("d10c1 01", 5);
        reads("d10c10 1", 6);
        reads("  d10  c10 1", 10);
        reads("d10c101m 101", 8);
        reads("d10c101m1 01", 9);
        reads("d10c101m10 1", 10);
        // No other byte is a blank.
        for (int v : new int[] {-128, -96, -1, 0, 9, 10, 13, 31, 33, 127}) {
            EDGES.given("write 1 ' d10 c101 '; put(1, 0, " + v + ")");
            EDGES.looks("fault(1)", 0);
            EDGES.given("write 1 ' d10 c101 '; put(1, 4, " + v + ")");
            EDGES.looks("fault(1)", 4);
            EDGES.given("write 1 ' d10 c101 '; put(1, 9, " + v + ")");
            EDGES.looks("fault(1)", 9);
        }
    }

    private static void dogs() {
        EDGES.sentence("First d (100) and what the DOG abroad weighs (two figures, 01 .. 99).");
        reads("d01c101", NONE);
        reads("d99c101", NONE);
        reads("d00c101", 2);
        reads("d1c101", 2);
        reads("dc101", 1);
        reads("d100c101", 3);
        reads("c101", 0);
        reads("c101d10", 0);
        reads("10c101", 0);
        reads("D10c101", 0);
        reads("e10c101", 0);
        reads("  c101", 2);
        reads("d10d10c101", 3);
        reads("d10c101d10", 7);
        EDGES.given("town 'd01c101'");
        EDGES.looks("count(6)", 1);
        EDGES.given("town 'd99c101'");
        EDGES.looks("count(6)", 99);
        EDGES.given("town 'd09c101'");
        EDGES.looks("count(6)", 9);
        EDGES.given("town 'd10c101'");
        EDGES.looks("count(6)", 10);
    }

    private static void cats() {
        EDGES.sentence("Then CATS (1 to 6; 0, 1, .. as they come): a letter, what it WEIGHS (two figures, 01 .. 99),"
                + " APPETITE (0 .. 9, one figure).");
        reads("d10", 3);
        reads("d10c010", NONE);
        reads("d10c999", NONE);
        reads("d10c001", 5);
        reads("d10c009", 5);
        reads("d10c1011", 7);
        reads("d10c10110", 7);
        reads("d10101", 3);
        reads("d10c101101", 7);
        reads("d10c101m101o101k101h101s101", NONE);
        EDGES.given("town 'd10c010'");
        EDGES.looks("count(0)", 1);
        EDGES.tells("cat(0, 1)", 1, 1);
        EDGES.tells("cat(0, 2)", 1, 0);
        EDGES.given("town 'd10s999k010'");
        EDGES.looks("count(0)", 2);
        EDGES.tells("cat(0, 0)", 1, 5);
        EDGES.tells("cat(0, 1)", 1, 99);
        EDGES.tells("cat(0, 2)", 1, 9);
        EDGES.tells("cat(1, 0)", 1, 3);
        EDGES.tells("cat(1, 1)", 1, 1);
        EDGES.tells("cat(1, 2)", 1, 0);
        EDGES.given("town 'd10c110m221o332k443h554s665'");
        EDGES.looks("count(0)", 6);
        for (int i = 0; i < 6; i++) {
            EDGES.tells("cat(" + i + ", 1)", 1, 11 * (i + 1));
            EDGES.tells("cat(" + i + ", 2)", 1, i);
        }
    }

    /** What 256 bytes are at a place of "d10c101m101": the FAULT is due there but for those that may stand there. */
    private static void eachByte(String signs, int place, String fine) {
        for (int v = -128; v <= 127; v++) {
            if (v == ' ') {
                continue;
            }
            boolean may = v > 0 && fine.indexOf(v) >= 0;
            EDGES.given("write 1 '" + signs + "'; put(1, " + place + ", " + v + ")");
            EDGES.answers("fault(1)", may ? NONE : place);
        }
    }

    private static void letters() {
        EDGES.sentence("KINDS of CATS and letters: 0 CAT (c, 99), 1 MOUSER (m, 109; a CAT), 2 MOULTER (o, 111; a CAT),"
                + " 3 KITTEN (k, 107; a CAT), 4 HEIR (h, 104; a MOUSER), 5 STUFFED (s, 115; a KITTEN).");
        String kinds = "cmokhs";
        for (int kind = 0; kind <= 5; kind++) {
            EDGES.given("town 'd10" + kinds.charAt(kind) + "101'");
            EDGES.tells("cat(0, 0)", 1, kind);
            EDGES.looks("count(7)", kind == 1 || kind == 4 ? 1 : 0);
            EDGES.looks("count(8)", kind == 3 || kind == 5 ? 1 : 0);
        }
        int[] numbers = {99, 109, 111, 107, 104, 115};
        for (int kind = 0; kind <= 5; kind++) {
            EDGES.given("write 0 'd10x101'; put(0, 3, " + numbers[kind] + "); town(0)");
            EDGES.tells("cat(0, 0)", 1, kind);
        }
        EDGES.sentence("A FAULT is the first place at which it can't go on so (a letter,");
        eachByte("d10c101m101", 0, "d");
        eachByte("d10c101m101", 3, kinds);
        eachByte("d10c101m101", 7, kinds);
        // The first of two.
        reads("x10x101", 0);
        reads("d10x10x", 3);
        reads("d00x101", 2);
        reads("d10c10x ,", 6);
    }

    private static void figures() {
        EDGES.sentence("a figure that is none such,");
        String all = "0123456789";
        for (int place : new int[] {1, 4, 6, 8, 10}) {
            eachByte("d11c111m111", place, all);
        }
        eachByte("d11c111m111", 2, all);
        eachByte("d11c111m111", 5, all);
        eachByte("d11c111m111", 9, all);
        EDGES.sentence("a second figure of 00,");
        eachByte("d01c011m011", 2, "123456789");
        eachByte("d01c011m011", 5, "123456789");
        eachByte("d01c011m011", 9, "123456789");
        reads("d00", 2);
        reads("d00c", 2);
        reads(" d00", 3);
        reads("d10c00", 5);
        reads("d10c000", 5);
        reads("d10c101s00", 9);
        reads("d0", 2);
        reads("d10c0", 5);
        EDGES.sentence("a seventh CAT: its place;");
        reads("d10c101c101c101c101c101c101", NONE);
        reads("d10c101c101c101c101c101c101c101", 27);
        reads("d10c101c101c101c101c101c101 c101", 28);
        reads("d10c101c101c101c101c101c101   c", 30);
        reads("d10c101c101c101c101c101c101c", 27);
        reads("d10c101c101c101c101c101c101s00", 27);
    }

    private static void tooEarly() {
        EDGES.sentence("the TEXT's size, if its end comes too early,");
        String whole = "d10c101";
        for (int size = 0; size < whole.length(); size++) {
            reads(whole.substring(0, size), size);
            reads("   " + whole.substring(0, size), size + 3);
        }
        reads("d10    ", 7);
        for (int size = 1; size < 4; size++) {
            reads("d10c101" + "m204".substring(0, size), 7 + size);
            reads("d10c101 " + "m204".substring(0, size), 8 + size);
        }
        reads(" ".repeat(54) + "d10c10", 60);
        reads(" ".repeat(57) + "d10", 60);
        reads("d10" + " ".repeat(57), 60);
        // What stood there before the TEXT was made anew is no part of it.
        EDGES.given("write 1 'd10c101'; text(1, 6); put(1, 0, 100); put(1, 1, 49); put(1, 2, 48); put(1, 3, 99);"
                + " put(1, 4, 49); put(1, 5, 48)");
        EDGES.looks("fault(1)", 6);
        EDGES.sentence("or there are blanks alone).");
        reads("", 0);
        reads(" ", 1);
        reads(" ".repeat(59), 59);
        reads(" ".repeat(60), 60);
    }

    private static void tooMany() {
        EDGES.sentence("CATS (1 to 6;");
        String six = "d10c101m101o101k101h101s101";
        reads(six + " ".repeat(33), NONE);
        reads(" ".repeat(33) + six, NONE);
        for (String other : new String[] {"x", "d", "1", "c", "m101"}) {
            reads(six + other, 27);
            reads(six + "  " + other, 29);
        }
        reads(six + " ".repeat(32) + "c", 59);
        reads("d10c101c101c101c101c101c10", 26);
    }

    private static void fault() {
        EDGES.promise(10);
        EDGES.sentence("A FAULT of a TEXT;");
        for (int t = 0; t <= 3; t++) {
            EDGES.given("write " + t + " 'd10c'");
            EDGES.looks("fault(" + t + ")", 4);
        }
        EDGES.sentence("NONE: there is none.");
        for (int t = 0; t <= 3; t++) {
            EDGES.given("write " + t + " 'd10c101'");
            EDGES.looks("fault(" + t + ")", NONE);
        }
        EDGES.sentence("BAD;");
        for (String given : new String[] {"", Edges.BUSY}) {
            EDGES.given(given);
            EDGES.refuses(BAD, "fault(-1)", "fault(4)", "fault(min)", "fault(max)");
        }
        EDGES.sentence("NOTHING.");
        EDGES.finds(NOTHING, "fault(1)", "fault(3)");
        EDGES.given("");
        EDGES.finds(NOTHING, "fault(0)", "fault(1)", "fault(2)", "fault(3)");
    }

    private static void town() {
        EDGES.promise(11);
        EDGES.sentence("A TOWN by a TEXT");
        for (int t = 0; t <= 3; t++) {
            EDGES.given("write " + t + " 'd10c101'");
            EDGES.answers("town(" + t + ")", 1);
        }
        EDGES.given("write 3 'd07k055s123'; town(3); text(3, 0)");
        // A TOWN stays what it is when its TEXT changes.
        EDGES.looks("count(0)", 2);
        EDGES.tells("cat(0, 1)", 1, 5);
        EDGES.sentence("(anew: HOUR 0, CAT 0 RULES, no PENCE, GOODS, DEEDS; kept TOWNS go)");
        String again = Edges.BUSY + "; keep(0); keep(2); town(0)";
        EDGES.given(again);
        int[] due = {6, 0, 0, 0, 20, 0, 30, 2, 2, 2, 2, 0};
        for (int what = 0; what <= 11; what++) {
            EDGES.looks("count(" + what + ")", due[what]);
        }
        EDGES.looks("pence()", 0);
        EDGES.tells("cat(4, 1)", 1, 30);
        EDGES.finds(NOTHING, "on(0)", "on(1)", "on(2)");
        EDGES.looks("undo(0)", 0);
        // What was told, and the FINDINGS, are no part of the TOWN.
        EDGES.looks("asked()", 7);
        EDGES.looks("upper()", 8);
        EDGES.looks("lower()", 27);
        EDGES.looks("finding()", NOTHING);
        EDGES.tells("at(0, 1)", 1, 7);
        EDGES.given(Edges.FORTY + "; write 1 'd07k055s123'; town(1)");
        EDGES.looks("count(2)", 0);
        EDGES.answers("hour()", 7);
        EDGES.given("town 'd10c101m101o101'; rule(2); town 'd11k055'");
        EDGES.looks("count(5)", 0);
        EDGES.looks("count(4)", 5);
        EDGES.refuses(BAD, "cat(1, 0)");
        EDGES.sentence(": how many CATS.");
        StringBuilder signs = new StringBuilder("d10");
        for (int n = 1; n <= 6; n++) {
            signs.append("c101");
            EDGES.given("write 0 '" + signs + "'");
            EDGES.answers("town(0)", n);
        }
        EDGES.given("write 0 '" + signs + " ".repeat(33) + "'");
        EDGES.answers("town(0)", 6);
    }

    private static void townRefused() {
        EDGES.sentence("BAD;");
        for (String given : new String[] {"", Edges.BUSY}) {
            EDGES.given(given);
            EDGES.refuses(BAD, "town(-1)", "town(4)", "town(min)", "town(max)");
        }
        EDGES.sentence("NOTHING;");
        EDGES.finds(NOTHING, "town(1)", "town(3)");
        EDGES.sentence("STATE: a FAULT.");
        EDGES.refuses(STATE, "town(2)");
        for (String signs : new String[] {"", "   ", "d10", "d10c10", "d10c001", "d10c101c101c101c101c101c101c101"}) {
            EDGES.given(Edges.BUSY + "; write 3 '" + signs + "'");
            EDGES.refuses(STATE, "town(3)");
            EDGES.given("write 3 '" + signs + "'");
            EDGES.refuses(STATE, "town(3)");
        }
        EDGES.sentence("(STATE behind NOTHING.)");
        EDGES.given("");
        EDGES.finds(NOTHING, "town(0)", "town(1)", "town(2)", "town(3)");
    }

    private static void traits(int i, int... due) {
        for (int what = 0; what <= 4; what++) {
            EDGES.tells("cat(" + i + ", " + what + ")", 1, due[what]);
        }
    }

    private static void cat() {
        EDGES.promise(12);
        EDGES.sentence("Of a CAT: 0 the KIND, 1 what it WEIGHS, 2 APPETITE,");
        EDGES.given(Edges.ALL_KINDS);
        traits(0, 1, 20, 4, 4, -1);
        traits(1, 0, 25, 5, 5, -1);
        traits(2, 2, 18, 7, 7, -2);
        traits(3, 3, 5, 5, 2, 2);
        traits(4, 4, 30, 9, 18, -1);
        traits(5, 5, 12, 3, 0, 0);
        EDGES.sentence("3 how much a MEAL adds (all of it),");
        EDGES.given("town 'd10c990m990o990k990h990s990'");
        for (int i = 0; i < 6; i++) {
            EDGES.tells("cat(" + i + ", 3)", 1, 0);
        }
        EDGES.given("town 'd10c011m011o011k011h011s011'");
        int[] ofOne = {1, 1, 1, 0, 2, 0};
        for (int i = 0; i < 6; i++) {
            EDGES.tells("cat(" + i + ", 3)", 1, ofOne[i]);
        }
        // All of it, though it WEIGHS 200 and what goes beyond is lost: 99 and 12 times 9, 26 times 4, 6 times 18.
        int[] ofNine = {9, 9, 9, 4, 18, 0};
        for (int kind = 0; kind <= 5; kind++) {
            EDGES.given("town 'd10" + "cmokhs".charAt(kind) + "999'; 26 * feed(0)");
            EDGES.tells("cat(0, 1)", 1, kind == 5 ? 99 : 200);
            EDGES.tells("cat(0, 3)", 1, ofNine[kind]);
        }
    }

    /** CAT 0 behind so many MEALS and HOURS, and what it truly WEIGHS behind one more HOUR. */
    private static void change(String town, int meals, int hours, int weighs, int more) {
        EDGES.given("town '" + town + "'; " + meals + " * feed(0); " + hours + " * hour()");
        EDGES.tells("cat(0, 1)", 1, weighs);
        EDGES.tells("cat(0, 4)", 1, more);
        EDGES.given("town '" + town + "'; " + meals + " * feed(0); " + (hours + 1) + " * hour()");
        EDGES.tells("cat(0, 1)", 1, weighs + more);
    }

    private static void heldChange() {
        EDGES.sentence("4 how much more it truly WEIGHS behind the next HOUR (below 0: less; held to 1 .. 200),"
                + " told by asked(): 1.");
        change("d10c030", 0, 0, 3, -1);
        change("d10c020", 0, 0, 2, -1);
        change("d10c010", 0, 0, 1, 0);
        change("d10m020", 0, 0, 2, -1);
        change("d10m010", 0, 0, 1, 0);
        change("d10m010", 0, 1, 1, 2);
        change("d10h010", 0, 0, 1, 0);
        change("d10h010", 0, 1, 1, 2);
        change("d10o030", 0, 0, 3, -2);
        change("d10o020", 0, 0, 2, -1);
        change("d10o010", 0, 0, 1, 0);
        change("d10o030", 0, 1, 1, 0);
        change("d10o060", 0, 4, 1, 0);
        change("d10o070", 0, 4, 2, -1);
        change("d10o080", 0, 4, 3, -2);
        change("d10o080", 0, 3, 4, -1);
        change("d10k010", 0, 0, 1, 2);
        change("d10s010", 0, 0, 1, 0);
        // A MEAL adds 4: 96 and 26 times 4 are 200, 99 and 25 times 4 are 199.
        change("d10k969", 26, 0, 200, 0);
        change("d10k999", 25, 0, 199, 1);
        change("d10k989", 25, 0, 198, 2);
        change("d10k979", 25, 0, 197, 2);
        // In HOUR 1 there are mice. 99 and 12 times 9 are 200 at most, 90 and 12 times 9 are 198.
        change("d10m999", 12, 1, 199, 1);
        change("d10h999", 6, 1, 199, 1);
        change("d10m999", 12, 2, 200, -1);
        change("d10h999", 6, 2, 200, -1);
        change("d10m909", 12, 1, 197, 2);
        change("d10m919", 12, 1, 198, 2);
        change("d10c999", 12, 0, 200, -1);
        change("d10o999", 12, 0, 200, -2);
        change("d10s999", 20, 0, 99, 0);
    }

    private static void catRefused() {
        EDGES.sentence("BAD.");
        EDGES.given(Edges.BUSY);
        EDGES.refuses(BAD, "cat(-1, 0)", "cat(6, 0)", "cat(min, 0)", "cat(max, 0)");
        EDGES.refuses(BAD, "cat(0, -1)", "cat(0, 5)", "cat(5, 5)", "cat(0, min)", "cat(0, max)", "cat(6, 5)", "cat(-1, -1)");
        EDGES.given("town 'd10c101'");
        EDGES.tells("cat(0, 4)", 1, -1);
        EDGES.refuses(BAD, "cat(1, 0)", "cat(5, 0)", "cat(0, 5)");
        EDGES.given("");
        EDGES.refuses(BAD, "cat(0, 0)", "cat(0, 4)", "cat(0, 5)", "cat(-1, 0)");
    }

    private static void markOfMice() {
        EDGES.promise(13);
        EDGES.sentence("What a CAT that IS of a KIND tells: a MOUSER (HEIR, too) in how many HOURS there are mice (0: now, 1),");
        for (int hours : new int[] {0, 1, 2, 3, 38, 39, 40}) {
            EDGES.given(Edges.ALL_KINDS + "; " + hours + " * hour()");
            EDGES.looks("mark(0, 1)", hours % 2 == 1 ? 0 : 1);
            EDGES.looks("mark(4, 1)", hours % 2 == 1 ? 0 : 1);
        }
        EDGES.sentence("a MOULTER in how many HOURS it moults (0: now, .. 3),");
        int[] moults = {0, 3, 2, 1, 0, 3, 2, 1, 0};
        for (int hours = 0; hours <= 8; hours++) {
            EDGES.given(Edges.ALL_KINDS + "; " + hours + " * hour()");
            EDGES.looks("mark(2, 2)", moults[hours]);
        }
        for (int hours = 36; hours <= 40; hours++) {
            EDGES.given(Edges.ALL_KINDS + "; " + hours + " * hour()");
            EDGES.looks("mark(2, 2)", moults[hours - 36]);
        }
    }

    private static void markOfMeals() {
        EDGES.sentence("a KITTEN (STUFFED, too) how much a MEAL adds less than APPETITE,");
        int[] less = {0, 1, 1, 2, 2, 3, 3, 4, 4, 5};
        for (int appetite = 0; appetite <= 9; appetite++) {
            EDGES.given("town 'd10k10" + appetite + "s10" + appetite + "h10" + appetite + "'");
            EDGES.looks("mark(0, 3)", less[appetite]);
            EDGES.looks("mark(1, 3)", appetite);
        }
        EDGES.sentence("an HEIR how much a MEAL adds more than to a MOUSER,");
        for (int appetite = 0; appetite <= 9; appetite++) {
            EDGES.given("town 'd10k10" + appetite + "s10" + appetite + "h10" + appetite + "'");
            EDGES.looks("mark(2, 4)", appetite);
        }
        // All of it, though it WEIGHS 200 and what goes beyond is lost.
        EDGES.given("town 'd10h999k999'; 6 * feed(0); 26 * feed(1)");
        EDGES.looks("mark(0, 4)", 9);
        EDGES.looks("mark(1, 3)", 5);
        EDGES.sentence("a STUFFED one how many other KITTENS (STUFFED ones, too) there are.");
        EDGES.given("town 'd10s101'");
        EDGES.looks("mark(0, 5)", 0);
        EDGES.given("town 'd10s101c101m101o101h101'");
        EDGES.looks("mark(0, 5)", 0);
        EDGES.given("town 'd10k101s101'");
        EDGES.looks("mark(1, 5)", 1);
        EDGES.given("town 'd10s101s101s101s101s101s101'");
        EDGES.looks("mark(0, 5)", 5);
        EDGES.looks("mark(5, 5)", 5);
        EDGES.given("town 'd10k101k101k101k101k101s101'");
        EDGES.looks("mark(5, 5)", 5);
    }

    private static void markRefused() {
        EDGES.sentence("BAD: also KIND 0;");
        EDGES.given(Edges.BUSY);
        for (int i = 0; i < 6; i++) {
            EDGES.refuses(BAD, "mark(" + i + ", 0)");
        }
        EDGES.refuses(BAD, "mark(0, -1)", "mark(0, 6)", "mark(0, min)", "mark(0, max)");
        EDGES.refuses(BAD, "mark(-1, 1)", "mark(6, 1)", "mark(min, 1)", "mark(max, 1)");
        // BAD ahead of the FINDING: CAT 1 is of none of these KINDS.
        EDGES.refuses(BAD, "mark(1, 6)", "mark(1, -1)", "mark(6, 5)", "mark(-1, 0)");
        EDGES.given("");
        EDGES.refuses(BAD, "mark(0, 0)", "mark(0, 1)", "mark(0, 5)", "mark(0, 6)");
        EDGES.given("town 'd10c101'");
        EDGES.refuses(BAD, "mark(1, 1)", "mark(0, 0)");
        EDGES.sentence("UNLIKE.");
        EDGES.given(Edges.BUSY);
        String[] is = {"1", "", "2", "3", "14", "35"};
        for (int i = 0; i < 6; i++) {
            for (int kind = 1; kind <= 5; kind++) {
                if (is[i].indexOf('0' + kind) < 0) {
                    EDGES.finds(UNLIKE, "mark(" + i + ", " + kind + ")");
                }
            }
        }
        // BUSY is in HOUR 1.
        EDGES.looks("mark(0, 1)", 0);
        EDGES.looks("mark(2, 2)", 3);
        EDGES.looks("mark(3, 3)", 3);
        EDGES.looks("mark(4, 1)", 0);
        EDGES.looks("mark(4, 4)", 9);
        EDGES.looks("mark(5, 3)", 3);
        EDGES.looks("mark(5, 5)", 1);
    }
}
