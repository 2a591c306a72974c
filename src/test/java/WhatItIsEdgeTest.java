/** "What it is", clause by clause, by the calls that each clause is about; and the 512 calls of an object. */
public final class WhatItIsEdgeTest {
    private static final int NONE = PoundCat.NONE, SPENT = PoundCat.SPENT;
    private static final int LATER_ROUNDS = 2000;
    private static final Edges EDGES = new Edges("WhatItIsEdgeTest");

    public static void main(String[] args) {
        pound();
        kindsOfCats();
        deeds();
        ahead();
        sacksAndLedgers();
        turnsAndChances();
        lotsAndKeeping();
        calls();
        objects();
        EDGES.finish();
    }

    private static void pound() {
        EDGES.section(Document.WHAT_IT_IS);
        EDGES.sentence("The pound's a cat: weight here is against an animal, kept at the town hall, by charter,");
        EDGES.given(Edges.ALL_KINDS);
        EDGES.looks("count(4)", 20);
        EDGES.tells("cat(0, 1)", 1, 20);
        EDGES.answers("buy(1)", 20);
        EDGES.answers("buy(9)", 180);
        EDGES.sentence("so trade's brisk after its dinner,");
        EDGES.given(Edges.ALL_KINDS + "; feed(0)");
        EDGES.answers("buy(1)", 24);
        EDGES.given(Edges.ALL_KINDS + "; buy(1); feed(0)");
        EDGES.refuses(SPENT, "sell(1)");
    }

    private static void kindsOfCats() {
        EDGES.sentence("kittens were an inflation,");
        EDGES.given("town 'd30k101'");
        EDGES.inTurn("buy(1)", 10, "hour()", 12, "buy(1)", 22, "hour()", 14);
        EDGES.sentence("mice are monetary policy,");
        EDGES.given("town 'd30m100'");
        EDGES.inTurn("mark(0, 1)", 1, "hour()", 9, "mark(0, 1)", 0, "hour()", 11);
        EDGES.sentence("moult's a depression,");
        EDGES.given("town 'd30o100'");
        EDGES.inTurn("mark(0, 2)", 0, "hour()", 8, "hour()", 7, "hour()", 6, "hour()", 5, "mark(0, 2)", 0, "hour()", 3);
        EDGES.sentence("an heir is being fed up;");
        EDGES.given("town 'd30h109'");
        EDGES.inTurn("feed(0)", 28, "feed(0)", 46);
        EDGES.sentence("cats of kinds (mousers, moulters, kittens, heirs, a stuffed one) with weight and appetite, a dog abroad,"
                + " in a small language;");
        EDGES.given("write 1 'd30m204c255 o187k055h309s123'");
        EDGES.looks("fault(1)", NONE);
        EDGES.answers("town(1)", 6);
        EDGES.given(Edges.ALL_KINDS);
        int[][] traits = {{1, 0, 2, 3, 4, 5}, {20, 25, 18, 5, 30, 12}, {4, 5, 7, 5, 9, 3}};
        for (int i = 0; i < 6; i++) {
            for (int what = 0; what < 3; what++) {
                EDGES.tells("cat(" + i + ", " + what + ")", 1, traits[what][i]);
            }
        }
        EDGES.looks("count(6)", 30);
    }

    private static void deeds() {
        EDGES.sentence("hours that pass, meals, goods bought and sold by the pound, another cat that rules, undone;");
        EDGES.given(Edges.ALL_KINDS);
        EDGES.inTurn("hour()", 19, "feed(0)", 23, "buy(1)", 23, "sell(1)", 0, "rule(1)", 24, "undo(0)", 5, "count(4)", 20);
    }

    private static void ahead() {
        EDGES.sentence("what each weighs in so many hours, when to buy and when to sell, the most by the dog abroad,"
                + " the fewest meals to a told weight, the steadiest heir, plans of meals;");
        // The HEIR: 30, 29, 31, 30.
        EDGES.given(Edges.ALL_KINDS);
        EDGES.looks("weighs(4, 3)", 30);
        EDGES.looks("when(4, 31)", 2);
        // 10, 9, .. 5: one pound by 10 is two by 5.
        EDGES.given("town 'd30c100'");
        EDGES.tells("gain(1, 5)", 10, 5);
        // The MOUSER is 10, 11, 9, 10 below the DOG; 20 and three MEALS less 1 are 31.
        EDGES.given(Edges.ALL_KINDS);
        EDGES.tells("ring(3)", 11, 1);
        EDGES.looks("meals(0, 30, 1)", 3);
        EDGES.answers("plan(1, 5)", 24 - 1 - 3);
        // 50, 49 and 1, 1.
        EDGES.given("town 'd30h500h010'");
        EDGES.tells("steady(1)", 1, 0);
    }

    private static void sacksAndLedgers() {
        EDGES.sentence("which cats were in a sack by what it weighed, which surely, which to take out first;");
        // 30: CAT 4; CATS 1 and 3; CATS 2 and 5.
        EDGES.given(Edges.ALL_KINDS);
        EDGES.sets("sacks(30)", 2 + 8, 3);
        EDGES.tells("sure(30)", 0, 1);
        EDGES.tells("ask(30)", 1, 2);
        EDGES.sentence("what it weighed, of which kind it is, by ledgers;");
        // 20 now, 19 in one HOUR: a CAT, a MOUSER, an HEIR; 18, 21, 21 in two.
        EDGES.given(Edges.ALL_KINDS + "; row(0, 2); lay(0, 0, 1); lay(0, 1, 19)");
        EDGES.looks("kinds(0, 0)", 1 + 2 + 16);
        EDGES.tells("weights(0, 0)", 1, 20);
        EDGES.tells("test(0, 0)", 2, 2);
    }

    private static void turnsAndChances() {
        EDGES.sentence("by turns one who feeds and one who frightens;");
        EDGES.given(Edges.ALL_KINDS);
        EDGES.looks("fright(0)", 19);
        EDGES.looks("fright(1)", 18);
        EDGES.looks("fright(2)", 17);
        EDGES.sentence("chances that there are mice, means;");
        // In HOUR 1 it WEIGHS 19; then 21 by 8 of 12, 18 by 4 of 12.
        EDGES.given(Edges.ALL_KINDS + "; hour()");
        EDGES.fraction("odds(0, 21, 1, 4)", 2, 3);
        EDGES.fraction("mid(0, 1, 4)", 20, 1);
    }

    private static void lotsAndKeeping() {
        EDGES.sentence("years by lots;");
        // 48271 by 8 is 6033, which is 1 by 4: a pound. 182605794 by 8 is 22825724: a MEAL to CAT 0, as 6 divides it.
        EDGES.given(Edges.ALL_KINDS);
        EDGES.answers("lots(1, 1)", 20);
        EDGES.answers("lots(2, 1)", 24);
        EDGES.inTurn("lots(2, 1)", 24, "count(3)", 20, "pence()", -10, "count(2)", 2);
        EDGES.sentence("towns kept, gone on from.");
        EDGES.inTurn("keep(0)", 0, "hour()", 19, "on(0)", 0, "count(1)", 0, "count(4)", 20, "hour()", 19);
    }

    private static void calls() {
        EDGES.sentence("An object is used for at most 512 calls after it has been made;");
        // 29 calls make the TOWN; the last row of each is the 512th call.
        EDGES.given(Edges.ALL_KINDS + "; 481 * weighs(0, 60)");
        EDGES.inTurn("hour()", 19, "count(4)", 19);
        EDGES.given(Edges.ALL_KINDS + "; 11 * hour()" + "; undo(0); 40 * hour()".repeat(11) + "; undo(1); keep(2); on(2); 16 * at(9, 9)");
        EDGES.inTurn("weighs(3, 60)", 127, "count(2)", 1);
        EDGES.given(Edges.ALL_KINDS + "; row(0, 0)" + "; kinds(0, 0); weights(0, 0); test(0, 0)".repeat(160));
        EDGES.inTurn("test(0, 0)", 2, "asked()", 2);
        EDGES.sentence("what later calls answer is free.");
        EDGES.holds("later calls end, and throw nothing", laterRounds(), LATER_ROUNDS);
    }

    /** How many rounds of four calls came back, whatever they answered. */
    private static int laterRounds() {
        PoundCat x = Due.townOf("d30m204c255 o187k055h309s123");
        int rounds = 0;
        for (int round = 0; round < LATER_ROUNDS; round++) {
            x.feed(round % 8);
            x.hour();
            x.mean(round % 7);
            x.undo(round % 45);
            rounds++;
        }
        return rounds;
    }

    /** What is done to one object is not done to another one that was made before, or is made behind it. */
    private static void objects() {
        EDGES.promise(1);
        EDGES.sentence("No ROWS, TEXTS, CATS, DOG.");
        PoundCat before = new PoundCat();
        long empty = before.digest();
        PoundCat one = Due.townOf("d30m204c255");
        PoundCat other = Due.townOf("d40k101");
        Due.fillRow(one, 0, 7, 8);
        one.keep(0);
        one.hour();
        other.buy(3);
        one.at(0, 1);
        one.tear(5);
        EDGES.holds("the one made before", before.digest(), empty);
        EDGES.holds("one made behind", new PoundCat().digest(), empty);
        EDGES.holds("what was told to the one made before", before.asked() + before.finding(), 0);
        EDGES.holds("THE POUND of one", one.count(4), 19);
        EDGES.holds("THE POUND of the other", other.count(4), 10);
        EDGES.holds("GOODS of one", one.count(3), 0);
        EDGES.holds("GOODS of the other", other.count(3), 30);
        EDGES.holds("ROWS of the other", other.count(9), 0);
        EDGES.holds("kept TOWNS of the other", other.count(11), 0);
        EDGES.holds("what was told to one", one.asked(), 8);
        EDGES.holds("what was told to the other", other.asked(), 0);
        EDGES.holds("findings of the other", other.findings(1), 0);
    }
}
