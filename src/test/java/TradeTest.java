/** Promises 26 to 28: gain, ring, plan. */
public final class TradeTest {
    private static final Due DUE = new Due("TradeTest");

    public static void main(String[] args) {
        gains();
        gainsBehindAnHour();
        rings();
        plans();
        planRefusals();
        DUE.finish();
    }

    private static void gains() {
        PoundCat x = Due.townOf("d30c100k505");
        long digest = x.digest();
        DUE.told(x, "gain(1, 0)", () -> x.gain(1, 0), 0, PoundCat.NONE);
        DUE.told(x, "gain(1, 4)", () -> x.gain(1, 4), 0, PoundCat.NONE);
        DUE.told(x, "gain(1, 5)", () -> x.gain(1, 5), 10, 5);
        DUE.told(x, "gain(9, 1)", () -> x.gain(9, 1), 10, 1);
        DUE.told(x, "gain(1, 9)", () -> x.gain(1, 9), 90, 9);
        DUE.told(x, "gain(9, 20), beyond nine pounds", () -> x.gain(9, 20), 810, 9);
        DUE.due("gain() changes nothing", x.digest(), digest);
        x.rule(1);
        DUE.told(x, "a growing one: gain(9, 20)", () -> x.gain(9, 20), 0, PoundCat.NONE);
        DUE.refused(x, "gain(0, 1)", () -> x.gain(0, 1), PoundCat.BAD);
        DUE.refused(x, "gain(10, 1)", () -> x.gain(10, 1), PoundCat.BAD);
        DUE.refused(x, "gain(1, -1)", () -> x.gain(1, -1), PoundCat.BAD);
        DUE.refused(x, "gain(1, 21)", () -> x.gain(1, 21), PoundCat.BAD);
        PoundCat none = new PoundCat();
        DUE.refused(none, "no CATS: gain(1, 1)", () -> none.gain(1, 1), PoundCat.STATE);
        DUE.refused(none, "no CATS: gain(0, 1)", () -> none.gain(0, 1), PoundCat.BAD);
    }

    private static void gainsBehindAnHour() {
        PoundCat x = Due.townOf("d30m010");
        x.hour();
        // It weighs 1, 3, 2, 4, 3, 5 then.
        DUE.told(x, "gain(1, 5)", () -> x.gain(1, 5), 0, PoundCat.NONE);
        DUE.told(x, "gain(2, 5), the first of those alike", () -> x.gain(2, 5), 10, 102);
        DUE.told(x, "gain(9, 5)", () -> x.gain(9, 5), 40, 102);
        PoundCat y = Due.townOf("d30m050");
        DUE.told(y, "gain(5, 3), two alike", () -> y.gain(5, 3), 10, 1);
    }

    private static void rings() {
        PoundCat x = Due.townOf("d10c120k995");
        DUE.told(x, "ring(0)", () -> x.ring(0), 2, 0);
        DUE.told(x, "ring(4), the first", () -> x.ring(4), 2, 0);
        DUE.told(x, "ring(5)", () -> x.ring(5), 3, 5);
        DUE.told(x, "ring(60)", () -> x.ring(60), 9, 11);
        x.rule(1);
        DUE.told(x, "rule(1), ring(60)", () -> x.ring(60), 190, 51);
        DUE.refused(x, "ring(-1)", () -> x.ring(-1), PoundCat.BAD);
        DUE.refused(x, "ring(61)", () -> x.ring(61), PoundCat.BAD);
        PoundCat none = new PoundCat();
        DUE.refused(none, "no CATS: ring(0)", () -> none.ring(0), PoundCat.STATE);
        DUE.refused(none, "no CATS: ring(61)", () -> none.ring(61), PoundCat.BAD);
    }

    private static void planned(PoundCat x, int n, int worth, int... row) {
        int asked = x.asked();
        DUE.due("plan(" + n + ", 4)", x.plan(n, 4), worth);
        DUE.due("plan(" + n + ", 4), asked()", x.asked(), asked);
        for (int i = 0; i < row.length; i++) {
            int place = i;
            DUE.told(x, "plan(" + n + ", 4), at(4, " + i + ")", () -> x.at(4, place), 1, row[i]);
        }
        DUE.found(x, "plan(" + n + ", 4), at(4, " + n + ")", () -> x.at(4, n), 2);
    }

    private static void plans() {
        int none = PoundCat.NONE;
        PoundCat x = Due.townOf("d30c103c999s509");
        planned(x, 0, 0);
        planned(x, 1, 9, none);
        planned(x, 2, 20, 0, none);
        planned(x, 3, 33, 0, 0, none);
        DUE.due("plan() is no DEED", x.count(2), 0);
        x.rule(1);
        planned(x, 1, 104, 1);
        planned(x, 3, 107 + 115 + 123 - 9, 1, 1, 1);
        x.rule(2);
        planned(x, 3, 150, none, none, none);
        Due.fillRow(x, 4, 1, 2, 3, 4, 5);
        planned(x, 1, 50, none);
        PoundCat y = Due.townOf("d30h999");
        for (int m = 0; m < 6; m++) {
            y.feed(0);
        }
        planned(y, 2, 199 + 200, none, none);
        y.hour();
        planned(y, 2, 200 + 199, none, none);
        PoundCat z = Due.townOf("d30o502");
        z.hour();
        planned(z, 2, 49 + 48 - 3, 0, none);
        planned(z, 3, 49 + 50 + 49 - 6, 0, 0, none);
    }

    private static void planRefusals() {
        PoundCat x = Due.townOf("d30c103");
        DUE.refused(x, "plan(-1, 0)", () -> x.plan(-1, 0), PoundCat.BAD);
        DUE.refused(x, "plan(4, 0)", () -> x.plan(4, 0), PoundCat.BAD);
        DUE.refused(x, "plan(1, -1)", () -> x.plan(1, -1), PoundCat.BAD);
        DUE.refused(x, "plan(1, 6)", () -> x.plan(1, 6), PoundCat.BAD);
        PoundCat none = new PoundCat();
        DUE.refused(none, "no CATS: plan(0, 0)", () -> none.plan(0, 0), PoundCat.STATE);
        DUE.refused(none, "no CATS: plan(4, 0)", () -> none.plan(4, 0), PoundCat.BAD);
    }
}
