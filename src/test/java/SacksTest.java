/** Promises 29 to 31: sacks, sure, ask. */
public final class SacksTest {
    private static final Due DUE = new Due("SacksTest");

    public static void main(String[] args) {
        PoundCat alike = Due.townOf("d30c050c050c100");
        sack(alike, 0, 1, 0, 0, 7, 0, 1);
        sack(alike, 5, 2, 1, 0, 4, 0, 1);
        sack(alike, 10, 2, 3, 0, 0, 0, 1);
        sack(alike, 15, 2, 5, 4, 0, 0, 1);
        sack(alike, 20, 1, 7, 7, 0, 0, 1);
        empty(alike, 1);
        empty(alike, 1200);
        sack(Due.townOf("d30c100c010c020c030"), 3, 2, 6, 0, 1, 1, 1);
        sack(Due.townOf("d30c100c100c100c100c100c100"), 30, 20, 7, 0, 0, 0, 10);
        sack(Due.townOf("d30c050c050c050c990"), 104, 3, 9, 8, 0, 0, 2);
        weighedNow();
        refusals();
        DUE.finish();
    }

    private static void sack(PoundCat x, int v, int many, int first, int sure, int never, int best, int left) {
        DUE.told(x, "sacks(" + v + ")", () -> x.sacks(v), 1, first);
        DUE.due("sacks(" + v + "), upper()", x.upper(), many);
        DUE.due("sacks(" + v + "), lower()", x.lower(), 1);
        DUE.told(x, "sure(" + v + ")", () -> x.sure(v), sure, never);
        DUE.told(x, "ask(" + v + ")", () -> x.ask(v), best, left);
    }

    private static void empty(PoundCat x, int v) {
        DUE.told(x, "sacks(" + v + ")", () -> x.sacks(v), 1, PoundCat.NONE);
        DUE.due("sacks(" + v + "), upper()", x.upper(), 0);
        DUE.due("sacks(" + v + "), lower()", x.lower(), 1);
        DUE.found(x, "sure(" + v + ")", () -> x.sure(v), 4);
        DUE.found(x, "ask(" + v + ")", () -> x.ask(v), 4);
    }

    private static void weighedNow() {
        PoundCat x = Due.townOf("d30c050k050");
        x.hour();
        empty(x, 5);
        sack(x, 4, 1, 1, 1, 2, 0, 1);
        sack(x, 11, 1, 3, 3, 0, 0, 1);
    }

    private static void refusals() {
        PoundCat x = Due.townOf("d30c050");
        PoundCat none = new PoundCat();
        for (int v : new int[] {-1, 1201, Integer.MIN_VALUE, Integer.MAX_VALUE}) {
            DUE.refused(x, "sacks(" + v + ")", () -> x.sacks(v), PoundCat.BAD);
            DUE.refused(x, "sure(" + v + ")", () -> x.sure(v), PoundCat.BAD);
            DUE.refused(x, "ask(" + v + ")", () -> x.ask(v), PoundCat.BAD);
            DUE.refused(none, "no CATS: sacks(" + v + ")", () -> none.sacks(v), PoundCat.BAD);
            DUE.refused(none, "no CATS: sure(" + v + ")", () -> none.sure(v), PoundCat.BAD);
            DUE.refused(none, "no CATS: ask(" + v + ")", () -> none.ask(v), PoundCat.BAD);
        }
        DUE.refused(none, "no CATS: sacks(0)", () -> none.sacks(0), PoundCat.STATE);
        DUE.refused(none, "no CATS: sure(0)", () -> none.sure(0), PoundCat.STATE);
        DUE.refused(none, "no CATS: ask(0)", () -> none.ask(0), PoundCat.STATE);
    }
}
