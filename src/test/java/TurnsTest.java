/** Promise 35: fright. */
public final class TurnsTest {
    private static final Due DUE = new Due("TurnsTest");

    public static void main(String[] args) {
        PoundCat x = Due.townOf("d30m204c255 o187k055h309s123");
        frights(x, "MOUSER", 19, 18, 17);
        DUE.due("fright() is no DEED", x.count(2), 0);
        x.rule(1);
        frights(x, "CAT", 24, 24, 24);
        x.rule(2);
        frights(x, "MOULTER", 16, 18, 20);
        x.rule(3);
        frights(x, "KITTEN", 7, 4, 3);
        x.rule(4);
        frights(x, "HEIR", 29, 42, 55);
        x.rule(5);
        frights(x, "STUFFED", 12, 7, 2);
        PoundCat light = Due.townOf("d30s030");
        frights(light, "a light STUFFED one", 3, 1, 1);
        PoundCat heavy = Due.townOf("d30h999");
        for (int m = 0; m < 6; m++) {
            heavy.feed(0);
        }
        frights(heavy, "a heavy HEIR", 199, 194, 194);
        heavy.hour();
        frights(heavy, "a heavy HEIR with mice", 200, 197, 197);
        DUE.refused(x, "fright(-1)", () -> x.fright(-1), PoundCat.BAD);
        DUE.refused(x, "fright(3)", () -> x.fright(3), PoundCat.BAD);
        PoundCat none = new PoundCat();
        DUE.refused(none, "no CATS: fright(0)", () -> none.fright(0), PoundCat.STATE);
        DUE.refused(none, "no CATS: fright(3)", () -> none.fright(3), PoundCat.BAD);
        DUE.finish();
    }

    private static void frights(PoundCat x, String who, int... due) {
        for (int n = 0; n < due.length; n++) {
            DUE.due(who + ": fright(" + n + ")", x.fright(n), due[n]);
        }
    }
}
