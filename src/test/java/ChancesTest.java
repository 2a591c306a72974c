/** Promises 36 to 38: odds, mid, lots. */
public final class ChancesTest {
    private static final Due DUE = new Due("ChancesTest");

    public static void main(String[] args) {
        mouserChances();
        otherChances();
        heldChances();
        chanceRefusals();
        lots();
        lotsThatSell();
        lotRefusals();
        DUE.finish();
    }

    private static void odds(PoundCat x, int i, int v, int n, int p, long upper, long lower) {
        int asked = x.asked();
        DUE.fraction(x, "odds(" + i + ", " + v + ", " + n + ", " + p + ")", () -> x.odds(i, v, n, p), upper, lower);
        DUE.due("odds(), asked()", x.asked(), asked);
    }

    private static void mid(PoundCat x, int i, int n, int p, long upper, long lower) {
        int asked = x.asked();
        DUE.fraction(x, "mid(" + i + ", " + n + ", " + p + ")", () -> x.mid(i, n, p), upper, lower);
        DUE.due("mid(), asked()", x.asked(), asked);
    }

    private static void mouserChances() {
        for (String signs : new String[] {"d30m204", "d30h204"}) {
            PoundCat x = Due.townOf(signs);
            x.cat(0, 1);
            odds(x, 0, 20, 6, 6, 1, 2);
            odds(x, 0, 23, 6, 6, 1, 8);
            odds(x, 0, 24, 6, 6, 0, 1);
            odds(x, 0, 20, 6, 4, 20, 27);
            odds(x, 0, 23, 6, 5, 343, 1728);
            odds(x, 0, 20, 6, 12, 0, 1);
            odds(x, 0, 14, 6, 12, 1, 1);
            odds(x, 0, 23, 6, 0, 1, 1);
            odds(x, 0, 0, 6, 7, 1, 1);
            odds(x, 0, 200, 6, 7, 0, 1);
            odds(x, 0, 20, 0, 7, 1, 1);
            odds(x, 0, 21, 0, 7, 0, 1);
            odds(x, 0, 19, 1, 7, 1, 1);
            mid(x, 0, 0, 7, 20, 1);
            mid(x, 0, 6, 4, 20, 1);
            mid(x, 0, 6, 5, 77, 4);
            mid(x, 0, 6, 12, 14, 1);
            mid(x, 0, 6, 0, 23, 1);
            DUE.due("odds() and mid() are no DEEDS", x.count(2), 0);
        }
    }

    private static void otherChances() {
        PoundCat x = Due.townOf("d30c255o187k055s123");
        odds(x, 0, 19, 6, 5, 1, 1);
        odds(x, 0, 20, 6, 5, 0, 1);
        mid(x, 0, 6, 5, 19, 1);
        mid(x, 1, 6, 5, 10, 1);
        mid(x, 2, 6, 5, 17, 1);
        mid(x, 3, 6, 5, 12, 1);
    }

    private static void heldChances() {
        PoundCat x = Due.townOf("d30m010");
        x.hour();
        mid(x, 0, 2, 3, 7, 4);
        odds(x, 0, 2, 2, 3, 3, 4);
        odds(x, 0, 1, 2, 3, 1, 1);
        odds(x, 0, 3, 1, 3, 3, 4);
        PoundCat y = Due.townOf("d30o505");
        y.hour();
        mid(y, 0, 3, 5, 45, 1);
        mid(y, 0, 4, 5, 43, 1);
    }

    private static void chanceRefusals() {
        PoundCat x = Due.townOf("d30m204");
        x.odds(0, 20, 6, 4);
        DUE.refused(x, "odds(1, 0, 0, 0)", () -> x.odds(1, 0, 0, 0), PoundCat.BAD);
        DUE.refused(x, "odds(-1, 0, 0, 0)", () -> x.odds(-1, 0, 0, 0), PoundCat.BAD);
        DUE.refused(x, "odds(0, -1, 0, 0)", () -> x.odds(0, -1, 0, 0), PoundCat.BAD);
        DUE.refused(x, "odds(0, 201, 0, 0)", () -> x.odds(0, 201, 0, 0), PoundCat.BAD);
        DUE.refused(x, "odds(0, 0, -1, 0)", () -> x.odds(0, 0, -1, 0), PoundCat.BAD);
        DUE.refused(x, "odds(0, 0, 7, 0)", () -> x.odds(0, 0, 7, 0), PoundCat.BAD);
        DUE.refused(x, "odds(0, 0, 0, -1)", () -> x.odds(0, 0, 0, -1), PoundCat.BAD);
        DUE.refused(x, "odds(0, 0, 0, 13)", () -> x.odds(0, 0, 0, 13), PoundCat.BAD);
        DUE.refused(x, "mid(1, 0, 0)", () -> x.mid(1, 0, 0), PoundCat.BAD);
        DUE.refused(x, "mid(-1, 0, 0)", () -> x.mid(-1, 0, 0), PoundCat.BAD);
        DUE.refused(x, "mid(0, -1, 0)", () -> x.mid(0, -1, 0), PoundCat.BAD);
        DUE.refused(x, "mid(0, 7, 0)", () -> x.mid(0, 7, 0), PoundCat.BAD);
        DUE.refused(x, "mid(0, 0, -1)", () -> x.mid(0, 0, -1), PoundCat.BAD);
        DUE.refused(x, "mid(0, 0, 13)", () -> x.mid(0, 0, 13), PoundCat.BAD);
    }

    /** The lots of seed 1 are 48271, 182605794, 1291394886, 1914720637, 2078669041. */
    private static void lots() {
        PoundCat x = Due.townOf("d30c104c205");
        DUE.due("lots(1, 1), BUYING", x.lots(1, 1), 10);
        DUE.due("lots(1, 1), GOODS", x.count(3), 10);
        x.undo(0);
        DUE.due("lots(3, 1), two MEALS to CAT 0", x.lots(3, 1), 18);
        x.undo(0);
        DUE.due("lots(4, 1), an HOUR", x.lots(4, 1), 17);
        DUE.due("lots(4, 1), HOUR", x.count(1), 1);
        x.undo(0);
        DUE.due("lots(5, 1), nothing to sell", x.lots(5, 1), 16);
        DUE.due("lots(5, 1), HOUR", x.count(1), 2);
        DUE.due("lots(5, 1), DEEDS", x.count(2), 5);
        DUE.due("lots(5, 1), GOODS", x.count(3), 10);
        DUE.due("lots(5, 1), PENCE", x.pence(), -10);
        DUE.due("undo(2)", x.undo(2), 3);
        DUE.due("undo(2), THE POUND", x.count(4), 14);
        DUE.due("lots(1, 2147483646), nothing to sell", Due.townOf("d30c104").lots(1, 2147483646), 9);
    }

    private static void lotsThatSell() {
        PoundCat x = Due.townOf("d30s104");
        DUE.due("lots(5, 1)", x.lots(5, 1), 10);
        DUE.due("lots(5, 1), HOUR", x.count(1), 1);
        DUE.due("lots(5, 1), GOODS", x.count(3), 0);
        DUE.due("lots(5, 1), PENCE", x.pence(), 0);
        DUE.due("lots(5, 1), DEEDS", x.count(2), 5);
    }

    private static void lotRefusals() {
        PoundCat x = Due.townOf("d30c104");
        DUE.refused(x, "lots(0, 1)", () -> x.lots(0, 1), PoundCat.BAD);
        DUE.refused(x, "lots(21, 1)", () -> x.lots(21, 1), PoundCat.BAD);
        DUE.refused(x, "lots(1, 0)", () -> x.lots(1, 0), PoundCat.BAD);
        DUE.refused(x, "lots(1, max)", () -> x.lots(1, Integer.MAX_VALUE), PoundCat.BAD);
        DUE.refused(x, "lots(1, -1)", () -> x.lots(1, -1), PoundCat.BAD);
        x.lots(20, 3);
        x.lots(19, 4);
        DUE.due("count(2)", x.count(2), 39);
        DUE.refused(x, "lots(2, 1), too many", () -> x.lots(2, 1), PoundCat.FULL);
        DUE.refused(x, "lots(21, 1), too many", () -> x.lots(21, 1), PoundCat.BAD);
        x.lots(1, 5);
        DUE.due("count(2), full", x.count(2), 40);
        PoundCat none = new PoundCat();
        DUE.refused(none, "no CATS: lots(1, 1)", () -> none.lots(1, 1), PoundCat.STATE);
        DUE.refused(none, "no CATS: lots(1, 0)", () -> none.lots(1, 0), PoundCat.BAD);
    }
}
