/** Promises 32 to 34: kinds, weights, test. */
public final class LedgersTest {
    private static final Due DUE = new Due("LedgersTest");
    private static final String ALL_KINDS = "d30m204c255 o187k055h309s123";

    public static void main(String[] args) {
        kinds();
        weights();
        tests();
        behindAnHour();
        refusals();
        DUE.finish();
    }

    private static void kindsBy(PoundCat x, int i, int want, int... ledger) {
        Due.fillRow(x, 3, ledger);
        DUE.due("kinds(" + i + ", " + java.util.Arrays.toString(ledger) + ")", x.kinds(i, 3), want);
    }

    private static void kinds() {
        PoundCat x = Due.townOf(ALL_KINDS);
        kindsBy(x, 1, 63);
        kindsBy(x, 1, 63, 0, 25);
        kindsBy(x, 1, 0, 0, 24);
        kindsBy(x, 1, 19, 1, 24);
        kindsBy(x, 1, 4, 1, 23);
        kindsBy(x, 1, 8, 1, 27);
        kindsBy(x, 1, 32, 1, 25);
        kindsBy(x, 1, 1, 1, 24, 2, 23);
        kindsBy(x, 1, 18, 2, 26, 1, 24);
        kindsBy(x, 1, 0, 1, 24, 1, 25);
        kindsBy(x, 1, 5, 40, 1);
        kindsBy(x, 1, 8, 40, 105);
        kindsBy(x, 1, 19, 1, 24, 1, 24, 1, 24, 1, 24, 1, 24, 1, 24, 1, 24, 1, 24);
        int asked = x.asked();
        x.kinds(1, 3);
        DUE.due("kinds() tells nothing by asked()", x.asked(), asked);
    }

    private static void weightsBy(PoundCat x, int i, int want, int least, int... ledger) {
        Due.fillRow(x, 3, ledger);
        DUE.told(x, "weights(" + i + ", " + java.util.Arrays.toString(ledger) + ")", () -> x.weights(i, 3), want, least);
    }

    private static void weights() {
        PoundCat x = Due.townOf(ALL_KINDS);
        int none = PoundCat.NONE;
        weightsBy(x, 5, 200, 1);
        weightsBy(x, 5, 1, 17, 7, 17);
        weightsBy(x, 5, 0, none, 1, 5, 1, 6);
        weightsBy(x, 3, 81, 120, 40, 200);
        weightsBy(x, 3, 0, none, 1, 2);
        weightsBy(x, 1, 6, 1, 5, 1);
        weightsBy(x, 1, 2, 1, 1, 1);
        weightsBy(x, 1, 0, none, 1, 200);
        weightsBy(x, 2, 6, 1, 4, 1);
        weightsBy(x, 0, 1, 25, 2, 26);
        weightsBy(x, 0, 1, 200, 1, 199);
        weightsBy(x, 0, 2, 199, 2, 200);
    }

    private static void testBy(PoundCat x, int i, int want, int part, int... ledger) {
        Due.fillRow(x, 3, ledger);
        DUE.told(x, "test(" + i + ", " + java.util.Arrays.toString(ledger) + ")", () -> x.test(i, 3), want, part);
    }

    private static void tests() {
        PoundCat x = Due.townOf(ALL_KINDS);
        testBy(x, 1, 2, 2);
        testBy(x, 1, 2, 2, 1, 24);
        testBy(x, 1, 0, 1, 2, 23);
        testBy(x, 1, 0, 2, 2, 26);
        x.mean(3);
        DUE.due("asked()", x.asked(), 14);
        Due.fillRow(x, 3, 0, 26);
        x.at(3, 1);
        DUE.told(x, "test() with no KIND", () -> x.test(1, 3), PoundCat.NONE, 26);
    }

    private static void behindAnHour() {
        PoundCat x = Due.townOf("d30c305");
        x.hour();
        kindsBy(x, 0, 5, 1, 28);
        kindsBy(x, 0, 26, 1, 31);
        testBy(x, 0, 4, 1, 1, 28);
        weightsBy(x, 0, 1, 29, 1, 28);
        PoundCat y = Due.townOf("d30c020");
        y.hour();
        testBy(y, 0, 0, 3, 3, 1);
    }

    private static void refusals() {
        PoundCat x = Due.townOf(ALL_KINDS);
        x.row(0, 2);
        x.lay(0, 1, 5);
        for (int[] pair : new int[][] {{6, 0}, {-1, 0}, {0, 6}, {0, -1}, {6, 1}}) {
            refusedAll(x, pair[0], pair[1]);
        }
        foundAll(x, 1, 1);
        x.row(1, 1);
        foundAll(x, 1, 5);
        Due.fillRow(x, 1, 0, 5, 99);
        foundAll(x, 1, 5);
        x.row(1, 17);
        foundAll(x, 1, 5);
        x.row(1, 18);
        foundAll(x, 1, 5);
        x.row(1, 16);
        foundAll(x, 1, 3);
        Due.fillRow(x, 1, -1, 5);
        foundAll(x, 1, 3);
        Due.fillRow(x, 1, 41, 5);
        foundAll(x, 1, 3);
        Due.fillRow(x, 1, 0, 0);
        foundAll(x, 1, 3);
        Due.fillRow(x, 1, 0, 20, 40, 201);
        foundAll(x, 1, 3);
        PoundCat none = new PoundCat();
        refusedAll(none, 0, 0);
    }

    private static void refusedAll(PoundCat x, int i, int r) {
        DUE.refused(x, "kinds(" + i + ", " + r + ")", () -> x.kinds(i, r), PoundCat.BAD);
        DUE.refused(x, "weights(" + i + ", " + r + ")", () -> x.weights(i, r), PoundCat.BAD);
        DUE.refused(x, "test(" + i + ", " + r + ")", () -> x.test(i, r), PoundCat.BAD);
    }

    private static void foundAll(PoundCat x, int r, int finding) {
        DUE.found(x, "kinds(0, " + r + ")", () -> x.kinds(0, r), finding);
        DUE.found(x, "weights(0, " + r + ")", () -> x.weights(0, r), finding);
        DUE.found(x, "test(0, " + r + ")", () -> x.test(0, r), finding);
    }
}
