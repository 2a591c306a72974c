/** Promises 1 to 7: a new object, row, lay, at, tear, copy, mean. */
public final class RowsTest {
    private static final Due DUE = new Due("RowsTest");

    public static void main(String[] args) {
        newObject();
        rows();
        places();
        tears();
        copies();
        means();
        DUE.finish();
    }

    private static void newObject() {
        PoundCat x = new PoundCat();
        for (int what = 0; what <= 11; what++) {
            DUE.due("new: count(" + what + ")", x.count(what), 0);
        }
        for (int r = 0; r < 6; r++) {
            int row = r;
            DUE.found(x, "new: at(" + r + ", 0)", () -> x.at(row, 0), 1);
        }
        for (int t = 0; t < 4; t++) {
            int text = t;
            DUE.found(x, "new: fault(" + t + ")", () -> x.fault(text), 1);
        }
        DUE.refused(x, "new: cat(0, 0)", () -> x.cat(0, 0), PoundCat.BAD);
        PoundCat y = new PoundCat();
        DUE.due("new: asked()", y.asked(), 0);
        DUE.due("new: upper()", y.upper(), 0);
        DUE.due("new: lower()", y.lower(), 1);
        DUE.due("new: finding()", y.finding(), 0);
        DUE.due("new: pence()", y.pence(), 0);
    }

    private static void rows() {
        PoundCat x = new PoundCat();
        DUE.due("row(0, 40)", x.row(0, 40), 40);
        DUE.due("row(5, 0)", x.row(5, 0), 0);
        DUE.told(x, "at(0, 39)", () -> x.at(0, 39), 1, 0);
        DUE.due("count(9)", x.count(9), 2);
        x.lay(0, 1, 7);
        DUE.due("row(0, 3) anew", x.row(0, 3), 3);
        DUE.told(x, "at(0, 1) anew", () -> x.at(0, 1), 1, 0);
        DUE.found(x, "at(0, 3)", () -> x.at(0, 3), 2);
        DUE.refused(x, "row(-1, 1)", () -> x.row(-1, 1), PoundCat.BAD);
        DUE.refused(x, "row(6, 1)", () -> x.row(6, 1), PoundCat.BAD);
        DUE.refused(x, "row(0, 41)", () -> x.row(0, 41), PoundCat.BAD);
        DUE.refused(x, "row(0, max)", () -> x.row(0, Integer.MAX_VALUE), PoundCat.BAD);
        DUE.refused(x, "row(6, -1)", () -> x.row(6, -1), PoundCat.BAD);
        DUE.found(x, "row(0, -1)", () -> x.row(0, -1), 5);
        DUE.found(x, "row(1, min)", () -> x.row(1, Integer.MIN_VALUE), 5);
    }

    private static void places() {
        PoundCat x = new PoundCat();
        x.row(2, 3);
        DUE.told(x, "lay(2, 0, -5)", () -> x.lay(2, 0, -5), 1, 0);
        DUE.told(x, "lay(2, 0, max)", () -> x.lay(2, 0, Integer.MAX_VALUE), 1, -5);
        DUE.told(x, "at(2, 0)", () -> x.at(2, 0), 1, Integer.MAX_VALUE);
        DUE.told(x, "at(2, 2)", () -> x.at(2, 2), 1, 0);
        DUE.refused(x, "lay(6, 0, 1)", () -> x.lay(6, 0, 1), PoundCat.BAD);
        DUE.refused(x, "lay(-1, 0, 1)", () -> x.lay(-1, 0, 1), PoundCat.BAD);
        DUE.refused(x, "at(6, 0)", () -> x.at(6, 0), PoundCat.BAD);
        DUE.refused(x, "at(-1, 0)", () -> x.at(-1, 0), PoundCat.BAD);
        DUE.found(x, "lay(3, 9, 1)", () -> x.lay(3, 9, 1), 1);
        DUE.found(x, "at(3, 9)", () -> x.at(3, 9), 1);
        DUE.found(x, "lay(2, 3, 1)", () -> x.lay(2, 3, 1), 2);
        DUE.found(x, "lay(2, -1, 1)", () -> x.lay(2, -1, 1), 2);
        DUE.found(x, "at(2, 3)", () -> x.at(2, 3), 2);
        DUE.found(x, "at(2, min)", () -> x.at(2, Integer.MIN_VALUE), 2);
    }

    private static void tears() {
        PoundCat x = new PoundCat();
        x.row(4, 2);
        DUE.due("tear(4)", x.tear(4), 1);
        DUE.due("tear(4), digest()", x.digest(), new PoundCat().digest());
        DUE.due("count(9)", x.count(9), 0);
        DUE.found(x, "tear(4) again", () -> x.tear(4), 1);
        DUE.found(x, "at(4, 0) torn", () -> x.at(4, 0), 1);
        DUE.refused(x, "tear(6)", () -> x.tear(6), PoundCat.BAD);
        DUE.refused(x, "tear(-1)", () -> x.tear(-1), PoundCat.BAD);
    }

    private static void holds(PoundCat x, String when, int r, int... values) {
        for (int i = 0; i < values.length; i++) {
            int place = i;
            DUE.told(x, when + ": at(" + r + ", " + i + ")", () -> x.at(r, place), 1, values[i]);
        }
    }

    private static void copies() {
        PoundCat x = new PoundCat();
        Due.fillRow(x, 0, 1, 2, 3, 4, 5);
        x.row(1, 3);
        DUE.due("copy(0, 1, 1, 0, 3)", x.copy(0, 1, 1, 0, 3), 1);
        holds(x, "copied", 1, 2, 3, 4);
        DUE.due("copy(0, 0, 0, 1, 4)", x.copy(0, 0, 0, 1, 4), 1);
        holds(x, "copied up", 0, 1, 1, 2, 3, 4);
        DUE.due("copy(0, 2, 0, 0, 3)", x.copy(0, 2, 0, 0, 3), 1);
        holds(x, "copied down", 0, 2, 3, 4, 3, 4);
        DUE.due("copy(0, 5, 1, 3, 0)", x.copy(0, 5, 1, 3, 0), 1);
        DUE.refused(x, "copy(6, 0, 0, 0, -1)", () -> x.copy(6, 0, 0, 0, -1), PoundCat.BAD);
        DUE.refused(x, "copy(0, 0, -1, 0, 1)", () -> x.copy(0, 0, -1, 0, 1), PoundCat.BAD);
        DUE.found(x, "copy(0, 0, 5, 0, -1)", () -> x.copy(0, 0, 5, 0, -1), 5);
        DUE.found(x, "copy(0, 0, 5, 0, 99)", () -> x.copy(0, 0, 5, 0, 99), 1);
        DUE.found(x, "copy(5, 0, 0, 0, 1)", () -> x.copy(5, 0, 0, 0, 1), 1);
        DUE.found(x, "copy(0, 0, 1, 0, 4)", () -> x.copy(0, 0, 1, 0, 4), 2);
        DUE.found(x, "copy(1, 1, 0, 0, 3)", () -> x.copy(1, 1, 0, 0, 3), 2);
        DUE.found(x, "copy(0, -1, 1, 0, 1)", () -> x.copy(0, -1, 1, 0, 1), 2);
        DUE.found(x, "copy(0, 0, 1, -1, 1)", () -> x.copy(0, 0, 1, -1, 1), 2);
        DUE.found(x, "copy(0, max, 1, 0, max)",
                () -> x.copy(0, Integer.MAX_VALUE, 1, 0, Integer.MAX_VALUE), 2);
        DUE.found(x, "copy(0, 6, 1, 0, 0)", () -> x.copy(0, 6, 1, 0, 0), 2);
        holds(x, "after refusals", 0, 2, 3, 4, 3, 4);
    }

    private static void means() {
        PoundCat x = new PoundCat();
        Due.fillRow(x, 0, 1, 2, 2);
        DUE.told(x, "mean(0)", () -> x.mean(0), 1, 1);
        Due.fillRow(x, 0, -1, -2, -2);
        DUE.told(x, "mean(0) below 0", () -> x.mean(0), 1, -1);
        Due.fillRow(x, 0, Integer.MAX_VALUE, Integer.MAX_VALUE, Integer.MAX_VALUE);
        DUE.told(x, "mean(0) of great ones", () -> x.mean(0), 1, Integer.MAX_VALUE);
        Due.fillRow(x, 0, Integer.MIN_VALUE, Integer.MIN_VALUE);
        DUE.told(x, "mean(0) of small ones", () -> x.mean(0), 1, Integer.MIN_VALUE);
        Due.fillRow(x, 0, -8);
        DUE.told(x, "mean(0) of one", () -> x.mean(0), 1, -8);
        x.row(0, 0);
        DUE.found(x, "mean(0) of none", () -> x.mean(0), 4);
        DUE.found(x, "mean(1)", () -> x.mean(1), 1);
        DUE.refused(x, "mean(6)", () -> x.mean(6), PoundCat.BAD);
        DUE.refused(x, "mean(-1)", () -> x.mean(-1), PoundCat.BAD);
    }
}
