/** Promises 8 to 10: text, put, fault. */
public final class TextsTest {
    private static final Due DUE = new Due("TextsTest");

    public static void main(String[] args) {
        texts();
        puts();
        soundTexts();
        faults();
        DUE.finish();
    }

    private static void texts() {
        PoundCat x = new PoundCat();
        DUE.due("text(0, 60)", x.text(0, 60), 60);
        DUE.due("text(3, 0)", x.text(3, 0), 0);
        DUE.due("count(10)", x.count(10), 2);
        DUE.due("put(0, 59, 1)", x.put(0, 59, 1), 1032);
        DUE.due("text(0, 60) anew", x.text(0, 60), 60);
        DUE.due("put(0, 59, 1) anew", x.put(0, 59, 1), 1032);
        DUE.refused(x, "text(4, 1)", () -> x.text(4, 1), PoundCat.BAD);
        DUE.refused(x, "text(-1, 1)", () -> x.text(-1, 1), PoundCat.BAD);
        DUE.refused(x, "text(0, 61)", () -> x.text(0, 61), PoundCat.BAD);
        DUE.refused(x, "text(4, -1)", () -> x.text(4, -1), PoundCat.BAD);
        DUE.found(x, "text(0, -1)", () -> x.text(0, -1), 5);
    }

    private static void puts() {
        PoundCat x = new PoundCat();
        x.text(1, 2);
        DUE.due("put(1, 0, 127)", x.put(1, 0, 127), 1032);
        DUE.due("put(1, 0, 128)", x.put(1, 0, 128), 1127);
        DUE.due("put(1, 0, -1)", x.put(1, 0, -1), 872);
        DUE.due("put(1, 0, 256 + 100)", x.put(1, 0, 356), 999);
        DUE.due("put(1, 0, 0)", x.put(1, 0, 0), 1100);
        DUE.due("put(1, 0, 32)", x.put(1, 0, 32), 1000);
        DUE.refused(x, "put(4, 0, 1)", () -> x.put(4, 0, 1), PoundCat.BAD);
        DUE.refused(x, "put(-1, 0, 1)", () -> x.put(-1, 0, 1), PoundCat.BAD);
        DUE.found(x, "put(0, 9, 1)", () -> x.put(0, 9, 1), 1);
        DUE.found(x, "put(1, 2, 1)", () -> x.put(1, 2, 1), 2);
        DUE.found(x, "put(1, -1, 1)", () -> x.put(1, -1, 1), 2);
    }

    private static void reads(String signs, int want) {
        PoundCat x = new PoundCat();
        Due.write(x, 2, signs);
        DUE.due("fault of '" + signs + "'", x.fault(2), want);
    }

    private static void soundTexts() {
        reads("d01c010", PoundCat.NONE);
        reads("d99c999", PoundCat.NONE);
        reads("   d30  m204   o187k055 h309s123 ", PoundCat.NONE);
        reads("d10c101c101c101c101c101c101", PoundCat.NONE);
        reads("d10c101c101c101c101c101c101   ", PoundCat.NONE);
    }

    private static void faults() {
        reads("", 0);
        reads("   ", 3);
        reads("c101", 0);
        reads("  x", 2);
        reads("D10c101", 0);
        reads("d", 1);
        reads("d1", 2);
        reads("d10", 3);
        reads("d10  ", 5);
        reads("d 10c101", 1);
        reads("d1 0c101", 2);
        reads("d00c101", 2);
        reads("dx0c101", 1);
        reads("d0xc101", 2);
        reads("d10d10c101", 3);
        reads("d10x101", 3);
        reads("d100c101", 3);
        reads("d10c", 4);
        reads("d10c 101", 4);
        reads("d10c1", 5);
        reads("d10c001", 5);
        reads("d10c10", 6);
        reads("d10c10 1", 6);
        reads("d10c10x", 6);
        reads("d10c1012", 7);
        reads("d10c101 c", 9);
        reads("d10c101 ,", 8);
        reads("d10/101", 3);
        reads("d10c:01", 4);
        reads("d10c/01", 4);
        reads("d10c101c101c101c101c101c101c101", 27);
        reads("d10c101c101c101c101c101c101  x", 29);
        reads(" ".repeat(60), 60);
        reads(" ".repeat(53) + "d10c101", PoundCat.NONE);
        reads(" ".repeat(57) + "d10", 60);
        PoundCat x = new PoundCat();
        Due.write(x, 0, "d10c101");
        Due.write(x, 0, "d10");
        DUE.due("fault of a shorter TEXT than there was", x.fault(0), 3);
        Due.write(x, 0, "d10c101");
        x.put(0, 3, 0);
        DUE.due("fault with a byte 0", x.fault(0), 3);
        x.put(0, 3, 99 + 256);
        DUE.due("fault with a byte that was cut", x.fault(0), PoundCat.NONE);
        x.put(0, 3, -29);
        DUE.due("fault with a byte below 0", x.fault(0), 3);
        DUE.refused(x, "fault(4)", () -> x.fault(4), PoundCat.BAD);
        DUE.refused(x, "fault(-1)", () -> x.fault(-1), PoundCat.BAD);
        DUE.found(x, "fault(1)", () -> x.fault(1), 1);
    }
}
