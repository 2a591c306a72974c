/** Promises 11 to 13: town, cat, mark. */
public final class TownTest {
    private static final Due DUE = new Due("TownTest");
    private static final String ALL_KINDS = "d30m204c255 o187k055h309s123";

    public static void main(String[] args) {
        towns();
        cats();
        heldChanges();
        marks();
        kittensBeside();
        DUE.finish();
    }

    private static void towns() {
        PoundCat x = Due.townOf("d30m204c255");
        DUE.due("count(0)", x.count(0), 2);
        DUE.due("count(6)", x.count(6), 30);
        x.hour();
        x.buy(2);
        x.rule(1);
        for (int k = 0; k < 3; k++) {
            x.keep(k);
        }
        Due.write(x, 1, "d07k050k060s090");
        DUE.due("town(1)", x.town(1), 3);
        int[] due = {3, 0, 0, 0, 5, 0, 7, 0, 3, 0, 2, 0};
        for (int what = 0; what <= 11; what++) {
            DUE.due("town(1), count(" + what + ")", x.count(what), due[what]);
        }
        DUE.due("town(1), pence()", x.pence(), 0);
        for (int k = 0; k < 3; k++) {
            int place = k;
            DUE.found(x, "town(1), on(" + k + ")", () -> x.on(place), 1);
        }
        x.hour();
        x.keep(0);
        Due.write(x, 0, "d07");
        DUE.refused(x, "town(0) with a FAULT", () -> x.town(0), PoundCat.STATE);
        DUE.refused(x, "town(4)", () -> x.town(4), PoundCat.BAD);
        DUE.refused(x, "town(-1)", () -> x.town(-1), PoundCat.BAD);
        DUE.found(x, "town(2)", () -> x.town(2), 1);
        DUE.due("on(0) still", x.on(0), 1);
        x.put(1, 3, 'x');
        DUE.told(x, "the TEXT changed, cat(0, 0)", () -> x.cat(0, 0), 1, 3);
        DUE.due("undo(0) beside a changed TEXT", x.undo(0), 1);
        DUE.told(x, "then cat(0, 1)", () -> x.cat(0, 1), 1, 5);
    }

    private static void cats() {
        PoundCat x = Due.townOf(ALL_KINDS);
        int[][] due = {
            {1, 20, 4, 4, -1}, {0, 25, 5, 5, -1}, {2, 18, 7, 7, -2},
            {3, 5, 5, 2, 2}, {4, 30, 9, 18, -1}, {5, 12, 3, 0, 0}};
        for (int i = 0; i < 6; i++) {
            for (int what = 0; what <= 4; what++) {
                int cat = i;
                int trait = what;
                DUE.told(x, "cat(" + i + ", " + what + ")", () -> x.cat(cat, trait), 1, due[i][what]);
            }
        }
        DUE.refused(x, "cat(6, 0)", () -> x.cat(6, 0), PoundCat.BAD);
        DUE.refused(x, "cat(-1, 0)", () -> x.cat(-1, 0), PoundCat.BAD);
        DUE.refused(x, "cat(0, 5)", () -> x.cat(0, 5), PoundCat.BAD);
        DUE.refused(x, "cat(0, -1)", () -> x.cat(0, -1), PoundCat.BAD);
        x.hour();
        int[] changes = {2, -1, -1, 2, 2, 0};
        for (int i = 0; i < 6; i++) {
            int cat = i;
            DUE.told(x, "HOUR 1, cat(" + i + ", 4)", () -> x.cat(cat, 4), 1, changes[i]);
        }
        Due.hours(x, 3);
        DUE.told(x, "HOUR 4, cat(2, 4)", () -> x.cat(2, 4), 1, -2);
    }

    private static void heldChanges() {
        PoundCat x = Due.townOf("d30c010o020k999");
        DUE.told(x, "cat(0, 4) at 1", () -> x.cat(0, 4), 1, 0);
        DUE.told(x, "cat(1, 4) at 2", () -> x.cat(1, 4), 1, -1);
        for (int m = 0; m < 25; m++) {
            x.feed(2);
        }
        DUE.told(x, "cat(2, 1) at 199", () -> x.cat(2, 1), 1, 199);
        DUE.told(x, "cat(2, 4) at 199", () -> x.cat(2, 4), 1, 1);
        DUE.due("feed(2) at 199", x.feed(2), 200);
        DUE.told(x, "cat(2, 4) at 200", () -> x.cat(2, 4), 1, 0);
        DUE.told(x, "cat(2, 3) at 200", () -> x.cat(2, 3), 1, 4);
    }

    private static void marks() {
        PoundCat x = Due.townOf(ALL_KINDS);
        int unlike = PoundCat.FINDING;
        int[][] due = {
            {1, unlike, unlike, unlike, unlike}, {unlike, unlike, unlike, unlike, unlike},
            {unlike, 0, unlike, unlike, unlike}, {unlike, unlike, 3, unlike, unlike},
            {1, unlike, unlike, 9, unlike}, {unlike, unlike, 3, unlike, 1}};
        for (int i = 0; i < 6; i++) {
            for (int kind = 1; kind <= 5; kind++) {
                DUE.due("mark(" + i + ", " + kind + ")", x.mark(i, kind), due[i][kind - 1]);
            }
        }
        DUE.found(x, "mark(0, 4)", () -> x.mark(0, 4), 3);
        DUE.refused(x, "mark(0, 0)", () -> x.mark(0, 0), PoundCat.BAD);
        DUE.refused(x, "mark(1, 6)", () -> x.mark(1, 6), PoundCat.BAD);
        DUE.refused(x, "mark(1, -1)", () -> x.mark(1, -1), PoundCat.BAD);
        DUE.refused(x, "mark(6, 1)", () -> x.mark(6, 1), PoundCat.BAD);
        DUE.refused(x, "mark(-1, 1)", () -> x.mark(-1, 1), PoundCat.BAD);
        for (int t = 1; t <= 5; t++) {
            x.hour();
            DUE.due("HOUR " + t + ", mark(0, 1)", x.mark(0, 1), 1 - t % 2);
            DUE.due("HOUR " + t + ", mark(4, 1)", x.mark(4, 1), 1 - t % 2);
            DUE.due("HOUR " + t + ", mark(2, 2)", x.mark(2, 2), t == 5 ? 3 : 4 - t);
        }
    }

    private static void kittensBeside() {
        PoundCat x = Due.townOf("d30s103s104k105k100");
        DUE.due("mark(0, 5)", x.mark(0, 5), 3);
        DUE.due("mark(1, 3)", x.mark(1, 3), 4);
        DUE.due("mark(3, 3)", x.mark(3, 3), 0);
        PoundCat y = Due.townOf("d30s103");
        DUE.due("mark(0, 5) alone", y.mark(0, 5), 0);
    }
}
