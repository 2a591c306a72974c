/** Promises 22 to 25: weighs, when, steady, meals. */
public final class AheadTest {
    private static final Due DUE = new Due("AheadTest");
    private static final String ALL_KINDS = "d30m204c255 o187k055h309s123";

    public static void main(String[] args) {
        weights();
        firstTimes();
        steadiest();
        fewestMeals();
        DUE.finish();
    }

    private static void weights() {
        PoundCat x = Due.townOf(ALL_KINDS);
        long digest = x.digest();
        int[] inFive = {21, 20, 11, 15, 31, 12};
        for (int i = 0; i < 6; i++) {
            DUE.due("weighs(" + i + ", 5)", x.weighs(i, 5), inFive[i]);
        }
        DUE.due("weighs(0, 0)", x.weighs(0, 0), 20);
        DUE.due("weighs(1, 60)", x.weighs(1, 60), 1);
        DUE.due("weighs() changes nothing", x.digest(), digest);
        x.hour();
        DUE.due("HOUR 1, weighs(0, 1)", x.weighs(0, 1), 21);
        DUE.due("HOUR 1, weighs(2, 2)", x.weighs(2, 2), 14);
        DUE.due("HOUR 1, weighs(2, 4)", x.weighs(2, 4), 11);
        PoundCat y = Due.townOf("d30k999");
        DUE.due("weighs(0, 50)", y.weighs(0, 50), 199);
        DUE.due("weighs(0, 51)", y.weighs(0, 51), 200);
        DUE.due("weighs(0, 60)", y.weighs(0, 60), 200);
        DUE.refused(x, "weighs(6, 0)", () -> x.weighs(6, 0), PoundCat.BAD);
        DUE.refused(x, "weighs(-1, 0)", () -> x.weighs(-1, 0), PoundCat.BAD);
        DUE.refused(x, "weighs(0, -1)", () -> x.weighs(0, -1), PoundCat.BAD);
        DUE.refused(x, "weighs(0, 61)", () -> x.weighs(0, 61), PoundCat.BAD);
        PoundCat none = new PoundCat();
        DUE.refused(none, "no CATS: weighs(0, 0)", () -> none.weighs(0, 0), PoundCat.BAD);
    }

    private static void firstTimes() {
        PoundCat x = Due.townOf(ALL_KINDS);
        DUE.due("when(0, 20)", x.when(0, 20), 0);
        DUE.due("when(0, 21)", x.when(0, 21), 2);
        DUE.due("when(0, 22)", x.when(0, 22), 4);
        DUE.due("when(0, 50), at the 60th", x.when(0, 50), 60);
        DUE.due("when(0, 51)", x.when(0, 51), PoundCat.NONE);
        DUE.due("when(1, 1)", x.when(1, 1), 24);
        DUE.due("when(2, 17), leapt over", x.when(2, 17), PoundCat.NONE);
        DUE.due("when(3, 6)", x.when(3, 6), PoundCat.NONE);
        DUE.due("when(3, 7)", x.when(3, 7), 1);
        DUE.due("when(5, 200)", x.when(5, 200), PoundCat.NONE);
        DUE.refused(x, "when(6, 1)", () -> x.when(6, 1), PoundCat.BAD);
        DUE.refused(x, "when(-1, 1)", () -> x.when(-1, 1), PoundCat.BAD);
        DUE.refused(x, "when(0, 0)", () -> x.when(0, 0), PoundCat.BAD);
        DUE.refused(x, "when(0, 201)", () -> x.when(0, 201), PoundCat.BAD);
    }

    private static void steadiest() {
        PoundCat x = Due.townOf("d30k205c205m205o205");
        DUE.told(x, "steady(0)", () -> x.steady(0), 0, 0);
        DUE.told(x, "steady(1)", () -> x.steady(1), 1, 1);
        DUE.told(x, "steady(2)", () -> x.steady(2), 1, 2);
        DUE.told(x, "steady(3)", () -> x.steady(3), 2, 2);
        DUE.told(x, "steady(60)", () -> x.steady(60), 1, 19);
        PoundCat y = Due.townOf("d30c055s123s123");
        DUE.told(y, "steady(9), the first", () -> y.steady(9), 1, 0);
        DUE.refused(x, "steady(-1)", () -> x.steady(-1), PoundCat.BAD);
        DUE.refused(x, "steady(61)", () -> x.steady(61), PoundCat.BAD);
        PoundCat none = new PoundCat();
        DUE.refused(none, "no CATS: steady(0)", () -> none.steady(0), PoundCat.STATE);
        DUE.refused(none, "no CATS: steady(61)", () -> none.steady(61), PoundCat.BAD);
    }

    private static void fewestMeals() {
        PoundCat x = Due.townOf(ALL_KINDS);
        DUE.due("meals(0, 20, 0)", x.meals(0, 20, 0), 0);
        DUE.due("meals(0, 21, 0)", x.meals(0, 21, 0), 1);
        DUE.due("meals(0, 24, 0)", x.meals(0, 24, 0), 1);
        DUE.due("meals(0, 25, 0)", x.meals(0, 25, 0), 2);
        DUE.due("meals(0, 100, 0), the 20th", x.meals(0, 100, 0), 20);
        DUE.due("meals(0, 101, 0)", x.meals(0, 101, 0), PoundCat.NONE);
        DUE.due("meals(1, 25, 20)", x.meals(1, 25, 20), 4);
        DUE.due("meals(3, 45, 20)", x.meals(3, 45, 20), 0);
        DUE.due("meals(3, 46, 20)", x.meals(3, 46, 20), 1);
        DUE.due("meals(4, 200, 0)", x.meals(4, 200, 0), 10);
        DUE.due("meals(4, 200, 1), what goes beyond is lost", x.meals(4, 200, 1), PoundCat.NONE);
        DUE.due("meals(5, 13, 20)", x.meals(5, 13, 20), PoundCat.NONE);
        DUE.due("meals(5, 1, 0)", x.meals(5, 1, 0), 0);
        DUE.refused(x, "meals(6, 1, 0)", () -> x.meals(6, 1, 0), PoundCat.BAD);
        DUE.refused(x, "meals(-1, 1, 0)", () -> x.meals(-1, 1, 0), PoundCat.BAD);
        DUE.refused(x, "meals(0, 0, 0)", () -> x.meals(0, 0, 0), PoundCat.BAD);
        DUE.refused(x, "meals(0, 201, 0)", () -> x.meals(0, 201, 0), PoundCat.BAD);
        DUE.refused(x, "meals(0, 1, -1)", () -> x.meals(0, 1, -1), PoundCat.BAD);
        DUE.refused(x, "meals(0, 1, 21)", () -> x.meals(0, 1, 21), PoundCat.BAD);
        x.hour();
        DUE.due("HOUR 1, meals(0, 22, 1)", x.meals(0, 22, 1), 1);
        DUE.due("HOUR 1, meals(0, 21, 1)", x.meals(0, 21, 1), 0);
    }
}
