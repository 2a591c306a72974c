/** Promises 14 to 21: hour, feed, buy, sell, rule, undo, keep, on. */
public final class DeedsTest {
    private static final Due DUE = new Due("DeedsTest");
    private static final String ALL_KINDS = "d30m204c255 o187k055h309s123";

    public static void main(String[] args) {
        withoutCats();
        hours();
        meals();
        trade();
        rulers();
        fullTown();
        undone();
        noneUndone();
        undoneBeyondBounds();
        kept();
        DUE.finish();
    }

    private static void withoutCats() {
        PoundCat x = new PoundCat();
        DUE.refused(x, "no CATS: hour()", x::hour, PoundCat.STATE);
        DUE.refused(x, "no CATS: feed(0)", () -> x.feed(0), PoundCat.BAD);
        DUE.refused(x, "no CATS: buy(1)", () -> x.buy(1), PoundCat.STATE);
        DUE.refused(x, "no CATS: buy(0)", () -> x.buy(0), PoundCat.BAD);
        DUE.refused(x, "no CATS: sell(1)", () -> x.sell(1), PoundCat.STATE);
        DUE.refused(x, "no CATS: sell(10)", () -> x.sell(10), PoundCat.BAD);
        DUE.refused(x, "no CATS: rule(0)", () -> x.rule(0), PoundCat.BAD);
        DUE.refused(x, "no CATS: undo(-1)", () -> x.undo(-1), PoundCat.BAD);
        DUE.refused(x, "no CATS: undo(1)", () -> x.undo(1), PoundCat.BAD);
        DUE.refused(x, "no CATS: keep(0)", () -> x.keep(0), PoundCat.STATE);
        DUE.refused(x, "no CATS: keep(3)", () -> x.keep(3), PoundCat.BAD);
        DUE.refused(x, "no CATS: on(3)", () -> x.on(3), PoundCat.BAD);
        DUE.found(x, "no CATS: on(0)", () -> x.on(0), 1);
    }

    private static void weigh(PoundCat x, String when, int... due) {
        for (int i = 0; i < due.length; i++) {
            int cat = i;
            DUE.told(x, when + ": cat(" + i + ", 1)", () -> x.cat(cat, 1), 1, due[i]);
        }
    }

    private static void hours() {
        PoundCat x = Due.townOf(ALL_KINDS);
        DUE.due("hour() 0", x.hour(), 19);
        weigh(x, "HOUR 1", 19, 24, 16, 7, 29, 12);
        DUE.due("hour() 1", x.hour(), 21);
        weigh(x, "HOUR 2", 21, 23, 15, 9, 31, 12);
        DUE.due("hour() 2", x.hour(), 20);
        DUE.due("hour() 3", x.hour(), 22);
        weigh(x, "HOUR 4", 22, 21, 13, 13, 32, 12);
        DUE.due("hour() 4", x.hour(), 21);
        weigh(x, "HOUR 5", 21, 20, 11, 15, 31, 12);
        DUE.due("count(1)", x.count(1), 5);
        DUE.due("count(2)", x.count(2), 5);
        PoundCat y = Due.townOf("d30o020");
        DUE.due("a light one, hour()", y.hour(), 1);
        DUE.due("a light one, hour() again", y.hour(), 1);
    }

    private static void meals() {
        PoundCat x = Due.townOf(ALL_KINDS);
        int[] due = {24, 30, 25, 7, 48, 12};
        for (int i = 0; i < 6; i++) {
            DUE.due("feed(" + i + ")", x.feed(i), due[i]);
        }
        DUE.due("count(1) by meals", x.count(1), 0);
        DUE.due("count(2) by meals", x.count(2), 6);
        DUE.refused(x, "feed(6)", () -> x.feed(6), PoundCat.BAD);
        DUE.refused(x, "feed(-1)", () -> x.feed(-1), PoundCat.BAD);
        PoundCat y = Due.townOf("d30h999");
        for (int m = 0; m < 5; m++) {
            y.feed(0);
        }
        DUE.due("feed(0) from 189", y.feed(0), 200);
        DUE.due("feed(0) from 200", y.feed(0), 200);
        DUE.due("hour() from 200", y.hour(), 199);
    }

    private static void trade() {
        PoundCat x = Due.townOf(ALL_KINDS);
        DUE.due("buy(3)", x.buy(3), 60);
        DUE.due("pence()", x.pence(), -30);
        DUE.due("sell(1)", x.sell(1), 40);
        DUE.due("pence()", x.pence(), -20);
        DUE.due("feed(0)", x.feed(0), 24);
        DUE.refused(x, "sell(2) of 40 by 24", () -> x.sell(2), PoundCat.SPENT);
        DUE.due("sell(1) of 40 by 24", x.sell(1), 16);
        DUE.due("count(3)", x.count(3), 16);
        DUE.due("pence()", x.pence(), -10);
        DUE.refused(x, "buy(0)", () -> x.buy(0), PoundCat.BAD);
        DUE.refused(x, "buy(10)", () -> x.buy(10), PoundCat.BAD);
        DUE.refused(x, "sell(0)", () -> x.sell(0), PoundCat.BAD);
        DUE.refused(x, "sell(10)", () -> x.sell(10), PoundCat.BAD);
        DUE.due("buy(9)", x.buy(9), 232);
        DUE.due("sell(9)", x.sell(9), 16);
        PoundCat y = Due.townOf("d30s200");
        DUE.due("buy(2)", y.buy(2), 40);
        DUE.due("sell(2), all of it", y.sell(2), 0);
        DUE.due("pence() above nought", y.pence(), 0);
        y.buy(1);
        PoundCat z = Due.townOf("d30c100");
        z.buy(2);
        Due.hours(z, 5);
        z.sell(4);
        DUE.due("gained by a lighter pound", z.pence(), 20);
    }

    private static void rulers() {
        PoundCat x = Due.townOf(ALL_KINDS);
        DUE.refused(x, "rule(0) that does", () -> x.rule(0), PoundCat.STATE);
        DUE.due("rule(4)", x.rule(4), 30);
        DUE.due("count(4)", x.count(4), 30);
        DUE.due("count(5)", x.count(5), 4);
        DUE.refused(x, "rule(4) that does", () -> x.rule(4), PoundCat.STATE);
        DUE.refused(x, "rule(6)", () -> x.rule(6), PoundCat.BAD);
        DUE.refused(x, "rule(-1)", () -> x.rule(-1), PoundCat.BAD);
        DUE.due("buy(1) by 30", x.buy(1), 30);
        DUE.due("hour() of the ruler", x.hour(), 29);
        DUE.due("rule(0) again", x.rule(0), 19);
    }

    private static void fullTown() {
        PoundCat x = Due.townOf(ALL_KINDS);
        for (int d = 0; d < 39; d++) {
            x.feed(5);
        }
        DUE.due("buy(1), the 40th", x.buy(1), 20);
        DUE.refused(x, "full: hour()", x::hour, PoundCat.FULL);
        DUE.refused(x, "full: feed(0)", () -> x.feed(0), PoundCat.FULL);
        DUE.refused(x, "full: feed(6)", () -> x.feed(6), PoundCat.BAD);
        DUE.refused(x, "full: buy(1)", () -> x.buy(1), PoundCat.FULL);
        DUE.refused(x, "full: buy(0)", () -> x.buy(0), PoundCat.BAD);
        DUE.refused(x, "full: sell(1)", () -> x.sell(1), PoundCat.FULL);
        DUE.refused(x, "full: sell(2)", () -> x.sell(2), PoundCat.SPENT);
        DUE.refused(x, "full: sell(0)", () -> x.sell(0), PoundCat.BAD);
        DUE.refused(x, "full: rule(1)", () -> x.rule(1), PoundCat.FULL);
        DUE.refused(x, "full: rule(0)", () -> x.rule(0), PoundCat.STATE);
        DUE.refused(x, "full: rule(6)", () -> x.rule(6), PoundCat.BAD);
        DUE.due("full: keep(0)", x.keep(0), 40);
        x.undo(38);
        x.buy(1);
        DUE.due("sell(1), the 40th", x.sell(1), 0);
        x.undo(39);
        DUE.due("rule(1), the 40th", x.rule(1), 25);
        x.undo(39);
        DUE.due("feed(0), the 40th", x.feed(0), 24);
        x.undo(39);
        DUE.due("hour(), the 40th", x.hour(), 19);
        DUE.due("undo(39)", x.undo(39), 1);
        DUE.due("hour() then", x.hour(), 19);
        DUE.due("on(0)", x.on(0), 40);
        DUE.refused(x, "full again: hour()", x::hour, PoundCat.FULL);
    }

    private static void undone() {
        PoundCat x = Due.townOf(ALL_KINDS);
        long[] digests = new long[7];
        digests[0] = x.digest();
        x.hour();
        digests[1] = x.digest();
        x.feed(0);
        digests[2] = x.digest();
        x.buy(3);
        digests[3] = x.digest();
        x.hour();
        digests[4] = x.digest();
        x.sell(1);
        digests[5] = x.digest();
        x.rule(2);
        digests[6] = x.digest();
        DUE.refused(x, "undo(-1)", () -> x.undo(-1), PoundCat.BAD);
        DUE.due("undo(6), behind the last DEED", x.undo(6), 0);
        DUE.due("undo(6), digest()", x.digest(), digests[6]);
        DUE.refused(x, "undo(7)", () -> x.undo(7), PoundCat.BAD);
        DUE.refused(x, "undo(max)", () -> x.undo(Integer.MAX_VALUE), PoundCat.BAD);
        DUE.due("undo(5)", x.undo(5), 1);
        DUE.due("undo(5), digest()", x.digest(), digests[5]);
        DUE.due("undo(3)", x.undo(3), 2);
        DUE.due("undo(3), digest()", x.digest(), digests[3]);
        DUE.due("undo(1)", x.undo(1), 2);
        DUE.due("undo(1), digest()", x.digest(), digests[1]);
        x.feed(0);
        DUE.due("done again, digest()", x.digest(), digests[2]);
        DUE.due("undo(0)", x.undo(0), 2);
        DUE.due("undo(0), digest()", x.digest(), digests[0]);
    }

    private static void noneUndone() {
        PoundCat x = new PoundCat();
        long fresh = x.digest();
        DUE.due("a new object: undo(0)", x.undo(0), 0);
        DUE.due("a new object: undo(0), digest()", x.digest(), fresh);
        PoundCat y = Due.townOf(ALL_KINDS);
        long began = y.digest();
        DUE.due("no DEEDS yet: undo(0)", y.undo(0), 0);
        DUE.due("no DEEDS yet: undo(0), digest()", y.digest(), began);
        DUE.refused(y, "no DEEDS yet: undo(1)", () -> y.undo(1), PoundCat.BAD);
        DUE.refused(y, "no DEEDS yet: undo(-1)", () -> y.undo(-1), PoundCat.BAD);
        y.hour();
        DUE.due("undo(0) of one", y.undo(0), 1);
        DUE.due("undo(0) again", y.undo(0), 0);
        DUE.due("undo(0) again, digest()", y.digest(), began);
        for (int d = 0; d < 40; d++) {
            y.feed(0);
        }
        long full = y.digest();
        DUE.due("full: undo(40)", y.undo(40), 0);
        DUE.due("full: undo(40), digest()", y.digest(), full);
        DUE.refused(y, "full: undo(41)", () -> y.undo(41), PoundCat.BAD);
    }

    private static void undoneBeyondBounds() {
        PoundCat x = Due.townOf("d30c039");
        Due.hours(x, 6);
        DUE.due("undo(1) of hours at 1", x.undo(1), 5);
        DUE.told(x, "then cat(0, 1)", () -> x.cat(0, 1), 1, 2);
        for (int m = 0; m < 30; m++) {
            x.feed(0);
        }
        DUE.told(x, "fed, cat(0, 1)", () -> x.cat(0, 1), 1, 200);
        DUE.due("undo(22) of meals at 200", x.undo(22), 9);
        DUE.told(x, "then cat(0, 1)", () -> x.cat(0, 1), 1, 191);
    }

    private static void kept() {
        PoundCat x = Due.townOf(ALL_KINDS);
        x.buy(2);
        DUE.due("keep(0)", x.keep(0), 1);
        x.hour();
        x.rule(3);
        DUE.due("keep(2)", x.keep(2), 3);
        DUE.due("count(11)", x.count(11), 2);
        long third = x.digest();
        DUE.due("on(0)", x.on(0), 1);
        DUE.due("on(0), goods", x.count(3), 40);
        DUE.due("on(0), ruler", x.count(5), 0);
        DUE.due("on(0), hour", x.count(1), 0);
        DUE.due("on(0), pence", x.pence(), -20);
        x.feed(1);
        x.feed(1);
        x.feed(1);
        DUE.due("on(2)", x.on(2), 3);
        DUE.due("on(2), digest()", x.digest(), third);
        DUE.due("on(2) once more", x.on(2), 3);
        DUE.due("undo(1) of a kept one", x.undo(1), 2);
        DUE.due("undo(1), ruler", x.count(5), 0);
        DUE.due("on(2) is as it was", x.on(2), 3);
        DUE.due("on(2) is as it was, digest()", x.digest(), third);
        x.undo(0);
        x.feed(5);
        DUE.due("on(2) behind another first DEED", x.on(2), 3);
        DUE.due("on(2) behind another first DEED, digest()", x.digest(), third);
        x.undo(0);
        DUE.due("keep(2) over another", x.keep(2), 0);
        x.hour();
        DUE.due("on(2), no DEEDS", x.on(2), 0);
        DUE.due("on(2), pound", x.count(4), 20);
        DUE.found(x, "on(1)", () -> x.on(1), 1);
        DUE.refused(x, "on(-1)", () -> x.on(-1), PoundCat.BAD);
        DUE.refused(x, "on(3)", () -> x.on(3), PoundCat.BAD);
        DUE.refused(x, "keep(-1)", () -> x.keep(-1), PoundCat.BAD);
        DUE.refused(x, "keep(3)", () -> x.keep(3), PoundCat.BAD);
    }
}
