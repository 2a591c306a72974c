/** Promises 39 to 46: asked, upper, lower, pence, count, finding, findings, digest. */
public final class ToldTest {
    private static final Due DUE = new Due("ToldTest");
    private static final String ALL_KINDS = "d30m204c255 o187k055h309s123";

    public static void main(String[] args) {
        toldNumbers();
        toldFractions();
        counts();
        findings();
        digestOfNothing();
        digestOfMuch();
        DUE.finish();
    }

    private static void toldNumbers() {
        PoundCat x = Due.townOf(ALL_KINDS);
        Due.fillRow(x, 0, 1, 19);
        x.lay(0, 0, 77);
        x.lay(0, 0, 1);
        DUE.due("asked() by lay()", x.asked(), 77);
        x.row(1, 2);
        x.text(1, 2);
        x.put(1, 0, 5);
        x.copy(0, 0, 1, 0, 2);
        x.fault(0);
        x.mark(0, 1);
        x.hour();
        x.undo(0);
        x.feed(0);
        x.buy(1);
        x.sell(1);
        x.rule(1);
        x.undo(0);
        x.keep(0);
        x.on(0);
        x.weighs(0, 9);
        x.when(0, 20);
        x.meals(0, 30, 1);
        x.plan(2, 2);
        x.kinds(0, 0);
        x.fright(1);
        x.odds(0, 20, 3, 4);
        x.mid(0, 3, 4);
        x.lots(1, 5);
        x.undo(0);
        x.count(3);
        x.tear(1);
        x.digest();
        DUE.due("asked() by others still", x.asked(), 77);
        x.at(9, 0);
        x.at(5, 0);
        DUE.due("asked() behind refusals", x.asked(), 77);
        x.town(0);
        DUE.due("asked() behind town()", x.asked(), 77);
        x.cat(4, 3);
        DUE.due("asked() by cat()", x.asked(), 18);
    }

    private static void toldFractions() {
        PoundCat x = Due.townOf(ALL_KINDS);
        DUE.due("upper() before", x.upper(), 0);
        DUE.due("lower() before", x.lower(), 1);
        x.odds(0, 20, 3, 4);
        DUE.due("upper()", x.upper(), 2);
        DUE.due("lower()", x.lower(), 3);
        x.sure(30);
        x.odds(0, 20, 7, 4);
        x.sacks(-1);
        x.town(0);
        DUE.due("upper() still", x.upper(), 2);
        DUE.due("lower() still", x.lower(), 3);
        x.sacks(30);
        DUE.due("upper() by sacks()", x.upper(), 3);
        DUE.due("lower() by sacks()", x.lower(), 1);
    }

    private static void counts() {
        PoundCat x = Due.townOf("d30m204c255h187k055h309s123");
        x.row(0, 3);
        x.row(4, 0);
        x.text(3, 0);
        x.hour();
        x.buy(2);
        x.rule(3);
        x.keep(1);
        int[] due = {6, 1, 3, 38, 7, 3, 30, 3, 2, 2, 2, 1};
        for (int what = 0; what <= 11; what++) {
            DUE.due("count(" + what + ")", x.count(what), due[what]);
        }
        DUE.due("pence()", x.pence(), -20);
        DUE.refused(x, "count(-1)", () -> x.count(-1), PoundCat.BAD);
        DUE.refused(x, "count(12)", () -> x.count(12), PoundCat.BAD);
    }

    private static void findings() {
        PoundCat x = new PoundCat();
        for (int f = 1; f <= 5; f++) {
            DUE.due("findings(" + f + ") before", x.findings(f), 0);
        }
        x.tear(0);
        x.tear(0);
        DUE.due("finding() NOTHING", x.finding(), 1);
        x.row(0, -1);
        DUE.due("finding() SIZE", x.finding(), 5);
        x.row(0, 0);
        x.at(0, 0);
        DUE.due("finding() BEYOND", x.finding(), 2);
        x.mean(0);
        DUE.due("finding() NOUGHT", x.finding(), 4);
        x.row(9, 9);
        x.hour();
        DUE.due("finding() behind BAD, STATE", x.finding(), 4);
        Due.write(x, 0, "d30c010");
        x.town(0);
        x.mark(0, 1);
        DUE.due("finding() UNLIKE", x.finding(), 3);
        int[] due = {2, 1, 1, 1, 1};
        for (int f = 1; f <= 5; f++) {
            DUE.due("findings(" + f + ")", x.findings(f), due[f - 1]);
        }
        DUE.refused(x, "findings(0)", () -> x.findings(0), PoundCat.BAD);
        DUE.refused(x, "findings(6)", () -> x.findings(6), PoundCat.BAD);
        DUE.refused(x, "findings(-1)", () -> x.findings(-1), PoundCat.BAD);
    }

    private static long mix(long h, long... values) {
        for (long v : values) {
            h = 31 * h + v;
        }
        return h;
    }

    private static void digestOfNothing() {
        long h = mix(17, 0, 0, 0, 0, 0, 0, 0, 0, 0, 0, 0, 0);
        h = mix(h, 0);
        h = mix(h, -1, -1, -1);
        h = mix(h, -1, -1, -1, -1, -1, -1);
        h = mix(h, -1, -1, -1, -1);
        DUE.due("digest() of a new object", new PoundCat().digest(), h);
    }

    private static void digestOfMuch() {
        PoundCat x = Due.townOf("d30k055m204");
        x.text(0, 2);
        x.put(0, 1, 200);
        x.text(2, 0);
        Due.fillRow(x, 1, -7, 1000000000);
        x.row(5, 0);
        x.keep(2);
        x.buy(3);
        x.hour();
        x.keep(0);
        x.rule(1);
        long h = mix(17, 2, 1, 3, 15, 19, 1, 30, 1, 1, 2, 2, 2);
        h = mix(h, -30);
        h = mix(h, 3, 7, 5, 2, 2);
        h = mix(h, 1, 19, 4, 4, 2);
        h = mix(h, 2, -1, 0);
        h = mix(h, -1, 2, -7, 1000000000, -1, -1, -1, 0);
        h = mix(h, 2, 32, -56, -1, 0, -1);
        x.at(1, 0);
        DUE.due("digest()", x.digest(), h);
        DUE.due("digest() again", x.digest(), h);
        DUE.due("digest() leaves asked()", x.asked(), -7);
    }
}
