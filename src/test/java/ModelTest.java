import java.util.ArrayList;
import java.util.List;
import java.util.Random;

/** All promises: runs of calls by a fixed seed, each answered by the class and by the plainer Model. */
public final class ModelTest {
    private static final int USUAL_RUNS = 3000;
    private static final int STEPS = 60;
    /** An object is used for 512 calls at most; a step takes 50 at most. */
    private static final int LAST_STEP_BY = 512 - 50;
    private static final int[] EDGES = {-1, 0, 1, 2, 3, 5, 6, 9, 10, 12, 13, 20, 21, 40, 41, 60, 61, 99,
        200, 201, 1200, 1201, Integer.MAX_VALUE, Integer.MAX_VALUE - 1, Integer.MIN_VALUE};

    private final Random random;
    private final PoundCat x = new PoundCat();
    private final Model m = new Model();
    private final List<String> calls = new ArrayList<>();

    private ModelTest(long seed) {
        random = new Random(seed);
    }

    public static void main(String[] args) {
        int runs = args.length > 0 ? Integer.parseInt(args[0]) : USUAL_RUNS;
        int wrong = 0;
        for (int run = 0; run < runs && wrong < 5; run++) {
            ModelTest test = new ModelTest(run);
            if (!test.agrees()) {
                wrong++;
                System.out.println("ModelTest: run " + run + ": " + String.join("; ", test.calls));
            }
        }
        System.out.println("ModelTest: " + runs + " runs, " + wrong + " not as due");
        if (wrong != 0) {
            System.exit(1);
        }
    }

    private boolean agrees() {
        if (random.nextInt(20) != 0 && !found()) {
            return false;
        }
        for (int step = 0; step < STEPS && calls.size() <= LAST_STEP_BY; step++) {
            if (!same(step)) {
                return false;
            }
        }
        return true;
    }

    /** A town of one's own, so that most runs have cats. */
    private boolean found() {
        String signs = soundTown();
        return write(0, signs) && check("town(0)", x.town(0), m.town(0));
    }

    private boolean write(int t, String signs) {
        if (!check("text(" + t + ", " + signs.length() + ")", x.text(t, signs.length()), m.text(t, signs.length()))) {
            return false;
        }
        for (int i = 0; i < signs.length(); i++) {
            int v = signs.charAt(i);
            if (!check("put(" + t + ", " + i + ", " + v + ")", x.put(t, i, v), m.put(t, i, v))) {
                return false;
            }
        }
        return true;
    }

    private String soundTown() {
        StringBuilder s = new StringBuilder();
        blanks(s);
        s.append('d').append(figures());
        int cats = 1 + random.nextInt(6);
        for (int i = 0; i < cats; i++) {
            blanks(s);
            s.append("cmokhs".charAt(random.nextInt(6))).append(figures()).append(random.nextInt(10));
        }
        blanks(s);
        return s.toString();
    }

    private void blanks(StringBuilder s) {
        if (random.nextInt(4) == 0) {
            s.append("  ", 0, 1 + random.nextInt(2));
        }
    }

    private String figures() {
        int v = random.nextBoolean() ? 1 + random.nextInt(99) : 1 + random.nextInt(9);
        return v < 10 ? "0" + v : String.valueOf(v);
    }

    private String spoiltTown() {
        StringBuilder s = new StringBuilder(soundTown());
        int what = random.nextInt(4);
        int p = random.nextInt(s.length());
        if (what == 0) {
            s.setLength(p);
        } else if (what == 1) {
            s.setCharAt(p, " d0c9mx:/".charAt(random.nextInt(9)));
        } else if (what == 2) {
            s.deleteCharAt(p);
        } else {
            s.append("c101");
        }
        return s.toString();
    }

    private int any(int least, int most) {
        if (random.nextInt(25) == 0) {
            return EDGES[random.nextInt(EDGES.length)];
        }
        if (random.nextInt(15) == 0) {
            return random.nextBoolean() ? most : most + 1;
        }
        return least + random.nextInt(most - least + 1);
    }

    private int anyCat() {
        int cats = m.count(0);
        return any(0, Math.max(0, cats - 1));
    }

    private boolean check(String call, long got, long want) {
        calls.add(call + " " + got);
        if (got != want) {
            calls.add("due is " + want);
            return false;
        }
        return true;
    }

    private boolean same(int step) {
        if (!(step % 3 == 0 ? sameDeed() : random.nextBoolean() ? sameLook() : sameRows())) {
            return false;
        }
        int f = 1 + random.nextInt(5);
        return check("asked()", x.asked(), m.asked())
                && check("upper()", x.upper(), m.upper())
                && check("lower()", x.lower(), m.lower())
                && check("finding()", x.finding(), m.finding())
                && check("findings(" + f + ")", x.findings(f), m.findings(f))
                && check("digest()", x.digest(), m.digest());
    }

    private boolean sameDeed() {
        int i = anyCat();
        int n = any(1, 9);
        int k = any(0, 2);
        switch (random.nextInt(14)) {
            case 0, 1, 2:
                return check("hour()", x.hour(), m.hour());
            case 3, 4, 5:
                return check("feed(" + i + ")", x.feed(i), m.feed(i));
            case 6:
                return check("buy(" + n + ")", x.buy(n), m.buy(n));
            case 7, 8:
                return check("sell(" + n + ")", x.sell(n), m.sell(n));
            case 9:
                return check("rule(" + i + ")", x.rule(i), m.rule(i));
            case 10:
                int d = any(0, Math.max(0, m.count(2)));
                return random.nextInt(3) != 0 || check("undo(" + d + ")", x.undo(d), m.undo(d));
            case 11:
                return check("keep(" + k + ")", x.keep(k), m.keep(k));
            case 12:
                return check("on(" + k + ")", x.on(k), m.on(k));
            default:
                int many = any(1, 20);
                int seed = any(1, 2147483646);
                return check("lots(" + many + ", " + seed + ")", x.lots(many, seed), m.lots(many, seed));
        }
    }

    private boolean sameLook() {
        int i = anyCat();
        int r = any(0, 2);
        int v = any(1, 200);
        int p = any(0, 12);
        int n;
        switch (random.nextInt(19)) {
            case 0:
                n = any(0, 60);
                return check("weighs(" + i + ", " + n + ")", x.weighs(i, n), m.weighs(i, n));
            case 1:
                v = any(1, 40);
                return check("when(" + i + ", " + v + ")", x.when(i, v), m.when(i, v));
            case 2:
                n = any(0, 60);
                return check("steady(" + n + ")", x.steady(n), m.steady(n));
            case 3:
                n = any(0, 20);
                return check("meals(" + i + ", " + v + ", " + n + ")", x.meals(i, v, n), m.meals(i, v, n));
            case 4:
                n = any(0, 20);
                int k = any(1, 9);
                return check("gain(" + k + ", " + n + ")", x.gain(k, n), m.gain(k, n));
            case 5:
                n = any(0, 60);
                return check("ring(" + n + ")", x.ring(n), m.ring(n));
            case 6:
                n = any(0, 3);
                return check("plan(" + n + ", " + r + ")", x.plan(n, r), m.plan(n, r));
            case 7, 8, 9:
                return sameSack();
            case 10, 11, 12:
                return sameLedger(i, r);
            case 13:
                n = any(0, 2);
                return check("fright(" + n + ")", x.fright(n), m.fright(n));
            case 14:
                n = any(0, 6);
                v = Math.max(-1, m.weighs(i, 0)) + random.nextInt(9) - 4;
                return check("odds(" + i + ", " + v + ", " + n + ", " + p + ")", x.odds(i, v, n, p), m.odds(i, v, n, p));
            case 15:
                n = any(0, 6);
                return check("mid(" + i + ", " + n + ", " + p + ")", x.mid(i, n, p), m.mid(i, n, p));
            case 16:
                n = any(0, 4);
                return check("cat(" + i + ", " + n + ")", x.cat(i, n), m.cat(i, n));
            case 17:
                n = any(0, 5);
                return check("mark(" + i + ", " + n + ")", x.mark(i, n), m.mark(i, n));
            default:
                n = any(0, 11);
                return check("count(" + n + ")", x.count(n), m.count(n)) && check("pence()", x.pence(), m.pence());
        }
    }

    /** Most often a weight that some set has. */
    private boolean sameSack() {
        int v = 0;
        for (int i = 0; i < m.count(0); i++) {
            v += random.nextBoolean() ? m.weighs(i, 0) : 0;
        }
        if (random.nextInt(4) == 0) {
            v = any(0, 1200);
        }
        switch (random.nextInt(3)) {
            case 0:
                return check("sacks(" + v + ")", x.sacks(v), m.sacks(v));
            case 1:
                return check("sure(" + v + ")", x.sure(v), m.sure(v));
            default:
                return check("ask(" + v + ")", x.ask(v), m.ask(v));
        }
    }

    /** Most often a ledger that is true of the cat, or nearly so. */
    private boolean sameLedger(int i, int r) {
        if (random.nextInt(4) != 0) {
            int pairs = random.nextInt(4);
            if (!check("row(" + r + ", " + 2 * pairs + ")", x.row(r, 2 * pairs), m.row(r, 2 * pairs))) {
                return false;
            }
            for (int p = 0; p < pairs; p++) {
                int hours = random.nextInt(random.nextBoolean() ? 4 : 41);
                int weight = m.weighs(i, hours) + (random.nextInt(5) == 0 ? random.nextInt(5) - 2 : 0);
                if (!lay(r, 2 * p, hours) || !lay(r, 2 * p + 1, weight)) {
                    return false;
                }
            }
        }
        switch (random.nextInt(3)) {
            case 0:
                return check("kinds(" + i + ", " + r + ")", x.kinds(i, r), m.kinds(i, r));
            case 1:
                return check("weights(" + i + ", " + r + ")", x.weights(i, r), m.weights(i, r));
            default:
                return check("test(" + i + ", " + r + ")", x.test(i, r), m.test(i, r));
        }
    }

    private boolean lay(int r, int i, int v) {
        return check("lay(" + r + ", " + i + ", " + v + ")", x.lay(r, i, v), m.lay(r, i, v));
    }

    private boolean sameRows() {
        int r = any(0, 5);
        int n = any(0, 8);
        int i = any(0, 7);
        int t = any(0, 3);
        switch (random.nextInt(12)) {
            case 0, 1:
                n = random.nextInt(4) == 0 ? any(0, 40) : n;
                return check("row(" + r + ", " + n + ")", x.row(r, n), m.row(r, n));
            case 2, 3:
                return lay(r, i, random.nextBoolean() ? random.nextInt() : random.nextInt(41));
            case 4:
                return check("at(" + r + ", " + i + ")", x.at(r, i), m.at(r, i));
            case 5:
                return check("tear(" + r + ")", x.tear(r), m.tear(r));
            case 6:
                int to = random.nextBoolean() ? r : any(0, 5);
                int j = any(0, 4);
                return check("copy(" + r + ", " + i + ", " + to + ", " + j + ", " + n + ")",
                        x.copy(r, i, to, j, n), m.copy(r, i, to, j, n));
            case 7:
                return check("mean(" + r + ")", x.mean(r), m.mean(r));
            case 8:
                n = any(0, 60);
                return random.nextInt(3) != 0 || check("text(" + t + ", " + n + ")", x.text(t, n), m.text(t, n));
            case 9:
                int v = random.nextInt(600) - 300;
                return check("put(" + t + ", " + i + ", " + v + ")", x.put(t, i, v), m.put(t, i, v));
            case 10:
                return write(1, random.nextInt(3) == 0 ? soundTown() : spoiltTown())
                        && check("fault(1)", x.fault(1), m.fault(1));
            default:
                if (random.nextInt(4) != 0) {
                    return check("fault(" + t + ")", x.fault(t), m.fault(t));
                }
                return check("town(" + t + ")", x.town(t), m.town(t));
        }
    }
}
