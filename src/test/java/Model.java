import java.math.BigInteger;
import java.util.ArrayList;
import java.util.Arrays;
import java.util.List;

/**
 * The document told a second time, as plainly as it goes: cats are objects of their kind, each deed
 * leaves a whole town behind, and what is best is found by trying everything.
 */
final class Model {
    static final int BAD = -1, FULL = -2, FINDING = -3, STATE = -4, SPENT = -6, NONE = -9;

    static class Cat implements Cloneable {
        int weight;
        int appetite;

        static Cat of(int kind, int weight, int appetite) {
            Cat made = switch (kind) {
                case 1 -> new Mouser();
                case 2 -> new Moulter();
                case 3 -> new Kitten();
                case 4 -> new Heir();
                case 5 -> new Stuffed();
                default -> new Cat();
            };
            made.weight = weight;
            made.appetite = appetite;
            return made;
        }

        int kind() {
            return 0;
        }

        int meal() {
            return appetite;
        }

        int change(int hour, boolean mice) {
            return -1;
        }

        void add(int more) {
            weight = Math.min(200, Math.max(1, weight + more));
        }

        void hour(int hour) {
            add(change(hour, true));
        }

        Cat twin() {
            try {
                return (Cat) clone();
            } catch (CloneNotSupportedException e) {
                throw new IllegalStateException(e);
            }
        }
    }

    static class Mouser extends Cat {
        int kind() {
            return 1;
        }

        int change(int hour, boolean mice) {
            return mice && hour % 2 == 1 ? 2 : super.change(hour, mice);
        }
    }

    static final class Heir extends Mouser {
        int kind() {
            return 4;
        }

        int meal() {
            return 2 * super.meal();
        }
    }

    static final class Moulter extends Cat {
        int kind() {
            return 2;
        }

        int change(int hour, boolean mice) {
            return hour % 4 == 0 ? -2 : super.change(hour, mice);
        }
    }

    static class Kitten extends Cat {
        int kind() {
            return 3;
        }

        int meal() {
            return super.meal() / 2;
        }

        int change(int hour, boolean mice) {
            return 2;
        }
    }

    static final class Stuffed extends Kitten {
        int kind() {
            return 5;
        }

        int meal() {
            return 0;
        }

        int change(int hour, boolean mice) {
            return 0;
        }
    }

    static final class State {
        List<Cat> cats = new ArrayList<>();
        int dog, hour, ruler, pence, goods;

        State twin() {
            State s = new State();
            for (Cat c : cats) {
                s.cats.add(c.twin());
            }
            s.dog = dog;
            s.hour = hour;
            s.ruler = ruler;
            s.pence = pence;
            s.goods = goods;
            return s;
        }

        int pound() {
            return cats.isEmpty() ? 0 : cats.get(ruler).weight;
        }

        void passHour() {
            for (Cat c : cats) {
                c.hour(hour);
            }
            hour++;
        }
    }

    /** The towns from the first one on, one more by each deed. */
    private List<State> story = new ArrayList<>(List.of(new State()));
    private final List<List<State>> kept = new ArrayList<>(Arrays.asList(null, null, null));
    private final int[][] rows = new int[6][];
    private final byte[][] texts = new byte[4][];
    private int asked, finding;
    private long upper, lower = 1;
    private final int[] findings = new int[6];

    private State now() {
        return story.get(story.size() - 1);
    }

    private int deeds() {
        return story.size() - 1;
    }

    private boolean isCat(int i) {
        return i >= 0 && i < now().cats.size();
    }

    private boolean noCats() {
        return now().cats.isEmpty();
    }

    private int found(int f) {
        finding = f;
        findings[f]++;
        return FINDING;
    }

    private static boolean out(int v, int least, int most) {
        return v < least || v > most;
    }

    private State next() {
        State s = now().twin();
        story.add(s);
        return s;
    }

    private static State in(State s, int hours) {
        State t = s.twin();
        for (int h = 0; h < hours; h++) {
            t.passHour();
        }
        return t;
    }

    int row(int r, int n) {
        if (out(r, 0, 5) || n > 40) return BAD;
        if (n < 0) return found(5);
        rows[r] = new int[n];
        return n;
    }

    int lay(int r, int i, int v) {
        if (out(r, 0, 5)) return BAD;
        if (rows[r] == null) return found(1);
        if (out(i, 0, rows[r].length - 1)) return found(2);
        asked = rows[r][i];
        rows[r][i] = v;
        return 1;
    }

    int at(int r, int i) {
        if (out(r, 0, 5)) return BAD;
        if (rows[r] == null) return found(1);
        if (out(i, 0, rows[r].length - 1)) return found(2);
        asked = rows[r][i];
        return 1;
    }

    int tear(int r) {
        if (out(r, 0, 5)) return BAD;
        if (rows[r] == null) return found(1);
        rows[r] = null;
        return 1;
    }

    int copy(int r, int i, int to, int j, int n) {
        if (out(r, 0, 5) || out(to, 0, 5)) return BAD;
        if (n < 0) return found(5);
        if (rows[r] == null || rows[to] == null) return found(1);
        if (i < 0 || j < 0 || (long) i + n > rows[r].length || (long) j + n > rows[to].length) return found(2);
        int[] ahead = rows[r].clone();
        for (int k = 0; k < n; k++) {
            rows[to][j + k] = ahead[i + k];
        }
        return 1;
    }

    int mean(int r) {
        if (out(r, 0, 5)) return BAD;
        if (rows[r] == null) return found(1);
        if (rows[r].length == 0) return found(4);
        BigInteger sum = BigInteger.ZERO;
        for (int v : rows[r]) {
            sum = sum.add(BigInteger.valueOf(v));
        }
        asked = sum.divide(BigInteger.valueOf(rows[r].length)).intValueExact();
        return 1;
    }

    int text(int t, int n) {
        if (out(t, 0, 3) || n > 60) return BAD;
        if (n < 0) return found(5);
        texts[t] = new byte[n];
        Arrays.fill(texts[t], (byte) 32);
        return n;
    }

    int put(int t, int i, int v) {
        if (out(t, 0, 3)) return BAD;
        if (texts[t] == null) return found(1);
        if (out(i, 0, texts[t].length - 1)) return found(2);
        int was = texts[t][i];
        texts[t][i] = (byte) v;
        return was + 1000;
    }

    private static final String WHOLE = " *d(0[1-9]|[1-9][0-9]) *([cmokhs](0[1-9]|[1-9][0-9])[0-9] *){1,6}";

    private static String signs(byte[] text) {
        StringBuilder s = new StringBuilder();
        for (byte b : text) {
            s.append((char) (b & 255));
        }
        return s.toString();
    }

    /** Whether it is a town or could become one by what comes behind it. */
    private static boolean goesOn(String s) {
        java.util.regex.Matcher m = java.util.regex.Pattern.compile(WHOLE).matcher(s);
        return m.matches() || m.hitEnd();
    }

    int fault(int t) {
        if (out(t, 0, 3)) return BAD;
        if (texts[t] == null) return found(1);
        String s = signs(texts[t]);
        if (s.matches(WHOLE)) return NONE;
        for (int p = 0; p < s.length(); p++) {
            if (!goesOn(s.substring(0, p + 1))) return p;
        }
        return s.length();
    }

    int town(int t) {
        if (out(t, 0, 3)) return BAD;
        if (texts[t] == null) return found(1);
        String s = signs(texts[t]);
        if (!s.matches(WHOLE)) return STATE;
        String tight = s.replace(" ", "");
        State first = new State();
        first.dog = Integer.parseInt(tight.substring(1, 3));
        for (int p = 3; p < tight.length(); p += 4) {
            int kind = "cmokhs".indexOf(tight.charAt(p));
            int weight = Integer.parseInt(tight.substring(p + 1, p + 3));
            first.cats.add(Cat.of(kind, weight, tight.charAt(p + 3) - '0'));
        }
        story = new ArrayList<>(List.of(first));
        kept.replaceAll(k -> null);
        return first.cats.size();
    }

    private int trait(int i, int what) {
        Cat c = now().cats.get(i);
        return switch (what) {
            case 0 -> c.kind();
            case 1 -> c.weight;
            case 2 -> c.appetite;
            case 3 -> c.meal();
            default -> in(now(), 1).cats.get(i).weight - c.weight;
        };
    }

    int cat(int i, int what) {
        if (!isCat(i) || out(what, 0, 4)) return BAD;
        asked = trait(i, what);
        return 1;
    }

    private static boolean is(Cat c, int kind) {
        return switch (kind) {
            case 1 -> c instanceof Mouser;
            case 2 -> c instanceof Moulter;
            case 3 -> c instanceof Kitten;
            case 4 -> c instanceof Heir;
            case 5 -> c instanceof Stuffed;
            default -> true;
        };
    }

    private int many(int kind) {
        return (int) now().cats.stream().filter(c -> is(c, kind)).count();
    }

    int mark(int i, int kind) {
        if (!isCat(i) || out(kind, 1, 5)) return BAD;
        Cat c = now().cats.get(i);
        if (!is(c, kind)) return found(3);
        int hours = 0;
        switch (kind) {
            case 1:
                while ((now().hour + hours) % 2 != 1) hours++;
                return hours;
            case 2:
                while ((now().hour + hours) % 4 != 0) hours++;
                return hours;
            case 3:
                return c.appetite - c.meal();
            case 4:
                return c.meal() - Cat.of(1, c.weight, c.appetite).meal();
            default:
                return many(3) - 1;
        }
    }

    int hour() {
        if (noCats()) return STATE;
        if (deeds() >= 40) return FULL;
        next().passHour();
        return now().pound();
    }

    int feed(int i) {
        if (!isCat(i)) return BAD;
        if (deeds() >= 40) return FULL;
        Cat c = next().cats.get(i);
        c.add(c.meal());
        return c.weight;
    }

    int buy(int n) {
        if (out(n, 1, 9)) return BAD;
        if (noCats()) return STATE;
        if (deeds() >= 40) return FULL;
        State s = next();
        s.goods += n * s.pound();
        s.pence -= 10 * n;
        return s.goods;
    }

    int sell(int n) {
        if (out(n, 1, 9)) return BAD;
        if (noCats()) return STATE;
        if (now().goods < n * now().pound()) return SPENT;
        if (deeds() >= 40) return FULL;
        State s = next();
        s.goods -= n * s.pound();
        s.pence += 10 * n;
        return s.goods;
    }

    int rule(int i) {
        if (!isCat(i)) return BAD;
        if (now().ruler == i) return STATE;
        if (deeds() >= 40) return FULL;
        next().ruler = i;
        return now().pound();
    }

    int undo(int n) {
        if (out(n, 0, deeds())) return BAD;
        int undone = deeds() - n;
        story = new ArrayList<>(story.subList(0, n + 1));
        return undone;
    }

    int keep(int k) {
        if (out(k, 0, 2)) return BAD;
        if (noCats()) return STATE;
        kept.set(k, new ArrayList<>(story));
        return deeds();
    }

    int on(int k) {
        if (out(k, 0, 2)) return BAD;
        if (kept.get(k) == null) return found(1);
        story = new ArrayList<>(kept.get(k));
        return deeds();
    }

    int weighs(int i, int n) {
        if (!isCat(i) || out(n, 0, 60)) return BAD;
        return in(now(), n).cats.get(i).weight;
    }

    int when(int i, int v) {
        if (!isCat(i) || out(v, 1, 200)) return BAD;
        for (int t = 0; t <= 60; t++) {
            if (weighs(i, t) == v) return t;
        }
        return NONE;
    }

    int steady(int n) {
        if (out(n, 0, 60)) return BAD;
        if (noCats()) return STATE;
        int best = -1, least = 1000;
        for (int i = 0; i < now().cats.size(); i++) {
            int low = 1000, high = 0;
            for (int t = 0; t <= n; t++) {
                low = Math.min(low, weighs(i, t));
                high = Math.max(high, weighs(i, t));
            }
            if (high - low < least) {
                least = high - low;
                best = i;
            }
        }
        asked = least;
        return best;
    }

    int meals(int i, int v, int n) {
        if (!isCat(i) || out(v, 1, 200) || out(n, 0, 20)) return BAD;
        for (int m = 0; m <= 20; m++) {
            State s = now().twin();
            for (int k = 0; k < m; k++) {
                s.cats.get(i).add(s.cats.get(i).meal());
            }
            if (in(s, n).cats.get(i).weight >= v) return m;
        }
        return NONE;
    }

    int gain(int k, int n) {
        if (out(k, 1, 9) || out(n, 0, 20)) return BAD;
        if (noCats()) return STATE;
        int most = 0;
        asked = NONE;
        for (int a = 0; a <= n; a++) {
            for (int b = a; b <= n; b++) {
                int goods = k * in(now(), a).pound();
                int pound = in(now(), b).pound();
                int pence = -10 * k;
                while (goods >= pound) {
                    goods -= pound;
                    pence += 10;
                }
                if (pence > most) {
                    most = pence;
                    asked = 100 * a + b;
                }
            }
        }
        return most;
    }

    int ring(int n) {
        if (out(n, 0, 60)) return BAD;
        if (noCats()) return STATE;
        int most = -1;
        for (int t = 0; t <= n; t++) {
            int d = Math.abs(in(now(), t).pound() - now().dog);
            if (d > most) {
                most = d;
                asked = t;
            }
        }
        return most;
    }

    private int bestPlan;
    private int[] bestRow;

    private void tryPlans(State s, int[] row, int t, int worth) {
        if (t == row.length) {
            if (worth > bestPlan) {
                bestPlan = worth;
                bestRow = row.clone();
            }
            return;
        }
        for (int i = -1; i < s.cats.size(); i++) {
            State fed = s.twin();
            if (i >= 0) fed.cats.get(i).add(fed.cats.get(i).meal());
            fed.passHour();
            row[t] = i < 0 ? NONE : i;
            tryPlans(fed, row, t + 1, worth + fed.pound() - (i < 0 ? 0 : 3));
        }
    }

    int plan(int n, int r) {
        if (out(n, 0, 3) || out(r, 0, 5)) return BAD;
        if (noCats()) return STATE;
        bestPlan = Integer.MIN_VALUE;
        tryPlans(now(), new int[n], 0, 0);
        rows[r] = bestRow;
        return bestPlan;
    }

    private List<Integer> sets(int v) {
        List<Integer> all = new ArrayList<>();
        for (int set = 0; set < 1 << now().cats.size(); set++) {
            int sum = 0;
            for (int i = 0; i < now().cats.size(); i++) {
                if ((set & 1 << i) != 0) sum += now().cats.get(i).weight;
            }
            if (sum == v) all.add(set);
        }
        return all;
    }

    private void tell(long up, long down) {
        long g = BigInteger.valueOf(up).gcd(BigInteger.valueOf(down)).longValueExact();
        upper = up / g;
        lower = down / g;
    }

    int sacks(int v) {
        if (out(v, 0, 1200)) return BAD;
        if (noCats()) return STATE;
        List<Integer> all = sets(v);
        tell(all.size(), 1);
        asked = all.isEmpty() ? NONE : all.get(0);
        return 1;
    }

    int sure(int v) {
        if (out(v, 0, 1200)) return BAD;
        if (noCats()) return STATE;
        List<Integer> all = sets(v);
        if (all.isEmpty()) return found(4);
        int each = -1, some = 0;
        for (int set : all) {
            each &= set;
            some |= set;
        }
        asked = (1 << now().cats.size()) - 1 & ~some;
        return each;
    }

    int ask(int v) {
        if (out(v, 0, 1200)) return BAD;
        if (noCats()) return STATE;
        List<Integer> all = sets(v);
        if (all.isEmpty()) return found(4);
        int best = -1, least = 1000;
        for (int i = 0; i < now().cats.size(); i++) {
            int bit = 1 << i;
            int with = (int) all.stream().filter(s -> (s & bit) != 0).count();
            int without = (int) all.stream().filter(s -> (s & bit) == 0).count();
            if (Math.max(with, without) < least) {
                least = Math.max(with, without);
                best = i;
            }
        }
        asked = least;
        return best;
    }

    private int ledger(int r) {
        if (rows[r] == null) return 1;
        if (rows[r].length > 16 || rows[r].length % 2 == 1) return 5;
        for (int p = 0; p < rows[r].length; p += 2) {
            if (out(rows[r][p], 0, 40) || out(rows[r][p + 1], 1, 200)) return 3;
        }
        return 0;
    }

    private int weighsAs(int kind, int weight, int hours) {
        Cat c = Cat.of(kind, weight, 0);
        for (int t = 0; t < hours; t++) {
            c.hour(now().hour + t);
        }
        return c.weight;
    }

    private boolean fits(int kind, int weight, int r) {
        for (int p = 0; p < rows[r].length; p += 2) {
            if (weighsAs(kind, weight, rows[r][p]) != rows[r][p + 1]) return false;
        }
        return true;
    }

    private int fitting(int i, int r) {
        int set = 0;
        for (int kind = 0; kind < 6; kind++) {
            if (fits(kind, now().cats.get(i).weight, r)) set += 1 << kind;
        }
        return set;
    }

    int kinds(int i, int r) {
        if (!isCat(i) || out(r, 0, 5)) return BAD;
        int f = ledger(r);
        return f != 0 ? found(f) : fitting(i, r);
    }

    int weights(int i, int r) {
        if (!isCat(i) || out(r, 0, 5)) return BAD;
        int f = ledger(r);
        if (f != 0) return found(f);
        int many = 0;
        asked = NONE;
        for (int w = 1; w <= 200; w++) {
            if (fits(now().cats.get(i).kind(), w, r)) {
                many++;
                if (asked == NONE) asked = w;
            }
        }
        return many;
    }

    int test(int i, int r) {
        if (!isCat(i) || out(r, 0, 5)) return BAD;
        int f = ledger(r);
        if (f != 0) return found(f);
        int set = fitting(i, r);
        if (set == 0) return NONE;
        int best = -1, least = 1000;
        for (int t = 0; t <= 40; t++) {
            int[] alike = new int[201];
            int part = 0;
            for (int kind = 0; kind < 6; kind++) {
                if ((set & 1 << kind) != 0) {
                    part = Math.max(part, ++alike[weighsAs(kind, now().cats.get(i).weight, t)]);
                }
            }
            if (part < least) {
                least = part;
                best = t;
            }
        }
        asked = least;
        return best;
    }

    /** Every move of both is tried. */
    private static int turns(State s, int left, boolean feeds) {
        if (left == 0) return in(s, 1).pound();
        int best = feeds ? Integer.MIN_VALUE : Integer.MAX_VALUE;
        for (int i = -1; i < s.cats.size(); i++) {
            State t = s.twin();
            if (i >= 0) t.cats.get(i).add(feeds ? t.cats.get(i).meal() : -5);
            int then = turns(t, left - 1, !feeds);
            best = feeds ? Math.max(best, then) : Math.min(best, then);
        }
        return best;
    }

    int fright(int n) {
        if (out(n, 0, 2)) return BAD;
        if (noCats()) return STATE;
        return turns(now(), 2 * n, true);
    }

    /** Of 12 to the power of left parts: those at least v, or (v below 0) the weights together. */
    private static long parts(Cat c, int hour, int left, int p, int v) {
        if (left == 0) return v < 0 ? c.weight : c.weight >= v ? 1 : 0;
        Cat with = c.twin();
        with.add(with.change(hour, true));
        Cat without = c.twin();
        without.add(without.change(hour, false));
        return p * parts(without, hour + 1, left - 1, p, v) + (12 - p) * parts(with, hour + 1, left - 1, p, v);
    }

    int odds(int i, int v, int n, int p) {
        if (!isCat(i) || out(v, 0, 200) || out(n, 0, 6) || out(p, 0, 12)) return BAD;
        tell(parts(now().cats.get(i), now().hour, n, p, v), (long) Math.pow(12, n));
        return 1;
    }

    int mid(int i, int n, int p) {
        if (!isCat(i) || out(n, 0, 6) || out(p, 0, 12)) return BAD;
        tell(parts(now().cats.get(i), now().hour, n, p, -1), (long) Math.pow(12, n));
        return 1;
    }

    int lots(int n, int seed) {
        if (out(n, 1, 20) || out(seed, 1, 2147483646)) return BAD;
        if (noCats()) return STATE;
        if (deeds() + n > 40) return FULL;
        BigInteger lot = BigInteger.valueOf(seed);
        for (int k = 0; k < n; k++) {
            lot = lot.multiply(BigInteger.valueOf(48271)).mod(BigInteger.valueOf(2147483647));
            int x = lot.intValueExact();
            switch (x / 8 % 4) {
                case 0 -> feed(x % now().cats.size());
                case 1 -> buy(1);
                case 2 -> {
                    if (sell(1) == SPENT) hour();
                }
                default -> hour();
            }
        }
        return now().pound();
    }

    int asked() {
        return asked;
    }

    long upper() {
        return upper;
    }

    long lower() {
        return lower;
    }

    int pence() {
        return now().pence;
    }

    int count(int what) {
        return switch (what) {
            case 0 -> now().cats.size();
            case 1 -> now().hour;
            case 2 -> deeds();
            case 3 -> now().goods;
            case 4 -> now().pound();
            case 5 -> now().ruler;
            case 6 -> now().dog;
            case 7 -> many(1);
            case 8 -> many(3);
            case 9 -> (int) Arrays.stream(rows).filter(r -> r != null).count();
            case 10 -> (int) Arrays.stream(texts).filter(t -> t != null).count();
            case 11 -> (int) kept.stream().filter(k -> k != null).count();
            default -> BAD;
        };
    }

    int finding() {
        return finding;
    }

    int findings(int f) {
        return out(f, 1, 5) ? BAD : findings[f];
    }

    long digest() {
        List<Integer> values = new ArrayList<>();
        for (int what = 0; what <= 11; what++) values.add(count(what));
        values.add(pence());
        for (int i = 0; i < now().cats.size(); i++) {
            for (int what = 0; what <= 4; what++) values.add(trait(i, what));
        }
        for (List<State> k : kept) values.add(k == null ? -1 : k.size() - 1);
        for (int[] row : rows) {
            values.add(row == null ? -1 : row.length);
            if (row != null) for (int v : row) values.add(v);
        }
        for (byte[] text : texts) {
            values.add(text == null ? -1 : text.length);
            if (text != null) for (byte v : text) values.add((int) v);
        }
        long h = 17;
        for (int v : values) h = 31 * h + v;
        return h;
    }
}
