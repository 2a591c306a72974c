/** A town whose pound is a cat: see the document for each call's promise. */
public final class PoundCat {
    public static final int BAD = -1, FULL = -2, FINDING = -3, STATE = -4, SPENT = -6, NONE = -9;

    private static final int ALLOWED = 0;
    private static final int NOTHING = 1, BEYOND = 2, UNLIKE = 3, NOUGHT = 4, SIZE = 5;
    private static final int ROW_COUNT = 6, ROW_PLACES = 40, TEXT_COUNT = 4, TEXT_PLACES = 60;
    private static final int MOST_CATS = 6, MOST_DEEDS = 40, KEPT_COUNT = 3;
    private static final int CAT = 0, MOUSER = 1, MOULTER = 2, KITTEN = 3, HEIR = 4, STUFFED = 5;
    private static final int KIND_COUNT = 6, NO_KIND = -1, LAST_TRAIT = 4, LAST_COUNT = 11;
    private static final int LEAST_WEIGHT = 1, MOST_WEIGHT = 200, MOST_SACK = 1200;
    private static final int MOST_AHEAD = 60, LEDGER_HOURS = 40, LEDGER_PLACES = 16;
    private static final int MOST_MEALS = 20, PENCE_A_POUND = 10, MOST_POUNDS = 9;
    private static final int MEAL_COST = 3, FRIGHT = 5, CHANCE_PARTS = 12;
    private static final int DEED_HOUR = 0, DEED_MEAL = 10, DEED_BUY = 20, DEED_SELL = 30, DEED_RULE = 40;
    private static final int MOST_SEED = 2147483646;
    private static final long LOT_FACTOR = 48271L, LOT_MODULUS = 2147483647L;

    private final Shelf rowShelf;
    private final Shelf textShelf;
    private final Reader reader;
    private final Town now;
    private final Outlook outlook;
    private final Told told;

    public PoundCat() {
        rowShelf = new Shelf(ROW_COUNT, ROW_PLACES);
        textShelf = new Shelf(TEXT_COUNT, TEXT_PLACES);
        reader = new Reader();
        now = new Town();
        outlook = new Outlook();
        told = new Told();
    }

    // ---- 1 rows, texts, towns

    public int row(int r, int n) {
        return makeAnew(rowShelf, r, n, 0);
    }

    public int lay(int r, int i, int v) {
        int refusal = refusePlace(rowShelf, r, i);
        if (refusal != ALLOWED) {
            return refusal;
        }
        told.asked = rowShelf.get(r, i);
        rowShelf.set(r, i, v);
        return 1;
    }

    public int at(int r, int i) {
        int refusal = refusePlace(rowShelf, r, i);
        if (refusal != ALLOWED) {
            return refusal;
        }
        told.asked = rowShelf.get(r, i);
        return 1;
    }

    public int tear(int r) {
        int refusal = refuseMissing(rowShelf, r);
        if (refusal != ALLOWED) {
            return refusal;
        }
        rowShelf.remove(r);
        return 1;
    }

    public int copy(int r, int i, int to, int j, int n) {
        if (!rowShelf.hasNumber(r) || !rowShelf.hasNumber(to)) {
            return BAD;
        }
        if (n < 0) {
            return told.answerFinding(SIZE);
        }
        if (!rowShelf.isThere(r) || !rowShelf.isThere(to)) {
            return told.answerFinding(NOTHING);
        }
        if (!rowShelf.hasRun(r, i, n) || !rowShelf.hasRun(to, j, n)) {
            return told.answerFinding(BEYOND);
        }
        rowShelf.move(r, i, to, j, n);
        return 1;
    }

    public int mean(int r) {
        int refusal = refuseMissing(rowShelf, r);
        if (refusal != ALLOWED) {
            return refusal;
        }
        int size = rowShelf.sizeOf(r);
        if (size < 1) {
            return told.answerFinding(NOUGHT);
        }
        told.asked = (int) (rowShelf.sumOf(r) / size);
        return 1;
    }

    public int text(int t, int n) {
        return makeAnew(textShelf, t, n, ' ');
    }

    public int put(int t, int i, int v) {
        int refusal = refusePlace(textShelf, t, i);
        if (refusal != ALLOWED) {
            return refusal;
        }
        int was = textShelf.get(t, i);
        textShelf.set(t, i, (byte) v);
        return 1000 + was;
    }

    public int fault(int t) {
        int refusal = refuseMissing(textShelf, t);
        if (refusal != ALLOWED) {
            return refusal;
        }
        return reader.faultOf(textShelf, t);
    }

    public int town(int t) {
        int refusal = refuseMissing(textShelf, t);
        if (refusal != ALLOWED) {
            return refusal;
        }
        if (reader.faultOf(textShelf, t) != NONE) {
            return STATE;
        }
        now.begin(reader);
        return now.cats;
    }

    public int cat(int i, int what) {
        if (!now.isCat(i) || !isWithin(what, 0, LAST_TRAIT)) {
            return BAD;
        }
        told.asked = now.trait(i, what);
        return 1;
    }

    public int mark(int i, int kind) {
        if (!now.isCat(i) || !isWithin(kind, MOUSER, STUFFED)) {
            return BAD;
        }
        if (!Kind.isOf(now.kindOf[i], kind)) {
            return told.answerFinding(UNLIKE);
        }
        switch (kind) {
            case MOUSER:
                return Kind.hasMice(now.hour) ? 0 : 1;
            case MOULTER:
                return Kind.hoursToMoult(now.hour);
            case KITTEN:
                return now.appetite[i] - now.mealAdds(i);
            case HEIR:
                return now.mealAdds(i) - Kind.mealAdds(MOUSER, now.appetite[i]);
            default:
                return now.countOf(KITTEN) - 1;
        }
    }

    // ---- 2 deeds

    public int hour() {
        if (now.cats == 0) {
            return STATE;
        }
        if (!now.hasRoomFor(1)) {
            return FULL;
        }
        now.doDeed(DEED_HOUR);
        return now.pound();
    }

    public int feed(int i) {
        if (!now.isCat(i)) {
            return BAD;
        }
        if (!now.hasRoomFor(1)) {
            return FULL;
        }
        now.doDeed(DEED_MEAL + i);
        return now.weight[i];
    }

    public int buy(int n) {
        if (!isWithin(n, 1, MOST_POUNDS)) {
            return BAD;
        }
        if (now.cats == 0) {
            return STATE;
        }
        if (!now.hasRoomFor(1)) {
            return FULL;
        }
        now.doDeed(DEED_BUY + n);
        return now.goods;
    }

    public int sell(int n) {
        if (!isWithin(n, 1, MOST_POUNDS)) {
            return BAD;
        }
        if (now.cats == 0) {
            return STATE;
        }
        if (!now.hasGoodsFor(n)) {
            return SPENT;
        }
        if (!now.hasRoomFor(1)) {
            return FULL;
        }
        now.doDeed(DEED_SELL + n);
        return now.goods;
    }

    public int rule(int i) {
        if (!now.isCat(i)) {
            return BAD;
        }
        if (now.ruler == i) {
            return STATE;
        }
        if (!now.hasRoomFor(1)) {
            return FULL;
        }
        now.doDeed(DEED_RULE + i);
        return now.pound();
    }

    public int undo(int n) {
        // From behind the last DEED on there is none to undo: that is no refusal, but 0.
        if (!isWithin(n, 0, now.deedCount)) {
            return BAD;
        }
        int undone = now.deedCount - n;
        now.replay(n);
        return undone;
    }

    public int keep(int k) {
        if (!now.hasKeptNumber(k)) {
            return BAD;
        }
        if (now.cats == 0) {
            return STATE;
        }
        now.store(k);
        return now.deedCount;
    }

    public int on(int k) {
        if (!now.hasKeptNumber(k)) {
            return BAD;
        }
        if (now.keptCount[k] < 0) {
            return told.answerFinding(NOTHING);
        }
        now.restore(k);
        return now.deedCount;
    }

    // ---- 3 what each weighs (aside; HOURS alone pass)

    public int weighs(int i, int n) {
        if (!now.isCat(i) || !isWithin(n, 0, MOST_AHEAD)) {
            return BAD;
        }
        lookAhead(i, n);
        return outlook.weightIn(n);
    }

    public int when(int i, int v) {
        if (!now.isCat(i) || !isWithin(v, LEAST_WEIGHT, MOST_WEIGHT)) {
            return BAD;
        }
        lookAhead(i, MOST_AHEAD);
        return outlook.firstWith(v);
    }

    public int steady(int n) {
        if (!isWithin(n, 0, MOST_AHEAD)) {
            return BAD;
        }
        if (now.cats == 0) {
            return STATE;
        }
        int best = 0;
        int least = MOST_WEIGHT;
        for (int i = 0; i < now.cats; i++) {
            lookAhead(i, n);
            int spread = outlook.spread();
            if (spread < least) {
                best = i;
                least = spread;
            }
        }
        told.asked = least;
        return best;
    }

    public int meals(int i, int v, int n) {
        if (!now.isCat(i) || !isWithin(v, LEAST_WEIGHT, MOST_WEIGHT) || !isWithin(n, 0, 20)) {
            return BAD;
        }
        int weight = now.weight[i];
        for (int given = 0; given <= MOST_MEALS; given++) {
            outlook.fill(now.kindOf[i], weight, now.hour, n);
            if (outlook.weightIn(n) >= v) {
                return given;
            }
            weight = Kind.held(weight + now.mealAdds(i));
        }
        return NONE;
    }

    // ---- 4 when to buy (HOURS alone pass)

    public int gain(int k, int n) {
        if (!isWithin(k, 1, MOST_POUNDS) || !isWithin(n, 0, 20)) {
            return BAD;
        }
        if (now.cats == 0) {
            return STATE;
        }
        lookAtPound(n);
        int most = 0;
        int best = NONE;
        for (int a = 0; a <= n; a++) {
            for (int b = a; b <= n; b++) {
                int gained = PENCE_A_POUND * (outlook.poundsThen(k, a, b) - k);
                if (gained > most) {
                    most = gained;
                    best = 100 * a + b;
                }
            }
        }
        told.asked = best;
        return most;
    }

    public int ring(int n) {
        if (!isWithin(n, 0, MOST_AHEAD)) {
            return BAD;
        }
        if (now.cats == 0) {
            return STATE;
        }
        lookAtPound(n);
        int most = -1;
        int first = 0;
        for (int t = 0; t <= n; t++) {
            int difference = Math.abs(outlook.weightIn(t) - now.dog);
            if (difference > most) {
                most = difference;
                first = t;
            }
        }
        told.asked = first;
        return most;
    }

    public int plan(int n, int r) {
        if (!isWithin(n, 0, 3) || !rowShelf.hasNumber(r)) {
            return BAD;
        }
        if (now.cats == 0) {
            return STATE;
        }
        int best = 0;
        int most = planWorth(0, n);
        for (int fed = 1; fed < 1 << n; fed++) {
            int worth = planWorth(fed, n);
            if (worth > most) {
                most = worth;
                best = fed;
            }
        }
        rowShelf.make(r, n, NONE);
        for (int t = 0; t < n; t++) {
            if (isFedAhead(best, n, t)) {
                rowShelf.set(r, t, now.ruler);
            }
        }
        return most;
    }

    // ---- 5 sacks of cats

    public int sacks(int v) {
        if (!isWithin(v, 0, MOST_SACK)) {
            return BAD;
        }
        if (now.cats == 0) {
            return STATE;
        }
        int first = NONE;
        for (int set = setCount() - 1; set >= 0; set--) {
            if (now.weightOfSet(set) == v) {
                first = set;
            }
        }
        told.asked = first;
        told.tell(setsOf(v), 1);
        return 1;
    }

    public int sure(int v) {
        if (!isWithin(v, 0, MOST_SACK)) {
            return BAD;
        }
        if (now.cats == 0) {
            return STATE;
        }
        int all = setsOf(v);
        if (all == 0) {
            return told.answerFinding(NOUGHT);
        }
        int always = 0;
        int never = 0;
        for (int i = 0; i < now.cats; i++) {
            int with = setsWith(v, i);
            if (with == all) {
                always |= 1 << i;
            }
            if (with == 0) {
                never |= 1 << i;
            }
        }
        told.asked = never;
        return always;
    }

    public int ask(int v) {
        if (!isWithin(v, 0, MOST_SACK)) {
            return BAD;
        }
        if (now.cats == 0) {
            return STATE;
        }
        int all = setsOf(v);
        if (all == 0) {
            return told.answerFinding(NOUGHT);
        }
        int best = 0;
        int least = all + 1;
        for (int i = 0; i < now.cats; i++) {
            int with = setsWith(v, i);
            int left = Math.max(with, all - with);
            if (left < least) {
                best = i;
                least = left;
            }
        }
        told.asked = least;
        return best;
    }

    // ---- 6 by ledgers

    public int kinds(int i, int r) {
        int refusal = refuseLedger(i, r);
        if (refusal != ALLOWED) {
            return refusal;
        }
        return kindsFitting(i, r);
    }

    public int weights(int i, int r) {
        int refusal = refuseLedger(i, r);
        if (refusal != ALLOWED) {
            return refusal;
        }
        int many = 0;
        int least = NONE;
        for (int weight = MOST_WEIGHT; weight >= LEAST_WEIGHT; weight--) {
            if (fitsLedger(now.kindOf[i], weight, r)) {
                many++;
                least = weight;
            }
        }
        told.asked = least;
        return many;
    }

    public int test(int i, int r) {
        int refusal = refuseLedger(i, r);
        if (refusal != ALLOWED) {
            return refusal;
        }
        int set = kindsFitting(i, r);
        if (set == 0) {
            return NONE;
        }
        outlook.startKinds(now.weight[i]);
        int best = 0;
        int least = KIND_COUNT + 1;
        for (int t = 0; t <= LEDGER_HOURS; t++) {
            int part = outlook.greatestPart(set);
            if (part < least) {
                best = t;
                least = part;
            }
            outlook.passKinds(now.hour + t);
        }
        told.asked = least;
        return best;
    }

    // ---- 7 by turns

    public int fright(int n) {
        if (!isWithin(n, 0, 2)) {
            return BAD;
        }
        if (now.cats == 0) {
            return STATE;
        }
        // A heavier one never ends lighter, so to feed and to frighten the one that rules is always best.
        int weight = now.pound();
        for (int turn = 0; turn < n; turn++) {
            weight = Kind.held(weight + now.rulerMeal());
            weight = Kind.held(weight - FRIGHT);
        }
        return Kind.afterHour(now.rulerKind(), weight, now.hour);
    }

    // ---- 8 chances, lots

    public int odds(int i, int v, int n, int p) {
        if (!now.isCat(i) || !isWithin(v, 0, MOST_WEIGHT) || !isWithin(n, 0, 6)
                || !isWithin(p, 0, CHANCE_PARTS)) {
            return BAD;
        }
        long heavy = 0;
        for (int dry = 0; dry < 1 << n; dry++) {
            if (weightByMice(i, n, dry) >= v) {
                heavy += shareOf(dry, n, p);
            }
        }
        told.tell(heavy, wholeOf(n));
        return 1;
    }

    public int mid(int i, int n, int p) {
        if (!now.isCat(i) || !isWithin(n, 0, 6) || !isWithin(p, 0, CHANCE_PARTS)) {
            return BAD;
        }
        long together = 0;
        for (int dry = 0; dry < 1 << n; dry++) {
            together += weightByMice(i, n, dry) * shareOf(dry, n, p);
        }
        told.tell(together, wholeOf(n));
        return 1;
    }

    public int lots(int n, int seed) {
        if (!isWithin(n, 1, 20) || !isWithin(seed, 1, MOST_SEED)) {
            return BAD;
        }
        if (now.cats == 0) {
            return STATE;
        }
        if (!now.hasRoomFor(n)) {
            return FULL;
        }
        long lot = seed;
        for (int drawn = 0; drawn < n; drawn++) {
            lot = LOT_FACTOR * lot % LOT_MODULUS;
            now.doDeed(deedByLot(lot));
        }
        return now.pound();
    }

    // ---- 9 what is told

    public int asked() {
        return told.asked;
    }

    public long upper() {
        return told.above;
    }

    public long lower() {
        return told.below;
    }

    public int pence() {
        return now.pence;
    }

    public int count(int what) {
        switch (what) {
            case 0:
                return now.cats;
            case 1:
                return now.hour;
            case 2:
                return now.deedCount;
            case 3:
                return now.goods;
            case 4:
                return now.pound();
            case 5:
                return now.ruler;
            case 6:
                return now.dog;
            case 7:
                return now.countOf(MOUSER);
            case 8:
                return now.countOf(KITTEN);
            case 9:
                return rowShelf.thereCount();
            case 10:
                return textShelf.thereCount();
            case 11:
                return now.keptTowns();
            default:
                return BAD;
        }
    }

    public int finding() {
        return told.latest;
    }

    public int findings(int f) {
        if (!isWithin(f, NOTHING, SIZE)) {
            return BAD;
        }
        return told.often[f];
    }

    public long digest() {
        long h = 17;
        for (int what = 0; what <= LAST_COUNT; what++) {
            h = 31 * h + count(what);
        }
        h = 31 * h + now.pence;
        for (int i = 0; i < now.cats; i++) {
            for (int what = 0; what <= LAST_TRAIT; what++) {
                h = 31 * h + now.trait(i, what);
            }
        }
        for (int k = 0; k < KEPT_COUNT; k++) {
            h = 31 * h + now.keptCount[k];
        }
        h = rowShelf.mixInto(h);
        return textShelf.mixInto(h);
    }

    // ---- what the calls share

    private static boolean isWithin(int v, int least, int most) {
        return v >= least && v <= most;
    }

    private int makeAnew(Shelf shelf, int r, int n, int v) {
        if (!shelf.hasNumber(r) || n > shelf.most) {
            return BAD;
        }
        if (n < 0) {
            return told.answerFinding(SIZE);
        }
        shelf.make(r, n, v);
        return n;
    }

    private int refuseMissing(Shelf shelf, int r) {
        if (!shelf.hasNumber(r)) {
            return BAD;
        }
        return shelf.isThere(r) ? ALLOWED : told.answerFinding(NOTHING);
    }

    private int refusePlace(Shelf shelf, int r, int i) {
        int refusal = refuseMissing(shelf, r);
        if (refusal != ALLOWED) {
            return refusal;
        }
        return shelf.hasRun(r, i, 1) ? ALLOWED : told.answerFinding(BEYOND);
    }

    private int refuseLedger(int i, int r) {
        if (!now.isCat(i)) {
            return BAD;
        }
        int refusal = refuseMissing(rowShelf, r);
        if (refusal != ALLOWED) {
            return refusal;
        }
        int size = rowShelf.sizeOf(r);
        if (size % 2 != 0 || size > LEDGER_PLACES) {
            return told.answerFinding(SIZE);
        }
        return holdsPairs(r) ? ALLOWED : told.answerFinding(UNLIKE);
    }

    private void lookAhead(int i, int n) {
        outlook.fill(now.kindOf[i], now.weight[i], now.hour, n);
    }

    private void lookAtPound(int n) {
        outlook.fill(now.rulerKind(), now.pound(), now.hour, n);
    }

    /**
     * What a plan is worth, by bits. Only meals to the one that rules are tried: a meal
     * to another one costs as much and adds nothing, so that it is never the most.
     */
    private int planWorth(int fed, int n) {
        int worth = 0;
        int weight = now.pound();
        for (int t = 0; t < n; t++) {
            if (isFedAhead(fed, n, t)) {
                weight = Kind.held(weight + now.rulerMeal());
                worth -= MEAL_COST;
            }
            weight = Kind.afterHour(now.rulerKind(), weight, now.hour + t);
            worth += weight;
        }
        return worth;
    }

    /** The first hour is the highest bit, so that plans counted upwards are in the order of rows. */
    private static boolean isFedAhead(int fed, int n, int t) {
        return (fed >> (n - 1 - t) & 1) != 0;
    }

    private int setCount() {
        return 1 << now.cats;
    }

    private int setsOf(int v) {
        int many = 0;
        for (int set = 0; set < setCount(); set++) {
            if (now.weightOfSet(set) == v) {
                many++;
            }
        }
        return many;
    }

    private int setsWith(int v, int i) {
        int many = 0;
        for (int set = 0; set < setCount(); set++) {
            if ((set >> i & 1) != 0 && now.weightOfSet(set) == v) {
                many++;
            }
        }
        return many;
    }

    private boolean holdsPairs(int r) {
        int size = rowShelf.sizeOf(r);
        for (int i = 0; i + 1 < size; i += 2) {
            if (!isWithin(rowShelf.get(r, i), 0, LEDGER_HOURS)
                    || !isWithin(rowShelf.get(r, i + 1), LEAST_WEIGHT, MOST_WEIGHT)) {
                return false;
            }
        }
        return true;
    }

    private boolean fitsLedger(int kind, int weight, int r) {
        outlook.fill(kind, weight, now.hour, LEDGER_HOURS);
        int size = rowShelf.sizeOf(r);
        for (int i = 0; i + 1 < size; i += 2) {
            if (outlook.weightIn(rowShelf.get(r, i)) != rowShelf.get(r, i + 1)) {
                return false;
            }
        }
        return true;
    }

    private int kindsFitting(int i, int r) {
        int set = 0;
        for (int kind = 0; kind < KIND_COUNT; kind++) {
            if (fitsLedger(kind, now.weight[i], r)) {
                set |= 1 << kind;
            }
        }
        return set;
    }

    /** What a cat weighs in n hours, in those of which the bit of dry is set there being no mice. */
    private int weightByMice(int i, int n, int dry) {
        int weight = now.weight[i];
        for (int t = 0; t < n; t++) {
            int kind = now.kindOf[i];
            boolean without = (dry >> t & 1) != 0;
            if (without && Kind.isOf(kind, MOUSER)) {
                kind = CAT;
            }
            weight = Kind.afterHour(kind, weight, now.hour + t);
        }
        return weight;
    }

    /** Of wholeOf(n) parts, how many fall to just these hours being without mice. */
    private long shareOf(int dry, int n, int p) {
        long share = 1;
        for (int t = 0; t < n; t++) {
            int without = Kind.hasMice(now.hour + t) ? p : 0;
            share *= (dry >> t & 1) != 0 ? without : CHANCE_PARTS - without;
        }
        return share;
    }

    private static long wholeOf(int n) {
        long whole = 1;
        for (int t = 0; t < n; t++) {
            whole *= CHANCE_PARTS;
        }
        return whole;
    }

    private int deedByLot(long lot) {
        int which = (int) (lot / 8 % 4);
        if (which == 0 && now.cats > 0) {
            return DEED_MEAL + (int) (lot % now.cats);
        }
        if (which == 1) {
            return DEED_BUY + 1;
        }
        if (which == 2 && now.hasGoodsFor(1)) {
            return DEED_SELL + 1;
        }
        return DEED_HOUR;
    }

    /** What the kinds of cats have by their kind alone. */
    private static final class Kind {
        static int byLetter(int letter) {
            switch (letter) {
                case 'c':
                    return CAT;
                case 'm':
                    return MOUSER;
                case 'o':
                    return MOULTER;
                case 'k':
                    return KITTEN;
                case 'h':
                    return HEIR;
                case 's':
                    return STUFFED;
                default:
                    return NO_KIND;
            }
        }

        static boolean isOf(int kind, int other) {
            return kind == other || other == CAT
                    || kind == HEIR && other == MOUSER
                    || kind == STUFFED && other == KITTEN;
        }

        static int mealAdds(int kind, int appetite) {
            switch (kind) {
                case KITTEN:
                    return appetite / 2;
                case HEIR:
                    return 2 * appetite;
                case STUFFED:
                    return 0;
                default:
                    return appetite;
            }
        }

        static boolean hasMice(int hour) {
            return hour % 2 != 0;
        }

        static int hoursToMoult(int hour) {
            return (4 - hour % 4) % 4;
        }

        static int hourAdds(int kind, int hour) {
            switch (kind) {
                case MOUSER:
                case HEIR:
                    return hasMice(hour) ? 2 : -1;
                case MOULTER:
                    return hoursToMoult(hour) == 0 ? -2 : -1;
                case KITTEN:
                    return 2;
                case STUFFED:
                    return 0;
                default:
                    return -1;
            }
        }

        static int held(int weight) {
            return Math.max(LEAST_WEIGHT, Math.min(MOST_WEIGHT, weight));
        }

        static int afterHour(int kind, int weight, int hour) {
            return held(weight + hourAdds(kind, hour));
        }
    }

    /** Rows of numbers, each there or missing. */
    private static final class Shelf {
        private final int most;
        private final int[] sizes;
        private final int[][] places;

        Shelf(int number, int most) {
            this.most = most;
            sizes = new int[number];
            places = new int[number][most];
            for (int r = 0; r < number; r++) {
                sizes[r] = -1;
            }
        }

        boolean hasNumber(int r) {
            return r >= 0 && r < sizes.length;
        }

        boolean isThere(int r) {
            return sizes[r] >= 0;
        }

        boolean hasRun(int r, int i, int n) {
            return i >= 0 && n <= sizes[r] && i <= sizes[r] - n;
        }

        int sizeOf(int r) {
            return sizes[r];
        }

        int get(int r, int i) {
            return places[r][i];
        }

        void set(int r, int i, int v) {
            places[r][i] = v;
        }

        void make(int r, int n, int v) {
            sizes[r] = n;
            for (int i = 0; i < n; i++) {
                places[r][i] = v;
            }
        }

        void remove(int r) {
            sizes[r] = -1;
        }

        void move(int r, int i, int to, int j, int n) {
            System.arraycopy(places[r], i, places[to], j, n);
        }

        long sumOf(int r) {
            long sum = 0;
            for (int i = 0; i < sizes[r]; i++) {
                sum += places[r][i];
            }
            return sum;
        }

        int thereCount() {
            int many = 0;
            for (int r = 0; r < sizes.length; r++) {
                if (isThere(r)) {
                    many++;
                }
            }
            return many;
        }

        long mixInto(long h) {
            for (int r = 0; r < sizes.length; r++) {
                h = 31 * h + sizes[r];
                for (int i = 0; i < sizes[r]; i++) {
                    h = 31 * h + places[r][i];
                }
            }
            return h;
        }
    }

    /** Reads a town from a text; what a step can't take it leaves, so that the place is the fault's. */
    private static final class Reader {
        private final int[] kindOf = new int[MOST_CATS];
        private final int[] weight = new int[MOST_CATS];
        private final int[] appetite = new int[MOST_CATS];
        private int dog;
        private int cats;
        private int place;

        int faultOf(Shelf texts, int t) {
            int size = texts.sizeOf(t);
            place = 0;
            cats = 0;
            skipBlanks(texts, t);
            if (!takeDog(texts, t)) {
                return place;
            }
            skipBlanks(texts, t);
            for (int item = 0; item <= MOST_CATS && place < size; item++) {
                if (!takeCat(texts, t)) {
                    return place;
                }
                skipBlanks(texts, t);
            }
            return cats == 0 ? place : NONE;
        }

        private int signAt(Shelf texts, int t) {
            return place < texts.sizeOf(t) ? texts.get(t, place) : 0;
        }

        private void skipBlanks(Shelf texts, int t) {
            for (int skipped = 0; skipped < TEXT_PLACES && signAt(texts, t) == ' '; skipped++) {
                place++;
            }
        }

        private boolean takeDog(Shelf texts, int t) {
            if (signAt(texts, t) != 'd') {
                return false;
            }
            place++;
            dog = takeWeight(texts, t);
            return dog > 0;
        }

        private boolean takeCat(Shelf texts, int t) {
            int kind = Kind.byLetter(signAt(texts, t));
            if (cats >= MOST_CATS || kind == NO_KIND) {
                return false;
            }
            place++;
            int weighs = takeWeight(texts, t);
            if (weighs == 0) {
                return false;
            }
            int eats = figureAt(texts, t);
            if (eats < 0) {
                return false;
            }
            place++;
            kindOf[cats] = kind;
            weight[cats] = weighs;
            appetite[cats] = eats;
            cats++;
            return true;
        }

        /** 1 to 99; 0 if there are no two such figures. */
        private int takeWeight(Shelf texts, int t) {
            int tens = figureAt(texts, t);
            if (tens < 0) {
                return 0;
            }
            place++;
            int ones = figureAt(texts, t);
            if (ones < 0 || tens + ones == 0) {
                return 0;
            }
            place++;
            return 10 * tens + ones;
        }

        private int figureAt(Shelf texts, int t) {
            int sign = signAt(texts, t);
            return sign >= '0' && sign <= '9' ? sign - '0' : -1;
        }
    }

    /** The town: how it began, its deeds, what has come of them, and the deeds of the kept ones. */
    private static final class Town {
        private final int[] kindOf = new int[MOST_CATS];
        private final int[] appetite = new int[MOST_CATS];
        private final int[] firstWeight = new int[MOST_CATS];
        private final int[] weight = new int[MOST_CATS];
        private final int[] deeds = new int[MOST_DEEDS];
        private final int[] keptCount = new int[KEPT_COUNT];
        private final int[][] keptDeeds = new int[KEPT_COUNT][MOST_DEEDS];
        private int cats;
        private int dog;
        private int hour;
        private int ruler;
        private int pence;
        private int goods;
        private int deedCount;

        Town() {
            for (int k = 0; k < KEPT_COUNT; k++) {
                keptCount[k] = -1;
            }
        }

        void begin(Reader read) {
            cats = read.cats;
            dog = read.dog;
            for (int i = 0; i < cats; i++) {
                kindOf[i] = read.kindOf[i];
                appetite[i] = read.appetite[i];
                firstWeight[i] = read.weight[i];
            }
            for (int k = 0; k < KEPT_COUNT; k++) {
                keptCount[k] = -1;
            }
            replay(0);
        }

        boolean isCat(int i) {
            return i >= 0 && i < cats;
        }

        int pound() {
            return isCat(ruler) ? weight[ruler] : 0;
        }

        int rulerKind() {
            return isCat(ruler) ? kindOf[ruler] : CAT;
        }

        int rulerMeal() {
            return isCat(ruler) ? mealAdds(ruler) : 0;
        }

        int mealAdds(int i) {
            return Kind.mealAdds(kindOf[i], appetite[i]);
        }

        int trait(int i, int what) {
            switch (what) {
                case 0:
                    return kindOf[i];
                case 1:
                    return weight[i];
                case 2:
                    return appetite[i];
                case 3:
                    return mealAdds(i);
                default:
                    return Kind.afterHour(kindOf[i], weight[i], hour) - weight[i];
            }
        }

        int countOf(int kind) {
            int many = 0;
            for (int i = 0; i < cats; i++) {
                if (Kind.isOf(kindOf[i], kind)) {
                    many++;
                }
            }
            return many;
        }

        int weightOfSet(int set) {
            int together = 0;
            for (int i = 0; i < cats; i++) {
                if ((set >> i & 1) != 0) {
                    together += weight[i];
                }
            }
            return together;
        }

        boolean hasRoomFor(int n) {
            return deedCount + n <= MOST_DEEDS;
        }

        boolean hasGoodsFor(int n) {
            return goods >= n * pound();
        }

        void doDeed(int deed) {
            if (!hasRoomFor(1)) {
                return;
            }
            deeds[deedCount] = deed;
            deedCount++;
            act(deed);
        }

        private void act(int deed) {
            int n = deed % 10;
            switch (deed - n) {
                case DEED_HOUR:
                    passHour();
                    break;
                case DEED_MEAL:
                    if (isCat(n)) {
                        weight[n] = Kind.held(weight[n] + mealAdds(n));
                    }
                    break;
                case DEED_BUY:
                    goods += n * pound();
                    pence -= PENCE_A_POUND * n;
                    break;
                case DEED_SELL:
                    goods -= n * pound();
                    pence += PENCE_A_POUND * n;
                    break;
                default:
                    if (isCat(n)) {
                        ruler = n;
                    }
                    break;
            }
        }

        private void passHour() {
            for (int i = 0; i < cats; i++) {
                weight[i] = Kind.afterHour(kindOf[i], weight[i], hour);
            }
            hour++;
        }

        /** Makes the town what it was behind its first n deeds; what was lost beyond 1 and 200 comes back so. */
        void replay(int n) {
            hour = 0;
            ruler = 0;
            pence = 0;
            goods = 0;
            for (int i = 0; i < cats; i++) {
                weight[i] = firstWeight[i];
            }
            for (int d = 0; d < n && d < MOST_DEEDS; d++) {
                act(deeds[d]);
            }
            deedCount = n;
        }

        boolean hasKeptNumber(int k) {
            return k >= 0 && k < KEPT_COUNT;
        }

        /** The deeds are enough: a new town lets the kept ones go, so all of them began as this one did. */
        void store(int k) {
            keptCount[k] = deedCount;
            for (int d = 0; d < deedCount; d++) {
                keptDeeds[k][d] = deeds[d];
            }
        }

        void restore(int k) {
            int many = keptCount[k];
            for (int d = 0; d < many; d++) {
                deeds[d] = keptDeeds[k][d];
            }
            replay(many);
        }

        int keptTowns() {
            int many = 0;
            for (int k = 0; k < KEPT_COUNT; k++) {
                if (keptCount[k] >= 0) {
                    many++;
                }
            }
            return many;
        }
    }

    /** What a cat weighs now and in the hours to come, while nothing but hours passes. */
    private static final class Outlook {
        private final int[] ahead = new int[MOST_AHEAD + 1];
        private final int[] asKind = new int[KIND_COUNT];
        private int last;

        void fill(int kind, int weight, int hour, int n) {
            last = Math.max(0, Math.min(n, MOST_AHEAD));
            ahead[0] = weight;
            for (int t = 0; t < last; t++) {
                ahead[t + 1] = Kind.afterHour(kind, ahead[t], hour + t);
            }
        }

        int weightIn(int t) {
            return t >= 0 && t <= last ? ahead[t] : 0;
        }

        int firstWith(int v) {
            for (int t = 0; t <= last; t++) {
                if (ahead[t] == v) {
                    return t;
                }
            }
            return NONE;
        }

        int spread() {
            int least = ahead[0];
            int most = ahead[0];
            for (int t = 1; t <= last; t++) {
                least = Math.min(least, ahead[t]);
                most = Math.max(most, ahead[t]);
            }
            return most - least;
        }

        /** How many whole pounds of b the goods are that were k pounds of a. */
        int poundsThen(int k, int a, int b) {
            int pound = weightIn(b);
            return pound > 0 ? k * weightIn(a) / pound : 0;
        }

        void startKinds(int weight) {
            for (int kind = 0; kind < KIND_COUNT; kind++) {
                asKind[kind] = weight;
            }
        }

        void passKinds(int hour) {
            for (int kind = 0; kind < KIND_COUNT; kind++) {
                asKind[kind] = Kind.afterHour(kind, asKind[kind], hour);
            }
        }

        int greatestPart(int set) {
            int greatest = 0;
            for (int kind = 0; kind < KIND_COUNT; kind++) {
                if ((set >> kind & 1) != 0) {
                    greatest = Math.max(greatest, alikeTo(kind, set));
                }
            }
            return greatest;
        }

        private int alikeTo(int kind, int set) {
            int many = 0;
            for (int other = 0; other < KIND_COUNT; other++) {
                if ((set >> other & 1) != 0 && asKind[other] == asKind[kind]) {
                    many++;
                }
            }
            return many;
        }
    }

    /** What calls told beside their answers, and the findings. */
    private static final class Told {
        private final int[] often = new int[SIZE + 1];
        private int asked;
        private long above;
        private long below = 1;
        private int latest;

        int answerFinding(int found) {
            latest = found;
            if (found >= NOTHING && found <= SIZE) {
                often[found]++;
            }
            return FINDING;
        }

        void tell(long upper, long lower) {
            long common = greatestDivisor(upper, lower);
            above = common > 0 ? upper / common : 0;
            below = common > 0 ? lower / common : 1;
        }

        private static long greatestDivisor(long a, long b) {
            for (int step = 0; step < 200 && b != 0; step++) {
                long rest = a % b;
                a = b;
                b = rest;
            }
            return a;
        }
    }
}
