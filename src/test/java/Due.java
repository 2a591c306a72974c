import java.util.function.LongSupplier;

/** What the tests share: rows of a call with the answer that is due, and towns by a text. */
final class Due {
    private final String name;
    private int rows = 0;
    private int wrong = 0;

    Due(String name) {
        this.name = name;
    }

    void due(String call, long got, long want) {
        rows++;
        if (got != want) {
            wrong++;
            System.out.println(name + ": " + call + " answered " + got + ", due is " + want);
        }
    }

    /** A call that tells a second number by asked(). */
    void told(PoundCat x, String call, LongSupplier made, long want, long asked) {
        due(call, made.getAsLong(), want);
        due(call + ", asked()", x.asked(), asked);
    }

    /** A call that tells a fraction. */
    void fraction(PoundCat x, String call, LongSupplier made, long upper, long lower) {
        due(call, made.getAsLong(), 1);
        due(call + ", upper()", x.upper(), upper);
        due(call + ", lower()", x.lower(), lower);
    }

    /** A call that answers FINDING; it changes nothing but finding() and findings(). */
    void found(PoundCat x, String call, LongSupplier made, int finding) {
        long digest = x.digest();
        int asked = x.asked();
        int often = x.findings(finding);
        due(call, made.getAsLong(), PoundCat.FINDING);
        due(call + ", finding()", x.finding(), finding);
        due(call + ", findings(" + finding + ")", x.findings(finding), often + 1);
        due(call + ", digest()", x.digest(), digest);
        due(call + ", asked()", x.asked(), asked);
    }

    /** A call that is refused otherwise: nothing changes. */
    void refused(PoundCat x, String call, LongSupplier made, int want) {
        long digest = x.digest();
        int asked = x.asked();
        long upper = x.upper();
        int finding = x.finding();
        due(call, made.getAsLong(), want);
        due(call + ", digest()", x.digest(), digest);
        due(call + ", asked()", x.asked(), asked);
        due(call + ", upper()", x.upper(), upper);
        due(call + ", finding()", x.finding(), finding);
    }

    void finish() {
        System.out.println(name + ": " + (rows - wrong) + " of " + rows + " rows are as due");
        if (wrong != 0 || rows == 0) {
            System.exit(1);
        }
    }

    static void write(PoundCat x, int t, String signs) {
        x.text(t, signs.length());
        for (int i = 0; i < signs.length(); i++) {
            x.put(t, i, signs.charAt(i));
        }
    }

    static PoundCat townOf(String signs) {
        PoundCat x = new PoundCat();
        write(x, 0, signs);
        x.town(0);
        return x;
    }

    static void hours(PoundCat x, int n) {
        for (int t = 0; t < n; t++) {
            x.hour();
        }
    }

    static void fillRow(PoundCat x, int r, int... values) {
        x.row(r, values.length);
        for (int i = 0; i < values.length; i++) {
            x.lay(r, i, values[i]);
        }
    }
}
