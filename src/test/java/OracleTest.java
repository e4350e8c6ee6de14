import java.math.BigDecimal;
import java.math.BigInteger;
import java.util.Arrays;
import java.util.Random;

/** Long runs of mixed calls, right and wrong, against a plain model on big whole numbers. */
public final class OracleTest {
    private static final int RUNS = 240;
    private static final int CALLS = 512;
    private static final double[] REFUSED = {
        Double.NaN, Double.POSITIVE_INFINITY, Double.NEGATIVE_INFINITY, Double.MIN_VALUE, -1e300,
        Math.nextUp(0x1p60), Math.nextDown(-0x1p60), Math.nextDown(0x1p-60), Math.nextUp(-0x1p-60),
    };

    private final Checks checks;
    private final Random random;
    /** 0: all sizes, 1: small whole numbers, 2: the greatest, 3: the least, 4: one size each side of 1. */
    private final int mood;
    private final CertificateDesk desk = new CertificateDesk();
    private final Model model = new Model();

    private OracleTest(Checks checks, int run) {
        this.checks = checks;
        this.random = new Random(1000L + run);
        this.mood = run % 5;
    }

    public static void main(String[] args) {
        Checks checks = new Checks();
        for (int run = 0; run < RUNS; run++) {
            OracleTest test = new OracleTest(checks, run);
            for (int call = 0; call < CALLS; call++) {
                test.step("run " + run + " call " + call + " ", call);
            }
        }
        checks.end();
    }

    private void step(String at, int call) {
        int kind = random.nextInt(call < 200 ? 11 : 20);
        switch (kind) {
            case 0: constant(at); break;
            case 1: row(at); break;
            case 2: column(at); break;
            case 3: case 4: case 5: entry(at); break;
            case 6: case 7: pair(at); break;
            case 8: case 9: case 11: value(at, true); break;
            case 10: case 12: value(at, false); break;
            default: figure(at); break;
        }
    }

    private double number() {
        if (random.nextInt(40) == 0) {
            return REFUSED[random.nextInt(REFUSED.length)];
        }
        if (random.nextInt(12) == 0) {
            return random.nextBoolean() ? 0.0 : -0.0;
        }
        double sign = random.nextBoolean() ? 1.0 : -1.0;
        double odd = 1.0 + (random.nextLong() >>> 12) * 0x1p-52;
        switch (mood) {
            case 1: return random.nextInt(9) - 4;
            case 2: return sign * (random.nextBoolean() ? 0x1p60 : odd * 0x1p59);
            case 3: return sign * (random.nextInt(4) == 0 ? 0x1p-60 : odd * 0x1p-60);
            case 4: return sign * Math.scalb(1.0, random.nextInt(3) - 1);
            default: return sign * Math.scalb(odd, random.nextInt(120) - 60);
        }
    }

    private int by() {
        if (random.nextInt(40) == 0) {
            return random.nextBoolean() ? 601 : -601;
        }
        switch (mood) {
            case 1: return 0;
            case 2: return 600 - random.nextInt(2);
            case 3: return -600 + random.nextInt(2);
            case 4: return random.nextBoolean() ? 450 : -537;
            default: return random.nextInt(4) == 0 ? 0 : random.nextInt(1201) - 600;
        }
    }

    private int has() { return random.nextInt(30) == 0 ? random.nextInt(9) - 3 : random.nextInt(4); }

    private int index(int count) { return random.nextInt(25) == 0 ? random.nextInt(20) - 2 : random.nextInt(Math.max(1, count)); }

    private void constant(String at) {
        double v = number();
        String want = !Model.given(v) ? Checks.ARGUMENT : "done";
        checks.voids(at + "constant", () -> desk.constant(v), want);
        if (want.equals("done")) {
            model.k = Dyadic.of(v, 0);
        }
    }

    private void row(String at) {
        int has = has();
        double low = number();
        double high = number();
        String want = !Model.limits(has, low, high) ? Checks.ARGUMENT : model.m == 12 ? Checks.INDEX : "" + model.m;
        checks.ints(at + "row", () -> desk.row(has, low, high), want);
        if (!want.startsWith("throws")) {
            model.rowLow[model.m] = (has & 1) == 0 ? null : Dyadic.of(low, 0);
            model.rowHigh[model.m] = (has & 2) == 0 ? null : Dyadic.of(high, 0);
            model.m++;
        }
    }

    private void column(String at) {
        int has = has();
        double c = number();
        double low = number();
        double high = number();
        boolean right = Model.given(c) && Model.limits(has, low, high);
        String want = !right ? Checks.ARGUMENT : model.n == 16 ? Checks.INDEX : "" + model.n;
        checks.ints(at + "column", () -> desk.column(c, has, low, high), want);
        if (!want.startsWith("throws")) {
            model.c[model.n] = Dyadic.of(c, 0);
            model.columnLow[model.n] = (has & 1) == 0 ? null : Dyadic.of(low, 0);
            model.columnHigh[model.n] = (has & 2) == 0 ? null : Dyadic.of(high, 0);
            model.n++;
        }
    }

    private void entry(String at) {
        int i = index(model.m);
        int j = index(model.n);
        double v = number();
        boolean right = i >= 0 && i < model.m && j >= 0 && j < model.n && Model.given(v);
        String want = !right ? Checks.ARGUMENT : model.a[i][j] != null ? Checks.STATE
                : model.entries == 100 ? Checks.INDEX : "" + (model.entries + 1);
        checks.ints(at + "entry", () -> desk.entry(i, j, v), want);
        if (!want.startsWith("throws")) {
            model.a[i][j] = Dyadic.of(v, 0);
            model.entries++;
        }
    }

    private void pair(String at) {
        int i = index(model.n);
        int j = index(model.n);
        double v = number();
        boolean right = i >= 0 && i < model.n && j >= 0 && j < model.n && Model.given(v);
        String want = !right ? Checks.ARGUMENT : model.q[i][j] != null ? Checks.STATE
                : model.pairs == 60 ? Checks.INDEX : "" + (model.pairs + 1);
        checks.ints(at + "pair", () -> desk.pair(i, j, v), want);
        if (!want.startsWith("throws")) {
            model.q[i][j] = Dyadic.of(v, 0);
            model.q[j][i] = model.q[i][j];
            model.pairs++;
        }
    }

    private void value(String at, boolean ofColumn) {
        int count = ofColumn ? model.n : model.m;
        int k = index(count);
        double v = number();
        int by = by();
        boolean right = Model.given(v) && by >= -600 && by <= 600;
        String want = !right ? Checks.ARGUMENT : k < 0 || k >= count ? Checks.INDEX : "done";
        if (ofColumn) {
            checks.voids(at + "x", () -> desk.x(k, v, by), want);
        } else {
            checks.voids(at + "y", () -> desk.y(k, v, by), want);
        }
        if (want.equals("done")) {
            (ofColumn ? model.x : model.y)[k] = Dyadic.of(v, by);
        }
    }

    private void figure(String at) {
        int what = random.nextInt(60) == 0 ? random.nextInt(14) - 3 : random.nextInt(8);
        int k = index(what == 5 ? model.m : model.n);
        String refused = what < 0 || what > 7 ? Checks.ARGUMENT
                : what == 5 && (k < 0 || k >= model.m) || what > 5 && (k < 0 || k >= model.n) ? Checks.INDEX : null;
        Dyadic exact = refused == null ? model.figure(what, k) : null;
        if (random.nextInt(4) == 0) {
            checks.ints(at + "sign " + what, () -> desk.sign(what, k), refused != null ? refused : "" + exact.m.signum());
        } else {
            checks.doubles(at + "certify " + what, () -> desk.certify(what, k), refused != null ? refused : exact.answer());
        }
    }

    /** m * 2 ** e. */
    private static final class Dyadic {
        static final Dyadic ZERO = new Dyadic(BigInteger.ZERO, 0);
        final BigInteger m;
        final int e;

        Dyadic(BigInteger m, int e) {
            this.m = m;
            this.e = e;
        }

        static Dyadic of(double v, int by) {
            return new Dyadic(new BigDecimal(v).multiply(new BigDecimal(BigInteger.ONE.shiftLeft(112))).toBigIntegerExact(), by - 112);
        }

        Dyadic plus(Dyadic o) {
            int low = Math.min(e, o.e);
            return new Dyadic(m.shiftLeft(e - low).add(o.m.shiftLeft(o.e - low)), low);
        }

        Dyadic minus(Dyadic o) { return plus(new Dyadic(o.m.negate(), o.e)); }

        Dyadic times(Dyadic o) { return new Dyadic(m.multiply(o.m), e + o.e); }

        Dyadic half() { return new Dyadic(m, e - 1); }

        Dyadic max(Dyadic o) { return minus(o).m.signum() < 0 ? o : this; }

        private int compare(double d) {
            long bits = Double.doubleToLongBits(Math.abs(d));
            int power = (int) (bits >>> 52);
            long whole = bits & (1L << 52) - 1;
            BigInteger size = BigInteger.valueOf(power == 0 ? whole : whole | 1L << 52);
            Dyadic other = new Dyadic(d < 0 ? size.negate() : size, Math.max(power, 1) - 1075);
            return minus(other).m.signum();
        }

        /** The least double that is not below, searched for by halving the line of all doubles. */
        String answer() {
            if (compare(Double.MAX_VALUE) > 0) {
                return Checks.ARITHMETIC;
            }
            long below = order(-Double.MAX_VALUE) - 1;
            long found = order(Double.MAX_VALUE);
            while (found > below + 1) {
                // The plain sum of the two could go over what a long holds.
                long middle = (below & found) + ((below ^ found) >> 1);
                if (compare(unorder(middle)) <= 0) {
                    found = middle;
                } else {
                    below = middle;
                }
            }
            return Checks.text(unorder(found) + 0.0);
        }

        private static long order(double d) {
            long bits = Double.doubleToLongBits(Math.abs(d));
            return d < 0 ? -bits : bits;
        }

        private static double unorder(long n) {
            double size = Double.longBitsToDouble(Math.abs(n));
            return n < 0 ? -size : size;
        }
    }

    /** The document's terms, word for word and without any thought of speed. */
    private static final class Model {
        int m, n, entries, pairs;
        Dyadic k = Dyadic.ZERO;
        final Dyadic[] c = new Dyadic[16];
        final Dyadic[] rowLow = new Dyadic[12];
        final Dyadic[] rowHigh = new Dyadic[12];
        final Dyadic[] columnLow = new Dyadic[16];
        final Dyadic[] columnHigh = new Dyadic[16];
        final Dyadic[] x = new Dyadic[16];
        final Dyadic[] y = new Dyadic[12];
        final Dyadic[][] a = new Dyadic[12][16];
        final Dyadic[][] q = new Dyadic[16][16];

        Model() {
            Arrays.fill(x, Dyadic.ZERO);
            Arrays.fill(y, Dyadic.ZERO);
        }

        static boolean given(double v) {
            double size = Math.abs(v);
            return size == 0.0 || size >= 0x1p-60 && size <= 0x1p60;
        }

        static boolean limits(int has, double low, double high) {
            return has >= 0 && has <= 3 && ((has & 1) == 0 || given(low)) && ((has & 2) == 0 || given(high));
        }

        Dyadic figure(int what, int at) {
            Dyadic most = Dyadic.ZERO;
            switch (what) {
                case 0:
                    for (int i = 0; i < m; i++) most = most.max(beyond(activity(i), rowLow[i], rowHigh[i]));
                    return most;
                case 1:
                    for (int j = 0; j < n; j++) most = most.max(beyond(x[j], columnLow[j], columnHigh[j]));
                    return most;
                case 2:
                    for (int j = 0; j < n; j++) most = most.max(dual(reduced(j), columnLow[j], columnHigh[j]));
                    for (int i = 0; i < m; i++) most = most.max(dual(y[i], rowLow[i], rowHigh[i]));
                    return most;
                case 3: return minimized().minus(k).minus(bound());
                case 4: return minimized();
                case 5: return beyond(activity(at), rowLow[at], rowHigh[at]);
                case 6: return beyond(x[at], columnLow[at], columnHigh[at]);
                default: return reduced(at);
            }
        }

        Dyadic activity(int i) {
            Dyadic sum = Dyadic.ZERO;
            for (int j = 0; j < n; j++) if (a[i][j] != null) sum = sum.plus(a[i][j].times(x[j]));
            return sum;
        }

        Dyadic beyond(Dyadic v, Dyadic low, Dyadic high) {
            Dyadic most = Dyadic.ZERO;
            if (low != null) most = most.max(low.minus(v));
            if (high != null) most = most.max(v.minus(high));
            return most;
        }

        Dyadic reduced(int j) {
            Dyadic sum = c[j];
            for (int i = 0; i < n; i++) if (q[j][i] != null) sum = sum.plus(q[j][i].times(x[i]));
            for (int i = 0; i < m; i++) if (a[i][j] != null) sum = sum.minus(a[i][j].times(y[i]));
            return sum;
        }

        Dyadic dual(Dyadic v, Dyadic low, Dyadic high) {
            if (v.m.signum() > 0 && low == null) return v;
            if (v.m.signum() < 0 && high == null) return Dyadic.ZERO.minus(v);
            return Dyadic.ZERO;
        }

        Dyadic squares() {
            Dyadic sum = Dyadic.ZERO;
            for (int i = 0; i < n; i++)
                for (int j = 0; j < n; j++) if (q[i][j] != null) sum = sum.plus(q[i][j].times(x[i]).times(x[j]));
            return sum;
        }

        Dyadic minimized() {
            Dyadic sum = k;
            for (int j = 0; j < n; j++) sum = sum.plus(c[j].times(x[j]));
            return sum.plus(squares().half());
        }

        Dyadic bound() {
            Dyadic sum = Dyadic.ZERO;
            for (int i = 0; i < m; i++) sum = sum.plus(atLimit(y[i], rowLow[i], rowHigh[i]));
            for (int j = 0; j < n; j++) sum = sum.plus(atLimit(reduced(j), columnLow[j], columnHigh[j]));
            return sum.minus(squares().half());
        }

        Dyadic atLimit(Dyadic v, Dyadic low, Dyadic high) {
            if (v.m.signum() > 0 && low != null) return v.times(low);
            if (v.m.signum() < 0 && high != null) return v.times(high);
            return Dyadic.ZERO;
        }
    }
}
