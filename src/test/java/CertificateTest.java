import static java.lang.Double.MAX_VALUE;
import static java.lang.Double.MIN_NORMAL;
import static java.lang.Double.MIN_VALUE;

/** 'Terms' 3: each case of V, of r and of the GAP, exact, and how they are rounded. */
public final class CertificateTest {
    private static final Checks CHECKS = new Checks();
    private static final double FULL = 0x1p53 - 1.0;

    public static void main(String[] args) {
        belowLowOrAboveHigh();
        greaterOfBoth();
        leastBeyondLimits();
        manyTermsBesideALimit();
        reducedCost();
        dualOfColumn();
        dualOfRow();
        greatestDualOfAll();
        dualOfTheExactSide();
        gapOfRowLimits();
        gapOfColumnLimits();
        gapOfTheExactSide();
        gapWithoutK();
        halfOfTheSquares();
        exactOverAllSizes();
        roundedUp();
        roundedUpOnce();
        roundedAtEverySize();
        roundedByTheLastBit();
        roundedToZero();
        roundedAmongTheLeast();
        belowAllDoubles();
        aboveAllDoubles();
        CHECKS.end();
    }

    /** One row and one column with the same limits; the activity is x. */
    private static CertificateDesk within(int has, double low, double high) {
        CertificateDesk d = new CertificateDesk();
        d.row(has, low, high);
        d.column(0.0, has, low, high);
        d.entry(0, 0, 1.0);
        return d;
    }

    private static void beyond(CertificateDesk d, double v, int by, double want) {
        d.x(0, v, by);
        for (int what : new int[] { 0, 1, 5, 6 }) {
            CHECKS.figure(v + " by " + by, d, what, 0, want);
        }
    }

    private static void belowLowOrAboveHigh() {
        CHECKS.under("how much its activity is below low or above high .., else 0");
        CertificateDesk d = within(3, -2.0, 3.0);
        beyond(d, -2.5, 0, 0.5);
        beyond(d, -2.0, 0, 0.0);
        beyond(d, 0.0, 0, 0.0);
        beyond(d, 3.0, 0, 0.0);
        beyond(d, 3.25, 0, 0.25);
        CertificateDesk fixed = within(3, 4.0, 4.0);
        beyond(fixed, 4.0, 0, 0.0);
        beyond(fixed, 3.0, 0, 1.0);
        beyond(fixed, 6.0, 0, 2.0);
    }

    private static void greaterOfBoth() {
        CHECKS.under("(the greater, if both)");
        CertificateDesk d = within(3, 10.0, 4.0);
        beyond(d, 5.0, 0, 5.0);
        beyond(d, 9.0, 0, 5.0);
        beyond(d, 7.0, 0, 3.0);
        beyond(d, 7.0 + 0x1p-50, 0, 3.0 + 0x1p-50);
        beyond(d, 7.0 - 0x1p-50, 0, 3.0 + 0x1p-50);
        beyond(d, 4.0, 0, 6.0);
        beyond(d, 10.0, 0, 6.0);
        beyond(d, 0.0, 0, 10.0);
        beyond(d, 20.0, 0, 16.0);
    }

    private static void leastBeyondLimits() {
        CHECKS.under("exact: what is beyond a limit by the least, and not rounded away");
        CertificateDesk zero = within(3, 0.0, -0.0);
        beyond(zero, Desks.LEAST, -600, 0x1p-660);
        beyond(zero, -Desks.LEAST, -600, 0x1p-660);
        beyond(zero, Desks.MOST, 600, 0x1p660);
        beyond(zero, -Desks.MOST, 600, 0x1p660);
        CertificateDesk one = within(3, 1.0, 1.0);
        beyond(one, Math.nextUp(1.0), 0, 0x1p-52);
        beyond(one, Math.nextDown(1.0), 0, 0x1p-53);
        CertificateDesk sum = Desks.of(0, 2);
        sum.row(3, 1.0, 1.0);
        sum.entry(0, 0, 1.0);
        sum.entry(0, 1, Desks.LEAST);
        sum.x(0, 1.0, 0);
        for (double v : new double[] { Desks.LEAST, -Desks.LEAST }) {
            sum.x(1, v, -600);
            CHECKS.figure("1 and " + v, sum, 5, 0, 0x1p-720);
            CHECKS.figure("1 and " + v, sum, 0, 0, 0x1p-720);
        }
    }

    /** Sixteen terms that are each a little less than the limit, at every size that may be given. */
    private static void manyTermsBesideALimit() {
        CHECKS.under("V(row), exact: a sum of many terms");
        for (int power = -56; power <= 56; power++) {
            double limit = Math.scalb(1.0, power);
            double term = limit - Math.scalb(1.0, power - 27);
            CertificateDesk d = new CertificateDesk();
            d.row(1, limit, 0.0);
            d.row(2, 0.0, -limit);
            for (int j = 0; j < 16; j++) {
                d.column(0.0, 0, 0.0, 0.0);
                d.entry(0, j, 1.0);
                d.entry(1, j, -1.0);
            }
            for (int terms = 0; terms <= 16; terms++) {
                double beyond = Math.max(limit - terms * term, 0.0);
                CHECKS.figure(terms + " terms of " + term, d, 5, 0, beyond);
                CHECKS.figure(terms + " terms of " + term, d, 5, 1, beyond);
                d.x(Math.min(terms, 15), term, 0);
            }
        }
    }

    private static void reducedCost() {
        CHECKS.under("r[j] = c[j] + sum of q[j][i] * x[i] - sum of a[i][j] * y[i]");
        CertificateDesk d = Desks.some();
        CHECKS.figure("r", d, 7, 0, 2.0 + 4.0 * -2.5 - 2.0 * -3.0);
        CHECKS.figure("r", d, 7, 1, -3.0 + 4.0 * 3.0 - 0.5 * 2.25);
        CHECKS.figure("r", d, 7, 2, 5.0 - 6.0 * 3.5 + 3.0 * -3.0);
    }

    // Of the has 0..3: whether V(dual) is there for a value above 0, and for one below 0.
    private static final boolean[] ABOVE_COUNTS = { true, false, true, false };
    private static final boolean[] BELOW_COUNTS = { true, true, false, false };

    private static void dualOfColumn() {
        CHECKS.under("V(dual) of a column: r[j] if it is above 0 and low is none, 0 - r[j] if it is below 0 and high is none, else 0");
        for (int has = 0; has <= 3; has++) {
            for (double c : new double[] { 2.0, Desks.LEAST, 0.0, -0.0, -Desks.LEAST, -2.0 }) {
                CertificateDesk d = new CertificateDesk();
                d.column(c, has, 5.0, 6.0);
                boolean counts = c > 0.0 && ABOVE_COUNTS[has] || c < 0.0 && BELOW_COUNTS[has];
                CHECKS.figure("r " + c + ", has " + has, d, 2, 0, counts ? Math.abs(c) : 0.0);
            }
        }
    }

    private static void dualOfRow() {
        CHECKS.under("of a row: y[i] above 0 and low is none, or below 0 and high is none: its size, else 0");
        for (int has = 0; has <= 3; has++) {
            for (double v : new double[] { 2.0, Desks.LEAST, 0.0, -0.0, -Desks.LEAST, -2.0 }) {
                for (int by : new int[] { -600, 0, 600 }) {
                    CertificateDesk d = new CertificateDesk();
                    d.row(has, 5.0, 6.0);
                    d.y(0, v, by);
                    boolean counts = v > 0.0 && ABOVE_COUNTS[has] || v < 0.0 && BELOW_COUNTS[has];
                    double size = Math.scalb(Math.abs(v), by);
                    CHECKS.figure("y " + v + " by " + by + ", has " + has, d, 2, 0, counts ? size : 0.0);
                }
            }
        }
    }

    private static void greatestDualOfAll() {
        CHECKS.under("the greatest V(dual) of all: rows and columns");
        double[][] sizes = { { 1, 2, 3, 4 }, { 4, 3, 2, 1 }, { 2, 4, 1, 3 }, { 3, 1, 4, 2 } };
        for (double[] size : sizes) {
            CertificateDesk d = new CertificateDesk();
            d.column(size[0], 0, 0.0, 0.0);
            d.column(-size[1], 0, 0.0, 0.0);
            d.row(0, 0.0, 0.0);
            d.row(0, 0.0, 0.0);
            d.y(0, size[2], 0);
            d.y(1, -size[3], 0);
            CHECKS.figure("V(dual)", d, 2, 0, 4.0);
        }
    }

    /** r is 1 - 1 and what x brings, which no double beside 1 shows. */
    private static CertificateDesk nearlyNoCost(int has, double v) {
        CertificateDesk d = new CertificateDesk();
        d.row(3, 0.0, 0.0);
        d.column(1.0, has, 3.0, 5.0);
        d.column(0.0, 3, 0.0, 0.0);
        d.entry(0, 0, 1.0);
        d.pair(0, 1, Desks.LEAST);
        d.x(1, v, -600);
        d.y(0, 1.0, 0);
        return d;
    }

    private static void dualOfTheExactSide() {
        CHECKS.under("V(dual), exact: r above, below or at 0 by a last bit");
        for (int has = 0; has <= 3; has++) {
            for (double v : new double[] { Desks.LEAST, 0.0, -Desks.LEAST }) {
                CertificateDesk d = nearlyNoCost(has, v);
                CHECKS.figure("r", d, 7, 0, v == 0.0 ? 0.0 : v < 0.0 ? -0x1p-720 : 0x1p-720);
                boolean counts = v > 0.0 && ABOVE_COUNTS[has] || v < 0.0 && BELOW_COUNTS[has];
                CHECKS.figure("r of " + v + ", has " + has, d, 2, 0, counts ? 0x1p-720 : 0.0);
            }
        }
    }

    private static void gapOfRowLimits() {
        CHECKS.under("GAP: .. less (the sum of y[i] * low[i] for y[i] above 0, y[i] * high[i] for those below, where these are there");
        for (int has = 0; has <= 3; has++) {
            for (double v : new double[] { 3.0, 0.0, -0.0, -3.0 }) {
                CertificateDesk d = new CertificateDesk();
                d.row(has, 5.0, 7.0);
                d.y(0, v, 0);
                boolean low = v > 0.0 && (has & 1) != 0;
                boolean high = v < 0.0 && (has & 2) != 0;
                CHECKS.figure("y " + v + ", has " + has, d, 3, 0, low ? -15.0 : high ? 21.0 : 0.0);
            }
        }
        CertificateDesk two = new CertificateDesk();
        two.row(3, 5.0, 7.0);
        two.row(3, 11.0, 13.0);
        two.y(0, 3.0, 0);
        two.y(1, -2.0, 0);
        CHECKS.figure("the sum of both", two, 3, 0, -15.0 + 26.0);
    }

    private static void gapOfColumnLimits() {
        CHECKS.under("GAP: .. likewise r[j] * low[j], r[j] * high[j]");
        for (int has = 0; has <= 3; has++) {
            for (double c : new double[] { 3.0, 0.0, -0.0, -3.0 }) {
                CertificateDesk d = new CertificateDesk();
                d.column(c, has, 5.0, 7.0);
                boolean low = c > 0.0 && (has & 1) != 0;
                boolean high = c < 0.0 && (has & 2) != 0;
                CHECKS.figure("r " + c + ", has " + has, d, 3, 0, low ? -15.0 : high ? 21.0 : 0.0);
                d.x(0, 2.0, 0);
                double costs = c == 0.0 ? 0.0 : c * 2.0;
                CHECKS.figure("r " + c + ", x, has " + has, d, 3, 0, costs + (low ? -15.0 : high ? 21.0 : 0.0));
            }
        }
        CertificateDesk two = new CertificateDesk();
        two.column(3.0, 3, 5.0, 7.0);
        two.column(-2.0, 3, 11.0, 13.0);
        CHECKS.figure("the sum of both", two, 3, 0, -15.0 + 26.0);
    }

    private static void gapOfTheExactSide() {
        CHECKS.under("GAP, exact: r above, below or at 0 by a last bit");
        for (int has = 0; has <= 3; has++) {
            for (double v : new double[] { Desks.LEAST, 0.0, -Desks.LEAST }) {
                CertificateDesk d = nearlyNoCost(has, v);
                boolean low = v > 0.0 && (has & 1) != 0;
                boolean high = v < 0.0 && (has & 2) != 0;
                double want = low ? -3.0 * 0x1p-720 : high ? 5.0 * 0x1p-720 : 0.0;
                CHECKS.figure("r of " + v + ", has " + has, d, 3, 0, want);
            }
        }
    }

    private static void gapWithoutK() {
        CHECKS.under("GAP: what is minimized for x, less K");
        CertificateDesk d = Desks.some();
        double squares = 2.0 * 4.0 * 3.0 * -2.5 - 6.0 * 3.5 * 3.5;
        double costs = 2.0 * 3.0 + 3.0 * 2.5 + 5.0 * 3.5;
        double atLimits = -3.0 * 7.0;
        for (double k : new double[] { 11.0, 0.0, Desks.MOST, -Desks.MOST, Desks.LEAST, -Desks.LEAST }) {
            d.constant(k);
            CHECKS.figure("K " + k, d, 3, 0, costs + squares - atLimits);
        }
        d.constant(11.0);
        CHECKS.figure("K 11.0", d, 4, 0, 11.0 + costs + squares / 2);
    }

    private static void halfOfTheSquares() {
        CHECKS.under("less half of the sum of q[i][j] * x[i] * x[j]: taken off what is taken off");
        CertificateDesk d = Desks.of(0, 2);
        d.pair(0, 0, -2.0);
        d.pair(0, 1, 3.0);
        d.x(0, 5.0, 0);
        d.x(1, 7.0, 0);
        CHECKS.figure("half", d, 4, 0, -25.0 + 105.0);
        CHECKS.figure("whole", d, 3, 0, -50.0 + 210.0);
    }

    /** The greatest terms there are cancel out, and the least ones stay. */
    private static void exactOverAllSizes() {
        CHECKS.under("THE CERTIFICATE is exact .. all as real numbers");
        CertificateDesk d = Desks.of(0, 16);
        int made = 0;
        for (int i = 0; i < 14 && made < 58; i++) {
            for (int j = i + 1; j < 14 && made < 58; j++) {
                d.pair(i, j, made % 2 == 0 ? Desks.MOST : -Desks.MOST);
                made++;
            }
        }
        d.pair(14, 15, Desks.LEAST);
        d.pair(14, 14, 0.0);
        for (int j = 0; j < 14; j++) {
            d.x(j, Desks.MOST, 600);
        }
        d.x(14, Desks.LEAST, -600);
        for (int side = -1; side <= 1; side++) {
            d.x(15, side * Desks.LEAST, -600);
            CHECKS.sign("58 of the greatest, one of the least", d, 3, 0, side);
            CHECKS.sign("58 of the greatest, one of the least", d, 4, 0, side);
            CHECKS.certify("58 of the greatest, one of the least", d, 4, 0, side > 0 ? MIN_VALUE : 0.0);
        }
        CertificateDesk even = Desks.of(0, 5);
        even.pair(0, 1, Desks.MOST);
        even.pair(2, 3, -Desks.MOST);
        even.pair(4, 4, Desks.LEAST);
        for (int j = 0; j < 4; j++) {
            even.x(j, Desks.BELOW_MOST, 600);
        }
        for (double v : new double[] { Desks.LEAST, 0.0, -Desks.LEAST }) {
            even.x(4, v, -600);
            CHECKS.sign("a square beside the greatest", even, 3, 0, v == 0.0 ? 0 : 1);
            CHECKS.sign("a square beside the greatest", even, 4, 0, v == 0.0 ? 0 : 1);
            CHECKS.certify("a square beside the greatest", even, 4, 0, v == 0.0 ? 0.0 : MIN_VALUE);
        }
        even.constant(Desks.LEAST);
        even.x(4, 0.0, 0);
        CHECKS.figure("K beside the greatest", even, 4, 0, Desks.LEAST);
        even.x(3, Desks.MOST, 600);
        CHECKS.certify("nearly as great, below", even, 4, 0, -MAX_VALUE);
        CHECKS.sign("nearly as great, below", even, 4, 0, -1);
        even.x(1, Desks.MOST, 600);
        CHECKS.figure("as great again", even, 4, 0, Desks.LEAST);
    }

    /** What is minimized is then k + v * 2 ** by. */
    private static void minimized(double k, double v, int by, double want) {
        CertificateDesk d = new CertificateDesk();
        d.constant(k);
        d.column(1.0, 0, 0.0, 0.0);
        d.x(0, v, by);
        CHECKS.certify(k + " and " + v + " by " + by, d, 4, 0, want);
    }

    private static void roundedUp() {
        CHECKS.under("rounded up to a double (towards what is greater");
        for (double v : new double[] { 1.0, 1.5, 0.1, 0x1p60, 0x1p-60, Math.nextDown(2.0), Math.nextDown(0x1p60) }) {
            minimized(v, 1.0, -600, Math.nextUp(v));
            minimized(v, -1.0, -600, v);
            minimized(-v, 1.0, -600, Math.nextUp(-v));
            minimized(-v, -1.0, -600, -v);
            minimized(v, 0.0, -600, v);
            minimized(-v, 0.0, -600, -v);
        }
        // Between 1 and the double above it: a quarter, a half and three quarters of the way.
        for (double part : new double[] { 0x1p-54, 0x1p-53, 0x3p-54 }) {
            minimized(1.0, part, 0, Math.nextUp(1.0));
            minimized(-1.0, -part, 0, -1.0);
            minimized(-2.0, part, 0, Math.nextUp(-2.0));
        }
        minimized(1.0, 0x1p-52, 0, Math.nextUp(1.0));
        minimized(-1.0, -0x1p-52, 0, Math.nextDown(-1.0));
        minimized(Math.nextDown(2.0), 0x1p-54, 0, 2.0);
        minimized(-2.0, 0x1p-54, 0, Math.nextUp(-2.0));
        minimized(-2.0, -0x1p-54, 0, -2.0);
    }

    private static void roundedUpOnce() {
        CHECKS.under("exact as a real number, and is rounded up to a double once");
        CertificateDesk d = Desks.of(0, 0);
        for (int j = 0; j < 16; j++) {
            d.column(1.0, 0, 0.0, 0.0);
            d.x(j, 0x1p-57, 0);
        }
        d.constant(1.0);
        CHECKS.certify("sixteen sixty-fourths of a last bit and 1", d, 4, 0, Math.nextUp(1.0));
        for (int j = 0; j < 8; j++) {
            d.x(j, -0x1p-57, 0);
        }
        CHECKS.figure("eight of them either way", d, 4, 0, 1.0);
        CertificateDesk tenths = new CertificateDesk();
        for (int j = 0; j < 3; j++) {
            tenths.column(0.1, 0, 0.0, 0.0);
            tenths.x(j, 1.0, 0);
        }
        CHECKS.certify("three times 0.1", tenths, 4, 0, 0.30000000000000004);
        tenths.x(2, -2.0, 0);
        CHECKS.figure("0.1 and 0.1 less 2 * 0.1", tenths, 4, 0, 0.0);
    }

    /** What is minimized is v0 * v1 * 2 ** (by0 + by1), and the GAP is twice that. */
    private static CertificateDesk square(double v0, int by0, double v1, int by1) {
        CertificateDesk d = Desks.of(0, 2);
        d.pair(0, 1, 1.0);
        d.x(0, v0, by0);
        d.x(1, v1, by1);
        return d;
    }

    /** A double d is what is minimized, but for the least that a product can be above or below it. */
    private static void roundedAtEverySize() {
        CHECKS.under("rounded up to a double, at every size of a double");
        for (int power = -1074; power <= 1023; power++) {
            double one = Math.scalb(1.0, power);
            double below = power == 1023 ? MAX_VALUE : Math.nextDown(Math.scalb(1.0, power + 1));
            for (double size : new double[] { one, below }) {
                for (double d : new double[] { size, -size }) {
                    besideADouble(d, power, 0.0, Checks.text(d));
                    besideADouble(d, power, -Desks.LEAST, Checks.text(d));
                    besideADouble(d, power, Desks.LEAST,
                            d == MAX_VALUE ? Checks.ARITHMETIC : Checks.text(Math.nextUp(d) + 0.0));
                }
            }
        }
    }

    private static void besideADouble(double d, int power, double least, String want) {
        // In two steps, since 2 ** 1074 is no double.
        double mantissa = Math.scalb(Math.scalb(d, -(power / 2)), power / 2 - power);
        CertificateDesk desk = Desks.of(0, 4);
        desk.pair(0, 1, 1.0);
        desk.pair(2, 3, Desks.LEAST);
        desk.x(0, mantissa, power / 2);
        desk.x(1, 1.0, power - power / 2);
        desk.x(2, Desks.LEAST, -600);
        desk.x(3, least, -600);
        CHECKS.certify(d + " and " + least, desk, 4, 0, want);
        CHECKS.sign(d + " and " + least, desk, 4, 0, d > 0.0 ? 1 : -1);
    }

    private static void roundedByTheLastBit() {
        CHECKS.under("rounded up to a double, by the last bit that a figure can have");
        for (int way = -1; way <= 1; way += 2) {
            for (double v : new double[] { 1.0, -1.0 }) {
                CertificateDesk d = lastBit(way, v, -537);
                CHECKS.certify("the least double", d, 4, 0, (way > 0 ? v + 1.0 : v) * MIN_VALUE);
                CHECKS.sign("the least double", d, 4, 0, (int) v);
                CertificateDesk one = lastBit(way, v, 0);
                CHECKS.certify("1", one, 4, 0, way > 0 ? Math.nextUp(v) : v);
                CHECKS.sign("1", one, 4, 0, (int) v);
            }
        }
    }

    /** v * 2 ** (2 * by) and (b - a) ** 3 / 2 or 0 less that, where b - a is the last bit of b. */
    private static CertificateDesk lastBit(int way, double v, int by) {
        double a = Desks.LEAST;
        double b = Desks.ABOVE_LEAST;
        CertificateDesk d = Desks.of(0, 6);
        double[] values = { b, a, b, a };
        for (int j = 0; j < 4; j++) {
            d.x(j, values[j], -600);
        }
        d.pair(0, 0, way * b);
        d.pair(2, 2, way * -3.0 * a);
        d.pair(3, 1, way * b);
        d.pair(3, 3, way * b);
        d.pair(1, 1, way * -a);
        d.pair(5, 4, 1.0);
        d.x(4, v, by);
        d.x(5, 1.0, by);
        return d;
    }

    private static void roundedToZero() {
        CHECKS.under("what comes to 0 so is 0.0, never -0.0");
        CHECKS.certify("half of the least double, below 0", square(-1.0, -538, 1.0, -537), 4, 0, 0.0);
        CHECKS.certify("just above the least double, below 0", square(-Math.nextDown(1.0), -537, 1.0, -537), 4, 0, 0.0);
        CHECKS.certify("half of the least double, below 0", square(-1.0, -538, 1.0, -538), 3, 0, 0.0);
        CertificateDesk least = square(Desks.LEAST, -600, -Desks.LEAST, -600);
        CHECKS.certify("the least of all, below 0", least, 4, 0, 0.0);
        CHECKS.certify("the least of all, below 0", least, 3, 0, 0.0);
        minimized(1.0, -1.0, 0, 0.0);
        minimized(-1.0, 1.0, 0, 0.0);
        minimized(-0.0, -0.0, 0, 0.0);
        CertificateDesk d = new CertificateDesk();
        d.row(3, -1.0, 1.0);
        d.column(-1.0, 3, -1.0, 1.0);
        d.entry(0, 0, 1.0);
        d.y(0, -1.0, 0);
        for (int what : new int[] { 0, 1, 2, 5, 6, 7 }) {
            CHECKS.figure("0 that is no sum of zeros", d, what, 0, 0.0);
        }
    }

    private static void roundedAmongTheLeast() {
        CHECKS.under("rounded up to a double: the least doubles");
        CHECKS.certify("least", square(1.0, -537, 1.0, -537), 4, 0, MIN_VALUE);
        CHECKS.certify("least, below 0", square(-1.0, -537, 1.0, -537), 4, 0, -MIN_VALUE);
        CHECKS.certify("just above the least", square(Math.nextUp(1.0), -537, 1.0, -537), 4, 0, 2 * MIN_VALUE);
        CHECKS.certify("just below 0 less the least", square(-Math.nextUp(1.0), -537, 1.0, -537), 4, 0, -MIN_VALUE);
        CHECKS.certify("below the least", square(Desks.LEAST, -600, Desks.LEAST, -600), 4, 0, MIN_VALUE);
        CHECKS.certify("below the least", square(Desks.LEAST, -600, Desks.LEAST, -600), 3, 0, MIN_VALUE);
        CHECKS.certify("normal", square(1.0, -511, 1.0, -511), 4, 0, MIN_NORMAL);
        CHECKS.certify("just below normal", square(FULL, -575, 1.0, -500), 4, 0, MIN_NORMAL);
        CHECKS.certify("just above normal, below 0", square(-FULL, -575, 1.0, -500), 4, 0, -Math.nextDown(MIN_NORMAL));
        CHECKS.certify("above normal", square(FULL, -574, 1.0, -500), 4, 0, Math.nextDown(2 * MIN_NORMAL));
        CHECKS.certify("above normal, below 0", square(-FULL, -574, 1.0, -500), 4, 0, -Math.nextDown(2 * MIN_NORMAL));
    }

    private static void belowAllDoubles() {
        CHECKS.under("what is below all doubles is the least finite one");
        CertificateDesk d = square(FULL, 471, -1.0, 500);
        CHECKS.figure("the least finite one", d, 4, 0, -MAX_VALUE);
        CHECKS.certify("twice that", d, 3, 0, -MAX_VALUE);
        CHECKS.sign("twice that", d, 3, 0, -1);
        d.constant(-Desks.LEAST);
        CHECKS.figure("just below it", d, 4, 0, -MAX_VALUE);
        d.constant(Desks.LEAST);
        CHECKS.figure("just above it", d, 4, 0, Math.nextUp(-MAX_VALUE));
        CHECKS.figure("2 ** 1024 below 0", square(-1.0, 512, 1.0, 512), 4, 0, -MAX_VALUE);
        CHECKS.figure("2 ** 1320 below 0", square(-Desks.MOST, 600, Desks.MOST, 600), 4, 0, -MAX_VALUE);
        CHECKS.figure("2 ** 1321 below 0", square(-Desks.MOST, 600, Desks.MOST, 600), 3, 0, -MAX_VALUE);
    }

    private static void aboveAllDoubles() {
        CHECKS.under("ArithmeticException: it is not finite as a double");
        CertificateDesk d = square(FULL, 471, 1.0, 500);
        CHECKS.figure("the greatest finite one", d, 4, 0, MAX_VALUE);
        d.constant(-Desks.LEAST);
        CHECKS.figure("just below it", d, 4, 0, MAX_VALUE);
        d.constant(Desks.LEAST);
        CHECKS.certify("just above it", d, 4, 0, Checks.ARITHMETIC);
        CHECKS.sign("just above it", d, 4, 0, 1);
        CHECKS.certify("twice that", d, 3, 0, Checks.ARITHMETIC);
        CHECKS.sign("twice that", d, 3, 0, 1);
        CertificateDesk half = square(FULL, 470, 1.0, 500);
        CHECKS.figure("half of the greatest finite one", half, 4, 0, MAX_VALUE / 2);
        CHECKS.figure("twice that", half, 3, 0, MAX_VALUE);
        CertificateDesk great = square(Desks.MOST, 600, Desks.MOST, 600);
        CHECKS.certify("2 ** 1320", great, 4, 0, Checks.ARITHMETIC);
        CHECKS.certify("2 ** 1321", great, 3, 0, Checks.ARITHMETIC);
        CHECKS.sign("2 ** 1321", great, 3, 0, 1);
        CHECKS.figure("its r", great, 7, 0, 0x1p660);
    }
}
