/** For each promise: ordinary inputs, the edges that the document names, and wrong inputs. */
public final class PromiseTest {
    private static final double MOST = Desks.MOST;
    private static final double LEAST = Desks.LEAST;
    private static final double[] REFUSED = Desks.REFUSED;
    private static final double[] TAKEN = Desks.TAKEN;

    private static final Checks CHECKS = new Checks();

    public static void main(String[] args) {
        newObject();
        constant();
        row();
        rowLimitsNotLookedAt();
        column();
        columnLimitsNotLookedAt();
        entry();
        hundredthEntry();
        pair();
        sixtiethPair();
        values();
        valuesOfEitherSign();
        valuesGivenAgain();
        rowFigures();
        columnFigures();
        dualFigures();
        gap();
        gapOfAbsentLimits();
        refusedFigures();
        figuresOfNone();
        numberNotLookedAt();
        roundingUp();
        roundingAtTheEnds();
        signs();
        signsOfAllFigures();
        signWhereRoundedToZero();
        signWhereNotFinite();
        lastBit();
        CHECKS.end();
    }

    private static void certify(CertificateDesk d, int what, int k, double want) {
        CHECKS.doubles("certify(" + what + ", " + k + ")", () -> d.certify(what, k), want);
    }

    private static void certify(CertificateDesk d, int what, int k, String want) {
        CHECKS.doubles("certify(" + what + ", " + k + ")", () -> d.certify(what, k), want);
    }

    private static void sign(CertificateDesk d, int what, int k, int want) {
        CHECKS.ints("sign(" + what + ", " + k + ")", () -> d.sign(what, k), want);
    }

    private static void newObject() {
        CHECKS.under("Promise 1: a new object: no rows, no columns, K 0.0");
        CertificateDesk d = new CertificateDesk();
        for (int what = 0; what <= 4; what++) {
            certify(d, what, -1, 0.0);
            sign(d, what, 99, 0);
        }
        for (int what = 5; what <= 7; what++) {
            certify(d, what, 0, Checks.INDEX);
        }
        CHECKS.ints("first row", () -> d.row(0, 0.0, 0.0), 0);
        CHECKS.ints("first column", () -> d.column(0.0, 0, 0.0, 0.0), 0);
        certify(d, 5, 0, 0.0);
        certify(d, 6, 0, 0.0);
        certify(d, 7, 0, 0.0);
    }

    private static void constant() {
        CHECKS.under("Promise 2: K is v");
        CertificateDesk d = new CertificateDesk();
        for (double v : TAKEN) {
            CHECKS.done("constant(" + v + ")", () -> d.constant(v));
            certify(d, 4, 0, v + 0.0);
            certify(d, 3, 0, 0.0);
        }
        d.constant(3.5);
        for (double v : REFUSED) {
            CHECKS.voids("constant(" + v + ")", () -> d.constant(v), Checks.ARGUMENT);
            certify(d, 4, 0, 3.5);
        }
    }

    private static void row() {
        CHECKS.under("Promise 3: a further row");
        CertificateDesk d = new CertificateDesk();
        for (int has : new int[] { -1, 4, 5, Integer.MIN_VALUE, Integer.MAX_VALUE }) {
            CHECKS.ints("row of has " + has, () -> d.row(has, 0.0, 0.0), Checks.ARGUMENT);
        }
        for (double v : REFUSED) {
            CHECKS.ints("row low " + v, () -> d.row(1, v, 0.0), Checks.ARGUMENT);
            CHECKS.ints("row low of both " + v, () -> d.row(3, v, 0.0), Checks.ARGUMENT);
            CHECKS.ints("row high " + v, () -> d.row(2, 0.0, v), Checks.ARGUMENT);
            CHECKS.ints("row high of both " + v, () -> d.row(3, 0.0, v), Checks.ARGUMENT);
        }
        CHECKS.ints("row 0", () -> d.row(0, Double.NaN, Double.NaN), 0);
        CHECKS.ints("row 1", () -> d.row(1, MOST, Double.NaN), 1);
        CHECKS.ints("row 2", () -> d.row(2, Double.POSITIVE_INFINITY, -LEAST), 2);
        CHECKS.ints("row 3", () -> d.row(3, 5.0, 4.0), 3);
        certify(d, 5, 0, 0.0);
        certify(d, 5, 1, MOST);
        certify(d, 5, 2, LEAST);
        certify(d, 5, 3, 5.0);
        for (int k = 4; k < 12; k++) {
            int number = k;
            CHECKS.ints("row " + k, () -> d.row(0, 0.0, 0.0), number);
        }
        CHECKS.ints("row of 12", () -> d.row(0, 0.0, 0.0), Checks.INDEX);
        CHECKS.ints("wrong row of 12", () -> d.row(4, 0.0, 0.0), Checks.ARGUMENT);
        CHECKS.ints("wrong low of 12", () -> d.row(1, Double.NaN, 0.0), Checks.ARGUMENT);
        certify(d, 5, 11, 0.0);
        certify(d, 5, 12, Checks.INDEX);
    }

    private static void rowLimitsNotLookedAt() {
        CHECKS.under("Promise 3: low, high .. if has has the bit 1, 2 (not looked at else)");
        for (double v : REFUSED) {
            CertificateDesk d = new CertificateDesk();
            CHECKS.ints("none, " + v, () -> d.row(0, v, v), 0);
            CHECKS.ints("low alone, " + v, () -> d.row(1, 4.0, v), 1);
            CHECKS.ints("high alone, " + v, () -> d.row(2, v, -5.0), 2);
            certify(d, 5, 0, 0.0);
            certify(d, 5, 1, 4.0);
            certify(d, 5, 2, 5.0);
            d.y(0, 1.0, 0);
            d.y(1, -1.0, 0);
            d.y(2, 1.0, 0);
            certify(d, 3, 0, 0.0);
            certify(d, 2, 0, 1.0);
        }
    }

    private static void column() {
        CHECKS.under("Promise 4: a further column");
        CertificateDesk d = new CertificateDesk();
        for (int has : new int[] { -1, 4, 7, Integer.MIN_VALUE, Integer.MAX_VALUE }) {
            CHECKS.ints("column of has " + has, () -> d.column(0.0, has, 0.0, 0.0), Checks.ARGUMENT);
        }
        for (double v : REFUSED) {
            CHECKS.ints("column c " + v, () -> d.column(v, 0, 0.0, 0.0), Checks.ARGUMENT);
            CHECKS.ints("column low " + v, () -> d.column(0.0, 1, v, 0.0), Checks.ARGUMENT);
            CHECKS.ints("column high " + v, () -> d.column(0.0, 2, 0.0, v), Checks.ARGUMENT);
            CHECKS.ints("column both " + v, () -> d.column(0.0, 3, 0.0, v), Checks.ARGUMENT);
        }
        CHECKS.ints("column 0", () -> d.column(7.0, 0, Double.NaN, Double.NaN), 0);
        CHECKS.ints("column 1", () -> d.column(-MOST, 1, MOST, Double.NaN), 1);
        CHECKS.ints("column 2", () -> d.column(LEAST, 2, Double.NaN, -3.0), 2);
        CHECKS.ints("column 3", () -> d.column(-0.0, 3, 5.0, -6.0), 3);
        certify(d, 7, 0, 7.0);
        certify(d, 7, 1, -MOST);
        certify(d, 7, 2, LEAST);
        certify(d, 7, 3, 0.0);
        certify(d, 6, 0, 0.0);
        certify(d, 6, 1, MOST);
        certify(d, 6, 2, 3.0);
        certify(d, 6, 3, 6.0);
        for (int k = 4; k < 16; k++) {
            int number = k;
            CHECKS.ints("column " + k, () -> d.column(1.0, 0, 0.0, 0.0), number);
        }
        CHECKS.ints("column of 16", () -> d.column(0.0, 0, 0.0, 0.0), Checks.INDEX);
        CHECKS.ints("wrong column of 16", () -> d.column(Double.NaN, 0, 0.0, 0.0), Checks.ARGUMENT);
        certify(d, 7, 15, 1.0);
        certify(d, 7, 16, Checks.INDEX);
    }

    private static void columnLimitsNotLookedAt() {
        CHECKS.under("Promise 4: likewise");
        for (double v : REFUSED) {
            CertificateDesk d = new CertificateDesk();
            CHECKS.ints("none, " + v, () -> d.column(1.0, 0, v, v), 0);
            CHECKS.ints("low alone, " + v, () -> d.column(-1.0, 1, 4.0, v), 1);
            CHECKS.ints("high alone, " + v, () -> d.column(1.0, 2, v, -5.0), 2);
            certify(d, 6, 0, 0.0);
            certify(d, 6, 1, 4.0);
            certify(d, 6, 2, 5.0);
            certify(d, 3, 0, 0.0);
            certify(d, 2, 0, 1.0);
        }
    }

    private static CertificateDesk fullGrid() {
        CertificateDesk d = new CertificateDesk();
        for (int i = 0; i < 12; i++) {
            d.row(2, 0.0, 0.0);
        }
        for (int j = 0; j < 16; j++) {
            d.column(0.0, 0, 0.0, 0.0);
        }
        return d;
    }

    private static void entry() {
        CHECKS.under("Promise 5: a[i][j] is v");
        CertificateDesk d = new CertificateDesk();
        CHECKS.ints("entry of nothing", () -> d.entry(0, 0, 1.0), Checks.ARGUMENT);
        d.row(2, 0.0, 0.0);
        CHECKS.ints("entry of no column", () -> d.entry(0, 0, 1.0), Checks.ARGUMENT);
        d.column(0.0, 0, 0.0, 0.0);
        d.column(0.0, 0, 0.0, 0.0);
        int[][] absent = { { 1, 0 }, { 0, 2 }, { -1, 0 }, { 0, -1 }, { Integer.MIN_VALUE, 0 }, { 0, Integer.MAX_VALUE } };
        for (int[] at : absent) {
            CHECKS.ints("entry at " + at[0] + ", " + at[1], () -> d.entry(at[0], at[1], 1.0), Checks.ARGUMENT);
        }
        for (double v : REFUSED) {
            CHECKS.ints("entry of " + v, () -> d.entry(0, 0, v), Checks.ARGUMENT);
        }
        CHECKS.ints("entry of 0.0", () -> d.entry(0, 0, -0.0), 1);
        CHECKS.ints("entry again", () -> d.entry(0, 0, 3.0), Checks.STATE);
        CHECKS.ints("wrong entry again", () -> d.entry(0, 0, Double.NaN), Checks.ARGUMENT);
        d.x(0, 1.0, 0);
        d.x(1, 1.0, 0);
        certify(d, 5, 0, 0.0);
        CHECKS.ints("second entry", () -> d.entry(0, 1, 2.5), 2);
        certify(d, 5, 0, 2.5);
        CertificateDesk full = fullGrid();
        for (int n = 0; n < 100; n++) {
            int at = n;
            CHECKS.ints("entry " + n, () -> full.entry(at / 16, at % 16, 1.0), at + 1);
        }
        CHECKS.ints("entry of 100", () -> full.entry(11, 15, 1.0), Checks.INDEX);
        CHECKS.ints("entry of 100 again", () -> full.entry(0, 0, 1.0), Checks.STATE);
        CHECKS.ints("wrong entry of 100", () -> full.entry(12, 0, 1.0), Checks.ARGUMENT);
        full.x(15, 1.0, 0);
        certify(full, 5, 5, 1.0);
        certify(full, 5, 11, 0.0);
    }

    private static void hundredthEntry() {
        CHECKS.under("Promise 5: (0.0, too: then it is there): how many entries .. there are 100");
        CertificateDesk d = fullGrid();
        for (int n = 0; n < 99; n++) {
            d.entry(n % 12, n / 12, 0.0);
        }
        CHECKS.ints("there already, of 99", () -> d.entry(0, 0, 1.0), Checks.STATE);
        CHECKS.ints("the hundredth", () -> d.entry(11, 15, -0.0), 100);
        CHECKS.ints("there already, of 100", () -> d.entry(11, 15, 1.0), Checks.STATE);
        CHECKS.ints("one more", () -> d.entry(11, 14, 1.0), Checks.INDEX);
        CHECKS.ints("one more of 0.0", () -> d.entry(11, 14, 0.0), Checks.INDEX);
        for (int j = 0; j < 16; j++) {
            d.x(j, 1.0, 0);
        }
        certify(d, 0, 0, 0.0);
    }

    private static void pair() {
        CHECKS.under("Promise 6: q[i][j] and q[j][i] are v");
        CertificateDesk d = new CertificateDesk();
        CHECKS.ints("pair of nothing", () -> d.pair(0, 0, 1.0), Checks.ARGUMENT);
        d.column(0.0, 0, 0.0, 0.0);
        d.column(0.0, 0, 0.0, 0.0);
        int[][] absent = { { 2, 0 }, { 0, 2 }, { -1, 0 }, { 0, -1 }, { Integer.MIN_VALUE, 1 }, { 1, Integer.MAX_VALUE } };
        for (int[] at : absent) {
            CHECKS.ints("pair at " + at[0] + ", " + at[1], () -> d.pair(at[0], at[1], 1.0), Checks.ARGUMENT);
        }
        for (double v : REFUSED) {
            CHECKS.ints("pair of " + v, () -> d.pair(0, 1, v), Checks.ARGUMENT);
        }
        CHECKS.ints("pair 1, 0", () -> d.pair(1, 0, 3.0), 1);
        CHECKS.ints("pair 1, 0 again", () -> d.pair(1, 0, 3.0), Checks.STATE);
        CHECKS.ints("pair 0, 1", () -> d.pair(0, 1, 3.0), Checks.STATE);
        CHECKS.ints("wrong pair 0, 1", () -> d.pair(0, 1, Double.NaN), Checks.ARGUMENT);
        CHECKS.ints("pair 0, 0", () -> d.pair(0, 0, 0.0), 2);
        CHECKS.ints("pair 0, 0 again", () -> d.pair(0, 0, 5.0), Checks.STATE);
        CHECKS.ints("pair 1, 1", () -> d.pair(1, 1, 7.0), 3);
        d.x(0, 2.0, 0);
        d.x(1, 5.0, 0);
        certify(d, 7, 0, 15.0);
        certify(d, 7, 1, 41.0);
        certify(d, 4, 0, 3.0 * 10.0 + 7.0 * 25.0 / 2.0);
        CertificateDesk full = fullGrid();
        int made = 0;
        for (int i = 0; i < 16 && made < 60; i++) {
            for (int j = i; j < 16 && made < 60; j++) {
                int a = i;
                int b = j;
                made++;
                CHECKS.ints("pair " + made, () -> full.pair(b, a, 1.0), made);
            }
        }
        CHECKS.ints("pair of 60", () -> full.pair(15, 15, 1.0), Checks.INDEX);
        CHECKS.ints("pair of 60 again", () -> full.pair(0, 3, 1.0), Checks.STATE);
        CHECKS.ints("wrong pair of 60", () -> full.pair(16, 0, 1.0), Checks.ARGUMENT);
        full.x(15, 1.0, 0);
        certify(full, 7, 0, 1.0);
        certify(full, 7, 15, 0.0);
    }

    private static void sixtiethPair() {
        CHECKS.under("Promise 6: (i may be j): how many pairs .. there are 60");
        CertificateDesk d = fullGrid();
        int made = 0;
        for (int i = 0; made < 59; i++) {
            for (int j = 0; j <= i && made < 59; j++) {
                d.pair(j, i, 0.0);
                made++;
            }
        }
        CHECKS.ints("there already, of 59", () -> d.pair(1, 0, 1.0), Checks.STATE);
        CHECKS.ints("the sixtieth", () -> d.pair(15, 15, -0.0), 60);
        CHECKS.ints("there already, of 60", () -> d.pair(15, 15, 1.0), Checks.STATE);
        CHECKS.ints("there already, other way round", () -> d.pair(3, 1, 1.0), Checks.STATE);
        CHECKS.ints("one more", () -> d.pair(15, 14, 1.0), Checks.INDEX);
        CHECKS.ints("one more, other way round", () -> d.pair(14, 15, 0.0), Checks.INDEX);
        for (int j = 0; j < 16; j++) {
            d.x(j, 1.0, 0);
        }
        certify(d, 4, 0, 0.0);
    }

    private static void values() {
        CHECKS.under("Promises 7 and 8: x of column j, y of row i is v times 2 ** by");
        CertificateDesk d = new CertificateDesk();
        CHECKS.voids("x of none", () -> d.x(0, 1.0, 0), Checks.INDEX);
        CHECKS.voids("y of none", () -> d.y(0, 1.0, 0), Checks.INDEX);
        CHECKS.voids("wrong x of none", () -> d.x(0, Double.NaN, 0), Checks.ARGUMENT);
        CHECKS.voids("wrong y of none", () -> d.y(0, 1.0, 601), Checks.ARGUMENT);
        d.row(0, 0.0, 0.0);
        d.column(0.0, 2, 0.0, 0.0);
        d.column(0.0, 2, 0.0, 0.0);
        for (int k : new int[] { -1, 2, Integer.MIN_VALUE, Integer.MAX_VALUE }) {
            CHECKS.voids("x of " + k, () -> d.x(k, 1.0, 0), Checks.INDEX);
            CHECKS.voids("y of " + k, () -> d.y(k, 1.0, 0), Checks.INDEX);
        }
        CHECKS.voids("y of 1", () -> d.y(1, 1.0, 0), Checks.INDEX);
        CHECKS.done("x 3.0", () -> d.x(0, 3.0, 1));
        CHECKS.done("y 3.0", () -> d.y(0, 3.0, -1));
        for (double v : REFUSED) {
            CHECKS.voids("x " + v, () -> d.x(0, v, 0), Checks.ARGUMENT);
            CHECKS.voids("y " + v, () -> d.y(0, v, 0), Checks.ARGUMENT);
        }
        for (int by : new int[] { 601, -601, Integer.MIN_VALUE, Integer.MAX_VALUE }) {
            CHECKS.voids("x by " + by, () -> d.x(0, 1.0, by), Checks.ARGUMENT);
            CHECKS.voids("y by " + by, () -> d.y(0, 1.0, by), Checks.ARGUMENT);
            CHECKS.voids("x 0.0 by " + by, () -> d.x(0, 0.0, by), Checks.ARGUMENT);
        }
        certify(d, 6, 0, 6.0);
        certify(d, 6, 1, 0.0);
        certify(d, 2, 0, 1.5);
    }

    /** r is x[0] of the one column and y[0] negated of the other. */
    private static void valuesOfEitherSign() {
        CHECKS.under("Promises 7 and 8: v times 2 ** by, by -600..600");
        for (int by : new int[] { -600, -599, -1, 0, 1, 599, 600 }) {
            CertificateDesk d = new CertificateDesk();
            d.row(0, 0.0, 0.0);
            d.column(0.0, 0, 0.0, 0.0);
            d.column(0.0, 0, 0.0, 0.0);
            d.pair(0, 0, 1.0);
            d.entry(0, 1, 1.0);
            for (double v : TAKEN) {
                CHECKS.done("x " + v + " by " + by, () -> d.x(0, v, by));
                CHECKS.done("y " + v + " by " + by, () -> d.y(0, v, by));
                double scaled = Math.scalb(v, by);
                certify(d, 7, 0, scaled + 0.0);
                certify(d, 7, 1, 0.0 - scaled);
                certify(d, 2, 0, Math.abs(scaled));
            }
            d.x(0, 3.0, 0);
            d.y(0, 5.0, 0);
            // v itself is looked at, not v times 2 ** by.
            for (double v : REFUSED) {
                CHECKS.voids("x " + v + " by " + by, () -> d.x(0, v, by), Checks.ARGUMENT);
                CHECKS.voids("y " + v + " by " + by, () -> d.y(0, v, by), Checks.ARGUMENT);
            }
            certify(d, 7, 0, 3.0);
            certify(d, 7, 1, -5.0);
        }
    }

    private static void valuesGivenAgain() {
        CHECKS.under("Promises 7 and 8: x, y is v: what was given before is gone");
        CertificateDesk d = Desks.some();
        String before = Desks.told(Desks.some());
        d.x(0, MOST, 600);
        d.y(1, -LEAST, -600);
        d.x(2, 0.0, 0);
        d.x(0, 0.75, 2);
        d.y(1, 2.25, 0);
        d.x(2, 3.5, 0);
        CHECKS.due("x and y as they were", Desks.told(d), before);
    }

    private static void rowFigures() {
        CHECKS.under("Promise 9: what 0 and 5");
        CertificateDesk d = new CertificateDesk();
        d.row(3, -1.0, 1.0);
        d.row(3, 10.0, 4.0);
        d.row(0, 0.0, 0.0);
        d.column(0.0, 0, 0.0, 0.0);
        d.column(0.0, 0, 0.0, 0.0);
        d.entry(0, 0, 1.0);
        d.entry(1, 0, 2.0);
        d.entry(1, 1, -1.0);
        d.entry(2, 1, 1.0);
        d.x(0, 1.0, 0);
        d.x(1, -3.0, 0);
        certify(d, 5, 0, 0.0);
        certify(d, 5, 1, 5.0);
        certify(d, 5, 2, 0.0);
        certify(d, 0, 5, 5.0);
        d.x(1, -7.0, 0);
        certify(d, 5, 1, 5.0);
        d.x(1, -6.0, 0);
        certify(d, 5, 1, 4.0);
        d.x(0, -9.0, 0);
        certify(d, 5, 0, 8.0);
        d.x(0, 9.0, 0);
        certify(d, 5, 0, 8.0);
        certify(d, 5, 1, 20.0);
        certify(d, 0, 0, 20.0);
        d.x(0, 1.0, 0);
        d.x(1, 600.0, 0);
        certify(d, 5, 1, 608.0);
        certify(d, 5, 2, 0.0);
    }

    private static void columnFigures() {
        CHECKS.under("Promise 9: what 1 and 6");
        CertificateDesk d = new CertificateDesk();
        d.column(0.0, 1, 2.0, 0.0);
        d.column(0.0, 2, 0.0, -2.0);
        d.column(0.0, 3, -1.0, 1.0);
        d.column(0.0, 0, 0.0, 0.0);
        d.x(3, 1.0, 600);
        certify(d, 6, 0, 2.0);
        certify(d, 6, 1, 2.0);
        certify(d, 6, 2, 0.0);
        certify(d, 6, 3, 0.0);
        certify(d, 1, 0, 2.0);
        d.x(2, -5.0, 0);
        certify(d, 6, 2, 4.0);
        certify(d, 1, 0, 4.0);
        d.x(2, 5.5, 0);
        certify(d, 6, 2, 4.5);
        d.x(0, 2.0, 0);
        certify(d, 6, 0, 0.0);
        d.x(0, Math.nextDown(2.0), 0);
        certify(d, 6, 0, 0x1p-52);
    }

    private static void dualFigures() {
        CHECKS.under("Promise 9: what 2 and 7");
        CertificateDesk d = new CertificateDesk();
        d.column(5.0, 1, 0.0, 0.0);
        certify(d, 2, 0, 0.0);
        d.column(-5.0, 2, 0.0, 0.0);
        certify(d, 2, 0, 0.0);
        d.column(-2.0, 1, 0.0, 0.0);
        certify(d, 2, 0, 2.0);
        d.column(3.0, 2, 0.0, 0.0);
        certify(d, 2, 0, 3.0);
        d.column(9.0, 3, 0.0, 0.0);
        certify(d, 2, 0, 3.0);
        d.column(4.0, 0, 0.0, 0.0);
        certify(d, 2, 0, 4.0);
        d.column(-4.5, 0, 0.0, 0.0);
        certify(d, 2, 0, 4.5);
        d.row(1, 0.0, 0.0);
        d.row(2, 0.0, 0.0);
        d.y(0, 50.0, 0);
        d.y(1, -50.0, 0);
        certify(d, 2, 0, 4.5);
        d.y(0, -6.0, 0);
        certify(d, 2, 0, 6.0);
        d.y(1, 7.0, 0);
        certify(d, 2, 0, 7.0);
        d.entry(1, 0, 2.0);
        certify(d, 7, 0, -9.0);
        certify(d, 2, 0, 9.0);
    }

    private static void gap() {
        CHECKS.under("Promise 9: what 3");
        CertificateDesk d = new CertificateDesk();
        d.constant(1000.0);
        d.row(3, 2.0, 3.0);
        d.column(5.0, 3, -1.0, 4.0);
        d.column(-7.0, 3, -2.0, 6.0);
        d.entry(0, 0, 1.0);
        d.entry(0, 1, 2.0);
        d.pair(0, 0, 2.0);
        d.pair(0, 1, 1.0);
        d.x(0, 3.0, 0);
        d.x(1, 2.0, 0);
        // c * x = 1, q * x * x = 18 + 12 = 30, r = 5 + 6 + 2 and -7 + 3.
        certify(d, 7, 0, 13.0);
        certify(d, 7, 1, -4.0);
        certify(d, 4, 0, 1016.0);
        certify(d, 3, 0, 31.0 + 13.0 + 24.0);
        d.y(0, 1.0, 0);
        certify(d, 3, 0, 31.0 - 2.0 + 12.0 + 36.0);
        d.y(0, -4.0, 0);
        certify(d, 7, 0, 17.0);
        certify(d, 7, 1, 4.0);
        certify(d, 3, 0, 31.0 + 12.0 + 17.0 + 8.0);
    }

    private static void gapOfAbsentLimits() {
        CHECKS.under("Promise 9: what 3, where these are there");
        CertificateDesk d = new CertificateDesk();
        d.row(2, 0.0, 3.0);
        d.row(1, 3.0, 0.0);
        d.column(1.0, 2, 0.0, 5.0);
        d.column(-1.0, 1, 5.0, 0.0);
        d.y(0, 1.0, 0);
        d.y(1, -1.0, 0);
        certify(d, 3, 0, 0.0);
        sign(d, 3, 0, 0);
        d.y(0, -1.0, 0);
        certify(d, 3, 0, 3.0);
        d.y(1, 1.0, 0);
        certify(d, 3, 0, 0.0);
        d.y(0, 0.0, 0);
        certify(d, 3, 0, -3.0);
        sign(d, 3, 0, -1);
    }

    private static void refusedFigures() {
        CHECKS.under("Promises 9 and 10: IllegalArgumentException, IndexOutOfBoundsException");
        CertificateDesk d = new CertificateDesk();
        d.row(0, 0.0, 0.0);
        d.column(0.0, 0, 0.0, 0.0);
        d.column(0.0, 0, 0.0, 0.0);
        for (int what : new int[] { -1, 8, Integer.MIN_VALUE, Integer.MAX_VALUE }) {
            certify(d, what, 0, Checks.ARGUMENT);
            certify(d, what, -1, Checks.ARGUMENT);
            CHECKS.ints("sign of " + what, () -> d.sign(what, 0), Checks.ARGUMENT);
        }
        for (int k : new int[] { -1, 2, Integer.MIN_VALUE, Integer.MAX_VALUE }) {
            for (int what = 0; what <= 7; what++) {
                int w = what;
                if (what < 5) {
                    certify(d, what, k, 0.0);
                    sign(d, what, k, 0);
                } else {
                    certify(d, what, k, Checks.INDEX);
                    CHECKS.ints("sign of none", () -> d.sign(w, k), Checks.INDEX);
                }
            }
        }
        certify(d, 5, 1, Checks.INDEX);
        certify(d, 6, 1, 0.0);
        certify(d, 7, 1, 0.0);
    }

    private static void figuresOfNone() {
        CHECKS.under("Promise 9: (0 to 2: 0.0 of none)");
        CertificateDesk rows = Desks.of(3, 0);
        CertificateDesk columns = Desks.of(0, 3);
        for (int what = 0; what <= 4; what++) {
            CHECKS.figure("none at all", new CertificateDesk(), what, 0, 0.0);
            CHECKS.figure("no column", rows, what, 0, 0.0);
            CHECKS.figure("no row", columns, what, 0, 0.0);
        }
        for (int what = 5; what <= 7; what++) {
            CHECKS.refused("none at all", new CertificateDesk(), what, 0, Checks.INDEX);
        }
        CHECKS.figure("row of no column", rows, 5, 2, 0.0);
        CHECKS.refused("row after the last", rows, 5, 3, Checks.INDEX);
        CHECKS.refused("column of none", rows, 6, 0, Checks.INDEX);
        CHECKS.refused("column of none", rows, 7, 0, Checks.INDEX);
        CHECKS.refused("row of none", columns, 5, 0, Checks.INDEX);
        CHECKS.figure("column of no row", columns, 6, 2, 0.0);
        CHECKS.figure("column of no row", columns, 7, 2, 0.0);
        CHECKS.refused("column after the last", columns, 6, 3, Checks.INDEX);
        CHECKS.refused("column after the last", columns, 7, 3, Checks.INDEX);
    }

    private static void numberNotLookedAt() {
        CHECKS.under("Promise 9: there is no k (5 to 7; else k is not looked at)");
        double[] due = { 9.5, 1.5, 25.0, 31.0 - 60.0 - 73.5 + 21.0, 11.0 + 31.0 - 30.0 - 36.75 };
        for (int k : new int[] { 0, 1, 2, 3, 11, 12, 15, 16, -1, Integer.MIN_VALUE, Integer.MAX_VALUE }) {
            CertificateDesk d = Desks.some();
            for (int what = 0; what <= 4; what++) {
                CHECKS.figure("some", d, what, k, due[what]);
            }
            for (int what = 5; what <= 7; what++) {
                boolean there = k >= 0 && k < (what == 5 ? 2 : 3);
                if (!there) {
                    CHECKS.refused("some", d, what, k, Checks.INDEX);
                }
            }
        }
    }

    private static void roundingUp() {
        CHECKS.under("Promise 9: rounded up");
        CertificateDesk d = new CertificateDesk();
        d.column(1.0, 0, 0.0, 0.0);
        d.constant(1.0);
        d.x(0, 1.0, -600);
        certify(d, 4, 0, Math.nextUp(1.0));
        d.x(0, -1.0, -600);
        certify(d, 4, 0, 1.0);
        d.constant(-1.0);
        certify(d, 4, 0, -1.0);
        d.x(0, 1.0, -600);
        certify(d, 4, 0, Math.nextUp(-1.0));
        d.constant(Math.nextDown(2.0));
        certify(d, 4, 0, 2.0);
        d.x(0, 1.0, -52);
        certify(d, 4, 0, 2.0);
        d.x(0, 1.0, -53);
        certify(d, 4, 0, 2.0);
        d.x(0, -1.0, -53);
        certify(d, 4, 0, Math.nextDown(2.0));
        d.x(0, -1.0, -52);
        certify(d, 4, 0, Math.nextDown(Math.nextDown(2.0)));
        d.constant(1.0);
        d.x(0, -1.0, 0);
        certify(d, 4, 0, 0.0);
    }

    /** What is minimized is then v0 * v1 * 2 ** (by0 + by1), and K. */
    private static CertificateDesk square(double v0, int by0, double v1, int by1) {
        CertificateDesk d = new CertificateDesk();
        d.column(0.0, 0, 0.0, 0.0);
        d.column(0.0, 0, 0.0, 0.0);
        d.pair(1, 0, 1.0);
        d.x(0, v0, by0);
        d.x(1, v1, by1);
        return d;
    }

    private static void roundingAtTheEnds() {
        CHECKS.under("Promise 9: rounded up, at the ends");
        double full = 0x1p53 - 1.0;
        CertificateDesk most = square(full, 471, 1.0, 500);
        certify(most, 4, 0, Double.MAX_VALUE);
        most.constant(LEAST);
        certify(most, 4, 0, Checks.ARITHMETIC);
        sign(most, 4, 0, 1);
        most.constant(-LEAST);
        certify(most, 4, 0, Double.MAX_VALUE);
        certify(square(1.0, 512, 1.0, 512), 4, 0, Checks.ARITHMETIC);
        CertificateDesk least = square(full, 471, -1.0, 500);
        certify(least, 4, 0, -Double.MAX_VALUE);
        least.constant(-LEAST);
        certify(least, 4, 0, -Double.MAX_VALUE);
        least.constant(LEAST);
        certify(least, 4, 0, Math.nextUp(-Double.MAX_VALUE));
        certify(square(-1.0, 512, 1.0, 512), 4, 0, -Double.MAX_VALUE);
        certify(square(-MOST, 600, MOST, 600), 4, 0, -Double.MAX_VALUE);
        sign(square(-MOST, 600, MOST, 600), 4, 0, -1);
        certify(square(MOST, 600, MOST, 600), 3, 0, Checks.ARITHMETIC);
        certify(square(1.0, -537, 1.0, -537), 4, 0, Double.MIN_VALUE);
        certify(square(1.0, -537, 1.5, -537), 4, 0, 2 * Double.MIN_VALUE);
        certify(square(1.0, -538, 1.0, -537), 4, 0, Double.MIN_VALUE);
        certify(square(LEAST, -600, LEAST, -600), 4, 0, Double.MIN_VALUE);
        certify(square(1.0, -537, -1.0, -537), 4, 0, -Double.MIN_VALUE);
        certify(square(1.0, -537, -1.5, -537), 4, 0, -Double.MIN_VALUE);
        certify(square(1.0, -538, -1.0, -537), 4, 0, 0.0);
        certify(square(LEAST, -600, -LEAST, -600), 4, 0, 0.0);
        sign(square(LEAST, -600, -LEAST, -600), 4, 0, -1);
        certify(square(full, -475, 1.0, -600), 4, 0, Double.MIN_NORMAL);
        certify(square(-full, -475, 1.0, -600), 4, 0, -Math.nextDown(Double.MIN_NORMAL));
        certify(square(full, -474, 1.0, -600), 4, 0, Math.nextDown(2 * Double.MIN_NORMAL));
    }

    private static void signs() {
        CHECKS.under("Promise 10: by the exact sign");
        CertificateDesk d = new CertificateDesk();
        d.row(3, 1.0, 1.0);
        d.column(1.0, 3, 1.0, 1.0);
        d.entry(0, 0, 1.0);
        d.x(0, 1.0, 0);
        d.y(0, 1.0, 0);
        for (int what : new int[] { 0, 1, 2, 3, 5, 6, 7 }) {
            sign(d, what, 0, 0);
        }
        sign(d, 4, 0, 1);
        d.x(0, Math.nextUp(1.0), 0);
        d.y(0, Math.nextUp(1.0), 0);
        sign(d, 0, 0, 1);
        sign(d, 1, 0, 1);
        sign(d, 2, 0, 0);
        sign(d, 5, 0, 1);
        sign(d, 6, 0, 1);
        sign(d, 7, 0, -1);
        d.x(0, -1.0, -600);
        sign(d, 4, 0, -1);
        d.constant(LEAST);
        sign(d, 4, 0, 1);
        d.constant(-LEAST);
        sign(d, 4, 0, -1);
    }

    private static void signsOfAllFigures() {
        CHECKS.under("Promise 10: -1, 0, 1");
        for (int side = -1; side <= 1; side++) {
            CertificateDesk d = new CertificateDesk();
            d.row(2, 0.0, 0.0);
            d.column(side, 2, 0.0, 0.0);
            d.entry(0, 0, 1.0);
            d.x(0, side, 0);
            sign(d, 0, 0, side > 0 ? 1 : 0);
            sign(d, 1, 0, side > 0 ? 1 : 0);
            sign(d, 2, 0, side > 0 ? 1 : 0);
            sign(d, 3, 0, side == 0 ? 0 : 1);
            sign(d, 4, 0, side == 0 ? 0 : 1);
            sign(d, 5, 0, side > 0 ? 1 : 0);
            sign(d, 6, 0, side > 0 ? 1 : 0);
            sign(d, 7, 0, side);
            d.x(0, -1.0, 0);
            sign(d, 3, 0, -side);
            sign(d, 4, 0, -side);
        }
    }

    private static void signWhereRoundedToZero() {
        CHECKS.under("Promise 10: by the exact sign of that figure, before it is rounded");
        CertificateDesk d = square(LEAST, -600, -LEAST, -600);
        for (int what = 3; what <= 4; what++) {
            certify(d, what, 0, 0.0);
            sign(d, what, 0, -1);
        }
        d.x(1, LEAST, -600);
        for (int what = 3; what <= 4; what++) {
            certify(d, what, 0, Double.MIN_VALUE);
            sign(d, what, 0, 1);
        }
        d.x(1, 0.0, -600);
        for (int what = 3; what <= 4; what++) {
            certify(d, what, 0, 0.0);
            sign(d, what, 0, 0);
        }
    }

    private static void signWhereNotFinite() {
        CHECKS.under("Promise 10: (also where certify throws ArithmeticException)");
        CertificateDesk d = square(1.0, 512, 1.0, 512);
        for (int what = 3; what <= 4; what++) {
            certify(d, what, 0, Checks.ARITHMETIC);
            sign(d, what, 0, 1);
            certify(d, what, 0, Checks.ARITHMETIC);
        }
        certify(d, 7, 0, 0x1p512);
        d.x(1, -1.0, 512);
        for (int what = 3; what <= 4; what++) {
            certify(d, what, 0, -Double.MAX_VALUE);
            sign(d, what, 0, -1);
        }
        d.x(1, 0.0, 512);
        for (int what = 3; what <= 4; what++) {
            certify(d, what, 0, 0.0);
            sign(d, what, 0, 0);
        }
    }

    /** b * b * b - 3 * a * b * b + 3 * a * a * b - a * a * a, where b - a is the last bit there is. */
    private static void lastBit() {
        CHECKS.under("Promise 10: before it is rounded");
        double a = LEAST;
        double b = Math.nextUp(LEAST);
        for (int way = 1; way >= -1; way -= 2) {
            CertificateDesk d = new CertificateDesk();
            for (double v : new double[] { b, a, b, a }) {
                int j = d.column(0.0, 0, 0.0, 0.0);
                d.x(j, v, -600);
            }
            d.pair(0, 0, way * b);
            d.pair(2, 2, way * -3.0 * a);
            d.pair(3, 1, way * b);
            d.pair(3, 3, way * b);
            sign(d, 4, 0, way);
            d.pair(1, 1, way * -a);
            sign(d, 4, 0, way);
            sign(d, 3, 0, way);
            certify(d, 4, 0, way > 0 ? Double.MIN_VALUE : 0.0);
            certify(d, 3, 0, way > 0 ? Double.MIN_VALUE : 0.0);
        }
    }
}
