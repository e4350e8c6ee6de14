/** For each promise: ordinary inputs, the edges that the document names, and wrong inputs. */
public final class PromiseTest {
    private static final double MOST = 0x1p60;
    private static final double LEAST = 0x1p-60;
    private static final double[] REFUSED = {
        Double.NaN, Double.POSITIVE_INFINITY, Double.NEGATIVE_INFINITY, Double.MAX_VALUE,
        Double.MIN_VALUE, -Double.MIN_VALUE, Double.MIN_NORMAL, Math.nextUp(MOST), Math.nextDown(-MOST),
        Math.nextDown(LEAST), Math.nextUp(-LEAST), 0x1p61, 0x1p-61,
    };
    private static final double[] TAKEN = { 0.0, -0.0, MOST, -MOST, LEAST, -LEAST, 0.1, -1e17, Math.nextUp(LEAST) };

    private static final Checks CHECKS = new Checks();

    public static void main(String[] args) {
        newObject();
        constant();
        row();
        column();
        entry();
        pair();
        values();
        rowFigures();
        columnFigures();
        dualFigures();
        gap();
        gapOfAbsentLimits();
        refusedFigures();
        roundingUp();
        roundingAtTheEnds();
        signs();
        lastBit();
        CHECKS.end();
    }

    private static void certify(CertificateDesk d, int what, int k, double want) {
        CHECKS.doubles("certify(" + what + ", " + k + ")", () -> d.certify(what, k), want);
    }

    private static void certify(CertificateDesk d, int what, int k, String want) {
        CHECKS.doubles("certify(" + what + ", " + k + ")", () -> d.certify(what, k), want);
    }

    private static void sign(CertificateDesk d, int what, int k, int want) {
        CHECKS.ints("sign(" + what + ", " + k + ")", () -> d.sign(what, k), want);
    }

    private static void newObject() {
        CertificateDesk d = new CertificateDesk();
        for (int what = 0; what <= 4; what++) {
            certify(d, what, -1, 0.0);
            sign(d, what, 99, 0);
        }
        for (int what = 5; what <= 7; what++) {
            certify(d, what, 0, Checks.INDEX);
        }
        CHECKS.ints("first row", () -> d.row(0, 0.0, 0.0), 0);
        CHECKS.ints("first column", () -> d.column(0.0, 0, 0.0, 0.0), 0);
        certify(d, 5, 0, 0.0);
        certify(d, 6, 0, 0.0);
        certify(d, 7, 0, 0.0);
    }

    private static void constant() {
        CertificateDesk d = new CertificateDesk();
        for (double v : TAKEN) {
            CHECKS.done("constant(" + v + ")", () -> d.constant(v));
            certify(d, 4, 0, v + 0.0);
            certify(d, 3, 0, 0.0);
        }
        d.constant(3.5);
        for (double v : REFUSED) {
            CHECKS.voids("constant(" + v + ")", () -> d.constant(v), Checks.ARGUMENT);
            certify(d, 4, 0, 3.5);
        }
    }

    private static void row() {
        CertificateDesk d = new CertificateDesk();
        for (int has : new int[] { -1, 4, 5, Integer.MIN_VALUE, Integer.MAX_VALUE }) {
            CHECKS.ints("row of has " + has, () -> d.row(has, 0.0, 0.0), Checks.ARGUMENT);
        }
        for (double v : REFUSED) {
            CHECKS.ints("row low " + v, () -> d.row(1, v, 0.0), Checks.ARGUMENT);
            CHECKS.ints("row low of both " + v, () -> d.row(3, v, 0.0), Checks.ARGUMENT);
            CHECKS.ints("row high " + v, () -> d.row(2, 0.0, v), Checks.ARGUMENT);
            CHECKS.ints("row high of both " + v, () -> d.row(3, 0.0, v), Checks.ARGUMENT);
        }
        CHECKS.ints("row 0", () -> d.row(0, Double.NaN, Double.NaN), 0);
        CHECKS.ints("row 1", () -> d.row(1, MOST, Double.NaN), 1);
        CHECKS.ints("row 2", () -> d.row(2, Double.POSITIVE_INFINITY, -LEAST), 2);
        CHECKS.ints("row 3", () -> d.row(3, 5.0, 4.0), 3);
        certify(d, 5, 0, 0.0);
        certify(d, 5, 1, MOST);
        certify(d, 5, 2, LEAST);
        certify(d, 5, 3, 5.0);
        for (int k = 4; k < 12; k++) {
            int number = k;
            CHECKS.ints("row " + k, () -> d.row(0, 0.0, 0.0), number);
        }
        CHECKS.ints("row of 12", () -> d.row(0, 0.0, 0.0), Checks.INDEX);
        CHECKS.ints("wrong row of 12", () -> d.row(4, 0.0, 0.0), Checks.ARGUMENT);
        CHECKS.ints("wrong low of 12", () -> d.row(1, Double.NaN, 0.0), Checks.ARGUMENT);
        certify(d, 5, 11, 0.0);
        certify(d, 5, 12, Checks.INDEX);
    }

    private static void column() {
        CertificateDesk d = new CertificateDesk();
        for (int has : new int[] { -1, 4, 7, Integer.MIN_VALUE, Integer.MAX_VALUE }) {
            CHECKS.ints("column of has " + has, () -> d.column(0.0, has, 0.0, 0.0), Checks.ARGUMENT);
        }
        for (double v : REFUSED) {
            CHECKS.ints("column c " + v, () -> d.column(v, 0, 0.0, 0.0), Checks.ARGUMENT);
            CHECKS.ints("column low " + v, () -> d.column(0.0, 1, v, 0.0), Checks.ARGUMENT);
            CHECKS.ints("column high " + v, () -> d.column(0.0, 2, 0.0, v), Checks.ARGUMENT);
            CHECKS.ints("column both " + v, () -> d.column(0.0, 3, 0.0, v), Checks.ARGUMENT);
        }
        CHECKS.ints("column 0", () -> d.column(7.0, 0, Double.NaN, Double.NaN), 0);
        CHECKS.ints("column 1", () -> d.column(-MOST, 1, MOST, Double.NaN), 1);
        CHECKS.ints("column 2", () -> d.column(LEAST, 2, Double.NaN, -3.0), 2);
        CHECKS.ints("column 3", () -> d.column(-0.0, 3, 5.0, -6.0), 3);
        certify(d, 7, 0, 7.0);
        certify(d, 7, 1, -MOST);
        certify(d, 7, 2, LEAST);
        certify(d, 7, 3, 0.0);
        certify(d, 6, 0, 0.0);
        certify(d, 6, 1, MOST);
        certify(d, 6, 2, 3.0);
        certify(d, 6, 3, 6.0);
        for (int k = 4; k < 16; k++) {
            int number = k;
            CHECKS.ints("column " + k, () -> d.column(1.0, 0, 0.0, 0.0), number);
        }
        CHECKS.ints("column of 16", () -> d.column(0.0, 0, 0.0, 0.0), Checks.INDEX);
        CHECKS.ints("wrong column of 16", () -> d.column(Double.NaN, 0, 0.0, 0.0), Checks.ARGUMENT);
        certify(d, 7, 15, 1.0);
        certify(d, 7, 16, Checks.INDEX);
    }

    private static CertificateDesk fullGrid() {
        CertificateDesk d = new CertificateDesk();
        for (int i = 0; i < 12; i++) {
            d.row(2, 0.0, 0.0);
        }
        for (int j = 0; j < 16; j++) {
            d.column(0.0, 0, 0.0, 0.0);
        }
        return d;
    }

    private static void entry() {
        CertificateDesk d = new CertificateDesk();
        CHECKS.ints("entry of nothing", () -> d.entry(0, 0, 1.0), Checks.ARGUMENT);
        d.row(2, 0.0, 0.0);
        CHECKS.ints("entry of no column", () -> d.entry(0, 0, 1.0), Checks.ARGUMENT);
        d.column(0.0, 0, 0.0, 0.0);
        d.column(0.0, 0, 0.0, 0.0);
        int[][] absent = { { 1, 0 }, { 0, 2 }, { -1, 0 }, { 0, -1 }, { Integer.MIN_VALUE, 0 }, { 0, Integer.MAX_VALUE } };
        for (int[] at : absent) {
            CHECKS.ints("entry at " + at[0] + ", " + at[1], () -> d.entry(at[0], at[1], 1.0), Checks.ARGUMENT);
        }
        for (double v : REFUSED) {
            CHECKS.ints("entry of " + v, () -> d.entry(0, 0, v), Checks.ARGUMENT);
        }
        CHECKS.ints("entry of 0.0", () -> d.entry(0, 0, -0.0), 1);
        CHECKS.ints("entry again", () -> d.entry(0, 0, 3.0), Checks.STATE);
        CHECKS.ints("wrong entry again", () -> d.entry(0, 0, Double.NaN), Checks.ARGUMENT);
        d.x(0, 1.0, 0);
        d.x(1, 1.0, 0);
        certify(d, 5, 0, 0.0);
        CHECKS.ints("second entry", () -> d.entry(0, 1, 2.5), 2);
        certify(d, 5, 0, 2.5);
        CertificateDesk full = fullGrid();
        for (int n = 0; n < 100; n++) {
            int at = n;
            CHECKS.ints("entry " + n, () -> full.entry(at / 16, at % 16, 1.0), at + 1);
        }
        CHECKS.ints("entry of 100", () -> full.entry(11, 15, 1.0), Checks.INDEX);
        CHECKS.ints("entry of 100 again", () -> full.entry(0, 0, 1.0), Checks.STATE);
        CHECKS.ints("wrong entry of 100", () -> full.entry(12, 0, 1.0), Checks.ARGUMENT);
        full.x(15, 1.0, 0);
        certify(full, 5, 5, 1.0);
        certify(full, 5, 11, 0.0);
    }

    private static void pair() {
        CertificateDesk d = new CertificateDesk();
        CHECKS.ints("pair of nothing", () -> d.pair(0, 0, 1.0), Checks.ARGUMENT);
        d.column(0.0, 0, 0.0, 0.0);
        d.column(0.0, 0, 0.0, 0.0);
        int[][] absent = { { 2, 0 }, { 0, 2 }, { -1, 0 }, { 0, -1 }, { Integer.MIN_VALUE, 1 }, { 1, Integer.MAX_VALUE } };
        for (int[] at : absent) {
            CHECKS.ints("pair at " + at[0] + ", " + at[1], () -> d.pair(at[0], at[1], 1.0), Checks.ARGUMENT);
        }
        for (double v : REFUSED) {
            CHECKS.ints("pair of " + v, () -> d.pair(0, 1, v), Checks.ARGUMENT);
        }
        CHECKS.ints("pair 1, 0", () -> d.pair(1, 0, 3.0), 1);
        CHECKS.ints("pair 1, 0 again", () -> d.pair(1, 0, 3.0), Checks.STATE);
        CHECKS.ints("pair 0, 1", () -> d.pair(0, 1, 3.0), Checks.STATE);
        CHECKS.ints("wrong pair 0, 1", () -> d.pair(0, 1, Double.NaN), Checks.ARGUMENT);
        CHECKS.ints("pair 0, 0", () -> d.pair(0, 0, 0.0), 2);
        CHECKS.ints("pair 0, 0 again", () -> d.pair(0, 0, 5.0), Checks.STATE);
        CHECKS.ints("pair 1, 1", () -> d.pair(1, 1, 7.0), 3);
        d.x(0, 2.0, 0);
        d.x(1, 5.0, 0);
        certify(d, 7, 0, 15.0);
        certify(d, 7, 1, 41.0);
        certify(d, 4, 0, 3.0 * 10.0 + 7.0 * 25.0 / 2.0);
        CertificateDesk full = fullGrid();
        int made = 0;
        for (int i = 0; i < 16 && made < 60; i++) {
            for (int j = i; j < 16 && made < 60; j++) {
                int a = i;
                int b = j;
                made++;
                CHECKS.ints("pair " + made, () -> full.pair(b, a, 1.0), made);
            }
        }
        CHECKS.ints("pair of 60", () -> full.pair(15, 15, 1.0), Checks.INDEX);
        CHECKS.ints("pair of 60 again", () -> full.pair(0, 3, 1.0), Checks.STATE);
        CHECKS.ints("wrong pair of 60", () -> full.pair(16, 0, 1.0), Checks.ARGUMENT);
        full.x(15, 1.0, 0);
        certify(full, 7, 0, 1.0);
        certify(full, 7, 15, 0.0);
    }

    private static void values() {
        CertificateDesk d = new CertificateDesk();
        CHECKS.voids("x of none", () -> d.x(0, 1.0, 0), Checks.INDEX);
        CHECKS.voids("y of none", () -> d.y(0, 1.0, 0), Checks.INDEX);
        CHECKS.voids("wrong x of none", () -> d.x(0, Double.NaN, 0), Checks.ARGUMENT);
        CHECKS.voids("wrong y of none", () -> d.y(0, 1.0, 601), Checks.ARGUMENT);
        d.row(0, 0.0, 0.0);
        d.column(0.0, 2, 0.0, 0.0);
        d.column(0.0, 2, 0.0, 0.0);
        for (int k : new int[] { -1, 2, Integer.MIN_VALUE, Integer.MAX_VALUE }) {
            CHECKS.voids("x of " + k, () -> d.x(k, 1.0, 0), Checks.INDEX);
            CHECKS.voids("y of " + k, () -> d.y(k, 1.0, 0), Checks.INDEX);
        }
        CHECKS.voids("y of 1", () -> d.y(1, 1.0, 0), Checks.INDEX);
        CHECKS.done("x 3.0", () -> d.x(0, 3.0, 1));
        CHECKS.done("y 3.0", () -> d.y(0, 3.0, -1));
        for (double v : REFUSED) {
            CHECKS.voids("x " + v, () -> d.x(0, v, 0), Checks.ARGUMENT);
            CHECKS.voids("y " + v, () -> d.y(0, v, 0), Checks.ARGUMENT);
        }
        for (int by : new int[] { 601, -601, Integer.MIN_VALUE, Integer.MAX_VALUE }) {
            CHECKS.voids("x by " + by, () -> d.x(0, 1.0, by), Checks.ARGUMENT);
            CHECKS.voids("y by " + by, () -> d.y(0, 1.0, by), Checks.ARGUMENT);
            CHECKS.voids("x 0.0 by " + by, () -> d.x(0, 0.0, by), Checks.ARGUMENT);
        }
        certify(d, 6, 0, 6.0);
        certify(d, 6, 1, 0.0);
        certify(d, 2, 0, 1.5);
        for (int by : new int[] { 600, -600, 0, 1, -1 }) {
            for (double v : TAKEN) {
                CHECKS.done("x " + v + " by " + by, () -> d.x(0, v, by));
                CHECKS.done("y " + v + " by " + by, () -> d.y(0, v, by));
                double size = Math.scalb(Math.abs(v), by);
                certify(d, 6, 0, v > 0.0 ? size : 0.0);
                certify(d, 2, 0, size);
            }
        }
    }

    private static void rowFigures() {
        CertificateDesk d = new CertificateDesk();
        d.row(3, -1.0, 1.0);
        d.row(3, 10.0, 4.0);
        d.row(0, 0.0, 0.0);
        d.column(0.0, 0, 0.0, 0.0);
        d.column(0.0, 0, 0.0, 0.0);
        d.entry(0, 0, 1.0);
        d.entry(1, 0, 2.0);
        d.entry(1, 1, -1.0);
        d.entry(2, 1, 1.0);
        d.x(0, 1.0, 0);
        d.x(1, -3.0, 0);
        certify(d, 5, 0, 0.0);
        certify(d, 5, 1, 5.0);
        certify(d, 5, 2, 0.0);
        certify(d, 0, 5, 5.0);
        d.x(1, -7.0, 0);
        certify(d, 5, 1, 5.0);
        d.x(1, -6.0, 0);
        certify(d, 5, 1, 4.0);
        d.x(0, -9.0, 0);
        certify(d, 5, 0, 8.0);
        d.x(0, 9.0, 0);
        certify(d, 5, 0, 8.0);
        certify(d, 5, 1, 20.0);
        certify(d, 0, 0, 20.0);
        d.x(0, 1.0, 0);
        d.x(1, 600.0, 0);
        certify(d, 5, 1, 608.0);
        certify(d, 5, 2, 0.0);
    }

    private static void columnFigures() {
        CertificateDesk d = new CertificateDesk();
        d.column(0.0, 1, 2.0, 0.0);
        d.column(0.0, 2, 0.0, -2.0);
        d.column(0.0, 3, -1.0, 1.0);
        d.column(0.0, 0, 0.0, 0.0);
        d.x(3, 1.0, 600);
        certify(d, 6, 0, 2.0);
        certify(d, 6, 1, 2.0);
        certify(d, 6, 2, 0.0);
        certify(d, 6, 3, 0.0);
        certify(d, 1, 0, 2.0);
        d.x(2, -5.0, 0);
        certify(d, 6, 2, 4.0);
        certify(d, 1, 0, 4.0);
        d.x(2, 5.5, 0);
        certify(d, 6, 2, 4.5);
        d.x(0, 2.0, 0);
        certify(d, 6, 0, 0.0);
        d.x(0, Math.nextDown(2.0), 0);
        certify(d, 6, 0, 0x1p-52);
    }

    private static void dualFigures() {
        CertificateDesk d = new CertificateDesk();
        d.column(5.0, 1, 0.0, 0.0);
        certify(d, 2, 0, 0.0);
        d.column(-5.0, 2, 0.0, 0.0);
        certify(d, 2, 0, 0.0);
        d.column(-2.0, 1, 0.0, 0.0);
        certify(d, 2, 0, 2.0);
        d.column(3.0, 2, 0.0, 0.0);
        certify(d, 2, 0, 3.0);
        d.column(9.0, 3, 0.0, 0.0);
        certify(d, 2, 0, 3.0);
        d.column(4.0, 0, 0.0, 0.0);
        certify(d, 2, 0, 4.0);
        d.column(-4.5, 0, 0.0, 0.0);
        certify(d, 2, 0, 4.5);
        d.row(1, 0.0, 0.0);
        d.row(2, 0.0, 0.0);
        d.y(0, 50.0, 0);
        d.y(1, -50.0, 0);
        certify(d, 2, 0, 4.5);
        d.y(0, -6.0, 0);
        certify(d, 2, 0, 6.0);
        d.y(1, 7.0, 0);
        certify(d, 2, 0, 7.0);
        d.entry(1, 0, 2.0);
        certify(d, 7, 0, -9.0);
        certify(d, 2, 0, 9.0);
    }

    private static void gap() {
        CertificateDesk d = new CertificateDesk();
        d.constant(1000.0);
        d.row(3, 2.0, 3.0);
        d.column(5.0, 3, -1.0, 4.0);
        d.column(-7.0, 3, -2.0, 6.0);
        d.entry(0, 0, 1.0);
        d.entry(0, 1, 2.0);
        d.pair(0, 0, 2.0);
        d.pair(0, 1, 1.0);
        d.x(0, 3.0, 0);
        d.x(1, 2.0, 0);
        // c * x = 1, q * x * x = 18 + 12 = 30, r = 5 + 6 + 2 and -7 + 3.
        certify(d, 7, 0, 13.0);
        certify(d, 7, 1, -4.0);
        certify(d, 4, 0, 1016.0);
        certify(d, 3, 0, 31.0 + 13.0 + 24.0);
        d.y(0, 1.0, 0);
        certify(d, 3, 0, 31.0 - 2.0 + 12.0 + 36.0);
        d.y(0, -4.0, 0);
        certify(d, 7, 0, 17.0);
        certify(d, 7, 1, 4.0);
        certify(d, 3, 0, 31.0 + 12.0 + 17.0 + 8.0);
    }

    private static void gapOfAbsentLimits() {
        CertificateDesk d = new CertificateDesk();
        d.row(2, 0.0, 3.0);
        d.row(1, 3.0, 0.0);
        d.column(1.0, 2, 0.0, 5.0);
        d.column(-1.0, 1, 5.0, 0.0);
        d.y(0, 1.0, 0);
        d.y(1, -1.0, 0);
        certify(d, 3, 0, 0.0);
        sign(d, 3, 0, 0);
        d.y(0, -1.0, 0);
        certify(d, 3, 0, 3.0);
        d.y(1, 1.0, 0);
        certify(d, 3, 0, 0.0);
        d.y(0, 0.0, 0);
        certify(d, 3, 0, -3.0);
        sign(d, 3, 0, -1);
    }

    private static void refusedFigures() {
        CertificateDesk d = new CertificateDesk();
        d.row(0, 0.0, 0.0);
        d.column(0.0, 0, 0.0, 0.0);
        d.column(0.0, 0, 0.0, 0.0);
        for (int what : new int[] { -1, 8, Integer.MIN_VALUE, Integer.MAX_VALUE }) {
            certify(d, what, 0, Checks.ARGUMENT);
            certify(d, what, -1, Checks.ARGUMENT);
            CHECKS.ints("sign of " + what, () -> d.sign(what, 0), Checks.ARGUMENT);
        }
        for (int k : new int[] { -1, 2, Integer.MIN_VALUE, Integer.MAX_VALUE }) {
            for (int what = 0; what <= 7; what++) {
                int w = what;
                if (what < 5) {
                    certify(d, what, k, 0.0);
                    sign(d, what, k, 0);
                } else {
                    certify(d, what, k, Checks.INDEX);
                    CHECKS.ints("sign of none", () -> d.sign(w, k), Checks.INDEX);
                }
            }
        }
        certify(d, 5, 1, Checks.INDEX);
        certify(d, 6, 1, 0.0);
        certify(d, 7, 1, 0.0);
    }

    private static void roundingUp() {
        CertificateDesk d = new CertificateDesk();
        d.column(1.0, 0, 0.0, 0.0);
        d.constant(1.0);
        d.x(0, 1.0, -600);
        certify(d, 4, 0, Math.nextUp(1.0));
        d.x(0, -1.0, -600);
        certify(d, 4, 0, 1.0);
        d.constant(-1.0);
        certify(d, 4, 0, -1.0);
        d.x(0, 1.0, -600);
        certify(d, 4, 0, Math.nextUp(-1.0));
        d.constant(Math.nextDown(2.0));
        certify(d, 4, 0, 2.0);
        d.x(0, 1.0, -52);
        certify(d, 4, 0, 2.0);
        d.x(0, 1.0, -53);
        certify(d, 4, 0, 2.0);
        d.x(0, -1.0, -53);
        certify(d, 4, 0, Math.nextDown(2.0));
        d.x(0, -1.0, -52);
        certify(d, 4, 0, Math.nextDown(Math.nextDown(2.0)));
        d.constant(1.0);
        d.x(0, -1.0, 0);
        certify(d, 4, 0, 0.0);
    }

    /** What is minimized is then v0 * v1 * 2 ** (by0 + by1), and K. */
    private static CertificateDesk square(double v0, int by0, double v1, int by1) {
        CertificateDesk d = new CertificateDesk();
        d.column(0.0, 0, 0.0, 0.0);
        d.column(0.0, 0, 0.0, 0.0);
        d.pair(1, 0, 1.0);
        d.x(0, v0, by0);
        d.x(1, v1, by1);
        return d;
    }

    private static void roundingAtTheEnds() {
        double full = 0x1p53 - 1.0;
        CertificateDesk most = square(full, 471, 1.0, 500);
        certify(most, 4, 0, Double.MAX_VALUE);
        most.constant(LEAST);
        certify(most, 4, 0, Checks.ARITHMETIC);
        sign(most, 4, 0, 1);
        most.constant(-LEAST);
        certify(most, 4, 0, Double.MAX_VALUE);
        certify(square(1.0, 512, 1.0, 512), 4, 0, Checks.ARITHMETIC);
        CertificateDesk least = square(full, 471, -1.0, 500);
        certify(least, 4, 0, -Double.MAX_VALUE);
        least.constant(-LEAST);
        certify(least, 4, 0, -Double.MAX_VALUE);
        least.constant(LEAST);
        certify(least, 4, 0, Math.nextUp(-Double.MAX_VALUE));
        certify(square(-1.0, 512, 1.0, 512), 4, 0, -Double.MAX_VALUE);
        certify(square(-MOST, 600, MOST, 600), 4, 0, -Double.MAX_VALUE);
        sign(square(-MOST, 600, MOST, 600), 4, 0, -1);
        certify(square(MOST, 600, MOST, 600), 3, 0, Checks.ARITHMETIC);
        certify(square(1.0, -537, 1.0, -537), 4, 0, Double.MIN_VALUE);
        certify(square(1.0, -537, 1.5, -537), 4, 0, 2 * Double.MIN_VALUE);
        certify(square(1.0, -538, 1.0, -537), 4, 0, Double.MIN_VALUE);
        certify(square(LEAST, -600, LEAST, -600), 4, 0, Double.MIN_VALUE);
        certify(square(1.0, -537, -1.0, -537), 4, 0, -Double.MIN_VALUE);
        certify(square(1.0, -537, -1.5, -537), 4, 0, -Double.MIN_VALUE);
        certify(square(1.0, -538, -1.0, -537), 4, 0, 0.0);
        certify(square(LEAST, -600, -LEAST, -600), 4, 0, 0.0);
        sign(square(LEAST, -600, -LEAST, -600), 4, 0, -1);
        certify(square(full, -475, 1.0, -600), 4, 0, Double.MIN_NORMAL);
        certify(square(-full, -475, 1.0, -600), 4, 0, -Math.nextDown(Double.MIN_NORMAL));
        certify(square(full, -474, 1.0, -600), 4, 0, Math.nextDown(2 * Double.MIN_NORMAL));
    }

    private static void signs() {
        CertificateDesk d = new CertificateDesk();
        d.row(3, 1.0, 1.0);
        d.column(1.0, 3, 1.0, 1.0);
        d.entry(0, 0, 1.0);
        d.x(0, 1.0, 0);
        d.y(0, 1.0, 0);
        for (int what : new int[] { 0, 1, 2, 3, 5, 6, 7 }) {
            sign(d, what, 0, 0);
        }
        sign(d, 4, 0, 1);
        d.x(0, Math.nextUp(1.0), 0);
        d.y(0, Math.nextUp(1.0), 0);
        sign(d, 0, 0, 1);
        sign(d, 1, 0, 1);
        sign(d, 2, 0, 0);
        sign(d, 5, 0, 1);
        sign(d, 6, 0, 1);
        sign(d, 7, 0, -1);
        d.x(0, -1.0, -600);
        sign(d, 4, 0, -1);
        d.constant(LEAST);
        sign(d, 4, 0, 1);
        d.constant(-LEAST);
        sign(d, 4, 0, -1);
    }

    /** b * b * b - 3 * a * b * b + 3 * a * a * b - a * a * a, where b - a is the last bit there is. */
    private static void lastBit() {
        double a = LEAST;
        double b = Math.nextUp(LEAST);
        for (int way = 1; way >= -1; way -= 2) {
            CertificateDesk d = new CertificateDesk();
            for (double v : new double[] { b, a, b, a }) {
                int j = d.column(0.0, 0, 0.0, 0.0);
                d.x(j, v, -600);
            }
            d.pair(0, 0, way * b);
            d.pair(2, 2, way * -3.0 * a);
            d.pair(3, 1, way * b);
            d.pair(3, 3, way * b);
            sign(d, 4, 0, way);
            d.pair(1, 1, way * -a);
            sign(d, 4, 0, way);
            sign(d, 3, 0, way);
            certify(d, 4, 0, way > 0 ? Double.MIN_VALUE : 0.0);
            certify(d, 3, 0, way > 0 ? Double.MIN_VALUE : 0.0);
        }
    }
}
