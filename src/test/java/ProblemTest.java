/** 'Terms' 2: the problem, when it is empty, when it is full, and when parts of it are absent. */
public final class ProblemTest {
    private static final Checks CHECKS = new Checks();

    public static void main(String[] args) {
        nothingGiven();
        rowsAlone();
        columnsAlone();
        noEntryAndNoPair();
        twelveRows();
        sixteenColumns();
        hundredEntries();
        sixtyPairs();
        allOfIt();
        absentLimitsOfRows();
        absentLimitsOfColumns();
        pairOtherWayRound();
        pairOfOneColumn();
        valuesAtFirst();
        addedLater();
        CHECKS.end();
    }

    private static void nothingGiven() {
        CHECKS.under("minimize K + sum ..: no row, no column");
        CertificateDesk d = new CertificateDesk();
        for (int what = 0; what <= 4; what++) {
            CHECKS.figure("nothing", d, what, 0, 0.0);
        }
        d.constant(-2.5);
        for (int what = 0; what <= 3; what++) {
            CHECKS.figure("K alone", d, what, 0, 0.0);
        }
        CHECKS.figure("K alone", d, 4, 0, -2.5);
    }

    private static void rowsAlone() {
        CHECKS.under("rows: no column");
        CertificateDesk d = new CertificateDesk();
        d.row(1, 2.0, 0.0);
        d.row(2, 0.0, -3.0);
        d.y(0, 5.0, 0);
        d.y(1, 7.0, 0);
        CHECKS.figure("rows alone", d, 0, 0, 3.0);
        CHECKS.figure("rows alone", d, 1, 0, 0.0);
        CHECKS.figure("rows alone", d, 2, 0, 7.0);
        CHECKS.figure("rows alone", d, 3, 0, -10.0);
        CHECKS.figure("rows alone", d, 4, 0, 0.0);
        CHECKS.figure("rows alone", d, 5, 0, 2.0);
        CHECKS.refused("rows alone", d, 6, 0, Checks.INDEX);
        CHECKS.refused("rows alone", d, 7, 0, Checks.INDEX);
    }

    private static void columnsAlone() {
        CHECKS.under("columns: no row");
        CertificateDesk d = new CertificateDesk();
        d.column(4.0, 1, 6.0, 0.0);
        d.column(-5.0, 1, 1.0, 0.0);
        d.x(0, 2.0, 0);
        CHECKS.figure("columns alone", d, 0, 0, 0.0);
        CHECKS.figure("columns alone", d, 1, 0, 4.0);
        CHECKS.figure("columns alone", d, 2, 0, 5.0);
        CHECKS.figure("columns alone", d, 3, 0, 8.0 - 24.0);
        CHECKS.figure("columns alone", d, 4, 0, 8.0);
        CHECKS.refused("columns alone", d, 5, 0, Checks.INDEX);
        CHECKS.figure("columns alone", d, 6, 1, 1.0);
        CHECKS.figure("columns alone", d, 7, 1, -5.0);
    }

    private static void noEntryAndNoPair() {
        CHECKS.under("entries a[i][j], pairs q[i][j]: none given");
        CertificateDesk d = new CertificateDesk();
        d.row(3, -1.0, 1.0);
        d.column(3.0, 0, 0.0, 0.0);
        d.x(0, 1.0, 600);
        d.y(0, 1.0, 600);
        CHECKS.figure("activity of none", d, 5, 0, 0.0);
        CHECKS.figure("r of c alone", d, 7, 0, 3.0);
        CHECKS.figure("c * x alone", d, 4, 0, 0x3p600);
        CHECKS.figure("c * x and y * low", d, 3, 0, 0x1p602);
    }

    private static void twelveRows() {
        CHECKS.under("rows 0..11 (up to 12)");
        for (int worst = 0; worst < 12; worst++) {
            CertificateDesk d = new CertificateDesk();
            for (int i = 0; i < 12; i++) {
                d.row(2, 0.0, i == worst ? -20.0 : -1.0 - i);
            }
            for (int i = 0; i < 12; i++) {
                d.y(i, i == worst ? 30.0 : 1.0 + i, 0);
                CHECKS.figure("row", d, 5, i, i == worst ? 20.0 : 1.0 + i);
            }
            CHECKS.figure("worst row " + worst, d, 0, 0, 20.0);
            CHECKS.figure("worst y " + worst, d, 2, 0, 30.0);
            CHECKS.refused("row 12", d, 5, 12, Checks.INDEX);
        }
    }

    private static void sixteenColumns() {
        CHECKS.under("columns 0..15 (up to 16)");
        for (int worst = 0; worst < 16; worst++) {
            CertificateDesk d = new CertificateDesk();
            for (int j = 0; j < 16; j++) {
                d.column(j == worst ? -40.0 : 1.0 + j, 1, 0.0, 0.0);
            }
            for (int j = 0; j < 16; j++) {
                d.x(j, j == worst ? -50.0 : -1.0 - j, 0);
                CHECKS.figure("column", d, 6, j, j == worst ? 50.0 : 1.0 + j);
                CHECKS.figure("column", d, 7, j, j == worst ? -40.0 : 1.0 + j);
            }
            CHECKS.figure("worst column " + worst, d, 1, 0, 50.0);
            CHECKS.figure("worst r " + worst, d, 2, 0, 40.0);
            CHECKS.refused("column 16", d, 6, 16, Checks.INDEX);
            CHECKS.refused("column 16", d, 7, 16, Checks.INDEX);
        }
    }

    private static void hundredEntries() {
        CHECKS.under("entries a[i][j] .. up to 100");
        CertificateDesk d = new CertificateDesk();
        for (int i = 0; i < 12; i++) {
            d.row(1, 0.0, 0.0);
        }
        for (int j = 0; j < 16; j++) {
            d.column(0.0, 0, 0.0, 0.0);
        }
        double[] activity = new double[12];
        double[] r = new double[16];
        for (int n = 0; n < 100; n++) {
            int i = n % 12;
            int j = n * 7 / 12 % 16;
            double v = n + 1.0;
            int want = n + 1;
            CHECKS.ints("entry " + i + ", " + j, () -> d.entry(i, j, v), want);
            activity[i] += v * (j + 1);
            r[j] -= v * (i + 1);
        }
        for (int j = 0; j < 16; j++) {
            d.x(j, -1.0 - j, 0);
        }
        for (int i = 0; i < 12; i++) {
            d.y(i, 1.0 + i, 0);
        }
        for (int i = 0; i < 12; i++) {
            CHECKS.figure("activity", d, 5, i, activity[i]);
        }
        for (int j = 0; j < 16; j++) {
            CHECKS.figure("r", d, 7, j, r[j]);
        }
        CHECKS.ints("entry 101", () -> d.entry(11, 15, 1.0), Checks.INDEX);
    }

    private static void sixtyPairs() {
        CHECKS.under("pairs q[i][j] (also q[j][i]), up to .. 60");
        CertificateDesk d = Desks.of(0, 16);
        double[][] q = new double[16][16];
        int made = 0;
        for (int gap = 0; made < 60; gap++) {
            for (int i = 0; i + gap < 16 && made < 60; i++) {
                int a = made % 2 == 0 ? i : i + gap;
                int b = made % 2 == 0 ? i + gap : i;
                double v = made + 1.0;
                int want = made + 1;
                CHECKS.ints("pair " + a + ", " + b, () -> d.pair(a, b, v), want);
                q[a][b] = v;
                q[b][a] = v;
                made++;
            }
        }
        double squares = 0.0;
        for (int j = 0; j < 16; j++) {
            d.x(j, j + 1.0, 0);
        }
        for (int j = 0; j < 16; j++) {
            double r = 0.0;
            for (int i = 0; i < 16; i++) {
                r += q[j][i] * (i + 1);
            }
            squares += r * (j + 1);
            CHECKS.figure("r", d, 7, j, r);
        }
        CHECKS.figure("half of the squares", d, 4, 0, squares / 2);
        CHECKS.figure("all of the squares", d, 3, 0, squares);
        CHECKS.ints("pair 61", () -> d.pair(0, 15, 1.0), Checks.INDEX);
    }

    /** Small whole numbers, so that plain doubles are exact here, too. */
    private static void allOfIt() {
        CHECKS.under("12 rows, 16 columns, 100 entries, 60 pairs");
        CertificateDesk d = Desks.full();
        double[][] a = new double[12][16];
        double[][] q = new double[16][16];
        double[] x = new double[16];
        double[] y = new double[12];
        for (int n = 0; n < 100; n++) {
            a[n / 16][n % 16] = n % 7 - 3.0;
        }
        int made = 0;
        for (int i = 0; made < 60; i++) {
            for (int j = i; j < 16 && made < 60; j++) {
                q[i][j] = made % 5 - 2.0;
                q[j][i] = q[i][j];
                made++;
            }
        }
        for (int j = 0; j < 16; j++) {
            x[j] = (1.0 + j) * (1 << j % 3);
        }
        for (int i = 0; i < 12; i++) {
            y[i] = i % 2 == 0 ? 2.0 + i : -2.0 - i;
        }
        double worstRow = 0.0;
        double worstColumn = 0.0;
        double costs = 0.0;
        double squares = 0.0;
        double atLimits = 0.0;
        for (int i = 0; i < 12; i++) {
            double activity = 0.0;
            for (int j = 0; j < 16; j++) {
                activity += a[i][j] * x[j];
            }
            double beyond = Math.max(10.0 + i - activity, activity + 10.0 + i);
            CHECKS.figure("row", d, 5, i, beyond);
            worstRow = Math.max(worstRow, beyond);
            atLimits += y[i] > 0.0 ? y[i] * (10.0 + i) : y[i] * (-10.0 - i);
        }
        for (int j = 0; j < 16; j++) {
            double r = j - 7.0;
            for (int i = 0; i < 16; i++) {
                r += q[j][i] * x[i];
                squares += q[j][i] * x[i] * x[j];
            }
            for (int i = 0; i < 12; i++) {
                r -= a[i][j] * y[i];
            }
            double beyond = Math.max(Math.max(3.0 + j - x[j], x[j] + 20.0 - j), 0.0);
            CHECKS.figure("column", d, 6, j, beyond);
            CHECKS.figure("column", d, 7, j, r);
            worstColumn = Math.max(worstColumn, beyond);
            costs += (j - 7.0) * x[j];
            atLimits += r > 0.0 ? r * (3.0 + j) : r * (-20.0 + j);
        }
        CHECKS.figure("all", d, 0, 0, worstRow);
        CHECKS.figure("all", d, 1, 0, worstColumn);
        CHECKS.figure("all", d, 2, 0, 0.0);
        CHECKS.figure("all", d, 3, 0, costs + squares - atLimits);
        CHECKS.figure("all", d, 4, 0, costs + squares / 2 - 17.0);
    }

    private static void absentLimitsOfRows() {
        CHECKS.under("from a low to a high (or without one of them, or both)");
        double[] activities = { -100.0, -2.0, 0.0, 3.0, 100.0 };
        double[][] due = { { 0, 0, 0, 0, 0 }, { 98, 0, 0, 0, 0 }, { 0, 0, 0, 0, 97 }, { 98, 0, 0, 0, 97 } };
        for (int has = 0; has <= 3; has++) {
            CertificateDesk d = new CertificateDesk();
            d.row(has, -2.0, 3.0);
            d.column(0.0, 0, 0.0, 0.0);
            d.entry(0, 0, 1.0);
            for (int n = 0; n < activities.length; n++) {
                d.x(0, activities[n], 0);
                CHECKS.figure("has " + has + ", activity " + activities[n], d, 5, 0, due[has][n]);
                CHECKS.figure("has " + has + ", activity " + activities[n], d, 0, 0, due[has][n]);
            }
        }
    }

    private static void absentLimitsOfColumns() {
        CHECKS.under("x[j] likewise");
        double[] values = { -100.0, -2.0, 0.0, 3.0, 100.0 };
        double[][] due = { { 0, 0, 0, 0, 0 }, { 98, 0, 0, 0, 0 }, { 0, 0, 0, 0, 97 }, { 98, 0, 0, 0, 97 } };
        for (int has = 0; has <= 3; has++) {
            CertificateDesk d = new CertificateDesk();
            d.column(0.0, has, -2.0, 3.0);
            for (int n = 0; n < values.length; n++) {
                d.x(0, values[n], 0);
                CHECKS.figure("has " + has + ", x " + values[n], d, 6, 0, due[has][n]);
                CHECKS.figure("has " + has + ", x " + values[n], d, 1, 0, due[has][n]);
            }
        }
    }

    private static void pairOtherWayRound() {
        CHECKS.under("pairs q[i][j] (also q[j][i])");
        for (int first = 0; first <= 1; first++) {
            CertificateDesk d = Desks.of(0, 2);
            d.pair(first, 1 - first, 3.0);
            d.x(0, 5.0, 0);
            CHECKS.figure("x[0] alone", d, 7, 0, 0.0);
            CHECKS.figure("x[0] alone", d, 7, 1, 15.0);
            CHECKS.figure("x[0] alone", d, 4, 0, 0.0);
            d.x(1, 7.0, 0);
            CHECKS.figure("x[0], x[1]", d, 7, 0, 21.0);
            CHECKS.figure("x[0], x[1]", d, 4, 0, 105.0);
            CHECKS.figure("x[0], x[1]", d, 3, 0, 210.0);
        }
    }

    private static void pairOfOneColumn() {
        CHECKS.under("half of the sum of q[i][j] * x[i] * x[j] over all i and j");
        CertificateDesk d = Desks.of(0, 2);
        d.pair(1, 1, 3.0);
        d.x(0, 100.0, 0);
        d.x(1, 5.0, 0);
        CHECKS.figure("q[1][1]", d, 7, 0, 0.0);
        CHECKS.figure("q[1][1]", d, 7, 1, 15.0);
        CHECKS.figure("q[1][1]", d, 4, 0, 37.5);
        CHECKS.figure("q[1][1]", d, 3, 0, 75.0);
    }

    private static void valuesAtFirst() {
        CHECKS.under("x and y (one for each row) are 0.0 at first");
        CertificateDesk d = new CertificateDesk();
        d.row(3, 2.0, -3.0);
        d.row(0, 0.0, 0.0);
        d.column(4.0, 3, 5.0, -6.0);
        d.entry(0, 0, 1.0);
        d.entry(1, 0, 1.0);
        d.pair(0, 0, 1.0);
        CHECKS.figure("x, y at first", d, 0, 0, 3.0);
        CHECKS.figure("x, y at first", d, 1, 0, 6.0);
        CHECKS.figure("x, y at first", d, 2, 0, 0.0);
        CHECKS.figure("x, y at first", d, 3, 0, -20.0);
        CHECKS.figure("x, y at first", d, 4, 0, 0.0);
        CHECKS.figure("x, y at first", d, 7, 0, 4.0);
        d.x(0, 1.0, 0);
        CHECKS.figure("y at first", d, 7, 0, 5.0);
        d.x(0, 0.0, 0);
        d.y(1, 1.0, 0);
        CHECKS.figure("x, y[0] at first", d, 7, 0, 3.0);
        CHECKS.figure("x at first", d, 5, 0, 3.0);
    }

    private static void addedLater() {
        CHECKS.under("x and y are 0.0 at first, beside others that have been given");
        CertificateDesk d = new CertificateDesk();
        d.row(0, 0.0, 0.0);
        d.column(1.0, 0, 0.0, 0.0);
        d.entry(0, 0, 2.0);
        d.pair(0, 0, 4.0);
        d.x(0, 3.0, 0);
        d.y(0, 5.0, 0);
        CHECKS.figure("before", d, 7, 0, 1.0 + 12.0 - 10.0);
        d.row(3, 7.0, 9.0);
        d.column(6.0, 3, 8.0, 11.0);
        d.entry(1, 0, 13.0);
        d.entry(0, 1, 17.0);
        d.pair(0, 1, 19.0);
        CHECKS.figure("after", d, 5, 1, 39.0 - 9.0);
        CHECKS.figure("after", d, 6, 1, 8.0);
        CHECKS.figure("after", d, 7, 0, 3.0);
        CHECKS.figure("after", d, 7, 1, 6.0 + 57.0 - 85.0);
        CHECKS.figure("after", d, 4, 0, 3.0 + 18.0);
        CHECKS.figure("after", d, 3, 0, 3.0 + 36.0 + 22.0 * 11.0);
    }
}
