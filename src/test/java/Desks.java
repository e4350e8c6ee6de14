/** Objects to begin with, and all that an object tells of itself. */
final class Desks {
    static final double MOST = 0x1p60;
    static final double LEAST = 0x1p-60;
    static final double ABOVE_LEAST = Math.nextUp(LEAST);
    static final double BELOW_MOST = Math.nextDown(MOST);

    /** May be given: 0.0, the ends, what is just inside of them, and some between, of either sign. */
    static final double[] TAKEN = {
        0.0, -0.0, LEAST, -LEAST, ABOVE_LEAST, -ABOVE_LEAST, MOST, -MOST, BELOW_MOST, -BELOW_MOST,
        1.0, -1.0, 0.1, -0.1, 1e17, -1e-17,
    };

    /** May not be given: just outside of the ends, far outside, and what is no finite number. */
    static final double[] REFUSED = {
        Math.nextDown(LEAST), -Math.nextDown(LEAST), Math.nextUp(MOST), -Math.nextUp(MOST),
        0x1p-61, -0x1p-61, 0x1p61, -0x1p61, Double.MIN_VALUE, -Double.MIN_VALUE,
        Double.MIN_NORMAL, -Double.MIN_NORMAL, Double.MAX_VALUE, -Double.MAX_VALUE,
        Double.POSITIVE_INFINITY, Double.NEGATIVE_INFINITY, Double.NaN,
    };

    private Desks() { }

    static CertificateDesk of(int rows, int columns) {
        CertificateDesk d = new CertificateDesk();
        for (int i = 0; i < rows; i++) {
            d.row(0, 0.0, 0.0);
        }
        for (int j = 0; j < columns; j++) {
            d.column(0.0, 0, 0.0, 0.0);
        }
        return d;
    }

    /** Two rows, three columns, three entries, two pairs, no x or y of 0: 16 calls. */
    static CertificateDesk some() {
        CertificateDesk d = new CertificateDesk();
        d.constant(11.0);
        d.row(3, 5.0, 7.0);
        d.row(0, 0.0, 0.0);
        d.column(2.0, 1, 3.0, 0.0);
        d.column(-3.0, 2, 0.0, -4.0);
        d.column(5.0, 0, 0.0, 0.0);
        d.entry(0, 0, 2.0);
        d.entry(0, 2, -3.0);
        d.entry(1, 1, 0.5);
        d.pair(0, 1, 4.0);
        d.pair(2, 2, -6.0);
        d.x(0, 1.5, 1);
        d.x(1, -2.5, 0);
        d.x(2, 7.0, -1);
        d.y(0, -3.0, 0);
        d.y(1, 9.0, -2);
        return d;
    }

    /** 12 rows, 16 columns, 100 entries (of rows 0 to 6), 60 pairs (one of each in columns 0 to 4): 217 calls. */
    static CertificateDesk full() {
        CertificateDesk d = new CertificateDesk();
        d.constant(-17.0);
        for (int i = 0; i < 12; i++) {
            d.row(3, 10.0 + i, -10.0 - i);
        }
        for (int j = 0; j < 16; j++) {
            d.column(j - 7.0, 3, 3.0 + j, -20.0 + j);
        }
        for (int n = 0; n < 100; n++) {
            d.entry(n / 16, n % 16, n % 7 - 3.0);
        }
        int made = 0;
        for (int i = 0; made < 60; i++) {
            for (int j = i; j < 16 && made < 60; j++) {
                d.pair(j, i, made % 5 - 2.0);
                made++;
            }
        }
        for (int j = 0; j < 16; j++) {
            d.x(j, 1.0 + j, j % 3);
        }
        for (int i = 0; i < 12; i++) {
            d.y(i, i % 2 == 0 ? 2.0 + i : -2.0 - i, 0);
        }
        return d;
    }

    /** All figures, and then what the next row, column, entry and pair are answered: 108 calls. */
    static String told(CertificateDesk d) {
        StringBuilder all = new StringBuilder();
        for (int what = 0; what <= 7; what++) {
            int last = what < 5 ? 0 : what == 5 ? 12 : 16;
            for (int k = 0; k <= last; k++) {
                int w = what;
                int at = k;
                all.append(what).append(' ').append(k).append(": ");
                all.append(Checks.ofDouble(() -> d.certify(w, at))).append(' ');
                all.append(Checks.ofInt(() -> d.sign(w, at))).append('\n');
            }
        }
        String row = Checks.ofInt(() -> d.row(0, 0.0, 0.0));
        String column = Checks.ofInt(() -> d.column(0.0, 0, 0.0, 0.0));
        int i = row.startsWith("throws") ? 11 : Integer.parseInt(row);
        int j = column.startsWith("throws") ? 15 : Integer.parseInt(column);
        all.append(row).append(' ').append(column).append(' ');
        all.append(Checks.ofInt(() -> d.entry(i, j, 1.0))).append(' ');
        all.append(Checks.ofInt(() -> d.pair(j, j, 1.0)));
        return all.toString();
    }
}
