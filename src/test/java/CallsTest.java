/** "An object is used for at most 512 calls after it has been made": the 512th is as the first. */
public final class CallsTest {
    private static final Checks CHECKS = new Checks();
    private static final int CALLS = 512;

    public static void main(String[] args) {
        CHECKS.under("at most 512 calls after it has been made");
        lastCallAfterFigures();
        lastCallAfterValues();
        lastCallAfterRefusals();
        dearestCalls();
        lastPlaceTaken();
        CHECKS.end();
    }

    interface Call { String run(CertificateDesk d); }

    /** Each method of the face, on what Desks.some() makes in 16 calls. */
    private static final Call[] LAST = {
        d -> Checks.ofVoid(() -> d.constant(3.0)),
        d -> Checks.ofVoid(() -> d.constant(Double.NaN)),
        d -> Checks.ofInt(() -> d.row(3, 1.0, 2.0)),
        d -> Checks.ofInt(() -> d.row(4, 1.0, 2.0)),
        d -> Checks.ofInt(() -> d.column(1.0, 3, 1.0, 2.0)),
        d -> Checks.ofInt(() -> d.column(Double.NaN, 3, 1.0, 2.0)),
        d -> Checks.ofInt(() -> d.entry(1, 2, 1.0)),
        d -> Checks.ofInt(() -> d.entry(0, 0, 1.0)),
        d -> Checks.ofInt(() -> d.pair(2, 1, 1.0)),
        d -> Checks.ofInt(() -> d.pair(1, 0, 1.0)),
        d -> Checks.ofVoid(() -> d.x(2, 1.0, 600)),
        d -> Checks.ofVoid(() -> d.x(3, 1.0, 0)),
        d -> Checks.ofVoid(() -> d.y(1, 1.0, -600)),
        d -> Checks.ofVoid(() -> d.y(2, 1.0, 0)),
        d -> Checks.ofDouble(() -> d.certify(0, 0)),
        d -> Checks.ofDouble(() -> d.certify(1, 0)),
        d -> Checks.ofDouble(() -> d.certify(2, 0)),
        d -> Checks.ofDouble(() -> d.certify(3, 0)),
        d -> Checks.ofDouble(() -> d.certify(4, 0)),
        d -> Checks.ofDouble(() -> d.certify(5, 1)),
        d -> Checks.ofDouble(() -> d.certify(6, 2)),
        d -> Checks.ofDouble(() -> d.certify(7, 2)),
        d -> Checks.ofDouble(() -> d.certify(7, 3)),
        d -> Checks.ofDouble(() -> d.certify(8, 0)),
        d -> Checks.ofInt(() -> d.sign(3, 0)),
        d -> Checks.ofInt(() -> d.sign(7, 2)),
        d -> Checks.ofInt(() -> d.sign(5, 2)),
        d -> Checks.ofInt(() -> d.sign(-1, 0)),
    };

    private static final int SOME_CALLS = 16;

    private static void lastCallAfterFigures() {
        for (int n = 0; n < LAST.length; n++) {
            String early = LAST[n].run(Desks.some());
            CertificateDesk d = Desks.some();
            for (int call = SOME_CALLS; call < CALLS - 1; call++) {
                d.certify(call % 5, 0);
            }
            CHECKS.due("last call " + n + " after figures", LAST[n].run(d), early);
        }
    }

    private static void lastCallAfterValues() {
        for (int n = 0; n < LAST.length; n++) {
            String early = LAST[n].run(Desks.some());
            CertificateDesk d = Desks.some();
            for (int call = SOME_CALLS; call < CALLS - 6; call++) {
                if (call % 2 == 0) {
                    d.x(call % 3, call, call % 600);
                } else {
                    d.y(call % 2, -call, -call % 600);
                }
            }
            d.x(0, 1.5, 1);
            d.x(1, -2.5, 0);
            d.x(2, 7.0, -1);
            d.y(0, -3.0, 0);
            d.y(1, 9.0, -2);
            CHECKS.due("last call " + n + " after values", LAST[n].run(d), early);
        }
    }

    private static void lastCallAfterRefusals() {
        for (int n = 0; n < LAST.length; n++) {
            String early = LAST[n].run(Desks.some());
            CertificateDesk d = Desks.some();
            for (int call = SOME_CALLS; call < CALLS - 1; call++) {
                Checks.ofInt(() -> d.row(4, 0.0, 0.0));
            }
            CHECKS.due("last call " + n + " after refusals", LAST[n].run(d), early);
        }
    }

    private static void dearestCalls() {
        CertificateDesk first = Desks.full();
        String gap = Checks.ofDouble(() -> first.certify(3, 0));
        CertificateDesk d = Desks.full();
        for (int call = 217; call < CALLS; call++) {
            CHECKS.doubles("GAP at call " + call, () -> d.certify(3, 0), gap);
        }
    }

    /** The last row, column, entry and pair that there may be are given by the last calls of all. */
    private static void lastPlaceTaken() {
        CertificateDesk d = new CertificateDesk();
        int calls = 0;
        for (int i = 0; i < 11; i++, calls++) {
            d.row(2, 0.0, 0.0);
        }
        for (int j = 0; j < 15; j++, calls++) {
            d.column(0.0, 2, 0.0, 0.0);
        }
        for (int n = 0; n < 99; n++, calls++) {
            d.entry(n / 15, n % 15, 1.0);
        }
        int pairs = 0;
        for (int i = 0; i < 15 && pairs < 59; i++) {
            for (int j = i; j < 15 && pairs < 59; j++, calls++, pairs++) {
                d.pair(i, j, 1.0);
            }
        }
        for (; calls < CALLS - 9; calls++) {
            d.sign(3, 0);
        }
        CHECKS.ints("the last row", () -> d.row(2, 0.0, -8.0), 11);
        CHECKS.ints("the last column", () -> d.column(-3.0, 1, 5.0, 0.0), 15);
        CHECKS.ints("the last entry", () -> d.entry(11, 15, 2.0), 100);
        CHECKS.ints("the last pair", () -> d.pair(15, 15, 4.0), 60);
        CHECKS.done("the last x", () -> d.x(15, 6.0, 0));
        CHECKS.done("the last y", () -> d.y(11, 7.0, 0));
        CHECKS.certify("the last row", d, 5, 11, 12.0 + 8.0);
        CHECKS.certify("the last column", d, 7, 15, -3.0 + 24.0 - 14.0);
        CHECKS.certify("call 512", d, 4, 0, -18.0 + 72.0);
    }
}
