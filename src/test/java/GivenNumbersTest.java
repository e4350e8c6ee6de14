/** 'Terms' 1: the numbers that may be given, at every place where one is given, of either sign. */
public final class GivenNumbersTest {
    private static final Checks CHECKS = new Checks();
    private static final double NONE = Double.NaN;

    interface Making { CertificateDesk make(); }
    interface Giving { void give(CertificateDesk d, double v); }
    interface Using { void use(CertificateDesk d); }

    /** A place where a number is given: afterwards a figure is that number, or it negated. */
    private static final class Place {
        final String name;
        final Making ready;
        final Giving giving;
        final Using after;
        final int what;
        final double factor;

        Place(String name, Making ready, Giving giving, Using after, int what, double factor) {
            this.name = name;
            this.ready = ready;
            this.giving = giving;
            this.after = after;
            this.what = what;
            this.factor = factor;
        }
    }

    private static final Using NOTHING = d -> { };
    private static final Using Y_ABOVE = d -> d.y(0, 1.0, 0);
    private static final Using Y_BELOW = d -> d.y(0, -1.0, 0);

    private static final Place[] PLACES = {
        new Place("constant", () -> Desks.of(0, 0), (d, v) -> d.constant(v), NOTHING, 4, 1.0),
        new Place("row low", () -> Desks.of(0, 0), (d, v) -> d.row(1, v, NONE), Y_ABOVE, 3, -1.0),
        new Place("row low of two", () -> Desks.of(0, 0), (d, v) -> d.row(3, v, 5.0), Y_ABOVE, 3, -1.0),
        new Place("row high", () -> Desks.of(0, 0), (d, v) -> d.row(2, NONE, v), Y_BELOW, 3, 1.0),
        new Place("row high of two", () -> Desks.of(0, 0), (d, v) -> d.row(3, 5.0, v), Y_BELOW, 3, 1.0),
        new Place("c", () -> Desks.of(0, 0), (d, v) -> d.column(v, 0, NONE, NONE), NOTHING, 7, 1.0),
        new Place("column low", () -> Desks.of(0, 0), (d, v) -> d.column(1.0, 1, v, NONE), NOTHING, 3, -1.0),
        new Place("column low of two", () -> Desks.of(0, 0), (d, v) -> d.column(1.0, 3, v, 5.0), NOTHING, 3, -1.0),
        new Place("column high", () -> Desks.of(0, 0), (d, v) -> d.column(-1.0, 2, NONE, v), NOTHING, 3, 1.0),
        new Place("column high of two", () -> Desks.of(0, 0), (d, v) -> d.column(-1.0, 3, 5.0, v), NOTHING, 3, 1.0),
        new Place("entry", () -> Desks.of(1, 1), (d, v) -> d.entry(0, 0, v), Y_BELOW, 7, 1.0),
        new Place("pair of one", () -> Desks.of(0, 1), (d, v) -> d.pair(0, 0, v), d -> d.x(0, 1.0, 0), 7, 1.0),
        new Place("pair of two", () -> Desks.of(0, 2), (d, v) -> d.pair(0, 1, v), d -> d.x(1, 1.0, 0), 7, 1.0),
        new Place("x", GivenNumbersTest::withPair, (d, v) -> d.x(0, v, 0), NOTHING, 7, 1.0),
        new Place("y", GivenNumbersTest::withEntry, (d, v) -> d.y(0, v, 0), NOTHING, 7, -1.0),
    };

    private static CertificateDesk withPair() {
        CertificateDesk d = Desks.of(0, 1);
        d.pair(0, 0, 1.0);
        return d;
    }

    private static CertificateDesk withEntry() {
        CertificateDesk d = Desks.of(1, 1);
        d.entry(0, 0, 1.0);
        return d;
    }

    public static void main(String[] args) {
        taken();
        refused();
        zeroBelowCountsAsZero();
        CHECKS.end();
    }

    private static void taken() {
        CHECKS.under("0.0 (-0.0 counts as that), or in size from 2 ** -60 to 2 ** 60");
        for (Place place : PLACES) {
            for (double v : Desks.TAKEN) {
                CertificateDesk d = place.ready.make();
                CHECKS.done(place.name + " " + v, () -> place.giving.give(d, v));
                place.after.use(d);
                double want = v == 0.0 ? 0.0 : v * place.factor;
                CHECKS.figure(place.name + " " + v, d, place.what, 0, want);
            }
        }
    }

    private static void refused() {
        CHECKS.under("(else IllegalArgumentException)");
        for (Place place : PLACES) {
            String before = Desks.told(place.ready.make());
            for (double v : Desks.REFUSED) {
                CertificateDesk d = place.ready.make();
                CHECKS.voids(place.name + " " + v, () -> place.giving.give(d, v), Checks.ARGUMENT);
                CHECKS.due("after " + place.name + " " + v, Desks.told(d), before);
            }
        }
    }

    private static void zeroBelowCountsAsZero() {
        CHECKS.under("-0.0 counts as that");
        for (double zero : new double[] { 0.0, -0.0 }) {
            CertificateDesk d = new CertificateDesk();
            d.constant(zero);
            d.row(3, zero, zero);
            d.row(0, zero, zero);
            d.column(zero, 3, zero, zero);
            d.column(zero, 0, zero, zero);
            d.entry(0, 0, zero);
            d.entry(1, 1, 1.0);
            d.pair(0, 1, zero);
            d.pair(1, 1, 1.0);
            d.x(0, zero, 600);
            d.x(1, zero, -600);
            d.y(0, zero, -600);
            d.y(1, zero, 600);
            for (int what = 0; what <= 7; what++) {
                CHECKS.figure("all " + zero, d, what, 0, 0.0);
                CHECKS.figure("all " + zero, d, what, 1, 0.0);
            }
            CHECKS.ints("the entry of " + zero, () -> d.entry(0, 0, 1.0), Checks.STATE);
            CHECKS.ints("the pair of " + zero, () -> d.pair(1, 0, 1.0), Checks.STATE);
        }
    }
}
