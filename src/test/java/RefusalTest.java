import java.util.ArrayList;
import java.util.List;

/** "the first of them that fits is thrown; what throws changes nothing", for every heading. */
public final class RefusalTest {
    private static final Checks CHECKS = new Checks();
    private static final double BAD = Double.NaN;
    private static final int FAR = Integer.MAX_VALUE;
    private static final int LOW = Integer.MIN_VALUE;

    interface Making { CertificateDesk make(); }
    interface Call { void run(CertificateDesk d); }

    /** A call that is refused, and with what. */
    private record Refused(String name, Call call, String want) { }

    public static void main(String[] args) {
        each("a new object", CertificateDesk::new, ofNew());
        each("a small problem", Desks::some, ofSome());
        each("a full problem", Desks::full, ofFull());
        each("figures that are too great", RefusalTest::great, ofGreat());
        manyRefusedAndThenOneTaken();
        CHECKS.end();
    }

    private static void each(String at, Making making, List<Refused> calls) {
        CHECKS.under("the first of them that fits is thrown; what throws changes nothing");
        String before = Desks.told(making.make());
        CertificateDesk all = making.make();
        for (Refused refused : calls) {
            CertificateDesk d = making.make();
            CHECKS.voids(at + ": " + refused.name, () -> refused.call.run(d), refused.want);
            CHECKS.due(at + ", after " + refused.name, Desks.told(d), before);
            CHECKS.voids(at + ": again " + refused.name, () -> refused.call.run(all), refused.want);
        }
        CHECKS.due(at + ", after all of them", Desks.told(all), before);
    }

    private static List<Refused> ofNew() {
        List<Refused> calls = new ArrayList<>();
        calls.add(new Refused("constant, v", d -> d.constant(BAD), Checks.ARGUMENT));
        limits(calls, Checks.ARGUMENT);
        calls.add(new Refused("entry of nothing", d -> d.entry(0, 0, 1.0), Checks.ARGUMENT));
        calls.add(new Refused("pair of nothing", d -> d.pair(0, 0, 1.0), Checks.ARGUMENT));
        calls.add(new Refused("x of none", d -> d.x(0, 1.0, 0), Checks.INDEX));
        calls.add(new Refused("x of none, v", d -> d.x(0, BAD, 0), Checks.ARGUMENT));
        calls.add(new Refused("x of none, by", d -> d.x(0, 1.0, 601), Checks.ARGUMENT));
        calls.add(new Refused("y of none", d -> d.y(0, 1.0, 0), Checks.INDEX));
        calls.add(new Refused("y of none, v", d -> d.y(0, BAD, 0), Checks.ARGUMENT));
        calls.add(new Refused("y of none, by", d -> d.y(0, 1.0, -601), Checks.ARGUMENT));
        figures(calls, 0, 0);
        return calls;
    }

    private static List<Refused> ofSome() {
        List<Refused> calls = new ArrayList<>();
        calls.add(new Refused("constant, v", d -> d.constant(BAD), Checks.ARGUMENT));
        limits(calls, Checks.ARGUMENT);
        cells(calls, 2, 3);
        values(calls, 2, 3);
        figures(calls, 2, 3);
        return calls;
    }

    private static List<Refused> ofFull() {
        List<Refused> calls = new ArrayList<>();
        limits(calls, Checks.ARGUMENT);
        calls.add(new Refused("row of 12", d -> d.row(0, 0.0, 0.0), Checks.INDEX));
        calls.add(new Refused("row of 12, both", d -> d.row(3, -1.0, 1.0), Checks.INDEX));
        calls.add(new Refused("row of 12, not looked at", d -> d.row(0, BAD, BAD), Checks.INDEX));
        calls.add(new Refused("column of 16", d -> d.column(1.0, 0, 0.0, 0.0), Checks.INDEX));
        calls.add(new Refused("column of 16, both", d -> d.column(1.0, 3, -1.0, 1.0), Checks.INDEX));
        calls.add(new Refused("column of 16, not looked at", d -> d.column(1.0, 0, BAD, BAD), Checks.INDEX));
        cells(calls, 12, 16);
        calls.add(new Refused("entry of 100", d -> d.entry(11, 15, 1.0), Checks.INDEX));
        calls.add(new Refused("entry of 100, 0.0", d -> d.entry(7, 0, 0.0), Checks.INDEX));
        calls.add(new Refused("entry of 100, v", d -> d.entry(11, 15, BAD), Checks.ARGUMENT));
        calls.add(new Refused("pair of 60", d -> d.pair(15, 15, 1.0), Checks.INDEX));
        calls.add(new Refused("pair of 60, 0.0", d -> d.pair(6, 4, 0.0), Checks.INDEX));
        calls.add(new Refused("pair of 60, v", d -> d.pair(15, 15, BAD), Checks.ARGUMENT));
        values(calls, 12, 16);
        figures(calls, 12, 16);
        return calls;
    }

    /** What is minimized and the GAP are too great; all others are doubles. */
    private static CertificateDesk great() {
        CertificateDesk d = Desks.some();
        d.pair(0, 0, 1.0);
        d.x(0, 1.0, 600);
        return d;
    }

    private static List<Refused> ofGreat() {
        List<Refused> calls = new ArrayList<>();
        for (int k : new int[] { 0, -1, FAR }) {
            calls.add(new Refused("GAP", d -> d.certify(3, k), Checks.ARITHMETIC));
            calls.add(new Refused("minimized", d -> d.certify(4, k), Checks.ARITHMETIC));
        }
        figures(calls, 2, 3);
        return calls;
    }

    /** Of row and column: has and the numbers, whether there is room for one or not. */
    private static void limits(List<Refused> calls, String want) {
        for (int has : new int[] { -1, 4, 5, 7, 8, -4, FAR, LOW }) {
            calls.add(new Refused("row, has " + has, d -> d.row(has, 1.0, 2.0), want));
            calls.add(new Refused("column, has " + has, d -> d.column(1.0, has, 1.0, 2.0), want));
        }
        for (int has = 0; has <= 3; has++) {
            int h = has;
            if ((has & 1) != 0) {
                calls.add(new Refused("row low, has " + has, d -> d.row(h, BAD, 2.0), want));
                calls.add(new Refused("column low, has " + has, d -> d.column(1.0, h, BAD, 2.0), want));
            }
            if ((has & 2) != 0) {
                calls.add(new Refused("row high, has " + has, d -> d.row(h, 1.0, BAD), want));
                calls.add(new Refused("column high, has " + has, d -> d.column(1.0, h, 1.0, BAD), want));
            }
            calls.add(new Refused("column c, has " + has, d -> d.column(BAD, h, 1.0, 2.0), want));
        }
    }

    /** Of entry and pair, where (0, 0) of the entries and (0, 1) of the pairs are there. */
    private static void cells(List<Refused> calls, int rows, int columns) {
        for (int k : new int[] { -1, LOW, FAR }) {
            calls.add(new Refused("entry, row " + k, d -> d.entry(k, 0, 1.0), Checks.ARGUMENT));
            calls.add(new Refused("entry, column " + k, d -> d.entry(0, k, 1.0), Checks.ARGUMENT));
            calls.add(new Refused("pair, first " + k, d -> d.pair(k, 0, 1.0), Checks.ARGUMENT));
            calls.add(new Refused("pair, second " + k, d -> d.pair(0, k, 1.0), Checks.ARGUMENT));
        }
        calls.add(new Refused("entry, next row", d -> d.entry(rows, 0, 1.0), Checks.ARGUMENT));
        calls.add(new Refused("entry, next column", d -> d.entry(0, columns, 1.0), Checks.ARGUMENT));
        calls.add(new Refused("entry there, v", d -> d.entry(0, 0, BAD), Checks.ARGUMENT));
        calls.add(new Refused("entry there", d -> d.entry(0, 0, 1.0), Checks.STATE));
        calls.add(new Refused("entry there, 0.0", d -> d.entry(0, 0, 0.0), Checks.STATE));
        calls.add(new Refused("entry there, as it is", d -> d.entry(0, 0, 2.0), Checks.STATE));
        calls.add(new Refused("pair, next first", d -> d.pair(columns, 0, 1.0), Checks.ARGUMENT));
        calls.add(new Refused("pair, next second", d -> d.pair(0, columns, 1.0), Checks.ARGUMENT));
        calls.add(new Refused("pair, next both", d -> d.pair(columns, columns, 1.0), Checks.ARGUMENT));
        calls.add(new Refused("pair there, v", d -> d.pair(0, 1, BAD), Checks.ARGUMENT));
        calls.add(new Refused("pair there", d -> d.pair(0, 1, 1.0), Checks.STATE));
        calls.add(new Refused("pair there, other way round", d -> d.pair(1, 0, 1.0), Checks.STATE));
        calls.add(new Refused("pair there, other way round, v", d -> d.pair(1, 0, BAD), Checks.ARGUMENT));
    }

    private static void values(List<Refused> calls, int rows, int columns) {
        for (int by : new int[] { 601, -601, FAR, LOW }) {
            calls.add(new Refused("x by " + by, d -> d.x(0, 1.0, by), Checks.ARGUMENT));
            calls.add(new Refused("y by " + by, d -> d.y(0, 1.0, by), Checks.ARGUMENT));
            calls.add(new Refused("x of none, by " + by, d -> d.x(columns, 1.0, by), Checks.ARGUMENT));
            calls.add(new Refused("y of none, by " + by, d -> d.y(rows, 1.0, by), Checks.ARGUMENT));
            calls.add(new Refused("x 0.0 by " + by, d -> d.x(0, 0.0, by), Checks.ARGUMENT));
            calls.add(new Refused("y 0.0 by " + by, d -> d.y(0, 0.0, by), Checks.ARGUMENT));
        }
        calls.add(new Refused("x, v", d -> d.x(0, BAD, 0), Checks.ARGUMENT));
        calls.add(new Refused("y, v", d -> d.y(0, BAD, 0), Checks.ARGUMENT));
        for (int k : new int[] { -1, LOW, FAR }) {
            calls.add(new Refused("x of " + k, d -> d.x(k, 1.0, 0), Checks.INDEX));
            calls.add(new Refused("y of " + k, d -> d.y(k, 1.0, 0), Checks.INDEX));
            calls.add(new Refused("x of " + k + ", v", d -> d.x(k, BAD, 0), Checks.ARGUMENT));
            calls.add(new Refused("y of " + k + ", v", d -> d.y(k, BAD, 0), Checks.ARGUMENT));
        }
        calls.add(new Refused("x of the next", d -> d.x(columns, 1.0, 0), Checks.INDEX));
        calls.add(new Refused("y of the next", d -> d.y(rows, 1.0, 0), Checks.INDEX));
        calls.add(new Refused("x of the next, v", d -> d.x(columns, BAD, 0), Checks.ARGUMENT));
        calls.add(new Refused("y of the next, v", d -> d.y(rows, BAD, 0), Checks.ARGUMENT));
    }

    private static void figures(List<Refused> calls, int rows, int columns) {
        for (int what : new int[] { -1, 8, 9, -8, FAR, LOW }) {
            for (int k : new int[] { 0, -1, FAR }) {
                calls.add(new Refused("certify " + what, d -> d.certify(what, k), Checks.ARGUMENT));
                calls.add(new Refused("sign " + what, d -> d.sign(what, k), Checks.ARGUMENT));
            }
        }
        for (int what = 5; what <= 7; what++) {
            int w = what;
            for (int k : new int[] { what == 5 ? rows : columns, -1, FAR, LOW }) {
                calls.add(new Refused("certify " + w + " of " + k, d -> d.certify(w, k), Checks.INDEX));
                calls.add(new Refused("sign " + w + " of " + k, d -> d.sign(w, k), Checks.INDEX));
            }
        }
    }

    /** More refused calls than there are rows, columns, entries or pairs use none of them up. */
    private static void manyRefusedAndThenOneTaken() {
        CHECKS.under("what throws changes nothing");
        CertificateDesk d = Desks.some();
        for (int n = 0; n < 110; n++) {
            CHECKS.ints("row", () -> d.row(3, 1.0, BAD), Checks.ARGUMENT);
            CHECKS.ints("column", () -> d.column(1.0, 3, 1.0, BAD), Checks.ARGUMENT);
            CHECKS.ints("entry", () -> d.entry(0, 0, 1.0), Checks.STATE);
            CHECKS.ints("pair", () -> d.pair(1, 0, 1.0), Checks.STATE);
        }
        CHECKS.ints("row", () -> d.row(0, 0.0, 0.0), 2);
        CHECKS.ints("column", () -> d.column(0.0, 0, 0.0, 0.0), 3);
        CHECKS.ints("entry", () -> d.entry(2, 3, 1.0), 4);
        CHECKS.ints("pair", () -> d.pair(3, 3, 1.0), 3);
    }
}
