import java.util.Arrays;

/**
 * How far given doubles are from solving a linear or quadratic program: each figure is exact as a
 * real number, and is rounded up to a double once.
 */
public final class CertificateDesk {
    private static final int MOST_ROWS = 12;
    private static final int MOST_COLUMNS = 16;
    private static final int MOST_ENTRIES = 100;
    private static final int MOST_PAIRS = 60;
    private static final int MOST_BY = 600;

    private static final int WORST_ROW = 0;
    private static final int WORST_COLUMN = 1;
    private static final int WORST_DUAL = 2;
    private static final int GAP = 3;
    private static final int MINIMIZED = 4;
    private static final int ONE_ROW = 5;
    private static final int ONE_COLUMN = 6;
    private static final int REDUCED_COST = 7;

    private final Numbers offset = new Numbers(1);
    // Lets a reduced cost itself be reckoned as a reduced cost times a number.
    private final Numbers one = new Numbers(1);
    private final Numbers costs = new Numbers(MOST_COLUMNS);
    private final Lines rows = new Lines(MOST_ROWS);
    private final Lines columns = new Lines(MOST_COLUMNS);
    private final Cells entries = new Cells(MOST_ENTRIES);
    private final Cells pairs = new Cells(MOST_PAIRS);

    // Made once and used by every call, so that no call makes rows of its own.
    private final Product product = new Product();
    private final Exact figure = new Exact();
    private final Exact candidate = new Exact();

    public CertificateDesk() {
        one.put(0, 1.0, 0);
    }

    public void constant(double v) throws IllegalArgumentException {
        if (!Numbers.allows(v)) {
            throw new IllegalArgumentException("the constant is no number that may be given");
        }
        offset.put(0, v, 0);
    }

    public int row(int has, double low, double high)
            throws IllegalArgumentException, IndexOutOfBoundsException {
        if (!Lines.allows(has, low, high)) {
            throw new IllegalArgumentException("has is not 0 to 3, or a limit may not be given");
        }
        if (rows.isFull()) {
            throw new IndexOutOfBoundsException("there are 12 rows");
        }
        return rows.append(has, low, high);
    }

    public int column(double c, int has, double low, double high)
            throws IllegalArgumentException, IndexOutOfBoundsException {
        if (!Numbers.allows(c) || !Lines.allows(has, low, high)) {
            throw new IllegalArgumentException("has is not 0 to 3, or a number may not be given");
        }
        if (columns.isFull()) {
            throw new IndexOutOfBoundsException("there are 16 columns");
        }
        int number = columns.append(has, low, high);
        costs.put(number, c, 0);
        return number;
    }

    public int entry(int i, int j, double v)
            throws IllegalArgumentException, IllegalStateException, IndexOutOfBoundsException {
        if (!rows.holds(i) || !columns.holds(j) || !Numbers.allows(v)) {
            throw new IllegalArgumentException("no such row or column, or v may not be given");
        }
        if (entries.holds(i, j)) {
            throw new IllegalStateException("the entry is there already");
        }
        if (entries.isFull()) {
            throw new IndexOutOfBoundsException("there are 100 entries");
        }
        return entries.append(i, j, v);
    }

    public int pair(int i, int j, double v)
            throws IllegalArgumentException, IllegalStateException, IndexOutOfBoundsException {
        if (!columns.holds(i) || !columns.holds(j) || !Numbers.allows(v)) {
            throw new IllegalArgumentException("no such column, or v may not be given");
        }
        if (pairs.holds(i, j) || pairs.holds(j, i)) {
            throw new IllegalStateException("the pair is there already");
        }
        if (pairs.isFull()) {
            throw new IndexOutOfBoundsException("there are 60 pairs");
        }
        return pairs.append(i, j, v);
    }

    public void x(int j, double v, int by)
            throws IllegalArgumentException, IndexOutOfBoundsException {
        giveValue(columns, j, v, by);
    }

    public void y(int i, double v, int by)
            throws IllegalArgumentException, IndexOutOfBoundsException {
        giveValue(rows, i, v, by);
    }

    public double certify(int what, int k)
            throws IllegalArgumentException, IndexOutOfBoundsException, ArithmeticException {
        refuseUnknown(what, k);
        reckon(what, k);
        figure.roundUp();
        if (figure.isTooGreat()) {
            throw new ArithmeticException("the figure is not finite as a double");
        }
        return figure.rounded();
    }

    public int sign(int what, int k) throws IllegalArgumentException, IndexOutOfBoundsException {
        refuseUnknown(what, k);
        reckon(what, k);
        return figure.signum();
    }

    private static void giveValue(Lines lines, int k, double v, int by) {
        if (!Numbers.allows(v) || by < -MOST_BY || by > MOST_BY) {
            throw new IllegalArgumentException("v may not be given, or by is not -600 to 600");
        }
        if (!lines.holds(k)) {
            throw new IndexOutOfBoundsException("there is none of that number");
        }
        lines.values.put(k, v, by);
    }

    private void refuseUnknown(int what, int k) {
        if (what < WORST_ROW || what > REDUCED_COST) {
            throw new IllegalArgumentException("what is not 0 to 7");
        }
        if (what == ONE_ROW && !rows.holds(k)) {
            throw new IndexOutOfBoundsException("there is no row k");
        }
        if ((what == ONE_COLUMN || what == REDUCED_COST) && !columns.holds(k)) {
            throw new IndexOutOfBoundsException("there is no column k");
        }
    }

    private void reckon(int what, int k) {
        figure.clear();
        switch (what) {
            case WORST_ROW:
                for (int i = 0; i < rows.count; i++) {
                    raiseByRow(i);
                }
                break;
            case WORST_COLUMN:
                for (int j = 0; j < columns.count; j++) {
                    raiseByColumn(j);
                }
                break;
            case WORST_DUAL:
                raiseByDuals();
                break;
            case GAP:
                addGap();
                break;
            case MINIMIZED:
                addMinimized();
                break;
            case ONE_ROW:
                raiseByRow(k);
                break;
            case ONE_COLUMN:
                raiseByColumn(k);
                break;
            case REDUCED_COST:
                addReducedCost(figure, k, false, one, 0);
                break;
            default:
                break;
        }
    }

    private void raiseByRow(int i) {
        if (rows.hasLow(i)) {
            candidate.clear();
            candidate.add(product.start(false, 0).times(rows.lows, i));
            addActivity(candidate, i, true);
            figure.raiseTo(candidate);
        }
        if (rows.hasHigh(i)) {
            candidate.clear();
            addActivity(candidate, i, false);
            candidate.add(product.start(true, 0).times(rows.highs, i));
            figure.raiseTo(candidate);
        }
    }

    private void raiseByColumn(int j) {
        if (columns.hasLow(j)) {
            candidate.clear();
            candidate.add(product.start(false, 0).times(columns.lows, j));
            candidate.add(product.start(true, 0).times(columns.values, j));
            figure.raiseTo(candidate);
        }
        if (columns.hasHigh(j)) {
            candidate.clear();
            candidate.add(product.start(false, 0).times(columns.values, j));
            candidate.add(product.start(true, 0).times(columns.highs, j));
            figure.raiseTo(candidate);
        }
    }

    private void raiseByDuals() {
        for (int j = 0; j < columns.count; j++) {
            candidate.clear();
            addReducedCost(candidate, j, false, one, 0);
            raiseByCandidateDual(columns, j);
        }
        for (int i = 0; i < rows.count; i++) {
            candidate.clear();
            candidate.add(product.start(false, 0).times(rows.values, i));
            raiseByCandidateDual(rows, i);
        }
    }

    private void raiseByCandidateDual(Lines lines, int k) {
        int side = candidate.signum();
        if (side > 0 && !lines.hasLow(k)) {
            figure.raiseTo(candidate);
        } else if (side < 0 && !lines.hasHigh(k)) {
            candidate.negate();
            figure.raiseTo(candidate);
        }
    }

    private void addMinimized() {
        figure.add(product.start(false, 0).times(offset, 0));
        addCosts();
        addSquares(-1);
    }

    // K cancels out, and the two halves of the squares make one whole.
    private void addGap() {
        addCosts();
        addSquares(0);
        for (int i = 0; i < rows.count; i++) {
            int side = rows.values.signum(i);
            if (side > 0 && rows.hasLow(i)) {
                figure.add(product.start(true, 0).times(rows.values, i).times(rows.lows, i));
            } else if (side < 0 && rows.hasHigh(i)) {
                figure.add(product.start(true, 0).times(rows.values, i).times(rows.highs, i));
            }
        }
        for (int j = 0; j < columns.count; j++) {
            candidate.clear();
            addReducedCost(candidate, j, false, one, 0);
            int side = candidate.signum();
            if (side > 0 && columns.hasLow(j)) {
                addReducedCost(figure, j, true, columns.lows, j);
            } else if (side < 0 && columns.hasHigh(j)) {
                addReducedCost(figure, j, true, columns.highs, j);
            }
        }
    }

    private void addCosts() {
        for (int j = 0; j < columns.count; j++) {
            figure.add(product.start(false, 0).times(costs, j).times(columns.values, j));
        }
    }

    /** Adds the sum of q[i][j] * x[i] * x[j] over all i and j, times 2 ** by. */
    private void addSquares(int by) {
        for (int k = 0; k < pairs.count; k++) {
            int i = pairs.first(k);
            int j = pairs.second(k);
            // The sum meets q[i][j] and q[j][i], but q[i][i] only once.
            int power = i == j ? by : by + 1;
            figure.add(product.start(false, power).times(pairs.values, k)
                    .times(columns.values, i).times(columns.values, j));
        }
    }

    private void addActivity(Exact sum, int i, boolean negative) {
        for (int k = 0; k < entries.count; k++) {
            if (entries.first(k) == i) {
                sum.add(product.start(negative, 0).times(entries.values, k)
                        .times(columns.values, entries.second(k)));
            }
        }
    }

    /** Adds r[j] times the number of factors at the place at, or takes it off. */
    private void addReducedCost(Exact sum, int j, boolean negative, Numbers factors, int at) {
        sum.add(product.start(negative, 0).times(costs, j).times(factors, at));
        for (int k = 0; k < pairs.count; k++) {
            int first = pairs.first(k);
            int second = pairs.second(k);
            if (first == j || second == j) {
                int other = first == j ? second : first;
                sum.add(product.start(negative, 0).times(pairs.values, k)
                        .times(columns.values, other).times(factors, at));
            }
        }
        for (int k = 0; k < entries.count; k++) {
            if (entries.second(k) == j) {
                sum.add(product.start(!negative, 0).times(entries.values, k)
                        .times(rows.values, entries.first(k)).times(factors, at));
            }
        }
    }

    /** Given numbers as whole numbers times powers of two, so that the work on them is exact. */
    private static final class Numbers {
        private static final long GREATEST = 1L << 60;
        private static final long MANTISSA_FROM = 1L << 52;
        private static final long MANTISSA_END = 1L << 53;
        // A given number is at most 112 doublings from its mantissa.
        private static final int MOST_STEPS = 120;

        private final long[] mantissas;
        private final int[] exponents;

        Numbers(int length) {
            int safe = Math.max(length, 0);
            mantissas = new long[safe];
            exponents = new int[safe];
        }

        static boolean allows(double v) {
            double greatest = (double) GREATEST;
            // Asked this way round, NaN is refused before it is reckoned with.
            if (!(v >= -greatest && v <= greatest)) {
                return false;
            }
            double size = v < 0.0 ? -v : v;
            return size == 0.0 || size * greatest >= 1.0;
        }

        void put(int k, double v, int by) {
            if (k < 0 || k >= mantissas.length) {
                return;
            }
            double size = v < 0.0 ? -v : v;
            double from = (double) MANTISSA_FROM;
            double end = (double) MANTISSA_END;
            int exponent = by;
            for (int step = 0; step < MOST_STEPS && size > 0.0 && size < from; step++) {
                size = size * 2.0;
                exponent--;
            }
            for (int step = 0; step < MOST_STEPS && size >= end; step++) {
                size = size / 2.0;
                exponent++;
            }
            long mantissa = (long) size;
            mantissas[k] = v < 0.0 ? -mantissa : mantissa;
            exponents[k] = exponent;
        }

        long mantissa(int k) {
            return k >= 0 && k < mantissas.length ? mantissas[k] : 0L;
        }

        int exponent(int k) {
            return k >= 0 && k < exponents.length ? exponents[k] : 0;
        }

        int signum(int k) {
            return Long.compare(mantissa(k), 0L);
        }
    }

    /** The rows with their y, or the columns with their x. */
    private static final class Lines {
        private static final int LOW = 1;
        private static final int HIGH = 2;

        private final int[] limits;
        private final Numbers lows;
        private final Numbers highs;
        private final Numbers values;
        private int count;

        Lines(int most) {
            limits = new int[Math.max(most, 0)];
            lows = new Numbers(most);
            highs = new Numbers(most);
            values = new Numbers(most);
        }

        static boolean allows(int has, double low, double high) {
            if (has < 0 || has > (LOW | HIGH)) {
                return false;
            }
            return ((has & LOW) == 0 || Numbers.allows(low))
                    && ((has & HIGH) == 0 || Numbers.allows(high));
        }

        boolean isFull() {
            return count >= limits.length;
        }

        boolean holds(int k) {
            return k >= 0 && k < count;
        }

        int append(int has, double low, double high) {
            int number = count;
            if (number < 0 || number >= limits.length) {
                return -1;
            }
            limits[number] = has;
            if ((has & LOW) != 0) {
                lows.put(number, low, 0);
            }
            if ((has & HIGH) != 0) {
                highs.put(number, high, 0);
            }
            count++;
            return number;
        }

        boolean hasLow(int k) {
            return k >= 0 && k < limits.length && (limits[k] & LOW) != 0;
        }

        boolean hasHigh(int k) {
            return k >= 0 && k < limits.length && (limits[k] & HIGH) != 0;
        }
    }

    /** Numbers that stand at two indexes: the entries, or the pairs. */
    private static final class Cells {
        private final int[] firsts;
        private final int[] seconds;
        private final Numbers values;
        private int count;

        Cells(int most) {
            int safe = Math.max(most, 0);
            firsts = new int[safe];
            seconds = new int[safe];
            values = new Numbers(safe);
        }

        boolean isFull() {
            return count >= firsts.length;
        }

        boolean holds(int i, int j) {
            for (int k = 0; k < count; k++) {
                if (first(k) == i && second(k) == j) {
                    return true;
                }
            }
            return false;
        }

        int append(int i, int j, double v) {
            int at = count;
            if (at >= 0 && at < firsts.length && at < seconds.length) {
                firsts[at] = i;
                seconds[at] = j;
                values.put(at, v, 0);
                count++;
            }
            return count;
        }

        int first(int k) {
            return k >= 0 && k < firsts.length ? firsts[k] : -1;
        }

        int second(int k) {
            return k >= 0 && k < seconds.length ? seconds[k] : -1;
        }
    }

    /** A product of up to three given numbers, whose mantissas of 53 bits need six digits. */
    private static final class Product {
        private static final int DIGITS = 6;

        private final long[] digits = new long[DIGITS];
        private int exponent;
        private boolean negative;

        Product start(boolean below, int power) {
            Arrays.fill(digits, 0L);
            digits[0] = 1L;
            exponent = power;
            negative = below;
            return this;
        }

        Product times(Numbers numbers, int k) {
            long mantissa = numbers.mantissa(k);
            long size = Math.abs(mantissa);
            long low = size & Exact.DIGIT_MASK;
            long high = size >>> Exact.DIGIT_BITS;
            long carry = 0L;
            long before = 0L;
            for (int d = 0; d < DIGITS; d++) {
                long digit = digits[d];
                long sum = digit * low + before * high + carry;
                digits[d] = sum & Exact.DIGIT_MASK;
                carry = sum >>> Exact.DIGIT_BITS;
                before = digit;
            }
            exponent += numbers.exponent(k);
            negative = negative != (mantissa < 0L);
            return this;
        }
    }

    /**
     * An exact number: the sum of digits[d] * 2 ** (27 * d - BIAS). Only after settle() are all
     * digits but the topmost from 0 to 2 ** 27 - 1; the topmost then has the sign.
     */
    private static final class Exact {
        private static final int DIGIT_BITS = 27;
        private static final long DIGIT_MASK = (1L << DIGIT_BITS) - 1L;
        // Half of q * x * x has its last bit at 2 ** -1537 or above.
        private static final int BIAS = 57 * DIGIT_BITS;
        // A sum of all q * x * x stays below 2 ** 1390; its sign needs a digit more.
        private static final int LENGTH = 112;
        private static final int TOP = LENGTH - 1;

        private static final int MANTISSA_BITS = 53;
        private static final int LEAST_EXPONENT = -1074;
        private static final int GREATEST_EXPONENT = 971;
        private static final long GREATEST_MANTISSA = (1L << MANTISSA_BITS) - 1L;

        private final long[] digits = new long[LENGTH];
        private long mantissa;
        private int exponent;

        void clear() {
            Arrays.fill(digits, 0L);
        }

        void add(Product product) {
            int place = product.exponent + BIAS;
            int at = Math.floorDiv(place, DIGIT_BITS);
            int shift = Math.floorMod(place, DIGIT_BITS);
            for (int d = 0; d < Product.DIGITS; d++) {
                long part = product.digits[d] << shift;
                long low = part & DIGIT_MASK;
                long high = part >>> DIGIT_BITS;
                addAt(at + d, product.negative ? -low : low);
                addAt(at + d + 1, product.negative ? -high : high);
            }
        }

        private void addAt(int d, long part) {
            if (d >= 0 && d < LENGTH) {
                digits[d] += part;
            }
        }

        private void settle() {
            long carry = 0L;
            for (int d = 0; d < TOP; d++) {
                long sum = digits[d] + carry;
                digits[d] = sum & DIGIT_MASK;
                carry = sum >> DIGIT_BITS;
            }
            digits[TOP] += carry;
        }

        int signum() {
            settle();
            if (digits[TOP] < 0L) {
                return -1;
            }
            return topPlace() < 0 ? 0 : 1;
        }

        void negate() {
            for (int d = 0; d < LENGTH; d++) {
                digits[d] = -digits[d];
            }
            settle();
        }

        void raiseTo(Exact other) {
            settle();
            other.settle();
            if (isBelow(other)) {
                System.arraycopy(other.digits, 0, digits, 0, LENGTH);
            }
        }

        private boolean isBelow(Exact other) {
            for (int d = TOP; d >= 0; d--) {
                if (digits[d] != other.digits[d]) {
                    return digits[d] < other.digits[d];
                }
            }
            return false;
        }

        /** Finds the least double that is not below this number, which is used up by that. */
        void roundUp() {
            boolean below = signum() < 0;
            if (below) {
                negate();
            }
            int lowest = Math.max(topPlace() - MANTISSA_BITS + 1, BIAS + LEAST_EXPONENT);
            long size = mantissaFrom(lowest);
            if (!below && hasBitUnder(lowest)) {
                size++;
            }
            mantissa = below ? -size : size;
            exponent = lowest - BIAS;
        }

        boolean isTooGreat() {
            return mantissa > 0L && (exponent > GREATEST_EXPONENT
                    || exponent == GREATEST_EXPONENT && mantissa > GREATEST_MANTISSA);
        }

        // Asked only of what is not too great: a greater exponent then means below all doubles.
        double rounded() {
            if (exponent > GREATEST_EXPONENT) {
                return scaled(-GREATEST_MANTISSA, GREATEST_EXPONENT);
            }
            return scaled(mantissa, exponent);
        }

        // Each step is exact, since what comes out at the end is a double itself.
        private static double scaled(long whole, int power) {
            double value = (double) whole;
            double factor = power < 0 ? 0.5 : 2.0;
            int steps = Math.abs(power);
            for (int step = 0; step < steps; step++) {
                value = value * factor;
            }
            return value;
        }

        /** The place of the highest bit of a settled number that is not below 0, or -1. */
        private int topPlace() {
            for (int d = TOP; d >= 0; d--) {
                if (digits[d] != 0L) {
                    return d * DIGIT_BITS + 63 - Long.numberOfLeadingZeros(digits[d]);
                }
            }
            return -1;
        }

        private long mantissaFrom(int lowest) {
            long bits = 0L;
            for (int place = lowest + MANTISSA_BITS - 1; place >= lowest; place--) {
                bits = bits * 2L + bitAt(place);
            }
            return bits;
        }

        private long bitAt(int place) {
            int d = Math.floorDiv(place, DIGIT_BITS);
            if (d < 0 || d >= LENGTH) {
                return 0L;
            }
            return digits[d] >> Math.floorMod(place, DIGIT_BITS) & 1L;
        }

        private boolean hasBitUnder(int lowest) {
            int whole = Math.floorDiv(lowest, DIGIT_BITS);
            for (int d = 0; d < whole && d < LENGTH; d++) {
                if (digits[d] != 0L) {
                    return true;
                }
            }
            long under = (1L << Math.floorMod(lowest, DIGIT_BITS)) - 1L;
            return whole >= 0 && whole < LENGTH && (digits[whole] & under) != 0L;
        }
    }
}
