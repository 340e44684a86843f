import java.util.NoSuchElementException;

/**
 * The value of an invoice's goods by the first of six methods that holds.
 *
 * Every answer is worked out anew from what was told, in rows that the
 * constructor made: a call keeps nothing and makes no object but what it throws.
 */
public final class ValueMethods {
    public static final int NONE = -1;

    private static final int MOST_LINES = 40;
    private static final long MOST_OF_A_LINE = 100000000L;
    private static final long MOST_CENTS = 1000000000L;

    private static final int ADDITION_KINDS = 5;
    private static final int DEDUCTION_KINDS = 4;

    private static final int LAST_DAY = 359;
    private static final int DAYS_OF_A_PERIOD = 30;

    private static final int THOUSAND = 1000;

    private static final int TRANSACTION = 1;
    private static final int IDENTICAL = 2;
    private static final int SIMILAR = 3;
    private static final int DEDUCTIVE = 4;
    private static final int COMPUTED = 5;
    private static final int FALL_BACK = 6;

    private static final long MOST_BY_WEIGHT = 100000L;

    private static final int[] USUAL_ORDER = {IDENTICAL, SIMILAR, DEDUCTIVE, COMPUTED, FALL_BACK};
    private static final int[] TURNED_ORDER = {IDENTICAL, SIMILAR, COMPUTED, DEDUCTIVE, FALL_BACK};

    private final Lines lines;
    private final Charges additions;
    private final Charges deductions;
    private final Discounts discounts;
    private final Rates rates;

    // Rows by the method's number; place 0 stays unused.
    private final boolean[] conditions;
    private final boolean[] figured;
    private final long[] figuresA;
    private final long[] figuresB;

    // Each line's value ahead of the rate, as the last fill.. left it.
    private final long[] values;

    private int invoiceDay;
    private int paidDay;
    private boolean areRelated;
    private long testValue;
    private int testBand;
    private boolean isTurned;

    public ValueMethods() {
        lines = new Lines();
        additions = new Charges(ADDITION_KINDS);
        deductions = new Charges(DEDUCTION_KINDS);
        discounts = new Discounts();
        rates = new Rates();
        conditions = new boolean[FALL_BACK + 1];
        figured = new boolean[FALL_BACK + 1];
        figuresA = new long[FALL_BACK + 1];
        figuresB = new long[FALL_BACK + 1];
        values = new long[MOST_LINES];
        invoiceDay = 0;
        paidDay = LAST_DAY;
        testValue = NONE;
    }

    // What is told.

    public int line(long weight, long price) throws IllegalArgumentException, IllegalStateException {
        if (!within(weight, 0, MOST_OF_A_LINE) || !within(price, 0, MOST_OF_A_LINE)) {
            throw new IllegalArgumentException("a line's weight or price can't be");
        }
        if (lines.isFull()) {
            throw new IllegalStateException("there are 40 lines");
        }
        return lines.append(weight, price);
    }

    public boolean add(int kind, long cents, boolean byWeight) throws IllegalArgumentException {
        if (!additions.hasKind(kind) || !within(cents, 0, MOST_CENTS)) {
            throw new IllegalArgumentException("an addition's kind or cents can't be");
        }
        return additions.tell(kind, cents, byWeight);
    }

    public boolean less(int kind, long cents, boolean byWeight) throws IllegalArgumentException {
        if (!deductions.hasKind(kind) || !within(cents, 0, MOST_CENTS)) {
            throw new IllegalArgumentException("a deduction's kind or cents can't be");
        }
        return deductions.tell(kind, cents, byWeight);
    }

    public boolean discount(int days, int thousandths) throws IllegalArgumentException, IllegalStateException {
        if (!within(days, 0, LAST_DAY) || !within(thousandths, 0, THOUSAND)) {
            throw new IllegalArgumentException("a discount's days or thousandths can't be");
        }
        if (discounts.isFull()) {
            throw new IllegalStateException("there are 10 rows of discounts");
        }
        return discounts.tell(days, thousandths);
    }

    public boolean days(int invoice, int paid) {
        if (!within(invoice, 0, LAST_DAY) || !within(paid, 0, LAST_DAY)) {
            return false;
        }
        invoiceDay = invoice;
        paidDay = paid;
        return true;
    }

    public boolean rate(int period, int up, int down) {
        return rates.tell(period, up, down);
    }

    public boolean condition(int method, boolean holds) {
        if (!within(method, TRANSACTION, FALL_BACK)) {
            return false;
        }
        conditions[method] = holds;
        return true;
    }

    public boolean figures(int method, long a, long b) {
        if (!within(method, IDENTICAL, FALL_BACK) || !figuresCanBe(method, a, b)) {
            return false;
        }
        figured[method] = true;
        figuresA[method] = a;
        figuresB[method] = b;
        return true;
    }

    public boolean related(boolean are, long test, int band) {
        boolean testCanBe = test == NONE || within(test, 0, MOST_CENTS);
        if (!testCanBe || !within(band, 0, THOUSAND)) {
            return false;
        }
        areRelated = are;
        testValue = test;
        testBand = band;
        return true;
    }

    public void turned(boolean are) {
        isTurned = are;
    }

    // What is asked.

    public int method() {
        return findMethod();
    }

    public long value(int line, int what) throws IndexOutOfBoundsException, NoSuchElementException {
        if (!lines.has(line) || !within(what, 0, 1)) {
            throw new IndexOutOfBoundsException("there is no such line or what");
        }
        int method = findMethod();
        if (method == 0) {
            throw new NoSuchElementException("no method holds");
        }
        return what == 0 ? ownValue(line, method) : values[line];
    }

    public long transaction(int line) throws IndexOutOfBoundsException {
        if (!lines.has(line)) {
            throw new IndexOutOfBoundsException("there is no such line");
        }
        fillTransaction();
        return values[line];
    }

    public long share(long amount, int line, boolean byWeight)
            throws IndexOutOfBoundsException, IllegalArgumentException {
        if (!lines.has(line)) {
            throw new IndexOutOfBoundsException("there is no such line");
        }
        if (!within(amount, 0, MOST_CENTS)) {
            throw new IllegalArgumentException("an amount can't be");
        }
        lines.shareOut(amount, byWeight);
        return lines.partOf(line);
    }

    public long plain(long amount, int line)
            throws IndexOutOfBoundsException, IllegalArgumentException, ArithmeticException {
        if (!lines.has(line)) {
            throw new IndexOutOfBoundsException("there is no such line");
        }
        if (!within(amount, 0, MOST_CENTS)) {
            throw new IllegalArgumentException("an amount can't be");
        }
        long whole = lines.weightSum();
        if (whole == 0) {
            throw new ArithmeticException("the sum of weights is 0");
        }
        return amount * lines.weightOf(line) / whole;
    }

    public int count(int what) {
        switch (what) {
            case 0:
                return lines.size();
            case 1:
                return additions.toldKinds();
            case 2:
                return deductions.toldKinds();
            case 3:
                return period();
            case 4:
                return discounts.thousandthsOn(invoiceDay, paidDay);
            case 5:
                return discounts.size();
            case 6:
                fillTransaction();
                return passesTest() ? 1 : 0;
            default:
                return NONE;
        }
    }

    public long sum(int what) {
        switch (what) {
            case 0:
                return lines.weightSum();
            case 1:
                return lines.priceSum();
            case 2:
                return additions.total();
            case 3:
                return deductions.total();
            case 4:
                return discountCents();
            case 5:
                int method = findMethod();
                return method == 0 ? NONE : ownSum(method);
            case 6:
                return findMethod() == 0 ? NONE : valueSum();
            default:
                return NONE;
        }
    }

    // The six methods.

    /** THE METHOD or 0; where there is one, its values are left in the row of values. */
    private int findMethod() {
        if (lines.size() == 0) {
            return 0;
        }
        if (conditions[TRANSACTION]) {
            fillTransaction();
            if (noValueBelowZero() && passesTest()) {
                return TRANSACTION;
            }
        }
        int[] order = isTurned ? TURNED_ORDER : USUAL_ORDER;
        for (int method : order) {
            if (conditions[method] && figured[method] && fillByFigures(method)) {
                return method;
            }
        }
        return 0;
    }

    private void fillTransaction() {
        for (int i = 0; i < lines.size(); i++) {
            values[i] = lines.priceOf(i);
        }
        mixIn(discountCents(), false, -1);
        mixInAll(additions, 1);
        mixInAll(deductions, -1);
    }

    private void mixInAll(Charges charges, int sign) {
        for (int kind = 0; kind < charges.kinds(); kind++) {
            mixIn(charges.centsOf(kind), charges.goesByWeight(kind), sign);
        }
    }

    private void mixIn(long cents, boolean byWeight, int sign) {
        // Nothing to share is the common case: kinds that were not told.
        if (cents == 0) {
            return;
        }
        lines.shareOut(cents, byWeight);
        for (int i = 0; i < lines.size(); i++) {
            values[i] += sign * lines.partOf(i);
        }
    }

    private boolean noValueBelowZero() {
        for (int i = 0; i < lines.size(); i++) {
            if (values[i] < 0) {
                return false;
            }
        }
        return true;
    }

    /** The TEST on the row of values, which must hold the transaction's. */
    private boolean passesTest() {
        if (!areRelated) {
            return true;
        }
        if (testValue == NONE) {
            return false;
        }
        // Both sides times 1000: the band's edge is exact and seldom a whole cent.
        return Math.abs(valueSum() - testValue) * THOUSAND <= testValue * testBand;
    }

    /** Fills the values of one of the methods 2 to 6, which has figures; false if it does not hold. */
    private boolean fillByFigures(int method) {
        long a = figuresA[method];
        long b = figuresB[method];
        switch (method) {
            case DEDUCTIVE:
                return fillShared(a * (THOUSAND - b) / THOUSAND - deductions.total());
            case COMPUTED:
                return fillShared(near(a * (THOUSAND + b), THOUSAND) + additions.total());
            case FALL_BACK:
                return fillShared(a);
            default:
                return fillByWeights(a, b);
        }
    }

    private boolean fillByWeights(long a, long b) {
        for (int i = 0; i < lines.size(); i++) {
            values[i] = near(lines.weightOf(i) * a, b);
        }
        return true;
    }

    private boolean fillShared(long cents) {
        if (cents < 0) {
            return false;
        }
        lines.shareOut(cents, false);
        for (int i = 0; i < lines.size(); i++) {
            values[i] = lines.partOf(i);
        }
        return true;
    }

    private static boolean figuresCanBe(int method, long a, long b) {
        if (method == IDENTICAL || method == SIMILAR) {
            return within(a, 0, MOST_BY_WEIGHT) && within(b, 1, MOST_CENTS);
        }
        return within(a, 0, MOST_CENTS) && within(b, 0, THOUSAND);
    }

    // Sums, and one's own currency.

    private long valueSum() {
        long all = 0;
        for (int i = 0; i < lines.size(); i++) {
            all += values[i];
        }
        return all;
    }

    private long discountCents() {
        return near(lines.priceSum() * discounts.thousandthsOn(invoiceDay, paidDay), THOUSAND);
    }

    private int period() {
        return invoiceDay / DAYS_OF_A_PERIOD;
    }

    private long ownSum(int method) {
        return near(valueSum() * upOf(method), downOf(method));
    }

    private long ownValue(int line, int method) {
        lines.convert(values, upOf(method), downOf(method), ownSum(method));
        return lines.partOf(line);
    }

    private long upOf(int method) {
        return isInOwnCurrency(method) ? 1 : rates.upIn(period());
    }

    private long downOf(int method) {
        return isInOwnCurrency(method) ? 1 : rates.downIn(period());
    }

    private static boolean isInOwnCurrency(int method) {
        return method == DEDUCTIVE || method == COMPUTED;
    }

    private static boolean within(long number, long least, long most) {
        return number >= least && number <= most;
    }

    private static long near(long dividend, long divisor) {
        // What is kept to divide by is 1 at least; the test is for the machine's sake.
        if (divisor <= 0) {
            return 0;
        }
        long rest = dividend % divisor;
        // Not by doubling the dividend: the greatest own sum's would all but fill a long.
        return dividend / divisor + (rest >= divisor - rest ? 1 : 0);
    }

    /** The invoice's lines, and the sharing of cents among them. */
    private static final class Lines {
        private static final long SERVED = -1;

        private final long[] weights;
        private final long[] prices;
        private final long[] ones;
        private final long[] parts;
        private final long[] rests;
        private int size;
        private long weightSum;
        private long priceSum;

        Lines() {
            weights = new long[MOST_LINES];
            prices = new long[MOST_LINES];
            ones = new long[MOST_LINES];
            parts = new long[MOST_LINES];
            rests = new long[MOST_LINES];
        }

        boolean isFull() {
            return size >= MOST_LINES;
        }

        /** The new line's number; the caller has seen that there is room. */
        int append(long weight, long price) {
            weights[size] = weight;
            prices[size] = price;
            ones[size] = 1;
            weightSum += weight;
            priceSum += price;
            size++;
            return size - 1;
        }

        boolean has(int line) {
            return line >= 0 && line < size;
        }

        int size() {
            return size;
        }

        long weightOf(int line) {
            return weights[line];
        }

        long priceOf(int line) {
            return prices[line];
        }

        long weightSum() {
            return weightSum;
        }

        long priceSum() {
            return priceSum;
        }

        /** What the line got when cents were last shared out or converted. */
        long partOf(int line) {
            return parts[line];
        }

        void shareOut(long amount, boolean byWeight) {
            long given;
            if (byWeight && weightSum > 0) {
                given = floorParts(weights, amount, weightSum);
            } else if (priceSum > 0) {
                given = floorParts(prices, amount, priceSum);
            } else {
                given = floorParts(ones, amount, size);
            }
            handOut(amount - given);
        }

        void convert(long[] values, long up, long down, long ownSum) {
            long given = floorParts(values, up, down);
            handOut(ownSum - given);
        }

        /** Sets each part to FLOOR(its base * factor / divisor), and answers the sum of the parts. */
        private long floorParts(long[] bases, long factor, long divisor) {
            // Without lines there is nothing to divide by, and no one to get a part.
            if (divisor <= 0) {
                return 0;
            }
            long given = 0;
            for (int i = 0; i < size; i++) {
                long product = bases[i] * factor;
                parts[i] = product / divisor;
                rests[i] = product % divisor;
                given += parts[i];
            }
            return given;
        }

        private void handOut(long left) {
            // The rests add up to less than a cent a line, so no line is due a second one.
            for (int turn = 0; turn < left && turn < size; turn++) {
                int greatest = 0;
                for (int i = 1; i < size; i++) {
                    if (rests[i] > rests[greatest]) {
                        greatest = i;
                    }
                }
                parts[greatest]++;
                rests[greatest] = SERVED;
            }
        }
    }

    /** Amounts by kind, each told at most once: the additions, or the deductions. */
    private static final class Charges {
        private final long[] cents;
        private final boolean[] byWeight;
        private final boolean[] told;
        private int toldKinds;
        private long total;

        Charges(int kinds) {
            cents = new long[kinds];
            byWeight = new boolean[kinds];
            told = new boolean[kinds];
        }

        int kinds() {
            return cents.length;
        }

        boolean hasKind(int kind) {
            return kind >= 0 && kind < cents.length;
        }

        boolean tell(int kind, long amount, boolean goesByWeight) {
            if (told[kind]) {
                return false;
            }
            told[kind] = true;
            cents[kind] = amount;
            byWeight[kind] = goesByWeight;
            toldKinds++;
            total += amount;
            return true;
        }

        /** 0 for a kind that was not told. */
        long centsOf(int kind) {
            return cents[kind];
        }

        boolean goesByWeight(int kind) {
            return byWeight[kind];
        }

        int toldKinds() {
            return toldKinds;
        }

        long total() {
            return total;
        }
    }

    /** The rows of discounts, their days rising. */
    private static final class Discounts {
        private static final int MOST_ROWS = 10;

        private final int[] rowDays;
        private final int[] rowThousandths;
        private int size;

        Discounts() {
            rowDays = new int[MOST_ROWS];
            rowThousandths = new int[MOST_ROWS];
        }

        boolean isFull() {
            return size >= MOST_ROWS;
        }

        int size() {
            return size;
        }

        /** The caller has seen that there is room. */
        boolean tell(int days, int thousandths) {
            if (size > 0 && days <= rowDays[size - 1]) {
                return false;
            }
            rowDays[size] = days;
            rowThousandths[size] = thousandths;
            size++;
            return true;
        }

        int thousandthsOn(int invoiceDay, int paidDay) {
            int most = 0;
            for (int i = 0; i < size; i++) {
                if (paidDay <= invoiceDay + rowDays[i] && rowThousandths[i] > most) {
                    most = rowThousandths[i];
                }
            }
            return most;
        }
    }

    /** A rate for each period, 1 / 1 where none was told. */
    private static final class Rates {
        private static final int PERIODS = 12;
        private static final int MOST = 10000;

        // 0 where none was told.
        private final int[] ups;
        private final int[] downs;

        Rates() {
            ups = new int[PERIODS];
            downs = new int[PERIODS];
        }

        boolean tell(int period, int up, int down) {
            if (period < 0 || period >= PERIODS || ups[period] != 0) {
                return false;
            }
            if (up < 1 || up > MOST || down < 1 || down > MOST) {
                return false;
            }
            ups[period] = up;
            downs[period] = down;
            return true;
        }

        long upIn(int period) {
            return ups[period] == 0 ? 1 : ups[period];
        }

        long downIn(int period) {
            return downs[period] == 0 ? 1 : downs[period];
        }
    }
}
