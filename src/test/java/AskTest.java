import java.util.NoSuchElementException;

/** Promises 12 to 18: what an object is asked. */
public final class AskTest {
    private static final Check check = new Check("AskTest");

    public static void main(String[] args) {
        promise12FirstThatHolds();
        promise12TransactionBelowZero();
        promise12DeductiveBelowZero();
        promise12TestBand();
        promise12NoLines();
        promise13ValuesByWeight();
        promise13ValuesByPrices();
        promise13OwnValues();
        promise13OwnCurrency();
        promise13Greatest();
        promise13Wrong();
        promise14Transaction();
        promise14Wrong();
        promise15Share();
        promise15SumsOfZero();
        promise15FortyLines();
        promise15Wrong();
        promise16Plain();
        promise17Count();
        promise17Discount();
        promise17Test();
        promise18Sum();
        promise18Discount();
        check.end();
    }

    private static ValueMethods withLines(long... weightsAndPrices) {
        ValueMethods x = new ValueMethods();
        for (int i = 0; i + 1 < weightsAndPrices.length; i += 2) {
            x.line(weightsAndPrices[i], weightsAndPrices[i + 1]);
        }
        return x;
    }

    private static void hold(ValueMethods x, int method, long a, long b) {
        x.condition(method, true);
        x.figures(method, a, b);
    }

    private static void values(String what, ValueMethods x, int which, long... due) {
        for (int line = 0; line < due.length; line++) {
            check.same(what + ", line " + line, x.value(line, which), due[line]);
        }
    }

    private static void shares(String what, ValueMethods x, long amount, boolean byWeight, long... due) {
        for (int line = 0; line < due.length; line++) {
            check.same(what + ", line " + line, x.share(amount, line, byWeight), due[line]);
        }
    }

    private static void transactions(String what, ValueMethods x, long... due) {
        for (int line = 0; line < due.length; line++) {
            check.same(what + ", line " + line, x.transaction(line), due[line]);
        }
    }

    private static void promise12FirstThatHolds() {
        ValueMethods x = withLines(1, 1);
        for (int method = 6; method >= 1; method--) {
            hold(x, method, 1, 1);
            check.same("the first that holds", x.method(), method);
        }
        for (int method = 1; method <= 5; method++) {
            x.condition(method, false);
            check.same("the next that holds", x.method(), method + 1);
        }
        x.condition(6, false);
        check.same("none holds", x.method(), 0);
        for (int method = 2; method <= 6; method++) {
            ValueMethods y = withLines(1, 1);
            y.condition(method, true);
            check.same("without figures", y.method(), 0);
            y.figures(method, 1, 1);
            check.same("with figures", y.method(), method);
        }
    }

    private static void promise12TransactionBelowZero() {
        ValueMethods x = withLines(1, 100, 9, 0);
        hold(x, 1, 0, 0);
        x.less(0, 0, true);
        check.same("a value of exactly 0", x.method(), 1);
        x.less(1, 1, true);
        // The sum is 99, but the second line alone bears the cent by weight.
        check.same("one line below 0", x.transaction(1), -1);
        check.same("does not hold", x.method(), 0);
        x.add(0, 1, true);
        check.same("holds again", x.method(), 1);
    }

    private static void promise12DeductiveBelowZero() {
        ValueMethods x = withLines(1, 1);
        hold(x, 4, 1000, 250);
        x.less(0, 750, false);
        check.same("exactly 0", x.method(), 4);
        check.same("its value", x.value(0, 0), 0);
        x.less(1, 1, false);
        check.same("below 0", x.method(), 0);
        x.figures(4, 1001, 250);
        check.same("FLOOR(750.75) is still below", x.method(), 0);
        x.figures(4, 1002, 250);
        check.same("FLOOR(751.5) is not", x.method(), 4);
    }

    private static void promise12TestBand() {
        ValueMethods x = withLines(1, 400, 1, 600);
        hold(x, 1, 0, 0);
        long[][] passed = {{1000, 0}, {1250, 200}, {800, 250}, {1050, 48}, {2000, 500}, {1000000000, 1000}};
        for (long[] test : passed) {
            x.related(true, test[0], (int) test[1]);
            check.same("within " + test[0] + ", " + test[1], x.method(), 1);
        }
        long[][] failed = {{999, 1}, {1001, 0}, {1250, 199}, {800, 249}, {1050, 47}, {499, 1000}, {0, 1000}};
        for (long[] test : failed) {
            x.related(true, test[0], (int) test[1]);
            check.same("not within " + test[0] + ", " + test[1], x.method(), 0);
        }
        x.related(true, ValueMethods.NONE, 1000);
        check.same("without a test", x.method(), 0);
        x.related(true, 1100, 0);
        x.add(0, 100, true);
        check.same("additions are in the sum", x.method(), 1);
        x.less(0, 100, true);
        check.same("deductions are in the sum", x.method(), 0);
    }

    private static void promise12NoLines() {
        ValueMethods x = new ValueMethods();
        for (int method = 1; method <= 6; method++) {
            hold(x, method, 1, 1);
        }
        x.add(0, 10, true);
        check.same("no lines, no method", x.method(), 0);
        check.same("no own sum", x.sum(5), -1);
        x.line(0, 0);
        check.same("a line of nothing is a line", x.method(), 1);
    }

    private static void promise13ValuesByWeight() {
        for (int method = 2; method <= 3; method++) {
            ValueMethods x = withLines(7, 100, 3, 50, 0, 9, 5, 5);
            hold(x, method, 10, 4);
            values("halves up", x, 1, 18, 8, 0, 13);
            x.figures(method, 1, 10);
            values("7, 3, 0, 5 tenths", x, 1, 1, 0, 0, 1);
            x.figures(method, 0, 1);
            values("a is 0", x, 1, 0, 0, 0, 0);
            x.figures(method, 1, 3);
            values("thirds", x, 1, 2, 1, 0, 2);
        }
        ValueMethods y = withLines(7, 1);
        hold(y, 3, 10, 4);
        hold(y, 2, 100, 4);
        check.same("each method's own figures", y.value(0, 1), 175);
        y.condition(2, false);
        check.same("those of 3", y.value(0, 1), 18);
    }

    private static void promise13ValuesByPrices() {
        ValueMethods x = withLines(7, 100, 3, 50);
        x.less(0, 200, false);
        x.add(2, 11, true);
        hold(x, 6, 100, 1000);
        values("6", x, 1, 67, 33);
        hold(x, 5, 333, 105);
        check.same("5: NEAR(367.965) and 11", x.sum(6), 379);
        values("5", x, 1, 253, 126);
        x.figures(5, 500, 1);
        check.same("5: a half is up", x.sum(6), 512);
        x.figures(5, 499, 1);
        check.same("5: below a half", x.sum(6), 510);
        hold(x, 4, 1000, 250);
        values("4", x, 1, 367, 183);
        x.figures(4, 999, 1);
        check.same("4: FLOOR(998.001)", x.sum(6), 798);

        ValueMethods zero = withLines(1, 0, 2, 0, 3, 0);
        hold(zero, 6, 5, 0);
        values("prices of 0 as if 1", zero, 1, 2, 2, 1);
    }

    private static void promise13OwnValues() {
        ValueMethods x = withLines(0, 1033, 0, 567, 0, 1);
        x.condition(1, true);
        x.rate(0, 3, 7);
        values("3 / 7", x, 0, 443, 243, 0);
        values("ahead of the rate", x, 1, 1033, 567, 1);

        ValueMethods half = withLines(0, 1, 0, 1, 0, 1);
        half.condition(1, true);
        half.rate(0, 1, 2);
        check.same("1.5 is 2", half.sum(5), 2);
        values("equal remainders: the least line first", half, 0, 1, 1, 0);

        ValueMethods down = withLines(0, 1, 0, 1, 0, 1, 0, 1);
        down.condition(1, true);
        down.rate(0, 1, 3);
        check.same("4 / 3 is 1", down.sum(5), 1);
        values("one cent is left", down, 0, 1, 0, 0, 0);

        ValueMethods greater = withLines(0, 1, 0, 2, 0, 3);
        greater.condition(1, true);
        greater.rate(0, 2, 5);
        check.same("12 / 5 is 2", greater.sum(5), 2);
        values("the greatest remainder first", greater, 0, 0, 1, 1);
        values("asked again", greater, 0, 0, 1, 1);

        ValueMethods none = withLines(0, 1);
        none.condition(1, true);
        none.rate(0, 1, 3);
        values("nothing is left", none, 0, 0);
    }

    private static void promise13OwnCurrency() {
        ValueMethods x = withLines(10, 10);
        x.rate(0, 3, 1);
        for (int method = 6; method >= 1; method--) {
            hold(x, method, 10, method <= 3 ? 10 : 0);
            boolean own = method == 4 || method == 5;
            check.same("ahead of the rate, by " + method, x.value(0, 1), 10);
            check.same("own value by " + method, x.value(0, 0), own ? 10 : 30);
            check.same("own sum by " + method, x.sum(5), own ? 10 : 30);
        }
    }

    /** The greatest numbers the document lets in: no sum may run over. */
    private static void promise13Greatest() {
        ValueMethods x = new ValueMethods();
        for (int i = 0; i < 40; i++) {
            x.line(100000000, 100000000);
        }
        for (int kind = 0; kind < 5; kind++) {
            x.add(kind, 1000000000, kind % 2 == 0);
        }
        x.rate(0, 10000, 1);
        hold(x, 5, 1000000000, 1000);
        check.same("5: 7000000000 in all", x.sum(6), 7000000000L);
        check.same("5: a 40th", x.value(39, 0), 175000000L);
        hold(x, 2, 100000, 1);
        check.same("2: a line", x.value(39, 1), 10000000000000L);
        check.same("2: own", x.value(39, 0), 100000000000000000L);
        check.same("2: own sum", x.sum(5), 4000000000000000000L);
        x.condition(1, true);
        check.same("1: own sum", x.sum(5), 90000000000000L);
        check.same("1: a line", x.value(0, 0), 2250000000000L);
        x.rate(1, 9999, 10000);
        x.days(30, 30);
        x.condition(1, false);
        check.same("2: own sum at 0.9999", x.sum(5), 399960000000000L);
    }

    private static void promise13Wrong() {
        ValueMethods x = withLines(1, 1, 1, 1);
        check.outOfBounds("line -1", () -> x.value(-1, 0));
        check.outOfBounds("line 2", () -> x.value(2, 0));
        check.outOfBounds("line far above", () -> x.value(Integer.MAX_VALUE, 1));
        check.outOfBounds("what -1", () -> x.value(0, -1));
        check.outOfBounds("what 2", () -> x.value(0, 2));
        check.thrown("no method", NoSuchElementException.class, () -> x.value(0, 0));
        check.thrown("no method", NoSuchElementException.class, () -> x.value(1, 1));
        x.condition(1, true);
        check.outOfBounds("line 2 with a method", () -> x.value(2, 0));
        check.same("a method", x.value(1, 0), 1);
    }

    private static void promise14Transaction() {
        ValueMethods x = withLines(100, 1000, 200, 500, 0, 1);
        transactions("prices alone", x, 1000, 500, 1);
        x.add(0, 100, true);
        transactions("and freight by weight", x, 1033, 567, 1);
        x.discount(10, 33);
        x.days(5, 15);
        transactions("less a discount of 50", x, 1000, 550, 1);
        x.less(3, 4000, false);
        transactions("below 0, too", x, -1665, -782, -2);
        check.same("no condition was told", x.method(), 0);

        // Each amount is shared for itself: two cents that go to line 0 both.
        ValueMethods apart = withLines(1, 1, 1, 1);
        apart.add(0, 1, false);
        apart.add(1, 1, false);
        transactions("shared one by one", apart, 3, 1);
        apart.less(0, 1, true);
        apart.less(1, 1, true);
        apart.less(2, 1, true);
        transactions("taken off one by one", apart, 0, 1);
    }

    private static void promise14Wrong() {
        ValueMethods x = withLines(1, 1);
        check.outOfBounds("line -1", () -> x.transaction(-1));
        check.outOfBounds("line 1", () -> x.transaction(1));
        check.outOfBounds("line of 40", () -> x.transaction(40));
        check.outOfBounds("least line of all", () -> x.transaction(Integer.MIN_VALUE));
    }

    private static void promise15Share() {
        ValueMethods x = withLines(1, 6, 2, 3, 3, 1);
        shares("by weight", x, 10, true, 2, 3, 5);
        shares("by price", x, 10, false, 6, 3, 1);
        shares("nothing", x, 0, true, 0, 0, 0);
        shares("the greatest amount", x, 1000000000, true, 166666667, 333333333, 500000000);
        ValueMethods equal = withLines(1, 5, 1, 5, 1, 5);
        shares("equal remainders, 1 left", equal, 100, true, 34, 33, 33);
        shares("equal remainders, 2 left", equal, 101, true, 34, 34, 33);
        ValueMethods rest = withLines(1, 0, 3, 0, 3, 0);
        shares("greatest remainders", rest, 2, true, 0, 1, 1);
        shares("a greater remainder behind", rest, 3, true, 1, 1, 1);
        shares("a remainder of 0 gets none", withLines(0, 0, 1, 0, 1, 0), 1, true, 0, 1, 0);
    }

    private static void promise15SumsOfZero() {
        ValueMethods noWeights = withLines(0, 1, 0, 3);
        shares("weights of 0: by prices", noWeights, 8, true, 2, 6);
        ValueMethods noPrices = withLines(1, 0, 3, 0);
        shares("prices of 0: as if 1", noPrices, 8, false, 4, 4);
        shares("weights stand", noPrices, 8, true, 2, 6);
        ValueMethods nothing = withLines(0, 0, 0, 0, 0, 0);
        shares("neither, by weight", nothing, 5, true, 2, 2, 1);
        shares("neither, by price", nothing, 5, false, 2, 2, 1);
        nothing.line(1, 0);
        shares("one weight takes all", nothing, 5, true, 0, 0, 0, 5);
    }

    private static void promise15FortyLines() {
        ValueMethods x = new ValueMethods();
        for (int i = 0; i < 40; i++) {
            x.line(1, 100000000);
        }
        for (int line = 0; line < 40; line++) {
            check.same("39 cents left, line " + line, x.share(79, line, true), line < 39 ? 2 : 1);
            check.same("the greatest prices, line " + line, x.share(1000000000, line, false), 25000000);
        }
    }

    private static void promise15Wrong() {
        ValueMethods x = withLines(1, 1);
        check.outOfBounds("line -1", () -> x.share(1, -1, true));
        check.outOfBounds("line 1", () -> x.share(1, 1, true));
        check.outOfBounds("line and amount", () -> x.share(-1, 1, true));
        check.illegal("amount below", () -> x.share(-1, 0, true));
        check.illegal("amount above", () -> x.share(1000000001, 0, false));
        check.same("the greatest amount", x.share(1000000000, 0, false), 1000000000);
        check.outOfBounds("no lines", () -> new ValueMethods().share(1, 0, false));
    }

    private static void promise16Plain() {
        ValueMethods x = withLines(1, 9, 2, 9, 0, 9);
        check.same("FLOOR(100 / 3)", x.plain(100, 0), 33);
        check.same("FLOOR(200 / 3)", x.plain(100, 1), 66);
        check.same("no weight", x.plain(100, 2), 0);
        check.same("no amount", x.plain(0, 1), 0);
        check.same("the greatest amount", x.plain(1000000000, 1), 666666666);
        check.outOfBounds("line -1", () -> x.plain(1, -1));
        check.outOfBounds("line 3", () -> x.plain(1, 3));
        check.outOfBounds("line and amount", () -> x.plain(-1, 3));
        check.illegal("amount below", () -> x.plain(-1, 0));
        check.illegal("amount above", () -> x.plain(1000000001, 0));

        ValueMethods zero = withLines(0, 5);
        check.thrown("weights of 0", ArithmeticException.class, () -> zero.plain(1, 0));
        check.thrown("even of nothing", ArithmeticException.class, () -> zero.plain(0, 0));
        check.illegal("amount and weights", () -> zero.plain(-1, 0));
        check.outOfBounds("line and weights", () -> zero.plain(1, 1));
        check.outOfBounds("no lines", () -> new ValueMethods().plain(1, 0));
    }

    private static void promise17Count() {
        ValueMethods x = withLines(1, 1, 2, 2);
        x.add(0, 0, true);
        x.add(4, 1, true);
        x.add(2, 1, true);
        x.less(3, 0, true);
        x.days(359, 0);
        x.discount(3, 4);
        long[] due = {2, 3, 1, 11, 4, 1, 1};
        for (int what = 0; what < due.length; what++) {
            check.same("count " + what, x.count(what), due[what]);
        }
        check.same("count -1", x.count(-1), -1);
        check.same("count 7", x.count(7), -1);
        check.same("count far above", x.count(Integer.MAX_VALUE), -1);
        for (int day = 0; day < 360; day++) {
            ValueMethods y = new ValueMethods();
            y.days(day, 0);
            check.same("the period of day " + day, y.count(3), day / 30);
        }
    }

    private static void promise17Discount() {
        ValueMethods x = new ValueMethods();
        x.discount(0, 20);
        x.discount(10, 50);
        x.discount(20, 30);
        x.discount(30, 0);
        long[][] rows = {{100, 99, 50}, {100, 100, 50}, {100, 101, 50}, {100, 110, 50}, {100, 111, 30},
            {100, 120, 30}, {100, 121, 0}, {100, 131, 0}, {359, 359, 50}, {0, 359, 0}};
        for (long[] row : rows) {
            x.days((int) row[0], (int) row[1]);
            check.same("paid on " + row[1] + " of " + row[0], x.count(4), row[2]);
        }
    }

    private static void promise17Test() {
        ValueMethods x = withLines(1, 10, 9, 10);
        x.related(true, 20, 0);
        check.same("passed without a condition", x.count(6), 1);
        x.less(0, 20, true);
        check.same("a sum of 0", x.count(6), 0);
        x.related(true, 0, 0);
        check.same("passed with a line below 0", x.count(6), 1);
        x.less(1, 5, true);
        check.same("a sum below 0", x.count(6), 0);
        x.related(true, 5, 1000);
        check.same("a sum below T less all of it", x.count(6), 0);
        x.add(0, 5, true);
        check.same("at T less all of it", x.count(6), 1);

        ValueMethods empty = new ValueMethods();
        empty.add(0, 100, true);
        empty.related(true, 0, 0);
        check.same("without lines the sum is 0", empty.count(6), 1);
        empty.related(true, 100, 999);
        check.same("not the additions'", empty.count(6), 0);
        empty.related(true, ValueMethods.NONE, 0);
        check.same("without lines and test", empty.count(6), 0);
        empty.related(false, ValueMethods.NONE, 0);
        check.same("not related", empty.count(6), 1);
    }

    private static void promise18Sum() {
        ValueMethods x = withLines(1, 10, 2, 20);
        x.add(0, 3, true);
        x.add(1, 4, true);
        x.less(0, 5, true);
        x.less(3, 6, true);
        x.discount(359, 100);
        x.rate(0, 1, 4);
        check.same("no method: own sum", x.sum(5), -1);
        check.same("no method: sum of values", x.sum(6), -1);
        x.condition(1, true);
        long[] due = {3, 30, 7, 11, 3, 6, 23};
        for (int what = 0; what < due.length; what++) {
            check.same("sum " + what, x.sum(what), due[what]);
        }
        check.same("sum -1", x.sum(-1), -1);
        check.same("sum 7", x.sum(7), -1);
        check.same("sum far below", x.sum(Integer.MIN_VALUE), -1);
        x.days(30, 30);
        check.same("without a rate", x.sum(5), 23);

        ValueMethods half = withLines(0, 1);
        half.condition(1, true);
        half.rate(0, 1, 2);
        check.same("own sum: a half is up", half.sum(5), 1);
        half.rate(1, 4999, 10000);
        half.days(30, 30);
        check.same("own sum: below a half", half.sum(5), 0);
    }

    private static void promise18Discount() {
        ValueMethods x = withLines(0, 1000, 0, 500);
        x.discount(359, 1);
        check.same("1.5 is 2", x.sum(4), 2);
        x.line(0, 999);
        check.same("2.499 is 2", x.sum(4), 2);
        x.line(0, 1);
        check.same("2.5 is 3", x.sum(4), 3);
        ValueMethods all = withLines(0, 1, 0, 2);
        all.discount(359, 1000);
        check.same("the whole of it", all.sum(4), 3);
        check.same("no lines", new ValueMethods().sum(4), 0);
    }
}
