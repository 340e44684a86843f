import java.util.List;

/** The terms from METHODS on: each sentence that names an edge, at the edge and on both sides of it. */
public final class MethodsEdgeTest {
    private static final Check check = new Check("MethodsEdgeTest");
    private static final Edges edges = new Edges(check);

    public static void main(String[] args) {
        conditionsAtFirst();
        transaction();
        transactionBelowZero();
        related();
        band();
        withoutTest();
        identicalAndSimilar();
        deductive();
        deductiveBelowZero();
        computed();
        fallBack();
        sharedByPrices();
        figureRanges();
        withoutFigures();
        theMethod();
        withoutLines();
        ownSum();
        ownCurrency();
        ownValues();
        ownRemainders();
        severalExceptions();
        exceptionOrFalse();
        changesNothing();
        check.end();
    }

    private static void conditionsAtFirst() {
        check.sentence("METHODS 1 to 6 have a CONDITION, told to hold or not (at first none holds)");
        for (int only = 0; only <= 6; only++) {
            ValueMethods x = Edges.withLines(1, 10);
            for (int method = 2; method <= 6; method++) {
                x.figures(method, 10, 1);
            }
            check.same("at first", x.method(), 0);
            x.condition(only, true);
            check.same("only " + only, x.method(), only);
            x.condition(only, false);
            check.same("no more " + only, x.method(), 0);
        }
    }

    // 1 TRANSACTION.

    private static void transaction() {
        check.sentence("a line's price less its share of the DISCOUNT, and the shares of ADDITIONS less those of "
            + "DEDUCTIONS");
        ValueMethods x = Edges.withLines(3, 10, 1, 30);
        x.condition(1, true);
        edges.values("the price", x, 1, 10, 30);
        x.discount(359, 100);
        edges.values("less the discount", x, 1, 9, 27);
        x.add(0, 4, true);
        edges.values("and an addition", x, 1, 12, 28);
        x.add(4, 4, false);
        edges.values("and the last addition", x, 1, 13, 31);
        x.less(0, 8, true);
        edges.values("less a deduction", x, 1, 7, 29);
        x.less(3, 8, false);
        edges.values("less the last deduction", x, 1, 5, 23);
        check.same("the sum", x.sum(6), 28);
    }

    private static void transactionBelowZero() {
        check.sentence("It does not hold, too, if a line would be below 0");
        for (int line = 0; line < 3; line++) {
            // One line alone bears what is taken off by weight; the others keep the sum far above 0.
            ValueMethods x = new ValueMethods();
            for (int i = 0; i < 3; i++) {
                x.line(i == line ? 1 : 0, 100);
            }
            x.condition(1, true);
            Edges.hold(x, 6, 5, 0);
            x.less(0, 99, true);
            check.same("a line of 1", x.transaction(line), 1);
            check.same("holds at 1", x.method(), 1);
            x.less(1, 1, true);
            check.same("a line of 0", x.transaction(line), 0);
            check.same("holds at 0", x.method(), 1);
            check.same("its sum", x.sum(6), 200);
            x.less(2, 1, true);
            check.same("a line of -1", x.transaction(line), -1);
            check.same("does not hold at -1", x.method(), 6);
            check.same("the next method's sum", x.sum(6), 5);
            x.add(0, 1, true);
            check.same("holds at 0 again", x.method(), 1);
        }
        ValueMethods last = Edges.alike(39, 0, 100);
        last.line(1, 0);
        last.condition(1, true);
        check.same("40 lines", last.method(), 1);
        last.less(0, 1, true);
        check.same("the 40th below 0", last.method(), 0);
        ValueMethods all = Edges.summing(0);
        all.condition(1, true);
        check.same("nothing but 0", all.method(), 1);
    }

    // The TEST.

    private static void related() {
        check.sentence("nor if the parties are RELATED and the TEST is not passed");
        ValueMethods x = Edges.withLines(1, 100);
        x.condition(1, true);
        Edges.hold(x, 6, 5, 0);
        check.same("not related", x.method(), 1);
        x.related(true, 99, 0);
        check.same("related, not passed", x.method(), 6);
        check.same("not passed", x.count(6), 0);
        check.same("what it would be", x.transaction(0), 100);
        x.related(true, 100, 0);
        check.same("related, passed", x.method(), 1);
        x.related(false, 99, 0);
        check.same("not related, not passed", x.method(), 1);
        check.same("not needed", x.count(6), 1);
        // Passing the test does not mend a line below 0, nor a condition that does not hold.
        ValueMethods below = Edges.withLines(1, 0, 0, 100);
        below.condition(1, true);
        below.less(0, 1, true);
        below.related(true, 99, 0);
        check.same("passed", below.count(6), 1);
        check.same("but a line is below 0", below.method(), 0);
        below.add(0, 1, true);
        below.related(true, 100, 0);
        check.same("passed, none below 0", below.method(), 1);
        below.condition(1, false);
        check.same("passed, without condition", below.method(), 0);
        ValueMethods others = Edges.withLines(1, 100);
        others.related(true, 5, 0);
        for (int method = 6; method >= 2; method--) {
            Edges.hold(others, method, 10, 1);
            check.same("others need no test", others.method(), method);
        }
    }

    private static void band() {
        check.sentence("the sum of all lines is T less or more T * band / 1000 at most (exactly)");
        // T, the band, and the least and the greatest whole sum that pass.
        long[][] rows = {{0, 0, 0, 0}, {0, 1000, 0, 0}, {1, 0, 1, 1}, {1, 999, 1, 1}, {1, 1000, 0, 2},
            {2, 499, 2, 2}, {2, 500, 1, 3}, {2, 501, 1, 3}, {1000, 0, 1000, 1000}, {1000, 1, 999, 1001},
            {1000, 50, 950, 1050}, {1001, 50, 951, 1051}, {999, 50, 950, 1048}, {1010, 50, 960, 1060},
            {1000, 999, 1, 1999}, {1000, 1000, 0, 2000}, {999, 1, 999, 999}, {1999, 1, 1998, 2000},
            {1000000000, 0, 1000000000, 1000000000}, {1000000000, 1, 999000000, 1001000000},
            {999999999, 1, 999000000, 1000999998}, {1000000000, 999, 1000000, 1999000000},
            {1000000000, 1000, 0, 2000000000}};
        for (long[] row : rows) {
            passes(row[0], (int) row[1], row[2] - 1, false);
            passes(row[0], (int) row[1], row[2], true);
            passes(row[0], (int) row[1], row[3], true);
            passes(row[0], (int) row[1], row[3] + 1, false);
        }
        passes(1000000000, 1000, 4000000000L, false);
        passes(1000000000, 1000, -1000000000, false);
        // All that makes up the lines is in the sum: 1000 - 100 + 30 - 5 = 925.
        ValueMethods x = Edges.withLines(1, 400, 7, 600);
        x.condition(1, true);
        x.discount(359, 100);
        x.add(2, 30, true);
        x.less(1, 5, false);
        long[][] tests = {{925, 0, 1}, {924, 0, 0}, {926, 0, 0}, {1000, 75, 1}, {1000, 74, 0}, {900, 28, 1},
            {900, 27, 0}};
        for (long[] test : tests) {
            x.related(true, test[0], (int) test[1]);
            check.same("925 by " + test[0] + ", " + test[1], x.count(6), test[2]);
            check.same("925, the method by " + test[0] + ", " + test[1], x.method(), test[2]);
        }
    }

    private static void passes(long test, int band, long sum, boolean due) {
        ValueMethods x = Edges.summing(sum);
        x.condition(1, true);
        x.related(true, test, band);
        String what = "T " + test + ", band " + band + ", sum " + sum;
        check.same(what, x.count(6), due ? 1 : 0);
        check.same(what + ": the method", x.method(), due && sum >= 0 ? 1 : 0);
    }

    private static void withoutTest() {
        check.sentence("without a test it is not passed");
        for (long sum : List.of(-1L, 0L, 1L, 1000L)) {
            for (int band : List.of(0, 1, 1000)) {
                ValueMethods x = Edges.summing(sum);
                x.condition(1, true);
                x.related(true, ValueMethods.NONE, band);
                check.same("sum " + sum + ", band " + band, x.count(6), 0);
                check.same("sum " + sum + ", band " + band + ": the method", x.method(), 0);
            }
        }
        ValueMethods empty = new ValueMethods();
        empty.related(true, ValueMethods.NONE, 1000);
        check.same("without lines", empty.count(6), 0);
        ValueMethods later = Edges.withLines(1, 1);
        later.related(true, 1, 0);
        check.same("with a test", later.count(6), 1);
        later.related(true, ValueMethods.NONE, 0);
        check.same("the test is gone", later.count(6), 0);
    }

    // 2 to 6.

    private static void identicalAndSimilar() {
        check.sentence("2 IDENTICAL, 3 SIMILAR: a line's value is NEAR(weight * a, b), b not 0");
        for (int method = 2; method <= 3; method++) {
            ValueMethods x = Edges.withLines(0, 9, 1, 9, 2, 9, 3, 9, 100000000, 9);
            Edges.hold(x, method, 0, 1);
            edges.values("a 0", x, 1, 0, 0, 0, 0, 0);
            x.figures(method, 1, 1);
            edges.values("1, 1", x, 1, 0, 1, 2, 3, 100000000);
            x.figures(method, 1, 2);
            edges.values("1, 2", x, 1, 0, 1, 1, 2, 50000000);
            x.figures(method, 1, 3);
            edges.values("1, 3", x, 1, 0, 0, 1, 1, 33333333);
            x.figures(method, 100000, 1);
            edges.values("100000, 1", x, 1, 0, 100000, 200000, 300000, 10000000000000L);
            x.figures(method, 100000, 1000000000);
            edges.values("100000, 1000000000", x, 1, 0, 0, 0, 0, 10000);
            check.no("b 0", x.figures(method, 1, 0));
            edges.values("as before", x, 1, 0, 0, 0, 0, 10000);
            check.same("each line is rounded, not the sum", halves(method).sum(6), 2);
        }
    }

    private static ValueMethods halves(int method) {
        return Edges.hold(Edges.withLines(1, 0, 1, 0), method, 1, 2);
    }

    private static void deductive() {
        check.sentence("4 DEDUCTIVE: figures a, b (b not above 1000): FLOOR(a * (1000 - b) / 1000) less the sum of "
            + "DEDUCTIONS");
        long[][] rows = {{0, 0, 0}, {0, 1000, 0}, {1, 0, 1}, {1, 1, 0}, {1, 999, 0}, {1, 1000, 0}, {999, 999, 0},
            {1000, 999, 1}, {1000, 1, 999}, {1001, 1, 999}, {1002, 1, 1000}, {3, 500, 1}, {1000000000, 0, 1000000000},
            {1000000000, 1, 999000000}, {999999999, 1, 998999999}, {1000000000, 999, 1000000}, {1000000000, 1000, 0}};
        for (long[] row : rows) {
            ValueMethods x = Edges.hold(Edges.withLines(1, 1), 4, row[0], row[1]);
            check.same("of " + row[0] + ", " + row[1], x.sum(6), row[2]);
        }
        ValueMethods x = Edges.hold(Edges.withLines(1, 1), 4, 1000, 0);
        for (int kind = 0; kind <= 3; kind++) {
            x.less(kind, 100, true);
            check.same("less deduction " + kind, x.sum(6), 900 - 100 * kind);
        }
        x.add(0, 77, true);
        check.same("additions are not in it", x.sum(6), 600);
        check.no("b above 1000", x.figures(4, 1000, 1001));
        check.same("as before", x.sum(6), 600);
    }

    private static void deductiveBelowZero() {
        check.sentence("it does not hold if that is below 0");
        ValueMethods x = Edges.hold(Edges.withLines(1, 1, 1, 1), 4, 1000, 250);
        Edges.hold(x, 5, 3, 0);
        x.less(0, 749, true);
        check.same("1", x.method(), 4);
        check.same("its sum", x.sum(6), 1);
        x.less(1, 1, true);
        check.same("0", x.method(), 4);
        check.same("its sum", x.sum(6), 0);
        edges.values("its values", x, 0, 0, 0);
        x.less(2, 1, true);
        check.same("-1", x.method(), 5);
        check.same("the next one's sum", x.sum(6), 3);
        x.turned(true);
        check.same("turned", x.method(), 5);
        x.condition(5, false);
        check.same("none", x.method(), 0);
        check.same("no sum", x.sum(6), -1);
        x.figures(4, 1001, 250);
        check.same("FLOOR(750.75) less 751", x.method(), 0);
        x.figures(4, 1002, 250);
        check.same("FLOOR(751.5) less 751", x.method(), 4);
        ValueMethods far = Edges.hold(Edges.withLines(1, 1), 4, 1000000000, 1000);
        check.same("0 without deductions", far.method(), 4);
        for (int kind = 0; kind <= 3; kind++) {
            far.less(kind, 1000000000, true);
            check.same("far below 0", far.method(), 0);
        }
    }

    private static void computed() {
        check.sentence("5 COMPUTED: NEAR(a * (1000 + b), 1000) and the sum of ADDITIONS");
        long[][] rows = {{0, 0, 0}, {0, 1000, 0}, {1, 0, 1}, {1, 499, 1}, {1, 500, 2}, {1, 501, 2}, {1, 1000, 2},
            {499, 1, 499}, {500, 1, 501}, {501, 1, 502}, {1000, 1, 1001}, {1000000000, 0, 1000000000},
            {1000000000, 1, 1001000000}, {999999999, 500, 1499999999}, {1000000000, 1000, 2000000000}};
        for (long[] row : rows) {
            ValueMethods x = Edges.hold(Edges.withLines(1, 1), 5, row[0], row[1]);
            check.same("of " + row[0] + ", " + row[1], x.sum(6), row[2]);
        }
        ValueMethods x = Edges.hold(Edges.withLines(1, 1), 5, 1000000000, 1000);
        for (int kind = 0; kind <= 4; kind++) {
            x.add(kind, 1000000000, true);
            check.same("and addition " + kind, x.sum(6), 3000000000L + 1000000000L * kind);
        }
        x.less(0, 77, true);
        check.same("deductions are not in it", x.sum(6), 7000000000L);
    }

    private static void fallBack() {
        check.sentence("6 FALL-BACK: a");
        for (long a : Edges.inside(0, 1000000000)) {
            for (long b : Edges.inside(0, 1000)) {
                ValueMethods x = Edges.hold(Edges.withLines(1, 1), 6, a, b);
                x.add(0, 50, true);
                x.less(0, 70, true);
                check.same("a " + a + ", b " + b, x.sum(6), a);
            }
        }
    }

    private static void sharedByPrices() {
        check.sentence("The sums of 4 to 6 are shared by prices");
        for (int method = 4; method <= 6; method++) {
            ValueMethods x = Edges.hold(Edges.withLines(9, 1, 1, 3, 5, 0), method, 8, 0);
            edges.values("by prices, " + method, x, 1, 2, 6, 0);
            x.figures(method, 7, 0);
            edges.values("the greatest remainder, " + method, x, 1, 2, 5, 0);
            x.figures(method, 2, 0);
            edges.values("equal remainders, " + method, x, 1, 1, 1, 0);
            ValueMethods zero = Edges.hold(Edges.withLines(9, 0, 1, 0, 5, 0), method, 8, 0);
            edges.values("prices of 0, " + method, zero, 1, 3, 3, 2);
        }
        ValueMethods greatest = Edges.alike(39, 1, 100000000);
        greatest.line(1, 99999999);
        Edges.hold(greatest, 5, 1000000000, 1000);
        for (int kind = 0; kind <= 4; kind++) {
            greatest.add(kind, 1000000000, true);
        }
        check.same("the greatest sum", greatest.value(0, 1), 175000001);
        check.same("the greatest sum, line 1", greatest.value(1, 1), 175000000);
        check.same("the greatest sum, line 39", greatest.value(39, 1), 174999999);
    }

    private static void figureRanges() {
        check.sentence("Figures are 0 .. 1000000000 (a; of 2, 3 0 .. 100000), 1 .. 1000000000 (b of 2, 3), "
            + "0 .. 1000 (b of 4 to 6)");
        long[][] can = {{2, 0, 1}, {2, 100000, 1000000000}, {3, 0, 1000000000}, {3, 100000, 1}, {4, 0, 0},
            {4, 1000000000, 1000}, {5, 1000000000, 0}, {5, 0, 1000}, {6, 1000000000, 1000}, {6, 0, 0}};
        long[][] cannot = {{2, -1, 1}, {2, 100001, 1}, {2, 1, 0}, {2, 1, -1}, {2, 1, 1000000001}, {3, -1, 1},
            {3, 100001, 1}, {3, 1, 0}, {3, 1, 1000000001}, {4, -1, 0}, {4, 1000000001, 0}, {4, 1, -1}, {4, 1, 1001},
            {5, -1, 0}, {5, 1000000001, 0}, {5, 1, -1}, {5, 1, 1001}, {6, -1, 0}, {6, 1000000001, 0}, {6, 1, -1},
            {6, 1, 1001}, {1, 0, 1}, {7, 0, 1}, {0, 0, 1}};
        for (long[] row : can) {
            ValueMethods x = Edges.withLines(1, 1);
            x.condition((int) row[0], true);
            check.yes(row[1] + ", " + row[2] + " of " + row[0], x.figures((int) row[0], row[1], row[2]));
            check.same(row[1] + ", " + row[2] + " of " + row[0] + " holds", x.method(), row[0]);
        }
        for (long[] row : cannot) {
            String what = row[1] + ", " + row[2] + " of " + row[0];
            edges.refused(what, Edges.FALSE, x -> x.figures((int) row[0], row[1], row[2]));
        }
    }

    private static void withoutFigures() {
        check.sentence("Without figures 2 to 6 do not hold");
        for (int method = 2; method <= 6; method++) {
            ValueMethods x = Edges.withLines(1, 10);
            x.condition(method, true);
            check.same("without figures, " + method, x.method(), 0);
            check.no("refused figures, " + method, x.figures(method, -1, 1));
            check.same("still without, " + method, x.method(), 0);
            check.same("no sum, " + method, x.sum(6), -1);
            for (int other = 2; other <= 6; other++) {
                if (other != method) {
                    x.figures(other, 10, 1);
                }
            }
            check.same("others' figures, " + method, x.method(), 0);
            x.figures(method, 0, 1);
            check.same("figures of 0 are figures, " + method, x.method(), method);
        }
        ValueMethods one = Edges.withLines(1, 10);
        one.condition(1, true);
        check.same("1 needs none", one.method(), 1);
    }

    // THE METHOD.

    private static void theMethod() {
        check.sentence("the first one that holds in the order 1, 2, 3, 4, 5, 6, or with 5 ahead of 4, "
            + "if that was asked");
        ValueMethods x = Edges.withLines(1, 10);
        for (int method = 1; method <= 6; method++) {
            Edges.hold(x, method, 1000 * method, 1);
        }
        x.less(0, 11, true);
        check.same("1 falls below 0", x.method(), 2);
        x.condition(2, false);
        check.same("3", x.method(), 3);
        x.condition(3, false);
        check.same("4", x.method(), 4);
        check.same("its sum", x.sum(6), 3985);
        x.turned(true);
        check.same("5", x.method(), 5);
        check.same("its sum", x.sum(6), 5005);
        x.turned(false);
        x.figures(4, 10, 0);
        check.same("4 falls below 0", x.method(), 5);
        x.condition(5, false);
        check.same("6", x.method(), 6);
        x.condition(6, false);
        check.same("none", x.method(), 0);
    }

    private static void withoutLines() {
        check.sentence("there is none without lines");
        Probe.Maker maker = () -> {
            ValueMethods x = new ValueMethods();
            for (int method = 1; method <= 6; method++) {
                Edges.hold(x, method, 1000, 1);
            }
            x.add(0, 10, true);
            return x;
        };
        ValueMethods x = maker.make();
        check.same("all hold", x.method(), 0);
        x.turned(true);
        check.same("turned", x.method(), 0);
        check.same("no own sum", x.sum(5), -1);
        check.same("no sum of values", x.sum(6), -1);
        edges.refusedBy("without lines", maker, "value", Edges.BOUNDS, y -> y.value(0, 0));
        for (int method = 1; method <= 6; method++) {
            ValueMethods y = maker.make();
            for (int other = 1; other < method; other++) {
                y.condition(other, false);
            }
            check.same("without lines " + method, y.method(), 0);
            check.illegal("a line that can't be", () -> y.line(-1, 0));
            check.same("still without lines " + method, y.method(), 0);
            y.line(0, 0);
            check.same("with a line of nothing " + method, y.method(), method);
        }
    }

    // OWN VALUES.

    private static ValueMethods rated(ValueMethods x, int up, int down) {
        x.rate(0, up, down);
        return x;
    }

    private static void ownSum() {
        check.sentence("the sum of the values * up, NEAR by down, is the own sum");
        long[][] rows = {{0, 10000, 1, 0}, {1, 1, 2, 1}, {1, 1, 3, 0}, {2, 1, 3, 1}, {1, 2, 3, 1}, {3, 1, 2, 2},
            {5, 1, 10, 1}, {4, 1, 10, 0}, {1, 4999, 10000, 0}, {1, 5000, 10000, 1}, {1, 9999, 2, 5000},
            {1, 10000, 1, 10000}, {1, 1, 10000, 0}, {1, 1, 1, 1}, {100000000, 10000, 1, 1000000000000L},
            {1000000000, 10000, 9999, 1000100010}, {1000000000, 9999, 10000, 999900000}};
        for (long[] row : rows) {
            ValueMethods x = rated(Edges.hold(Edges.withLines(1, 1), 6, row[0], 0), (int) row[1], (int) row[2]);
            check.same(row[0] + " * " + row[1] + " / " + row[2], x.sum(5), row[3]);
            check.same("one line has all of it", x.value(0, 0), row[3]);
            check.same("ahead of the rate", x.sum(6), row[0]);
        }
        // The sum is rounded, not each line.
        ValueMethods halves = rated(Edges.withLines(1, 1, 1, 1), 1, 2);
        halves.condition(1, true);
        check.same("two halves", halves.sum(5), 1);

        int[][] rates = {{10000, 1}, {10000, 7}, {10000, 3}, {10000, 9999}, {9999, 10000}, {9999, 2}, {1, 10000}};
        long[] due = {4000000000000000000L, 571428571428571429L, 1333333333333333333L, 400040004000400L,
            399960000000000L, 1999800000000000000L, 40000000000L};
        for (int i = 0; i < due.length; i++) {
            ValueMethods x = Edges.hold(Edges.alike(40, 100000000, 1), 2, 100000, 1);
            rated(x, rates[i][0], rates[i][1]);
            check.same("the greatest by " + rates[i][0] + " / " + rates[i][1], x.sum(5), due[i]);
        }
        ValueMethods odd = Edges.alike(39, 100000000, 1);
        odd.line(99999999, 1);
        rated(Edges.hold(odd, 3, 99999, 1), 9999, 2);
        check.same("a half of the greatest", odd.sum(5), 1999780001500055000L);
        check.same("the half is the last line's", odd.value(39, 0), 49994499550055000L);
        check.same("the first line has none", odd.value(0, 0), 49994500050000000L);
    }

    private static void ownCurrency() {
        check.sentence("values of 1 to 3 and 6 go by the period's rate; 4 and 5 are in one's own currency: 1 / 1");
        for (int method = 1; method <= 6; method++) {
            ValueMethods x = Edges.hold(Edges.withLines(10, 10), method, 10, method <= 3 ? 10 : 0);
            boolean own = method == 4 || method == 5;
            check.same("no rate, " + method, x.sum(5), 10);
            x.rate(0, 3, 1);
            x.rate(11, 1, 5);
            check.same("own sum, " + method, x.sum(5), own ? 10 : 30);
            check.same("own value, " + method, x.value(0, 0), own ? 10 : 30);
            check.same("ahead of the rate, " + method, x.sum(6), 10);
            check.same("a value ahead of the rate, " + method, x.value(0, 1), 10);
            x.days(330, 0);
            check.same("own sum in 11, " + method, x.sum(5), own ? 10 : 2);
            x.days(329, 0);
            check.same("own sum in 10, " + method, x.sum(5), 10);
        }
    }

    private static void ownValues() {
        check.sentence("a line's is FLOOR(value * up / down)");
        ValueMethods exact = rated(Edges.withLines(0, 0, 0, 3, 0, 6), 2, 3);
        exact.condition(1, true);
        edges.values("nothing is left", exact, 0, 0, 2, 4);
        ValueMethods down = rated(Edges.withLines(0, 1, 0, 4, 0, 7), 1, 3);
        down.condition(1, true);
        check.same("12 / 3", down.sum(5), 4);
        edges.values("thirds", down, 0, 1, 1, 2);
        ValueMethods lost = rated(Edges.withLines(0, 4), 1, 3);
        lost.condition(1, true);
        edges.values("a third is lost", lost, 0, 1);
        ValueMethods up = rated(Edges.withLines(0, 0, 0, 1, 0, 100000000), 10000, 1);
        up.condition(1, true);
        edges.values("the greatest rate", up, 0, 0, 10000, 1000000000000L);
        ValueMethods least = rated(Edges.withLines(0, 9999, 0, 10000, 0, 10001), 1, 10000);
        least.condition(1, true);
        edges.values("the least rate", least, 0, 1, 1, 1);
    }

    private static void ownRemainders() {
        check.sentence("the cents that are left up to the own sum go one by one to the lines with the greatest "
            + "remainders (value * up modulo down)");
        // 2, 4, 6 fifths: floors 0, 0, 1, and 2 in all.
        ValueMethods x = rated(Edges.withLines(0, 1, 0, 2, 0, 3), 2, 5);
        x.condition(1, true);
        edges.values("1 is left", x, 0, 0, 1, 1);
        ValueMethods most = rated(Edges.withLines(0, 9, 0, 9), 1, 10);
        most.condition(1, true);
        edges.values("a cent for each line", most, 0, 1, 1);
        ValueMethods all = rated(Edges.alike(40, 0, 9999), 1, 10000);
        all.condition(1, true);
        check.same("a cent for each of 40", all.sum(5), 40);
        check.same("the first of 40", all.value(0, 0), 1);
        check.same("the last of 40", all.value(39, 0), 1);
        ValueMethods none = rated(Edges.withLines(0, 1, 0, 0), 4999, 10000);
        none.condition(1, true);
        edges.values("less than a half is lost", none, 0, 0, 0);
        // 6 and 4 fifths: the remainders count, not the values.
        ValueMethods greater = rated(Edges.withLines(0, 6, 0, 4), 1, 5);
        greater.condition(1, true);
        edges.values("by remainders, not by values", greater, 0, 1, 1);

        check.sentence("of equal ones the least line first (own values)");
        ValueMethods equal = rated(Edges.withLines(0, 1, 0, 1, 0, 1), 1, 2);
        equal.condition(1, true);
        edges.values("two of three halves", equal, 0, 1, 1, 0);
        ValueMethods apart = rated(Edges.withLines(0, 1, 0, 5, 0, 9), 1, 4);
        apart.condition(1, true);
        edges.values("equal remainders of unequal values", apart, 0, 1, 1, 2);
        ValueMethods behind = rated(Edges.withLines(0, 1, 0, 2, 0, 2), 1, 5);
        behind.condition(1, true);
        edges.values("equal ones behind a lesser", behind, 0, 0, 1, 0);
        ValueMethods forty = rated(Edges.alike(40, 0, 1), 1, 4);
        forty.condition(1, true);
        for (int line = 0; line < 40; line++) {
            check.same("10 of 40, line " + line, forty.value(line, 0), line < 10 ? 1 : 0);
        }
    }

    // Exceptions.

    private static void severalExceptions() {
        check.sentence("Of several exceptions the one told first is thrown");
        edges.refusedBy("full", Edges::full, "line: wrong weight, and 40", Edges.ILLEGAL, x -> x.line(-1, 0));
        edges.refusedBy("full", Edges::full, "line: wrong price, and 40", Edges.ILLEGAL, x -> x.line(0, 100000001));
        edges.refusedBy("full", Edges::full, "discount: wrong days, and 10", Edges.ILLEGAL, x -> x.discount(360, 1));
        edges.refusedBy("full", Edges::full, "discount: wrong thousandths, and 10", Edges.ILLEGAL,
            x -> x.discount(100, 1001));
        Probe.Maker noMethod = () -> Edges.withLines(0, 5);
        edges.refusedBy("no method", noMethod, "value: no line, no method", Edges.BOUNDS, x -> x.value(1, 0));
        edges.refusedBy("no method", noMethod, "value: no what, no method", Edges.BOUNDS, x -> x.value(0, 2));
        edges.refusedBy("no method", noMethod, "value: no method", Edges.MISSING, x -> x.value(0, 1));
        edges.refusedBy("no method", noMethod, "share: no line, wrong amount", Edges.BOUNDS, x -> x.share(-1, 1, true));
        edges.refusedBy("no method", noMethod, "plain: no line, wrong amount, sum 0", Edges.BOUNDS,
            x -> x.plain(-1, 1));
        edges.refusedBy("no method", noMethod, "plain: no line, sum 0", Edges.BOUNDS, x -> x.plain(1, -1));
        edges.refusedBy("no method", noMethod, "plain: wrong amount, sum 0", Edges.ILLEGAL, x -> x.plain(-1, 0));
        edges.refusedBy("no method", noMethod, "plain: sum 0", Edges.ARITHMETIC, x -> x.plain(1, 0));
        edges.refusedBy("empty", ValueMethods::new, "plain: no line, sum 0", Edges.BOUNDS, x -> x.plain(0, 0));
        edges.refusedBy("empty", ValueMethods::new, "share: no line, wrong amount", Edges.BOUNDS,
            x -> x.share(1000000001, 0, false));
    }

    /** The document does not say which goes ahead; the class throws. */
    private static void exceptionOrFalse() {
        check.sentence("(not in the document) an exception goes ahead of false");
        edges.refusedBy("full", Edges::full, "add: told, wrong cents", Edges.ILLEGAL, x -> x.add(0, -1, true));
        edges.refusedBy("full", Edges::full, "less: told, wrong cents", Edges.ILLEGAL, x -> x.less(3, -1, true));
        edges.refusedBy("some", Edges::some, "discount: days not above, wrong thousandths", Edges.ILLEGAL,
            x -> x.discount(20, 1001));
        edges.refusedBy("full", Edges::full, "discount: days not above, and 10", Edges.STATE, x -> x.discount(90, 1));
    }

    private static void changesNothing() {
        check.sentence("What throws or answers false changes nothing");
        // A long row of refusals, and then what was there and what may still come.
        ValueMethods x = Edges.some();
        String before = Probe.answers(x);
        for (int i = 0; i < 12; i++) {
            Probe.outcome(x, y -> y.line(-1, 5));
            Probe.outcome(x, y -> y.add(0, 5, false));
            Probe.outcome(x, y -> y.add(2, -5, false));
            Probe.outcome(x, y -> y.less(1, 5, true));
            Probe.outcome(x, y -> y.less(4, 5, true));
            Probe.outcome(x, y -> y.discount(20, 1000));
            Probe.outcome(x, y -> y.discount(21, -1));
            Probe.outcome(x, y -> y.days(0, 360));
            Probe.outcome(x, y -> y.rate(1, 1, 1));
            Probe.outcome(x, y -> y.rate(2, 0, 1));
            Probe.outcome(x, y -> y.condition(7, true));
            Probe.outcome(x, y -> y.figures(6, 1, 1001));
            Probe.outcome(x, y -> y.related(false, -2, 0));
            Probe.outcome(x, y -> y.value(3, 0));
            Probe.outcome(x, y -> y.share(-1, 0, true));
        }
        check.same("after 180 refusals", Probe.answers(x), before);
        check.same("the next line", x.line(1, 1), 3);
        check.yes("an addition that was refused", x.add(2, 5, false));
        check.yes("a row that was refused", x.discount(21, 1));
        check.yes("a rate that was refused", x.rate(2, 1, 1));
    }
}
