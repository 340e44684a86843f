import java.util.List;

/** The terms up to PERIODS: each sentence that names an edge, at the edge and on both sides of it. */
public final class TermsEdgeTest {
    private static final Check check = new Check("TermsEdgeTest");
    private static final Edges edges = new Edges(check);

    public static void main(String[] args) {
        constants();
        lines();
        near();
        floor();
        toShare();
        sharedWithoutSum();
        amounts();
        discountRows();
        paidInTime();
        mostThousandths();
        discountCents();
        periods();
        rates();
        lastCall();
        check.end();
    }

    private static void constants() {
        check.sentence("The constants: NONE = -1");
        check.same("NONE", ValueMethods.NONE, -1);
    }

    // LINES.

    private static void lines() {
        check.sentence("LINES 0, 1, .. (40 at most)");
        for (int lines = 1; lines <= 40; lines++) {
            ValueMethods x = Edges.alike(lines, 2, 3);
            x.condition(1, true);
            check.same("lines", x.count(0), lines);
            check.same("the last of " + lines, x.value(lines - 1, 0), 3);
            check.same("all of " + lines, x.sum(6), 3 * lines);
            check.outOfBounds("behind the last of " + lines, () -> x.transaction(x.count(0)));
        }
        ValueMethods forty = Edges.alike(40, 2, 3);
        for (int more = 0; more < 3; more++) {
            check.badState("a line more", () -> forty.line(2, 3));
            check.same("40 stay", forty.count(0), 40);
            check.same("their weights", forty.sum(0), 80);
            check.same("their prices", forty.sum(1), 120);
            check.same("the first stays", forty.transaction(0), 3);
        }
        check.sentence("a WEIGHT (grams) and a PRICE, each 0 .. 100000000");
        ValueMethods most = Edges.alike(40, 100000000, 100000000);
        check.same("the greatest weights", most.sum(0), 4000000000L);
        check.same("the greatest prices", most.sum(1), 4000000000L);
        check.same("a share of the greatest weights", most.share(1000000000, 39, true), 25000000);
        check.same("a share of the greatest prices", most.share(1000000000, 39, false), 25000000);
        check.same("a plain share", most.plain(1000000000, 39), 25000000);
        ValueMethods least = Edges.alike(40, 0, 0);
        least.condition(1, true);
        check.same("lines of nothing are lines", least.method(), 1);
        check.same("their sum", least.sum(5), 0);
    }

    // NEAR and FLOOR.

    private static void near() {
        check.sentence("NEAR(a, b) is a / b to the nearest, halves up (a, b not below 0)");
        long[][] rows = {{0, 1, 1, 0}, {1, 0, 7, 0}, {1, 1, 1, 1}, {1, 1, 2, 1}, {1, 1, 3, 0}, {2, 1, 3, 1},
            {3, 1, 2, 2}, {5, 1, 2, 3}, {4, 1, 10, 0}, {5, 1, 10, 1}, {14, 1, 10, 1}, {15, 1, 10, 2},
            {499, 1, 1000, 0}, {500, 1, 1000, 1}, {501, 1, 1000, 1}, {1499, 1, 1000, 1}, {1500, 1, 1000, 2},
            {3, 1, 7, 0}, {4, 1, 7, 1}, {1, 1, 1000000000, 0}, {99999999, 5, 1000000000, 0},
            {100000000, 5, 1000000000, 1}, {100000000, 15, 1000000000, 2}, {99999999, 1, 2, 50000000},
            {100000000, 100000, 1, 10000000000000L}, {100000000, 100000, 3, 3333333333333L},
            {100000000, 100000, 6, 1666666666667L}, {100000000, 100000, 1000000000, 10000},
            {100000000, 100000, 999999999, 10000}};
        for (long[] row : rows) {
            ValueMethods x = Edges.hold(Edges.withLines(row[0], 0), 2, row[1], row[2]);
            check.same("NEAR(" + row[0] + " * " + row[1] + ", " + row[2] + ")", x.value(0, 1), row[3]);
        }
    }

    private static void floor() {
        check.sentence("FLOOR rounds down");
        ValueMethods x = Edges.withLines(1, 0, 999, 0);
        long[][] rows = {{0, 0, 0}, {1, 0, 0}, {999, 0, 998}, {1000, 1, 999}, {1001, 1, 999}, {1999, 1, 1997},
            {2000, 2, 1998}, {1000000000, 1000000, 999000000}};
        for (long[] row : rows) {
            check.same("a thousandth of " + row[0], x.plain(row[0], 0), row[1]);
            check.same("the others of " + row[0], x.plain(row[0], 1), row[2]);
        }
    }

    // TO SHARE.

    private static void toShare() {
        check.sentence("each line gets FLOOR(amount * its own / W)");
        ValueMethods x = Edges.withLines(5, 1, 3, 1, 2, 8);
        edges.shares("0", x, 0, true, 0, 0, 0);
        edges.shares("W", x, 10, true, 5, 3, 2);
        edges.shares("W by price", x, 10, false, 1, 1, 8);
        edges.shares("many W", x, 1000000000, true, 500000000, 300000000, 200000000);
        ValueMethods greatest = Edges.alike(39, 100000000, 100000000);
        greatest.line(99999999, 99999999);
        edges.shares("the greatest", greatest, 1000000000, true, 25000000);
        check.same("all but one gram", greatest.share(1000000000, 39, true), 25000000);
        edges.shares("far apart", Edges.withLines(1, 0, 99999999, 0), 1000000000, true, 10, 999999990);

        check.sentence("the cents that are left go one by one to the lines with the greatest remainders");
        edges.shares("1 is left", x, 1, true, 1, 0, 0);
        // 45, 27, 18 tenths: floors 4, 2, 1, and remainders 5, 7, 8.
        edges.shares("2 are left", x, 9, true, 4, 3, 2);
        edges.shares("to the last", Edges.withLines(1, 0, 1, 0, 2, 0), 1, true, 0, 0, 1);
        // 6, 4, 4 sevenths: the second cent is not the first line's, though it had the greatest.
        edges.shares("one each", Edges.withLines(3, 0, 2, 0, 2, 0), 2, true, 1, 1, 0);
        // 9, 6, 6 sevenths: a line that has a whole one may have the least remainder.
        edges.shares("by remainders, not by weights", Edges.withLines(3, 0, 2, 0, 2, 0), 3, true, 1, 1, 1);
        edges.shares("a remainder of 0", Edges.withLines(0, 0, 2, 0, 1, 0, 1, 0), 2, true, 0, 1, 1, 0);
        ValueMethods forty = Edges.alike(40, 1, 1);
        for (int amount : List.of(0, 1, 2, 39, 40, 41, 79, 80)) {
            for (int line = 0; line < 40; line++) {
                int due = amount / 40 + (line < amount % 40 ? 1 : 0);
                check.same(amount + " among 40, line " + line, forty.share(amount, line, true), due);
            }
        }

        check.sentence("of equal ones the least line first");
        edges.shares("two equal, 1 left", Edges.withLines(1, 0, 1, 0), 1, true, 1, 0);
        edges.shares("two equal behind, 1 left", Edges.withLines(1, 0, 2, 0, 2, 0), 1, true, 0, 1, 0);
        edges.shares("apart, 1 left", Edges.withLines(2, 0, 1, 0, 1, 0, 2, 0), 1, true, 1, 0, 0, 0);
        edges.shares("apart, 2 left", Edges.withLines(2, 0, 1, 0, 1, 0, 2, 0), 2, true, 1, 0, 0, 1);
        edges.shares("apart, then the next", Edges.withLines(3, 0, 2, 0, 2, 0, 3, 0), 3, true, 1, 1, 0, 1);
        // 5, 30 and 15 tenths: the first and the last leave the same remainder.
        edges.shares("of unequal weights", Edges.withLines(1, 0, 6, 0, 3, 0), 5, true, 1, 3, 1);
    }

    private static void sharedWithoutSum() {
        check.sentence("By weights with W 0 it is shared by prices");
        ValueMethods noWeights = Edges.withLines(0, 1, 0, 3);
        edges.shares("weights of 0", noWeights, 8, true, 2, 6);
        noWeights.add(0, 8, true);
        noWeights.less(0, 4, true);
        edges.transactions("amounts, too", noWeights, 2, 6);
        noWeights.line(1, 0);
        edges.shares("a weight of 1", noWeights, 8, true, 0, 0, 8);
        edges.transactions("amounts with a weight of 1", noWeights, 1, 3, 4);

        check.sentence("by prices with W 0 as if each price were 1");
        ValueMethods noPrices = Edges.withLines(1, 0, 3, 0, 0, 0);
        edges.shares("prices of 0", noPrices, 8, false, 3, 3, 2);
        edges.shares("not the weights", noPrices, 8, true, 2, 6, 0);
        noPrices.add(0, 4, false);
        noPrices.less(0, 2, false);
        edges.transactions("amounts, too", noPrices, 1, 0, 1);
        edges.values("fall-back, too", Edges.hold(noPrices, 6, 7, 0), 1, 3, 2, 2);
        noPrices.line(0, 1);
        edges.shares("a price of 1", noPrices, 8, false, 0, 0, 0, 8);
        edges.values("fall-back with a price of 1", noPrices, 1, 0, 0, 0, 7);
        ValueMethods nothing = Edges.withLines(0, 0, 0, 0);
        edges.shares("neither, by weight", nothing, 3, true, 2, 1);
        edges.shares("neither, by price", nothing, 3, false, 2, 1);
        edges.shares("one line takes all", Edges.withLines(0, 0), 1000000000, true, 1000000000);
        edges.shares("40 lines of nothing", Edges.alike(40, 0, 0), 39, true, 1, 1, 1);
        check.same("the last of 40", Edges.alike(40, 0, 0).share(39, 39, true), 0);
    }

    // ADDITIONS and DEDUCTIONS.

    private static void amounts() {
        check.sentence("ADDITIONS 0 to 4 and DEDUCTIONS 0 to 3: amounts 0 .. 1000000000");
        ValueMethods x = Edges.withLines(1, 100000000, 3, 100000000);
        for (int kind = 0; kind <= 4; kind++) {
            x.add(kind, 1000000000, true);
            check.same("additions up to " + kind, x.sum(2), 1000000000L * (kind + 1));
            check.same("their count", x.count(1), kind + 1);
        }
        check.same("the greatest additions", x.transaction(1), 3850000000L);
        for (int kind = 0; kind <= 3; kind++) {
            x.less(kind, 1000000000, false);
            check.same("deductions up to " + kind, x.sum(3), 1000000000L * (kind + 1));
            check.same("their count", x.count(2), kind + 1);
        }
        edges.transactions("the greatest of all", x, 1350000000L - 2000000000L, 1850000000L);
        ValueMethods least = Edges.withLines(0, 0);
        for (int kind = 0; kind <= 3; kind++) {
            least.less(kind, 1000000000, true);
        }
        check.same("the least value of all", least.transaction(0), -4000000000L);

        check.sentence("each told at most once");
        ValueMethods once = Edges.withLines(1, 10);
        check.yes("an addition of 0", once.add(0, 0, true));
        check.no("is told", once.add(0, 5, true));
        check.yes("a deduction of the same number", once.less(0, 0, true));
        check.no("is told", once.less(0, 5, true));
        check.same("additions", once.count(1), 1);
        check.same("deductions", once.count(2), 1);
        check.same("the value", once.transaction(0), 10);
        check.illegal("refused", () -> once.add(1, -1, true));
        check.yes("what was refused was not told", once.add(1, 1, true));

        check.sentence("to be shared by weights or prices");
        for (int kind = 0; kind <= 4; kind++) {
            for (boolean byWeight : new boolean[] {true, false}) {
                ValueMethods y = Edges.withLines(1, 30, 3, 10);
                y.add(kind, 4, byWeight);
                edges.transactions("addition " + kind, y, byWeight ? 31 : 33, byWeight ? 13 : 11);
                y.less(Math.min(kind, 3), 4, !byWeight);
                edges.transactions("and deduction", y, byWeight ? 28 : 32, byWeight ? 12 : 8);
            }
        }
    }

    // DISCOUNTS.

    private static void discountRows() {
        check.sentence("rows of days and thousandths (10 at most, days rise)");
        ValueMethods x = new ValueMethods();
        for (int row = 0; row < 10; row++) {
            check.yes("row " + row, x.discount(350 + row, row));
            check.same("rows with " + row, x.count(5), row + 1);
            if (row < 9) {
                check.no("days do not rise, behind " + row, x.discount(350 + row, 1000));
                check.no("days fall, behind " + row, x.discount(349 + row, 1000));
            }
        }
        check.same("the last row's thousandths", x.count(4), 9);
        check.badState("an 11th row", () -> x.discount(359, 1000));
        check.same("the last row's thousandths still", x.count(4), 9);
        check.no("no days above 359", withRow(359, 5).discount(359, 6));
    }

    private static ValueMethods withRow(int days, int thousandths) {
        ValueMethods x = Edges.withLines(1, 1000);
        x.discount(days, thousandths);
        return x;
    }

    private static void paidInTime() {
        check.sentence("if it was paid on a day not behind the invoice's and so many days");
        int[][] rows = {{0, 0}, {0, 1}, {0, 358}, {0, 359}, {1, 0}, {100, 0}, {100, 10}, {349, 9}, {349, 10},
            {349, 11}, {358, 0}, {358, 1}, {359, 0}, {359, 1}, {359, 359}};
        for (int[] row : rows) {
            int last = row[0] + row[1];
            for (int paid : new int[] {0, row[0] - 1, row[0], row[0] + 1, last - 1, last, last + 1, last + 2, 359}) {
                if (paid >= 0 && paid <= 359) {
                    ValueMethods x = withRow(row[1], 7);
                    x.days(row[0], paid);
                    String what = "invoice " + row[0] + " and " + row[1] + " days, paid " + paid;
                    check.same(what, x.count(4), paid > last ? 0 : 7);
                    check.same(what + ": cents", x.sum(4), paid > last ? 0 : 7);
                }
            }
        }
    }

    private static void mostThousandths() {
        check.sentence("of those rows for which that is so the one with the most thousandths counts (none: 0)");
        ValueMethods x = new ValueMethods();
        x.days(100, 100);
        check.same("no rows", x.count(4), 0);
        int[][] rows = {{0, 20}, {10, 1000}, {20, 999}, {30, 999}, {40, 0}, {50, 1}};
        for (int[] row : rows) {
            x.discount(row[0], row[1]);
        }
        int[][] due = {{99, 1000}, {100, 1000}, {101, 1000}, {110, 1000}, {111, 999}, {120, 999}, {121, 999},
            {130, 999}, {131, 1}, {140, 1}, {141, 1}, {150, 1}, {151, 0}, {359, 0}};
        for (int[] pair : due) {
            x.days(100, pair[0]);
            check.same("paid on " + pair[0], x.count(4), pair[1]);
        }
        ValueMethods falling = withRow(5, 30);
        falling.discount(6, 20);
        falling.days(0, 5);
        check.same("the first row has the most", falling.count(4), 30);
        falling.days(0, 6);
        check.same("and is gone", falling.count(4), 20);
        falling.days(0, 7);
        check.same("none", falling.count(4), 0);
        check.same("none: no cents", falling.sum(4), 0);
        check.same("none: the price", falling.transaction(0), 1000);
    }

    private static void discountCents() {
        check.sentence("DISCOUNT: NEAR(sum of prices * thousandths, 1000), shared by prices");
        long[][] rows = {{0, 1000, 0}, {1, 0, 0}, {1, 499, 0}, {1, 500, 1}, {1, 501, 1}, {1, 1000, 1}, {3, 499, 1},
            {3, 500, 2}, {499, 1, 0}, {500, 1, 1}, {1499, 1, 1}, {1500, 1, 2}, {100000000, 1000, 100000000},
            {99999999, 500, 50000000}, {99999999, 499, 49900000}};
        for (long[] row : rows) {
            ValueMethods x = Edges.withLines(5, row[0]);
            x.discount(359, (int) row[1]);
            check.same(row[1] + " thousandths of " + row[0], x.sum(4), row[2]);
            check.same("what is left of " + row[0], x.transaction(0), row[0] - row[2]);
        }
        // The sum is rounded, not each line: 0.4 and 0.4 are 1, and the first line's.
        ValueMethods sum = Edges.withLines(9, 4, 1, 4);
        sum.discount(359, 100);
        check.same("of the sum", sum.sum(4), 1);
        edges.transactions("to the least line", sum, 3, 4);
        ValueMethods prices = Edges.withLines(9, 10, 1, 30);
        prices.discount(359, 100);
        edges.transactions("by prices, not by weights", prices, 9, 27);
        ValueMethods greatest = Edges.alike(40, 0, 100000000);
        greatest.discount(359, 999);
        check.same("of the greatest prices", greatest.sum(4), 3996000000L);
        check.same("a line of them", greatest.transaction(39), 100000);
        greatest.discount(358, 1000);
        check.same("not told: days fall", greatest.sum(4), 3996000000L);
    }

    // PERIODS and their RATE.

    private static void periods() {
        check.sentence("PERIODS 0 .. 11 are of 30 days; that of the invoice's day");
        ValueMethods x = new ValueMethods();
        for (int period = 0; period < 12; period++) {
            for (int day : List.of(0, 1, 28, 29)) {
                x.days(30 * period + day, 359 - 30 * period);
                check.same("period of day " + (30 * period + day), x.count(3), period);
            }
        }
        check.sentence("the invoice's day (0 .. 359, at first 0; paid at first on day 359)");
        check.same("at first in period 0", new ValueMethods().count(3), 0);
        check.same("paid behind 358 days", withRow(358, 9).count(4), 0);
        check.same("paid on the last of 359 days", withRow(359, 9).count(4), 9);
        for (int day : Edges.intsOutside(0, 359)) {
            ValueMethods first = withRow(358, 9);
            check.no("invoice " + day, first.days(day, 0));
            check.no("paid " + day, first.days(30, day));
            check.same("still period 0", first.count(3), 0);
            check.same("still behind 358 days", first.count(4), 0);
        }
    }

    private static void rates() {
        check.sentence("A period's RATE is up / down (each 1 .. 10000; 1 / 1 if none was told)");
        ValueMethods x = Edges.hold(Edges.withLines(1, 1), 6, 10000, 0);
        for (int period = 0; period < 12; period++) {
            x.rate(period, 10000, period + 1);
        }
        for (int period = 0; period < 12; period++) {
            long due = (2 * 100000000L + period + 1) / (2 * (period + 1));
            for (int day : List.of(0, 29)) {
                x.days(30 * period + day, 0);
                check.same("rate of day " + (30 * period + day), x.sum(5), due);
            }
        }
        ValueMethods one = Edges.hold(Edges.withLines(1, 1), 6, 10000, 0);
        one.rate(5, 1, 10000);
        int[][] due = {{149, 10000}, {150, 1}, {179, 1}, {180, 10000}};
        for (int[] pair : due) {
            one.days(pair[0], 160);
            check.same("by the invoice's day, not the paid one, " + pair[0], one.sum(5), pair[1]);
        }
        for (int number : Edges.intsOutside(1, 10000)) {
            check.no("up " + number, one.rate(6, number, 1));
            check.no("down " + number, one.rate(6, 1, number));
        }
        check.same("none was told", one.sum(5), 10000);
    }

    // The object's last call.

    private static void lastCall() {
        check.sentence("An object is used for at most 512 calls after it has been made");
        ValueMethods x = new ValueMethods();
        for (int call = 1; call <= 40; call++) {
            x.line(call, call);
        }
        for (int call = 41; call <= 510; call++) {
            x.add(4, 40, true);
        }
        check.same("the 511th call", x.transaction(39), 42);
        check.same("the 512th call", x.sum(2), 40);
    }
}
