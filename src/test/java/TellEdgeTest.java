import java.util.List;

/** Promises 1 to 11: each sentence that names an edge, at the edge and on both sides of it. */
public final class TellEdgeTest {
    private static final Check check = new Check("TellEdgeTest");
    private static final Edges edges = new Edges(check);

    public static void main(String[] args) {
        newObject();
        line();
        add();
        less();
        discount();
        days();
        rate();
        condition();
        figures();
        related();
        turned();
        check.end();
    }

    // Promise 1.

    private static void newObject() {
        newHasNoLines();
        newHasNoAmounts();
        newHasNoDiscounts();
        newHasNoRates();
        newHasNoConditionsAndFigures();
    }

    private static void newHasNoLines() {
        check.sentence("Promise 1: No lines");
        ValueMethods x = new ValueMethods();
        check.same("count", x.count(0), 0);
        check.same("weights", x.sum(0), 0);
        check.same("prices", x.sum(1), 0);
        edges.refusedBy("empty", ValueMethods::new, "value of line 0", Edges.BOUNDS, y -> y.value(0, 0));
        edges.refusedBy("empty", ValueMethods::new, "transaction of line 0", Edges.BOUNDS, y -> y.transaction(0));
        edges.refusedBy("empty", ValueMethods::new, "share of line 0", Edges.BOUNDS, y -> y.share(0, 0, true));
        edges.refusedBy("empty", ValueMethods::new, "plain of line 0", Edges.BOUNDS, y -> y.plain(0, 0));
        check.same("the first line", x.line(0, 0), 0);
        check.same("another object's first line", new ValueMethods().line(0, 0), 0);
    }

    private static void newHasNoAmounts() {
        check.sentence("Promise 1: No additions");
        ValueMethods x = new ValueMethods();
        check.same("count", x.count(1), 0);
        check.same("sum", x.sum(2), 0);
        for (int kind = 0; kind <= 4; kind++) {
            check.yes("kind " + kind + " is free", x.add(kind, 1, true));
        }
        check.sentence("Promise 1: No deductions");
        check.same("count", x.count(2), 0);
        check.same("sum", x.sum(3), 0);
        for (int kind = 0; kind <= 3; kind++) {
            check.yes("kind " + kind + " is free", x.less(kind, 1, true));
        }
    }

    private static void newHasNoDiscounts() {
        check.sentence("Promise 1: No discounts");
        ValueMethods x = Edges.withLines(1, 1000);
        x.days(0, 0);
        check.same("rows", x.count(5), 0);
        check.same("thousandths", x.count(4), 0);
        check.same("the discount", x.sum(4), 0);
        check.yes("the first row may be of 0 days", x.discount(0, 1));
        for (int row = 1; row < 10; row++) {
            check.yes("room for row " + row, x.discount(row, 1));
        }
    }

    private static void newHasNoRates() {
        check.sentence("Promise 1: No rates");
        for (int period = 0; period < 12; period++) {
            ValueMethods x = Edges.hold(Edges.withLines(1, 1000), 6, 1000, 0);
            x.days(30 * period, 0);
            check.same("1 / 1 in " + period, x.sum(5), 1000);
            check.yes("none told in " + period, x.rate(period, 2, 1));
            check.same("2 / 1 in " + period, x.sum(5), 2000);
        }
    }

    private static void newHasNoConditionsAndFigures() {
        check.sentence("Promise 1: No conditions");
        ValueMethods x = Edges.withLines(1, 1000);
        for (int method = 2; method <= 6; method++) {
            x.figures(method, 1000, 1);
        }
        check.same("all figures, no condition", x.method(), 0);
        x.condition(1, true);
        check.same("one condition", x.method(), 1);
        check.sentence("Promise 1: No figures");
        ValueMethods y = Edges.withLines(1, 1000);
        for (int method = 2; method <= 6; method++) {
            y.condition(method, true);
        }
        check.same("all conditions but 1, no figures", y.method(), 0);
        y.figures(6, 0, 0);
        check.same("one of figures", y.method(), 6);
    }

    // Promise 2.

    private static void line() {
        check.sentence("Promise 2: One more line: its number");
        ValueMethods x = new ValueMethods();
        for (int i = 0; i < 40; i++) {
            check.same("line " + i, x.line(i, 100 - i), i);
            check.same("lines up to " + i, x.count(0), i + 1);
            check.same("weights up to " + i, x.sum(0), i * (i + 1) / 2);
            check.same("price of " + i, x.transaction(i), 100 - i);
        }
        check.sentence("Promise 2: IllegalArgumentException if its numbers can't be");
        for (long number : Edges.inside(0, 100000000)) {
            ValueMethods y = new ValueMethods();
            check.same("weight " + number, y.line(number, 5), 0);
            check.same("price " + number, y.line(6, number), 1);
            check.same("its weight " + number, y.sum(0), number + 6);
            check.same("its price " + number, y.sum(1), number + 5);
        }
        for (long number : Edges.outside(0, 100000000)) {
            edges.refused("weight " + number, Edges.ILLEGAL, y -> y.line(number, 5));
            edges.refused("price " + number, Edges.ILLEGAL, y -> y.line(6, number));
            edges.refused("both " + number, Edges.ILLEGAL, y -> y.line(number, number));
        }
        edges.refused("two that add up to one that can be", Edges.ILLEGAL, y -> y.line(-5, 10));
        check.sentence("Promise 2: IllegalStateException if there are 40");
        edges.refusedBy("full", Edges::full, "a 41st line", Edges.STATE, y -> y.line(1, 1));
        edges.refusedBy("full", Edges::full, "a 41st line of nothing", Edges.STATE, y -> y.line(0, 0));
        ValueMethods y = Edges.alike(38, 1, 1);
        check.same("a 39th line", y.line(1, 1), 38);
        check.illegal("a wrong 40th line takes no place", () -> y.line(-1, 1));
        check.same("a 40th line", y.line(100000000, 100000000), 39);
        check.badState("a 41st line of the greatest", () -> y.line(100000000, 100000000));
        check.same("the 40th stays", y.transaction(39), 100000000);
    }

    // Promises 3 and 4.

    private static void add() {
        check.sentence("Promise 3: An ADDITION: true");
        for (long cents : Edges.inside(0, 1000000000)) {
            for (int kind = 0; kind <= 4; kind++) {
                ValueMethods x = Edges.withLines(1, 7);
                check.yes("kind " + kind + " of " + cents, x.add(kind, cents, true));
                check.same("told, kind " + kind, x.count(1), 1);
                check.same("sum of " + cents, x.sum(2), cents);
                check.same("value with " + cents, x.transaction(0), 7 + cents);
                check.same("deductions", x.count(2), 0);
            }
        }
        check.sentence("Promise 3: false if it was told");
        for (int i = 0; i <= 4; i++) {
            int kind = i;
            for (long first : List.of(0L, 1L, 1000000000L)) {
                edges.refusedBy("told " + kind + " as " + first, () -> withAddition(kind, first),
                    "told again", Edges.FALSE, x -> x.add(kind, 7, false));
            }
            edges.refusedBy("told " + kind + " as 5", () -> withAddition(kind, 5),
                "told the same again", Edges.FALSE, x -> x.add(kind, 5, true));
            ValueMethods other = withAddition(kind, 5);
            for (int k = 0; k <= 4; k++) {
                check.same("beside " + kind + " kind " + k, Boolean.toString(other.add(k, 1, true)),
                    Boolean.toString(k != kind));
            }
        }
        check.sentence("Promise 3: IllegalArgumentException if there is no such kind");
        for (int kind : Edges.intsOutside(0, 4)) {
            edges.refused("kind " + kind, Edges.ILLEGAL, x -> x.add(kind, 5, true));
        }
        check.sentence("Promise 3: IllegalArgumentException if the cents can't be");
        for (long cents : Edges.outside(0, 1000000000)) {
            edges.refused("cents " + cents, Edges.ILLEGAL, x -> x.add(3, cents, true));
            edges.refused("cents by price " + cents, Edges.ILLEGAL, x -> x.add(0, cents, false));
        }
    }

    private static ValueMethods withAddition(int kind, long cents) {
        ValueMethods x = Edges.withLines(1, 9, 3, 2);
        x.add(kind, cents, true);
        return x;
    }

    private static void less() {
        check.sentence("Promise 4: A DEDUCTION: true");
        for (long cents : Edges.inside(0, 1000000000)) {
            for (int kind = 0; kind <= 3; kind++) {
                ValueMethods x = Edges.withLines(1, 7);
                check.yes("kind " + kind + " of " + cents, x.less(kind, cents, true));
                check.same("told, kind " + kind, x.count(2), 1);
                check.same("sum of " + cents, x.sum(3), cents);
                check.same("value without " + cents, x.transaction(0), 7 - cents);
                check.same("additions", x.count(1), 0);
            }
        }
        check.sentence("Promise 4: false if it was told");
        for (int i = 0; i <= 3; i++) {
            int kind = i;
            for (long first : List.of(0L, 1L, 1000000000L)) {
                edges.refusedBy("told " + kind + " off as " + first, () -> withDeduction(kind, first),
                    "told again", Edges.FALSE, x -> x.less(kind, 7, false));
            }
            edges.refusedBy("told " + kind + " off as 5", () -> withDeduction(kind, 5),
                "told the same again", Edges.FALSE, x -> x.less(kind, 5, true));
            ValueMethods other = withDeduction(kind, 5);
            for (int k = 0; k <= 3; k++) {
                check.same("beside " + kind + " kind " + k, Boolean.toString(other.less(k, 1, true)),
                    Boolean.toString(k != kind));
            }
        }
        check.sentence("Promise 4: IllegalArgumentException if there is no such kind");
        for (int kind : Edges.intsOutside(0, 3)) {
            edges.refused("kind " + kind, Edges.ILLEGAL, x -> x.less(kind, 5, true));
        }
        check.sentence("Promise 4: IllegalArgumentException if the cents can't be");
        for (long cents : Edges.outside(0, 1000000000)) {
            edges.refused("cents " + cents, Edges.ILLEGAL, x -> x.less(3, cents, true));
            edges.refused("cents by price " + cents, Edges.ILLEGAL, x -> x.less(0, cents, false));
        }
    }

    private static ValueMethods withDeduction(int kind, long cents) {
        ValueMethods x = Edges.withLines(1, 9, 3, 2);
        x.less(kind, cents, true);
        return x;
    }

    // Promise 5.

    private static void discount() {
        check.sentence("Promise 5: A row of DISCOUNTS: true");
        for (int days : Edges.intsInside(0, 359)) {
            for (int thousandths : Edges.intsInside(0, 1000)) {
                ValueMethods x = Edges.withLines(1, 1000);
                x.days(0, days);
                check.yes("days " + days + ", thousandths " + thousandths, x.discount(days, thousandths));
                check.same("its row", x.count(5), 1);
                check.same("its thousandths", x.count(4), thousandths);
                check.same("its discount", x.sum(4), thousandths);
            }
        }
        check.sentence("Promise 5: false if days are not above those of the last row");
        for (int last : List.of(0, 1, 180, 358, 359)) {
            for (int days : List.of(0, last - 1, last)) {
                if (days >= 0) {
                    edges.refusedBy("last row of " + last, () -> withRow(last, 5), "days " + days, Edges.FALSE,
                        x -> x.discount(days, 9));
                }
            }
            if (last < 359) {
                check.yes("above the row of " + last, withRow(last, 5).discount(last + 1, 9));
            }
        }
        edges.refusedBy("some", Edges::some, "above the first row, not the last", Edges.FALSE,
            x -> x.discount(15, 500));
        check.yes("a lesser discount may follow", withRow(10, 900).discount(11, 0));
        discountThrows();
    }

    private static ValueMethods withRow(int days, int thousandths) {
        ValueMethods x = Edges.withLines(1, 1000);
        x.discount(days, thousandths);
        return x;
    }

    private static void discountThrows() {
        check.sentence("Promise 5: IllegalArgumentException if days are not 0 .. 359");
        for (int days : Edges.intsOutside(0, 359)) {
            edges.refused("days " + days, Edges.ILLEGAL, x -> x.discount(days, 5));
        }
        check.sentence("Promise 5: IllegalArgumentException if thousandths are not 0 .. 1000");
        for (int thousandths : Edges.intsOutside(0, 1000)) {
            edges.refused("thousandths " + thousandths, Edges.ILLEGAL, x -> x.discount(300, thousandths));
        }
        check.sentence("Promise 5: IllegalStateException if there are 10");
        edges.refusedBy("full", Edges::full, "an 11th row", Edges.STATE, x -> x.discount(91, 1));
        edges.refusedBy("full", Edges::full, "an 11th row of 359 days", Edges.STATE, x -> x.discount(359, 1000));
        ValueMethods x = new ValueMethods();
        for (int row = 0; row < 9; row++) {
            check.yes("row " + row, x.discount(row, 1));
        }
        check.no("a 10th of days not above takes no place", x.discount(8, 1));
        check.illegal("a 10th of wrong days takes no place", () -> x.discount(360, 1));
        check.yes("a 10th row", x.discount(9, 1));
        check.same("10 rows", x.count(5), 10);
        check.badState("an 11th row", () -> x.discount(10, 1));
        check.same("still 10 rows", x.count(5), 10);
    }

    // Promise 6.

    private static void days() {
        check.sentence("Promise 6: The invoice's day and that on which it was paid: true");
        for (int invoice : Edges.intsInside(0, 359)) {
            for (int paid : Edges.intsInside(0, 359)) {
                ValueMethods x = new ValueMethods();
                check.yes("days " + invoice + ", " + paid, x.days(invoice, paid));
                check.same("period of " + invoice, x.count(3), invoice / 30);
                if (paid > invoice) {
                    x.discount(paid - invoice - 1, 9);
                    check.same("a day too late", x.count(4), 0);
                }
                x.discount(Math.max(0, paid - invoice), 5);
                check.same("in time", x.count(4), 5);
            }
        }
        ValueMethods again = new ValueMethods();
        check.yes("told", again.days(50, 60));
        check.yes("told again", again.days(20, 60));
        check.same("the later counts", again.count(3), 0);
        check.sentence("Promise 6: false if they are not 0 .. 359");
        for (int day : Edges.intsOutside(0, 359)) {
            edges.refused("invoice " + day, Edges.FALSE, x -> x.days(day, 200));
            edges.refused("paid " + day, Edges.FALSE, x -> x.days(200, day));
            edges.refused("both " + day, Edges.FALSE, x -> x.days(day, day));
        }
    }

    // Promise 7.

    private static void rate() {
        check.sentence("Promise 7: A period's RATE: true");
        for (int period : List.of(0, 1, 10, 11)) {
            for (int up : Edges.intsInside(1, 10000)) {
                ValueMethods x = Edges.hold(Edges.withLines(1, 1), 6, 10000, 0);
                x.days(30 * period, 0);
                check.yes("period " + period + ", up " + up, x.rate(period, up, 10000));
                check.same("by " + up + " / 10000", x.sum(5), up);
                ValueMethods y = Edges.hold(Edges.withLines(1, 1), 6, 99990000, 0);
                y.days(30 * period + 29, 0);
                check.yes("period " + period + ", down " + up, y.rate(period, 1, up));
                check.same("by 1 / " + up, y.sum(5), (99990000 + up / 2) / up);
            }
        }
        check.sentence("Promise 7: false if one was told");
        for (int i = 0; i < 12; i++) {
            int period = i;
            edges.refusedBy("1 / 1 told for " + period, () -> withRate(period, 1, 1), "told again", Edges.FALSE,
                x -> x.rate(period, 2, 3));
            edges.refusedBy("10000 / 7 told for " + period, () -> withRate(period, 10000, 7), "the same again",
                Edges.FALSE, x -> x.rate(period, 10000, 7));
            check.yes("another period", withRate(period, 1, 1).rate((period + 1) % 12, 1, 1));
        }
        check.sentence("Promise 7: false if there is no such period");
        for (int period : Edges.intsOutside(0, 11)) {
            edges.refused("period " + period, Edges.FALSE, x -> x.rate(period, 2, 3));
        }
        check.sentence("Promise 7: false if it can't be");
        for (int number : Edges.intsOutside(1, 10000)) {
            edges.refused("up " + number, Edges.FALSE, x -> x.rate(4, number, 3));
            edges.refused("down " + number, Edges.FALSE, x -> x.rate(4, 3, number));
            edges.refused("both " + number, Edges.FALSE, x -> x.rate(0, number, number));
        }
    }

    private static ValueMethods withRate(int period, int up, int down) {
        ValueMethods x = new ValueMethods();
        x.rate(period, up, down);
        return x;
    }

    // Promise 8.

    private static void condition() {
        check.sentence("Promise 8: A method's CONDITION: true");
        for (int method = 1; method <= 6; method++) {
            ValueMethods x = Edges.withLines(1, 10);
            x.figures(method, 10, 1);
            check.yes("does not hold, " + method, x.condition(method, false));
            check.same("none", x.method(), 0);
            check.yes("holds, " + method, x.condition(method, true));
            check.same("it alone", x.method(), method);
            check.yes("holds again, " + method, x.condition(method, true));
            check.same("it still", x.method(), method);
            check.yes("no more, " + method, x.condition(method, false));
            check.same("none again", x.method(), 0);
        }
        check.sentence("Promise 8: false if there is no such method");
        for (int method : Edges.intsOutside(1, 6)) {
            edges.refused("holds, " + method, Edges.FALSE, x -> x.condition(method, true));
            edges.refused("does not hold, " + method, Edges.FALSE, x -> x.condition(method, false));
        }
    }

    // Promise 9.

    private static void figures() {
        check.sentence("Promise 9: A method's FIGURES (of 2 to 6): true");
        for (int method = 2; method <= 6; method++) {
            long mostA = method <= 3 ? 100000 : 1000000000;
            long leastB = method <= 3 ? 1 : 0;
            long mostB = method <= 3 ? 1000000000 : 1000;
            for (long a : Edges.inside(0, mostA)) {
                for (long b : Edges.inside(leastB, mostB)) {
                    figuresHold(method, a, b);
                }
            }
        }
        ValueMethods again = Edges.hold(Edges.withLines(1, 10), 6, 5, 0);
        check.yes("told again", again.figures(6, 8, 0));
        check.same("the later count", again.sum(6), 8);
        check.sentence("Promise 9: false if there is no such method");
        for (int method : Edges.intsOutside(2, 6)) {
            edges.refused("method " + method, Edges.FALSE, x -> x.figures(method, 7, 7));
        }
        check.sentence("Promise 9: false if they can't be");
        for (int i = 2; i <= 6; i++) {
            int method = i;
            long mostA = method <= 3 ? 100000 : 1000000000;
            long leastB = method <= 3 ? 1 : 0;
            long mostB = method <= 3 ? 1000000000 : 1000;
            for (long a : Edges.outside(0, mostA)) {
                edges.refused("a " + a + " of " + method, Edges.FALSE, x -> x.figures(method, a, 7));
            }
            for (long b : Edges.outside(leastB, mostB)) {
                edges.refused("b " + b + " of " + method, Edges.FALSE, x -> x.figures(method, 7, b));
            }
            edges.refused("both of " + method, Edges.FALSE, x -> x.figures(method, -1, -1));
        }
    }

    /** Told to a line of 1000 grams, the figures give what the method's own words say. */
    private static void figuresHold(int method, long a, long b) {
        ValueMethods x = Edges.withLines(1000, 10);
        x.condition(method, true);
        String what = "figures " + a + ", " + b + " of " + method;
        check.yes(what, x.figures(method, a, b));
        check.same(what + ": method", x.method(), method);
        long due = a;
        if (method <= 3) {
            due = (2000 * a + b) / (2 * b);
        } else if (method == 4) {
            due = a * (1000 - b) / 1000;
        } else if (method == 5) {
            due = (a * (1000 + b) + 500) / 1000;
        }
        check.same(what + ": value", x.value(0, 1), due);
    }

    // Promise 10.

    private static void related() {
        check.sentence("Promise 10: RELATED or not, with a test value (0 .. 1000000000, NONE: no test)");
        for (long test : Edges.inside(0, 1000000000)) {
            ValueMethods x = Edges.summing(test);
            x.condition(1, true);
            check.yes("test " + test, x.related(true, test, 0));
            check.same("passed at " + test, x.count(6), 1);
            check.same("holds at " + test, x.method(), 1);
            x.add(0, 1, true);
            check.same("not a cent above " + test, x.count(6), 0);
            check.same("does not hold above " + test, x.method(), 0);
            check.yes("not related, test " + test, x.related(false, test, 0));
            check.same("not needed", x.count(6), 1);
            check.same("holds", x.method(), 1);
        }
        ValueMethods none = Edges.withLines(1, 1);
        check.yes("no test", none.related(true, -1, 1000));
        check.same("not passed", none.count(6), 0);
        check.yes("no test, not related", none.related(false, -1, 0));
        check.same("not needed", none.count(6), 1);
        check.sentence("Promise 10: a band (0 .. 1000): true");
        for (int band : Edges.intsInside(0, 1000)) {
            ValueMethods x = Edges.summing(1000 + band);
            check.yes("band " + band, x.related(true, 1000, band));
            check.same("passed at " + (1000 + band), x.count(6), 1);
            x.add(0, 1, true);
            check.same("not a cent above", x.count(6), 0);
            ValueMethods y = Edges.summing(1000 - band);
            y.related(true, 1000, band);
            check.same("passed at " + (1000 - band), y.count(6), 1);
            y.less(0, 1, true);
            check.same("not a cent below", y.count(6), 0);
        }
        check.sentence("Promise 10: false if these can't be");
        for (long test : Edges.outside(-1, 1000000000)) {
            edges.refused("test " + test, Edges.FALSE, x -> x.related(true, test, 500));
            edges.refused("not related, test " + test, Edges.FALSE, x -> x.related(false, test, 500));
        }
        for (int band : Edges.intsOutside(0, 1000)) {
            edges.refused("band " + band, Edges.FALSE, x -> x.related(true, 500, band));
            edges.refused("no test, band " + band, Edges.FALSE, x -> x.related(true, -1, band));
            edges.refused("not related, band " + band, Edges.FALSE, x -> x.related(false, 500, band));
        }
    }

    // Promise 11.

    private static void turned() {
        check.sentence("Promise 11: Whether 5 goes ahead of 4");
        List<Integer> usual = List.of(1, 2, 3, 4, 5, 6);
        List<Integer> turned = List.of(1, 2, 3, 5, 4, 6);
        // Every set of methods that hold: only where both 4 and 5 are the next, the order matters.
        for (int set = 0; set < 64; set++) {
            ValueMethods x = Edges.withLines(1, 1);
            for (int method = 1; method <= 6; method++) {
                Edges.hold(x, method, 10, 1);
                x.condition(method, (set >> method - 1 & 1) == 1);
            }
            check.same("at first, set " + set, x.method(), firstOf(set, usual));
            x.turned(false);
            check.same("not turned, set " + set, x.method(), firstOf(set, usual));
            x.turned(true);
            check.same("turned, set " + set, x.method(), firstOf(set, turned));
            x.turned(true);
            check.same("turned twice, set " + set, x.method(), firstOf(set, turned));
            x.turned(false);
            check.same("turned back, set " + set, x.method(), firstOf(set, usual));
        }
    }

    private static int firstOf(int set, List<Integer> order) {
        for (int method : order) {
            if ((set >> method - 1 & 1) == 1) {
                return method;
            }
        }
        return 0;
    }
}
