import java.util.List;

/** Promises 12 to 18: each sentence that names an edge, at the edge and on both sides of it. */
public final class AskEdgeTest {
    private static final Check check = new Check("AskEdgeTest");
    private static final Edges edges = new Edges(check);

    public static void main(String[] args) {
        method();
        value();
        valueThrows();
        transaction();
        share();
        shareThrows();
        plain();
        plainThrows();
        count();
        countTest();
        countOther();
        sum();
        sumWithoutMethod();
        sumOther();
        askingChangesNothing();
        check.end();
    }

    /** Lines that no object of the given number of lines has. */
    private static List<Integer> noLines(int lines) {
        return Edges.intsOutside(0, lines - 1);
    }

    private interface AskOfLine {
        Object of(ValueMethods x, int line);
    }

    /** Of 0, 1, 39 and 40 lines, each line behind the last is refused, and each up to it is not. */
    private static void refusesNoLine(AskOfLine ask) {
        edges.refused("line -1", Edges.BOUNDS, x -> ask.of(x, -1));
        edges.refused("line 40", Edges.BOUNDS, x -> ask.of(x, 40));
        edges.refused("line behind the last", Edges.BOUNDS, x -> ask.of(x, x.count(0)));
        for (int lines : List.of(0, 1, 39, 40)) {
            ValueMethods x = Edges.alike(lines, 1, 1);
            x.condition(1, true);
            for (int line : noLines(lines)) {
                check.same("line " + line + " of " + lines, Probe.outcome(x, y -> ask.of(y, line)), Edges.BOUNDS);
            }
            for (int line = 0; line < lines; line++) {
                int there = line;
                String outcome = Probe.outcome(x, y -> ask.of(y, there));
                check.no("line " + line + " of " + lines + " throws", outcome.endsWith("Exception"));
            }
        }
        // A line that is not there yet is there once it was told.
        ValueMethods grows = Edges.withLines(1, 1);
        grows.condition(1, true);
        check.same("not there yet", Probe.outcome(grows, y -> ask.of(y, 1)), Edges.BOUNDS);
        grows.line(1, 1);
        check.no("there now", Probe.outcome(grows, y -> ask.of(y, 1)).endsWith("Exception"));
    }

    // Promise 12.

    private static void method() {
        check.sentence("Promise 12: THE METHOD: 1 to 6");
        for (int method = 1; method <= 6; method++) {
            ValueMethods x = Edges.hold(Edges.withLines(1, 1), method, 1, 1);
            check.same("alone", x.method(), method);
            check.same("asked again", x.method(), method);
        }
        check.sentence("Promise 12: 0 if there is none");
        check.same("a new object", new ValueMethods().method(), 0);
        check.same("no conditions", Edges.withLines(1, 1).method(), 0);
        ValueMethods failing = Edges.withLines(1, 1);
        failing.less(0, 2, true);
        for (int method = 1; method <= 4; method++) {
            failing.condition(method, true);
        }
        failing.figures(4, 1, 0);
        check.same("1 and 4 below 0, 2 and 3 without figures", failing.method(), 0);
        failing.figures(4, 2, 0);
        check.same("4 at 0", failing.method(), 4);
    }

    // Promise 13.

    private static void value() {
        check.sentence("Promise 13: Of a line: what 0: its OWN VALUE, 1: its value ahead of the rate");
        ValueMethods x = Edges.withLines(1, 10, 1, 21);
        x.condition(1, true);
        x.rate(0, 1, 2);
        edges.values("own", x, 0, 5, 11);
        edges.values("ahead", x, 1, 10, 21);
        edges.values("own, again", x, 0, 5, 11);
        x.line(1, 0);
        edges.values("a line more", x, 0, 5, 11, 0);
        ValueMethods zero = Edges.withLines(0, 0);
        zero.condition(1, true);
        edges.values("nothing", zero, 0, 0);
        edges.values("nothing ahead", zero, 1, 0);
    }

    private static void valueThrows() {
        check.sentence("Promise 13: IndexOutOfBoundsException if there is no such line");
        refusesNoLine((x, line) -> x.value(line, 0));
        refusesNoLine((x, line) -> x.value(line, 1));
        check.sentence("Promise 13: IndexOutOfBoundsException if there is no such what");
        for (int what : Edges.intsOutside(0, 1)) {
            edges.refused("what " + what, Edges.BOUNDS, x -> x.value(0, what));
        }
        check.sentence("Promise 13: NoSuchElementException if there is no method");
        for (int what = 0; what <= 1; what++) {
            int which = what;
            edges.refusedBy("lines alone", () -> Edges.withLines(1, 1, 2, 2), "what " + what, Edges.MISSING,
                x -> x.value(1, which));
            edges.refusedBy("below 0", AskEdgeTest::belowZero, "what " + what, Edges.MISSING,
                x -> x.value(0, which));
            edges.refusedBy("not passed", Edges::tested, "what " + what, Edges.MISSING, x -> x.value(0, which));
        }
        ValueMethods x = Edges.withLines(1, 1);
        check.same("no method", Probe.outcome(x, y -> y.value(0, 0)), Edges.MISSING);
        x.condition(1, true);
        check.same("a method", x.value(0, 0), 1);
        x.condition(1, false);
        check.same("no method again", Probe.outcome(x, y -> y.value(0, 0)), Edges.MISSING);
    }

    private static ValueMethods belowZero() {
        ValueMethods x = Edges.withLines(1, 5, 1, 5);
        x.condition(1, true);
        x.less(0, 12, true);
        return x;
    }

    // Promise 14.

    private static void transaction() {
        check.sentence("Promise 14: A line's TRANSACTION value (below 0, too), whether it holds or not");
        ValueMethods x = Edges.withLines(1, 5, 1, 5);
        edges.transactions("no condition", x, 5, 5);
        x.less(0, 10, true);
        edges.transactions("0", x, 0, 0);
        x.less(1, 1, true);
        edges.transactions("below 0 in one line", x, -1, 0);
        x.less(2, 1000000000, true);
        edges.transactions("far below 0", x, -500000001, -500000000);
        x.condition(1, true);
        check.same("does not hold", x.method(), 0);
        edges.transactions("all the same", x, -500000001, -500000000);
        x.related(true, ValueMethods.NONE, 0);
        edges.transactions("related or not", x, -500000001, -500000000);
        Edges.hold(x, 6, 77, 0);
        check.same("another method", x.method(), 6);
        edges.transactions("whatever the method", x, -500000001, -500000000);
        x.rate(0, 7, 1);
        edges.transactions("ahead of the rate", x, -500000001, -500000000);
        check.sentence("Promise 14: IndexOutOfBoundsException if there is no such line");
        refusesNoLine((y, line) -> y.transaction(line));
    }

    // Promise 15.

    private static void share() {
        check.sentence("Promise 15: What a line gets of an amount (0 .. 1000000000) that is SHARED");
        ValueMethods x = Edges.withLines(1, 3, 3, 1);
        edges.shares("0", x, 0, true, 0, 0);
        edges.shares("1", x, 1, true, 0, 1);
        edges.shares("1 by price", x, 1, false, 1, 0);
        edges.shares("2", x, 2, true, 1, 1);
        edges.shares("999999999", x, 999999999, true, 250000000, 749999999);
        edges.shares("999999999 by price", x, 999999999, false, 749999999, 250000000);
        edges.shares("1000000000", x, 1000000000, true, 250000000, 750000000);
        edges.shares("1000000000 by price", x, 1000000000, false, 750000000, 250000000);
        check.same("no addition is told by it", x.count(1), 0);
    }

    private static void shareThrows() {
        check.sentence("Promise 15: IndexOutOfBoundsException if there is no such line");
        refusesNoLine((x, line) -> x.share(5, line, true));
        refusesNoLine((x, line) -> x.share(5, line, false));
        check.sentence("Promise 15: IllegalArgumentException if the amount can't be");
        for (long amount : Edges.outside(0, 1000000000)) {
            for (boolean byWeight : new boolean[] {true, false}) {
                edges.refusedBy("some", Edges::some, "amount " + amount, Edges.ILLEGAL,
                    x -> x.share(amount, 0, byWeight));
                edges.refusedBy("full", Edges::full, "amount " + amount, Edges.ILLEGAL,
                    x -> x.share(amount, 39, byWeight));
            }
        }
    }

    // Promise 16.

    private static void plain() {
        check.sentence("Promise 16: FLOOR(amount * a line's weight / the sum of weights), for amounts 0 .. 1000000000");
        ValueMethods x = Edges.withLines(1, 0, 2, 0, 0, 9);
        long[][] rows = {{0, 0, 0, 0}, {1, 0, 0, 0}, {2, 0, 1, 0}, {3, 1, 2, 0}, {4, 1, 2, 0}, {5, 1, 3, 0},
            {999999999, 333333333, 666666666, 0}, {1000000000, 333333333, 666666666, 0}};
        for (long[] row : rows) {
            for (int line = 0; line < 3; line++) {
                check.same("of " + row[0] + ", line " + line, x.plain(row[0], line), row[line + 1]);
            }
        }
        ValueMethods greatest = Edges.alike(40, 100000000, 0);
        check.same("the greatest weights", greatest.plain(1000000000, 39), 25000000);
        check.same("39 of 40", greatest.plain(39, 0), 0);
        check.same("40 of 40", greatest.plain(40, 0), 1);
        check.same("one line", Edges.withLines(100000000, 0).plain(1000000000, 0), 1000000000);
    }

    private static void plainThrows() {
        check.sentence("Promise 16: IndexOutOfBoundsException if there is no such line");
        refusesNoLine((x, line) -> x.plain(5, line));
        check.sentence("Promise 16: IllegalArgumentException if the amount can't be");
        for (long amount : Edges.outside(0, 1000000000)) {
            edges.refusedBy("some", Edges::some, "amount " + amount, Edges.ILLEGAL, x -> x.plain(amount, 0));
            edges.refusedBy("full", Edges::full, "amount " + amount, Edges.ILLEGAL, x -> x.plain(amount, 39));
        }
        check.sentence("Promise 16: ArithmeticException if the sum is 0");
        for (long amount : Edges.inside(0, 1000000000)) {
            edges.refusedBy("no weights", () -> Edges.withLines(0, 5, 0, 7), "amount " + amount, Edges.ARITHMETIC,
                x -> x.plain(amount, 1));
        }
        ValueMethods x = Edges.withLines(0, 5);
        check.same("a sum of 0", Probe.outcome(x, y -> y.plain(7, 0)), Edges.ARITHMETIC);
        x.line(1, 0);
        check.same("a sum of 1", x.plain(7, 0), 0);
        check.same("its line", x.plain(7, 1), 7);
        check.same("40 of no weight", Probe.outcome(Edges.alike(40, 0, 1), y -> y.plain(7, 39)), Edges.ARITHMETIC);
    }

    // Promise 17.

    private static void count() {
        check.sentence("Promise 17: what 0: lines, 1: additions told, 2: deductions told, 3: the invoice's period, "
            + "4: thousandths of the DISCOUNT, 5: rows of discounts");
        counts("new", new ValueMethods(), 0, 0, 0, 0, 0, 0, 1);
        counts("some", Edges.some(), 3, 1, 1, 1, 33, 2, 1);
        counts("full", Edges.full(), 40, 5, 4, 3, 95, 10, 1);
        ValueMethods x = new ValueMethods();
        x.add(4, 0, true);
        x.less(3, 0, true);
        x.discount(0, 0);
        x.days(359, 359);
        counts("zeros are told", x, 0, 1, 1, 11, 0, 1, 1);
        x.discount(1, 1000);
        counts("the most thousandths", x, 0, 1, 1, 11, 1000, 2, 1);
    }

    private static void counts(String name, ValueMethods x, long... due) {
        for (int what = 0; what < due.length; what++) {
            check.same(name + ": count " + what, x.count(what), due[what]);
        }
    }

    private static void countTest() {
        check.sentence("Promise 17: 6: 1 if the TEST is passed or not needed, else 0");
        ValueMethods x = Edges.withLines(1, 100);
        check.same("not needed", x.count(6), 1);
        x.related(true, 100, 0);
        check.same("passed", x.count(6), 1);
        x.related(true, 101, 0);
        check.same("not passed", x.count(6), 0);
        x.related(false, 101, 0);
        check.same("not needed, not passed", x.count(6), 1);
        x.related(true, ValueMethods.NONE, 1000);
        check.same("needed, no test", x.count(6), 0);
        x.related(false, ValueMethods.NONE, 1000);
        check.same("not needed, no test", x.count(6), 1);
        // The condition and a line below 0 are apart from the test.
        ValueMethods below = Edges.withLines(1, 0, 0, 100);
        below.less(0, 50, true);
        below.related(true, 50, 0);
        check.same("passed with a line below 0", below.count(6), 1);
        ValueMethods empty = new ValueMethods();
        empty.related(true, 0, 0);
        check.same("without lines the sum is 0", empty.count(6), 1);
        empty.related(true, 1, 999);
        check.same("and not 1", empty.count(6), 0);
        empty.related(true, 1, 1000);
        check.same("within a band of all", empty.count(6), 1);
    }

    private static void countOther() {
        check.sentence("Promise 17: NONE for another what");
        for (int what : Edges.intsOutside(0, 6)) {
            edges.refused("count " + what, "-1", x -> x.count(what));
        }
    }

    // Promise 18.

    private static void sum() {
        check.sentence("Promise 18: what 0: sum of weights, 1: of prices, 2: of additions, 3: of deductions, "
            + "4: the DISCOUNT, 5: the own sum, 6: the sum of the values ahead of the rate");
        sums("new", new ValueMethods(), 0, 0, 0, 0, 0, -1, -1);
        // 1501 prices, 33 thousandths of them are 49.533; 1501 - 50 + 100 - 30 = 1521, and 3 / 7 of it 651.857.
        sums("some", Edges.some(), 300, 1501, 100, 30, 50, 652, 1521);
        ValueMethods x = Edges.alike(40, 100000000, 100000000);
        for (int kind = 0; kind <= 4; kind++) {
            x.add(kind, 1000000000, true);
        }
        for (int kind = 0; kind <= 3; kind++) {
            x.less(kind, 1000000000, true);
        }
        x.discount(359, 1000);
        x.condition(1, true);
        x.rate(0, 10000, 1);
        sums("the greatest", x, 4000000000L, 4000000000L, 5000000000L, 4000000000L, 4000000000L, 10000000000000L,
            1000000000L);
        ValueMethods zero = Edges.withLines(0, 0);
        zero.condition(1, true);
        sums("the least", zero, 0, 0, 0, 0, 0, 0, 0);
    }

    private static void sums(String name, ValueMethods x, long... due) {
        for (int what = 0; what < due.length; what++) {
            check.same(name + ": sum " + what, x.sum(what), due[what]);
        }
    }

    private static void sumWithoutMethod() {
        check.sentence("Promise 18: (5, 6: NONE without a method)");
        for (int what = 5; what <= 6; what++) {
            int which = what;
            edges.refusedBy("empty", ValueMethods::new, "sum " + what, "-1", x -> x.sum(which));
            edges.refusedBy("lines alone", () -> Edges.withLines(1, 1, 2, 2), "sum " + what, "-1",
                x -> x.sum(which));
            edges.refusedBy("below 0", AskEdgeTest::belowZero, "sum " + what, "-1", x -> x.sum(which));
            edges.refusedBy("not passed", Edges::tested, "sum " + what, "-1", x -> x.sum(which));
            ValueMethods x = Edges.withLines(0, 0);
            check.same("no method, sum " + what, x.sum(what), -1);
            x.condition(1, true);
            check.same("a method of nothing, sum " + what, x.sum(what), 0);
            x.condition(1, false);
            check.same("no method again, sum " + what, x.sum(what), -1);
        }
    }

    private static void sumOther() {
        check.sentence("Promise 18: NONE for another what");
        for (int what : Edges.intsOutside(0, 6)) {
            edges.refused("sum " + what, "-1", x -> x.sum(what));
        }
    }

    // What is asked is only asked.

    private static void askingChangesNothing() {
        check.sentence("Nothing beyond the answers and state changes described");
        edges.onlyAsks("method", ValueMethods::method);
        edges.onlyAsks("value 0", x -> x.value(0, 0));
        edges.onlyAsks("value 1", x -> x.value(0, 1));
        edges.onlyAsks("transaction", x -> x.transaction(0));
        edges.onlyAsks("share by weight", x -> x.share(999, 0, true));
        edges.onlyAsks("share by price", x -> x.share(999, 0, false));
        edges.onlyAsks("plain", x -> x.plain(999, 0));
        for (int i = 0; i <= 6; i++) {
            int what = i;
            edges.onlyAsks("count " + what, x -> x.count(what));
            edges.onlyAsks("sum " + what, x -> x.sum(what));
        }
    }
}
