/** Promises 1 to 11: a new object, and what it is told. */
public final class TellTest {
    private static final Check check = new Check("TellTest");

    public static void main(String[] args) {
        promise1NewObject();
        promise2Line();
        promise2FortyLines();
        promise3Add();
        promise4Less();
        promise5Discount();
        promise5TenRows();
        promise6Days();
        promise7Rate();
        promise8Condition();
        promise9Figures();
        promise10Related();
        promise11Turned();
        check.end();
    }

    /** An object of which every part was told something. */
    private static ValueMethods told() {
        ValueMethods x = new ValueMethods();
        x.line(100, 1000);
        x.line(200, 500);
        x.add(0, 100, true);
        x.less(1, 30, false);
        x.discount(10, 33);
        x.days(35, 40);
        x.rate(1, 3, 7);
        x.condition(1, true);
        x.figures(6, 77, 0);
        x.related(true, 1500, 100);
        return x;
    }

    private static void promise1NewObject() {
        ValueMethods x = new ValueMethods();
        for (int what = 0; what <= 5; what++) {
            check.same("new: count " + what, x.count(what), 0);
        }
        check.same("new: no test needed", x.count(6), 1);
        for (int what = 0; what <= 4; what++) {
            check.same("new: sum " + what, x.sum(what), 0);
        }
        check.same("new: own sum", x.sum(5), -1);
        check.same("new: sum of values", x.sum(6), -1);
        check.same("new: method", x.method(), 0);
        check.outOfBounds("new: value", () -> x.value(0, 0));
        check.outOfBounds("new: transaction", () -> x.transaction(0));

        // It was paid on day 359: only a row of 359 days counts.
        x.line(1, 1000);
        x.discount(358, 100);
        check.same("new: paid behind day 358", x.count(4), 0);
        x.discount(359, 50);
        check.same("new: paid on day 359", x.count(4), 50);

        for (int method = 1; method <= 6; method++) {
            x.figures(method, 5, 5);
        }
        check.same("new: no condition holds", x.method(), 0);
        ValueMethods y = new ValueMethods();
        y.line(1, 1000);
        for (int method = 2; method <= 6; method++) {
            y.condition(method, true);
        }
        check.same("new: no figures", y.method(), 0);
        y.condition(1, true);
        check.same("new: not related", y.method(), 1);
        check.same("new: rate is 1 / 1", y.value(0, 0), 1000);
        ValueMethods other = new ValueMethods();
        check.same("new: objects share nothing", other.count(0), 0);
    }

    private static void promise2Line() {
        ValueMethods x = new ValueMethods();
        check.same("first line", x.line(0, 0), 0);
        check.same("second line", x.line(100000000, 100000000), 1);
        check.same("third line", x.line(5, 7), 2);
        String before = Probe.answers(x);
        check.illegal("weight below", () -> x.line(-1, 0));
        check.illegal("weight above", () -> x.line(100000001, 0));
        check.illegal("price below", () -> x.line(0, -1));
        check.illegal("price above", () -> x.line(0, 100000001));
        check.illegal("least weight of all", () -> x.line(Long.MIN_VALUE, 0));
        check.illegal("price past an int", () -> x.line(0, 1L << 32));
        check.same("wrong lines change nothing", Probe.answers(x), before);
        check.same("weights", x.sum(0), 100000005);
        check.same("prices", x.sum(1), 100000007);
    }

    private static void promise2FortyLines() {
        ValueMethods x = new ValueMethods();
        for (int i = 0; i < 40; i++) {
            check.same("line " + i, x.line(i, 2 * i), i);
        }
        check.badState("a 41st line", () -> x.line(1, 1));
        check.illegal("a wrong 41st line", () -> x.line(-1, 1));
        check.same("40 lines", x.count(0), 40);
        check.same("40 weights", x.sum(0), 780);
        check.same("40 prices", x.sum(1), 1560);
        check.same("the last line's price", x.transaction(39), 78);
    }

    private static void promise3Add() {
        ValueMethods x = told();
        check.yes("an addition of 0", x.add(1, 0, false));
        check.yes("the greatest addition", x.add(4, 1000000000, true));
        check.same("additions", x.count(1), 3);
        check.same("their sum", x.sum(2), 1000000100L);
        String before = Probe.answers(x);
        check.no("told", x.add(0, 7, false));
        check.no("told as 0", x.add(1, 5, false));
        check.illegal("kind below", () -> x.add(-1, 0, true));
        check.illegal("kind above", () -> x.add(5, 0, true));
        check.illegal("cents below", () -> x.add(2, -1, true));
        check.illegal("cents above", () -> x.add(2, 1000000001, true));
        check.illegal("told, cents below", () -> x.add(0, -1, true));
        check.same("wrong additions change nothing", Probe.answers(x), before);
        check.yes("a kind that was told wrongly", x.add(2, 3, true));

        ValueMethods y = new ValueMethods();
        y.line(1, 3);
        y.line(3, 1);
        y.add(0, 4, true);
        check.same("by weight", y.transaction(0), 4);
        y.add(3, 4, false);
        check.same("by price", y.transaction(0), 7);
    }

    private static void promise4Less() {
        ValueMethods x = told();
        check.yes("a deduction of 0", x.less(0, 0, false));
        check.yes("the greatest deduction", x.less(3, 1000000000, true));
        check.same("deductions", x.count(2), 3);
        check.same("their sum", x.sum(3), 1000000030L);
        String before = Probe.answers(x);
        check.no("told", x.less(1, 7, false));
        check.no("told as 0", x.less(0, 5, false));
        check.illegal("kind below", () -> x.less(-1, 0, true));
        check.illegal("kind above", () -> x.less(4, 0, true));
        check.illegal("cents below", () -> x.less(2, -1, true));
        check.illegal("cents above", () -> x.less(2, 1000000001, true));
        check.illegal("told, cents above", () -> x.less(1, 1000000001, true));
        check.same("wrong deductions change nothing", Probe.answers(x), before);
        check.yes("a kind that was told wrongly", x.less(2, 3, true));

        ValueMethods y = new ValueMethods();
        y.line(1, 30);
        y.line(3, 10);
        y.less(0, 4, true);
        check.same("by weight", y.transaction(0), 29);
        y.less(1, 4, false);
        check.same("by price", y.transaction(0), 26);
        check.same("additions are apart", y.count(1), 0);
    }

    private static void promise5Discount() {
        ValueMethods x = told();
        String before = Probe.answers(x);
        check.no("days of the last row", x.discount(10, 50));
        check.no("days below the last row's", x.discount(9, 50));
        check.illegal("days below 0", () -> x.discount(-1, 50));
        check.illegal("days above", () -> x.discount(360, 50));
        check.illegal("thousandths below 0", () -> x.discount(20, -1));
        check.illegal("thousandths above", () -> x.discount(20, 1001));
        check.illegal("days of the last row, thousandths above", () -> x.discount(10, 1001));
        check.same("wrong rows change nothing", Probe.answers(x), before);
        check.yes("days above the last row's", x.discount(11, 0));
        check.same("rows", x.count(5), 2);

        ValueMethods y = new ValueMethods();
        check.yes("days 0, 1000 thousandths", y.discount(0, 1000));
        check.yes("days 359", y.discount(359, 0));
        check.no("days 359 again", y.discount(359, 1));
        y.line(1, 123);
        y.days(7, 7);
        check.same("all taken off", y.sum(4), 123);
        check.same("nothing left", y.transaction(0), 0);
    }

    private static void promise5TenRows() {
        ValueMethods x = new ValueMethods();
        for (int i = 0; i < 10; i++) {
            check.yes("row " + i, x.discount(10 * i, 100 - i));
        }
        check.badState("an 11th row", () -> x.discount(200, 1));
        check.badState("an 11th row of days not above", () -> x.discount(5, 1));
        check.illegal("a wrong 11th row", () -> x.discount(360, 1));
        check.same("10 rows", x.count(5), 10);
        x.days(0, 90);
        check.same("the 10th row", x.count(4), 91);
        x.days(0, 91);
        check.same("behind the 10th row", x.count(4), 0);
    }

    private static void promise6Days() {
        ValueMethods x = told();
        check.yes("day 0", x.days(0, 0));
        check.yes("day 359", x.days(359, 359));
        check.yes("paid ahead of the invoice", x.days(100, 99));
        check.same("then every row counts", x.count(4), 33);
        x.days(29, 39);
        check.same("day 29", x.count(3), 0);
        check.same("on the row's last day", x.count(4), 33);
        x.days(30, 41);
        check.same("day 30", x.count(3), 1);
        check.same("behind the row's last day", x.count(4), 0);
        String before = Probe.answers(x);
        check.no("invoice below", x.days(-1, 0));
        check.no("invoice above", x.days(360, 0));
        check.no("paid below", x.days(0, -1));
        check.no("paid above", x.days(0, 360));
        check.no("far above", x.days(Integer.MAX_VALUE, Integer.MAX_VALUE));
        check.same("wrong days change nothing", Probe.answers(x), before);
    }

    private static void promise7Rate() {
        ValueMethods x = told();
        String before = Probe.answers(x);
        check.no("told", x.rate(1, 1, 1));
        check.no("period below", x.rate(-1, 1, 1));
        check.no("period above", x.rate(12, 1, 1));
        check.no("up below", x.rate(2, 0, 1));
        check.no("up above", x.rate(2, 10001, 1));
        check.no("down below", x.rate(2, 1, 0));
        check.no("down above", x.rate(2, 1, 10001));
        check.same("wrong rates change nothing", Probe.answers(x), before);
        check.yes("a period that was told wrongly", x.rate(2, 10000, 10000));
        check.no("told as 1 / 1", x.rate(2, 1, 1));
        check.yes("period 0", x.rate(0, 10000, 1));
        check.yes("period 11", x.rate(11, 1, 10000));

        ValueMethods y = new ValueMethods();
        y.line(1, 1000);
        y.condition(1, true);
        y.rate(3, 5, 2);
        y.days(89, 359);
        check.same("a period without a rate", y.value(0, 0), 1000);
        y.days(90, 359);
        check.same("the period's first day", y.value(0, 0), 2500);
        y.days(119, 0);
        check.same("the period's last day", y.value(0, 0), 2500);
    }

    private static void promise8Condition() {
        ValueMethods x = told();
        String before = Probe.answers(x);
        check.no("method 0", x.condition(0, true));
        check.no("method 7", x.condition(7, true));
        check.no("method -1", x.condition(-1, true));
        check.same("wrong conditions change nothing", Probe.answers(x), before);
        check.same("1 holds", x.method(), 1);
        check.yes("1 no more", x.condition(1, false));
        check.same("none holds", x.method(), 0);
        check.yes("6 holds", x.condition(6, true));
        check.same("6", x.method(), 6);
        check.yes("6 again", x.condition(6, true));
        check.same("still 6", x.method(), 6);
        check.yes("1 again", x.condition(1, true));
        check.same("1 goes ahead", x.method(), 1);
        for (int method = 2; method <= 5; method++) {
            check.yes("condition " + method, x.condition(method, false));
        }
    }

    private static void promise9Figures() {
        ValueMethods x = told();
        x.condition(1, false);
        for (int method = 2; method <= 6; method++) {
            x.condition(method, true);
        }
        String before = Probe.answers(x);
        check.no("method 1", x.figures(1, 1, 1));
        check.no("method 0", x.figures(0, 1, 1));
        check.no("method 7", x.figures(7, 1, 1));
        for (int method = 2; method <= 3; method++) {
            check.no("a below, of " + method, x.figures(method, -1, 1));
            check.no("a above, of " + method, x.figures(method, 100001, 1));
            check.no("b 0, of " + method, x.figures(method, 1, 0));
            check.no("b above, of " + method, x.figures(method, 1, 1000000001));
        }
        for (int method = 4; method <= 6; method++) {
            check.no("a below, of " + method, x.figures(method, -1, 1));
            check.no("a above, of " + method, x.figures(method, 1000000001, 1));
            check.no("b below, of " + method, x.figures(method, 1, -1));
            check.no("b above, of " + method, x.figures(method, 1, 1001));
        }
        check.same("wrong figures change nothing", Probe.answers(x), before);

        for (int method = 2; method <= 3; method++) {
            check.yes("the least, of " + method, x.figures(method, 0, 1));
            check.yes("the greatest, of " + method, x.figures(method, 100000, 1000000000));
        }
        for (int method = 4; method <= 6; method++) {
            check.yes("the least, of " + method, x.figures(method, 0, 0));
            check.yes("the greatest, of " + method, x.figures(method, 1000000000, 1000));
        }
        check.yes("figures told again", x.figures(2, 3, 1));
        check.same("count", x.value(0, 1), 300);
    }

    private static void promise10Related() {
        ValueMethods x = told();
        check.same("passed", x.count(6), 1);
        String before = Probe.answers(x);
        check.no("test below NONE", x.related(true, -2, 0));
        check.no("test above", x.related(true, 1000000001, 0));
        check.no("band below", x.related(true, 1, -1));
        check.no("band above", x.related(true, 1, 1001));
        check.no("wrong, though not related", x.related(false, -2, 0));
        check.no("a wrong band without a test", x.related(true, -1, 1001));
        check.same("wrong tests change nothing", Probe.answers(x), before);
        check.yes("no test", x.related(true, ValueMethods.NONE, 1000));
        check.same("no test is not passed", x.count(6), 0);
        check.same("so 1 does not hold", x.method(), 0);
        check.yes("not related", x.related(false, 1, 0));
        check.same("no test is needed", x.count(6), 1);
        check.same("so 1 holds", x.method(), 1);
        check.yes("the least test", x.related(true, 0, 0));
        check.same("not passed", x.count(6), 0);
        check.yes("the greatest test", x.related(true, 1000000000, 1000));
        check.same("a band of all", x.count(6), 1);
    }

    private static void promise11Turned() {
        ValueMethods x = new ValueMethods();
        x.line(1, 1);
        for (int method = 4; method <= 5; method++) {
            x.condition(method, true);
            x.figures(method, 10 * method, 0);
        }
        check.same("4 ahead of 5", x.method(), 4);
        x.turned(true);
        check.same("5 ahead of 4", x.method(), 5);
        x.turned(true);
        check.same("asked twice", x.method(), 5);
        x.condition(5, false);
        check.same("4 where 5 does not hold", x.method(), 4);
        x.condition(5, true);
        x.turned(false);
        check.same("4 ahead again", x.method(), 4);
        x.turned(true);
        x.condition(3, true);
        x.figures(3, 1, 1);
        check.same("3 stays ahead", x.method(), 3);
    }
}
