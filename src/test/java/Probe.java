import java.util.ArrayList;
import java.util.List;

/**
 * Brings to light all that an object was told: by what it answers at once, and by what it answers to
 * later calls. Two objects of which every probe says the same were told the same, as far as any
 * caller can see.
 */
final class Probe {
    interface Maker {
        ValueMethods make();
    }

    interface Ask {
        Object on(ValueMethods x);
    }

    private static final int LINES = 40;
    private static final int LAST_DAY = 359;

    private Probe() {
    }

    /** What each probe says; each gets an object of its own, as it tells it more to learn from it. */
    static List<String> of(Maker maker) {
        List<String> seen = new ArrayList<>();
        seen.add("answers:" + answers(maker.make()));
        seen.add("room for lines:" + room(maker.make()));
        seen.add("kinds left:" + kinds(maker.make()));
        seen.add("last row of discounts:" + lastRow(maker.make()));
        seen.add("rows up to day 179:" + rows(maker.make(), 0, 179));
        seen.add("rows from day 180:" + rows(maker.make(), 180, LAST_DAY));
        seen.add("days up to 9:" + daysBetween(maker.make(), 0));
        seen.add("days from 350:" + daysBetween(maker.make(), 350));
        seen.add("rates:" + rates(maker.make()));
        seen.add("conditions:" + conditions(maker.make()));
        seen.add("figures:" + figures(maker.make()));
        seen.add("turned:" + turned(maker.make()));
        seen.add("test:" + test(maker.make()));
        return seen;
    }

    /** The answer as a text, or the name of what was thrown. */
    static String outcome(ValueMethods x, Ask ask) {
        try {
            return String.valueOf(ask.on(x));
        } catch (RuntimeException e) {
            boolean machine = e instanceof ArithmeticException && "/ by zero".equals(e.getMessage());
            return (machine ? "the machine's " : "") + e.getClass().getSimpleName();
        }
    }

    private static void put(StringBuilder seen, ValueMethods x, Ask ask) {
        seen.append(' ').append(outcome(x, ask));
    }

    static String answers(ValueMethods x) {
        StringBuilder seen = new StringBuilder();
        for (int i = 0; i <= 6; i++) {
            int what = i;
            put(seen, x, y -> y.count(what));
            put(seen, x, y -> y.sum(what));
        }
        put(seen, x, ValueMethods::method);
        for (int i = 0; i < x.count(0); i++) {
            int line = i;
            put(seen, x, y -> y.transaction(line));
            put(seen, x, y -> y.share(1000, line, true));
            put(seen, x, y -> y.share(1000, line, false));
            put(seen, x, y -> y.plain(1000000000, line));
            put(seen, x, y -> y.value(line, 0));
            put(seen, x, y -> y.value(line, 1));
        }
        return seen.toString();
    }

    private static String room(ValueMethods x) {
        StringBuilder seen = new StringBuilder();
        for (int i = 0; i <= LINES; i++) {
            put(seen, x, y -> y.line(3, 5));
        }
        return seen + answers(x);
    }

    private static String kinds(ValueMethods x) {
        StringBuilder seen = new StringBuilder();
        for (int i = 0; i < 5; i++) {
            int kind = i;
            put(seen, x, y -> y.add(kind, 0, false));
        }
        for (int i = 0; i < 4; i++) {
            int kind = i;
            put(seen, x, y -> y.less(kind, 0, false));
        }
        return seen.toString();
    }

    /** The first day that a further row can have tells that of the last row. */
    private static String lastRow(ValueMethods x) {
        for (int i = 0; i <= LAST_DAY; i++) {
            int days = i;
            String outcome = outcome(x, y -> y.discount(days, 1));
            if (!outcome.equals("false")) {
                return " " + days + " " + outcome;
            }
        }
        return " no day left";
    }

    private static String rows(ValueMethods x, int from, int to) {
        StringBuilder seen = new StringBuilder();
        for (int paid = from; paid <= to; paid++) {
            x.days(0, paid);
            put(seen, x, y -> y.count(4));
        }
        return seen.toString();
    }

    /** Rows whose thousandths fall day by day tell how long after the invoice it was paid. */
    private static String daysBetween(ValueMethods x, int from) {
        StringBuilder seen = new StringBuilder();
        for (int i = 0; i < 10; i++) {
            int days = from + i;
            put(seen, x, y -> y.discount(days, LAST_DAY + 1 - days));
        }
        put(seen, x, y -> y.count(3));
        put(seen, x, y -> y.count(4));
        return seen.toString();
    }

    private static String rates(ValueMethods x) {
        StringBuilder seen = new StringBuilder();
        needLine(x);
        setConditions(x, false);
        x.condition(6, true);
        x.figures(6, 1000000000, 0);
        for (int i = 0; i < 12; i++) {
            int period = i;
            x.days(30 * period, 0);
            put(seen, x, y -> y.sum(5));
            put(seen, x, y -> y.rate(period, 9999, 10000));
            put(seen, x, y -> y.sum(5));
        }
        return seen.toString();
    }

    private static String conditions(ValueMethods x) {
        StringBuilder seen = new StringBuilder();
        needLine(x);
        x.related(false, ValueMethods.NONE, 0);
        for (int method = 2; method <= 6; method++) {
            x.figures(method, 100000, 1);
        }
        x.figures(4, 1000000000, 0);
        for (int i = 0; i <= 6; i++) {
            int method = x.method();
            seen.append(' ').append(method);
            x.condition(method, false);
        }
        return seen.toString();
    }

    private static String figures(ValueMethods x) {
        StringBuilder seen = new StringBuilder();
        needLine(x);
        setConditions(x, false);
        for (int method = 2; method <= 6; method++) {
            x.condition(method, true);
            put(seen, x, y -> y.method());
            put(seen, x, y -> y.sum(6));
            put(seen, x, y -> y.value(0, 1));
            x.condition(method, false);
        }
        return seen.toString();
    }

    private static String turned(ValueMethods x) {
        needLine(x);
        setConditions(x, false);
        for (int method = 4; method <= 5; method++) {
            x.condition(method, true);
            x.figures(method, 1000000000, 0);
        }
        return " " + x.method();
    }

    /** As the sum grows cent by cent, the test is passed within its band and not outside. */
    private static String test(ValueMethods x) {
        StringBuilder seen = new StringBuilder();
        for (int i = x.count(0); i < LINES; i++) {
            x.line(0, 1);
            put(seen, x, y -> y.count(6));
        }
        return seen.toString();
    }

    private static void needLine(ValueMethods x) {
        if (x.count(0) == 0) {
            x.line(7, 3);
        }
    }

    private static void setConditions(ValueMethods x, boolean hold) {
        for (int method = 1; method <= 6; method++) {
            x.condition(method, hold);
        }
    }
}
