/** The probe sees each single thing that an object can be told: else it could not tell that nothing changed. */
public final class ProbeTest {
    private static final Check check = new Check("ProbeTest");

    private interface Act {
        void on(ValueMethods x);
    }

    public static void main(String[] args) {
        seesNothingInNothing();
        seesLinesAndAmounts();
        seesDiscountsDaysRates();
        seesMethods();
        seesRelated();
        check.end();
    }

    private static void sees(String what, Probe.Maker maker, Act change) {
        String before = Probe.of(maker).toString();
        String after = Probe.of(() -> {
            ValueMethods x = maker.make();
            change.on(x);
            return x;
        }).toString();
        check.no(what + " unseen", before.equals(after));
    }

    private static void seesNothingInNothing() {
        Probe.Maker[] makers = {ValueMethods::new, Edges::some, Edges::dated, Edges::tested, Edges::full};
        for (Probe.Maker maker : makers) {
            check.same("two alike", Probe.of(maker).toString(), Probe.of(maker).toString());
        }
    }

    private static void seesLinesAndAmounts() {
        sees("a line", Edges::some, x -> x.line(0, 0));
        sees("a first line", ValueMethods::new, x -> x.line(0, 0));
        for (int i = 1; i <= 4; i++) {
            int kind = i;
            sees("addition " + kind, Edges::some, x -> x.add(kind, 0, true));
        }
        for (int i = 1; i <= 3; i++) {
            int kind = i;
            sees("deduction " + kind, ValueMethods::new, x -> x.less(kind, 0, true));
        }
    }

    private static void seesDiscountsDaysRates() {
        sees("a row", Edges::some, x -> x.discount(21, 0));
        sees("a row of thousandths", Edges::some, x -> x.discount(22, 1));
        sees("a first row", ValueMethods::new, x -> x.discount(0, 0));
        sees("paid a day later", Edges::some, x -> x.days(35, 46));
        sees("paid a day later", Edges::dated, x -> x.days(89, 94));
        sees("paid a day sooner", Edges::dated, x -> x.days(89, 92));
        sees("the next period", Edges::dated, x -> x.days(90, 94));
        sees("the first day gone", ValueMethods::new, x -> x.days(1, 359));
        sees("the last day gone", ValueMethods::new, x -> x.days(0, 358));
        for (int i = 0; i < 12; i++) {
            int period = i;
            sees("the rate of " + period, ValueMethods::new, x -> x.rate(period, 1, 1));
        }
    }

    private static void seesMethods() {
        for (int i = 1; i <= 6; i++) {
            int method = i;
            sees("condition " + method, ValueMethods::new, x -> x.condition(method, true));
            sees("no condition " + method, Edges::full, x -> x.condition(method, false));
        }
        for (int i = 2; i <= 6; i++) {
            int method = i;
            sees("figures of " + method, ValueMethods::new, x -> x.figures(method, 0, 1));
            sees("figure a of " + method, Edges::full, x -> x.figures(method, 60000, method <= 3 ? 1000 : 10));
        }
        for (int i = 2; i <= 5; i++) {
            int method = i;
            sees("figure b of " + method, Edges::full, x -> x.figures(method, 50000 + method, 999));
        }
        sees("turned", Edges::some, x -> x.turned(true));
        sees("not turned", Edges::dated, x -> x.turned(false));
    }

    private static void seesRelated() {
        sees("related", ValueMethods::new, x -> x.related(true, -1, 0));
        sees("not related", Edges::tested, x -> x.related(false, 20, 100));
        sees("the test", Edges::tested, x -> x.related(true, 21, 100));
        sees("no test", Edges::tested, x -> x.related(true, -1, 100));
        sees("the band", Edges::tested, x -> x.related(true, 20, 150));
        sees("a lesser band", Edges::tested, x -> x.related(true, 20, 99));
    }
}
