import java.util.ArrayList;
import java.util.LinkedHashMap;
import java.util.List;
import java.util.Map;
import java.util.TreeSet;

/** What tests of edges share: numbers just inside and outside, objects, and refused calls. */
final class Edges {
    static final String FALSE = "false";
    static final String ILLEGAL = "IllegalArgumentException";
    static final String STATE = "IllegalStateException";
    static final String BOUNDS = "IndexOutOfBoundsException";
    static final String MISSING = "NoSuchElementException";
    static final String ARITHMETIC = "ArithmeticException";

    private final Check check;
    private final Map<String, Probe.Maker> makers = new LinkedHashMap<>();
    private final Map<String, List<String>> untouched = new LinkedHashMap<>();

    Edges(Check check) {
        this.check = check;
        makers.put("empty", ValueMethods::new);
        makers.put("some", Edges::some);
        makers.put("dated", Edges::dated);
        makers.put("tested", Edges::tested);
        makers.put("full", Edges::full);
    }

    // Objects of all sorts.

    static ValueMethods withLines(long... weightsAndPrices) {
        ValueMethods x = new ValueMethods();
        for (int i = 0; i + 1 < weightsAndPrices.length; i += 2) {
            x.line(weightsAndPrices[i], weightsAndPrices[i + 1]);
        }
        return x;
    }

    static ValueMethods alike(int lines, long weight, long price) {
        ValueMethods x = new ValueMethods();
        for (int i = 0; i < lines; i++) {
            x.line(weight, price);
        }
        return x;
    }

    /** Lines whose transaction values come to the sum, below 0 too. */
    static ValueMethods summing(long sum) {
        ValueMethods x = new ValueMethods();
        long left = sum;
        do {
            long price = Math.max(0, Math.min(left, 100000000));
            x.line(1, price);
            left -= price;
        } while (left > 0);
        if (left < 0) {
            x.less(0, -left, false);
        }
        return x;
    }

    static ValueMethods hold(ValueMethods x, int method, long a, long b) {
        x.condition(method, true);
        x.figures(method, a, b);
        return x;
    }

    /** Of every part something was told, and there is room for more. */
    static ValueMethods some() {
        ValueMethods x = withLines(100, 1000, 200, 500, 0, 1);
        x.add(0, 100, true);
        x.less(1, 30, false);
        x.discount(10, 33);
        x.discount(20, 20);
        x.days(35, 45);
        x.rate(1, 3, 7);
        x.condition(1, true);
        x.condition(3, true);
        hold(x, 2, 77, 10);
        x.figures(6, 777, 0);
        x.related(true, 1600, 100);
        return x;
    }

    /** The last day of a period, and paid four days later. */
    static ValueMethods dated() {
        ValueMethods x = withLines(3, 400);
        x.days(89, 93);
        x.turned(true);
        hold(x, 5, 300, 250);
        hold(x, 4, 300, 250);
        return x;
    }

    /** A sum of 10 and a test that is passed from 18 to 22. */
    static ValueMethods tested() {
        ValueMethods x = withLines(1, 4, 9, 6);
        x.related(true, 20, 100);
        x.condition(1, true);
        return x;
    }

    /** No room for anything more. */
    static ValueMethods full() {
        ValueMethods x = new ValueMethods();
        for (int i = 0; i < 40; i++) {
            x.line(100 + i, 2000 - 7 * i);
        }
        for (int kind = 0; kind <= 4; kind++) {
            x.add(kind, 1000 + kind, kind % 2 == 0);
        }
        for (int kind = 0; kind <= 3; kind++) {
            x.less(kind, 100 + kind, kind % 2 == 0);
        }
        for (int i = 0; i < 10; i++) {
            x.discount(10 * i, 100 - i);
        }
        for (int period = 0; period < 12; period++) {
            x.rate(period, 100 + period, 99);
        }
        for (int method = 1; method <= 6; method++) {
            hold(x, method, 50000 + method, method <= 3 ? 1000 : 10);
        }
        x.days(100, 150);
        x.related(false, 100000, 10);
        return x;
    }

    // Numbers.

    static List<Long> inside(long least, long most) {
        return new ArrayList<>(new TreeSet<>(List.of(least, least + 1, most - 1, most)));
    }

    /** Next to the range, at the ends of int and long, and what a cast to int or less would let in. */
    static List<Long> outside(long least, long most) {
        long[] candidates = {least - 1, least - 2, most + 1, most + 2, Long.MIN_VALUE, Long.MIN_VALUE + 1,
            Long.MAX_VALUE, Long.MAX_VALUE - 1, Integer.MIN_VALUE, Integer.MAX_VALUE, (1L << 32) - 1,
            (1L << 32) + least, (1L << 32) + most, -(1L << 32) + least, -(1L << 32) + most,
            Long.MIN_VALUE + least, Long.MIN_VALUE + most, -most};
        return outsideOnly(candidates, least, most);
    }

    static List<Integer> intsInside(int least, int most) {
        List<Integer> numbers = new ArrayList<>();
        inside(least, most).forEach(number -> numbers.add((int) (long) number));
        return numbers;
    }

    static List<Integer> intsOutside(int least, int most) {
        long[] candidates = {least - 1, least - 2, most + 1, most + 2, Integer.MIN_VALUE, Integer.MIN_VALUE + 1,
            Integer.MAX_VALUE, Integer.MAX_VALUE - 1, (1 << 8) + least, (1 << 16) + least, (1 << 16) + most,
            Integer.MIN_VALUE + least, Integer.MIN_VALUE + most, -most};
        List<Integer> numbers = new ArrayList<>();
        outsideOnly(candidates, least, most).forEach(number -> numbers.add((int) (long) number));
        return numbers;
    }

    private static List<Long> outsideOnly(long[] candidates, long least, long most) {
        List<Long> numbers = new ArrayList<>();
        for (long number : candidates) {
            if (number < least || number > most) {
                numbers.add(number);
            }
        }
        return numbers;
    }

    // Answers line by line.

    void values(String what, ValueMethods x, int which, long... due) {
        for (int line = 0; line < due.length; line++) {
            check.same(what + ", line " + line, x.value(line, which), due[line]);
        }
    }

    void shares(String what, ValueMethods x, long amount, boolean byWeight, long... due) {
        for (int line = 0; line < due.length; line++) {
            check.same(what + ", line " + line, x.share(amount, line, byWeight), due[line]);
        }
    }

    void transactions(String what, ValueMethods x, long... due) {
        for (int line = 0; line < due.length; line++) {
            check.same(what + ", line " + line, x.transaction(line), due[line]);
        }
    }

    // Refused calls.

    /** The call throws or answers so on objects of all sorts, and changes nothing in any. */
    void refused(String what, String due, Probe.Ask call) {
        makers.forEach((name, maker) -> refusedBy(name, maker, what, due, call));
    }

    /** The same for the object of one maker, whose name is its own in the whole test. */
    void refusedBy(String name, Probe.Maker maker, String what, String due, Probe.Ask call) {
        ValueMethods x = maker.make();
        check.same(what + ", of " + name, Probe.outcome(x, call), due);
        check.same(what + " again, of " + name, Probe.outcome(x, call), due);
        unchanged(name, maker, what, call);
    }

    /** Whatever the call answers, on objects of all sorts, it changes nothing. */
    void onlyAsks(String what, Probe.Ask call) {
        makers.forEach((name, maker) -> unchanged(name, maker, what, call));
    }

    private void unchanged(String name, Probe.Maker maker, String what, Probe.Ask call) {
        List<String> due = untouched.computeIfAbsent(name, any -> Probe.of(maker));
        List<String> got = Probe.of(() -> {
            ValueMethods x = maker.make();
            Probe.outcome(x, call);
            return x;
        });
        for (int i = 0; i < due.size(); i++) {
            int at = firstDifference(got.get(i), due.get(i));
            check.same(what + " changes nothing, of " + name, cut(got.get(i), at), cut(due.get(i), at));
        }
    }

    private static int firstDifference(String one, String other) {
        int at = 0;
        while (at < one.length() && at < other.length() && one.charAt(at) == other.charAt(at)) {
            at++;
        }
        return at;
    }

    /** The probe's name and what stands round the place, as the whole is too long to read. */
    private static String cut(String text, int at) {
        String name = text.substring(0, text.indexOf(':') + 1);
        int from = Math.max(name.length(), at - 20);
        return name + text.substring(Math.min(from, text.length()), Math.min(at + 20, text.length()));
    }
}
