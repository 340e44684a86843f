import java.math.BigInteger;
import java.util.ArrayList;
import java.util.Comparator;
import java.util.List;
import java.util.Map;
import java.util.TreeMap;

/**
 * A second reading of the document, to hold the class against: in numbers that can't run over,
 * with fractions kept whole and lists that are sorted. It is asked for right calls alone; what a
 * wrong call does is for ModelTest to say.
 */
final class Model {
    record Line(long weight, long price) { }

    record Amount(long cents, boolean byWeight) { }

    record Pair(long a, long b) { }

    final List<Line> lines = new ArrayList<>();
    final Map<Integer, Amount> additions = new TreeMap<>();
    final Map<Integer, Amount> deductions = new TreeMap<>();
    final List<Pair> discounts = new ArrayList<>();
    final Map<Integer, Pair> rates = new TreeMap<>();
    final Map<Integer, Boolean> conditions = new TreeMap<>();
    final Map<Integer, Pair> figures = new TreeMap<>();
    int invoice = 0;
    int paid = 359;
    boolean related = false;
    long test = -1;
    long band = 0;
    boolean turned = false;

    private static BigInteger big(long number) {
        return BigInteger.valueOf(number);
    }

    /** NEAR as FLOOR((2a + b) / 2b). */
    static long near(BigInteger a, long b) {
        return a.shiftLeft(1).add(big(b)).divide(big(2).multiply(big(b))).longValueExact();
    }

    /** FLOORs of bases * factor / divisor, and up to the target one more for the greatest remainders. */
    static List<Long> spread(List<Long> bases, long factor, long divisor, long target) {
        List<Long> parts = new ArrayList<>();
        List<Integer> order = new ArrayList<>();
        List<BigInteger> rests = new ArrayList<>();
        long left = target;
        for (int i = 0; i < bases.size(); i++) {
            BigInteger[] both = big(bases.get(i)).multiply(big(factor)).divideAndRemainder(big(divisor));
            parts.add(both[0].longValueExact());
            rests.add(both[1]);
            order.add(i);
            left -= parts.get(i);
        }
        // The sort is stable: of equal remainders the least line stays first.
        order.sort(Comparator.comparing((Integer i) -> rests.get(i)).reversed());
        for (int i = 0; i < left; i++) {
            int line = order.get(i);
            parts.set(line, parts.get(line) + 1);
        }
        return parts;
    }

    List<Long> shared(long amount, boolean byWeight) {
        List<Long> bases = new ArrayList<>();
        for (Line line : lines) {
            bases.add(byWeight ? line.weight : line.price);
        }
        long whole = total(bases);
        if (whole == 0 && byWeight) {
            return shared(amount, false);
        }
        if (whole == 0) {
            bases.replaceAll(any -> 1L);
            whole = bases.size();
        }
        return spread(bases, amount, whole, amount);
    }

    static long total(Iterable<Long> numbers) {
        long total = 0;
        for (long number : numbers) {
            total = Math.addExact(total, number);
        }
        return total;
    }

    static long totalOf(Map<Integer, Amount> amounts) {
        return amounts.values().stream().mapToLong(Amount::cents).sum();
    }

    long weights() {
        return lines.stream().mapToLong(Line::weight).sum();
    }

    long prices() {
        return lines.stream().mapToLong(Line::price).sum();
    }

    long thousandths() {
        return discounts.stream().filter(row -> paid - invoice <= row.a).mapToLong(Pair::b).max().orElse(0);
    }

    long discount() {
        return near(big(prices()).multiply(big(thousandths())), 1000);
    }

    List<Long> transaction() {
        List<Long> values = new ArrayList<>();
        for (Line line : lines) {
            values.add(line.price);
        }
        mix(values, new Amount(discount(), false), -1);
        additions.values().forEach(amount -> mix(values, amount, 1));
        deductions.values().forEach(amount -> mix(values, amount, -1));
        return values;
    }

    private void mix(List<Long> values, Amount amount, long sign) {
        List<Long> parts = lines.isEmpty() ? List.of() : shared(amount.cents, amount.byWeight);
        for (int i = 0; i < values.size(); i++) {
            values.set(i, values.get(i) + sign * parts.get(i));
        }
    }

    boolean testPassed(List<Long> transaction) {
        if (!related) {
            return true;
        }
        BigInteger sum = big(total(transaction)).multiply(big(1000));
        BigInteger least = big(test).multiply(big(1000 - band));
        BigInteger most = big(test).multiply(big(1000 + band));
        return test >= 0 && sum.compareTo(least) >= 0 && sum.compareTo(most) <= 0;
    }

    /** A method's values, or null if it does not hold. */
    List<Long> valuesOf(int method) {
        if (lines.isEmpty() || !conditions.getOrDefault(method, false)) {
            return null;
        }
        if (method == 1) {
            List<Long> values = transaction();
            boolean below = values.stream().anyMatch(value -> value < 0);
            return below || !testPassed(values) ? null : values;
        }
        Pair told = figures.get(method);
        if (told == null) {
            return null;
        }
        if (method <= 3) {
            List<Long> values = new ArrayList<>();
            for (Line line : lines) {
                values.add(near(big(line.weight).multiply(big(told.a)), told.b));
            }
            return values;
        }
        long sum = told.a;
        if (method == 4) {
            BigInteger all = big(told.a).multiply(big(1000 - told.b));
            sum = all.divide(big(1000)).longValueExact() - totalOf(deductions);
        } else if (method == 5) {
            sum = near(big(told.a).multiply(big(1000 + told.b)), 1000) + totalOf(additions);
        }
        return sum < 0 ? null : shared(sum, false);
    }

    int method() {
        List<Integer> order = turned ? List.of(1, 2, 3, 5, 4, 6) : List.of(1, 2, 3, 4, 5, 6);
        for (int method : order) {
            if (valuesOf(method) != null) {
                return method;
            }
        }
        return 0;
    }

    int period() {
        int period = 0;
        while ((period + 1) * 30 <= invoice) {
            period++;
        }
        return period;
    }

    Pair rateOf(int method) {
        Pair even = new Pair(1, 1);
        return method == 4 || method == 5 ? even : rates.getOrDefault(period(), even);
    }

    long ownSum(int method) {
        Pair rate = rateOf(method);
        return near(big(total(valuesOf(method))).multiply(big(rate.a)), rate.b);
    }

    List<Long> ownValues(int method) {
        Pair rate = rateOf(method);
        return spread(valuesOf(method), rate.a, rate.b, ownSum(method));
    }
}
