import java.math.BigInteger;
import java.util.Map;
import java.util.Random;

/** Runs of calls, right and wrong, on the class and the model: the answers must be alike. */
public final class ModelTest {
    private static final Check check = new Check("ModelTest");
    private static final int RUNS = 400;
    private static final int MOST_CALLS = 512;

    private static final String ILLEGAL = "IllegalArgumentException";
    private static final String STATE = "IllegalStateException";
    private static final String BOUNDS = "IndexOutOfBoundsException";

    private interface Answer {
        Object get();
    }

    private final Random random;
    private final ValueMethods real = new ValueMethods();
    private final Model model = new Model();
    // Small numbers make ties and halves, great ones make sums that could run over.
    private final boolean small;

    private ModelTest(long seed) {
        random = new Random(seed);
        small = random.nextBoolean();
    }

    public static void main(String[] args) {
        for (int run = 0; run < RUNS; run++) {
            new ModelTest(run).run(run);
        }
        check.end();
    }

    private void run(int run) {
        int telling = 5 + random.nextInt(90);
        int calls = 0;
        if (random.nextInt(4) == 0) {
            calls = 45;
            telling += calls;
            fill("run " + run + ", filling: ", calls);
        }
        while (calls < MOST_CALLS) {
            boolean tells = random.nextInt(100) < (calls < telling ? 90 : 12);
            if (tells) {
                tell("run " + run + ", call " + calls + ": ");
            } else {
                ask("run " + run + ", call " + calls + ": ");
            }
            calls++;
        }
    }

    /** Enough lines, some of them wrong, for there to be 40 in most runs. */
    private void fill(String at, int calls) {
        for (int i = 0; i < calls; i++) {
            tellLine(at);
        }
    }

    private void compare(String what, Answer got, Object due) {
        String answer;
        try {
            answer = String.valueOf(got.get());
        } catch (RuntimeException e) {
            answer = e.getClass().getSimpleName();
        }
        check.same(what, answer, String.valueOf(due));
    }

    /** Mostly within least .. most, often at an edge, now and then just outside. */
    private long number(long least, long most) {
        switch (random.nextInt(24)) {
            case 0:
                return least - 1;
            case 1:
                return most + 1;
            case 2:
            case 3:
                return least;
            case 4:
                return most;
            default:
                long span = most - least + 1;
                long width = small ? Math.min(span, 12) : span;
                return least + Math.floorMod(random.nextLong(), width);
        }
    }

    private static boolean in(long number, long least, long most) {
        return least <= number && number <= most;
    }

    private void tell(String at) {
        switch (random.nextInt(14)) {
            case 0, 1, 2:
                tellLine(at);
                break;
            case 3:
                tellAmount(at, true);
                break;
            case 4:
                tellAmount(at, false);
                break;
            case 5:
                tellDiscount(at);
                break;
            case 6:
                tellDays(at);
                break;
            case 7:
                tellRate(at);
                break;
            case 8, 9:
                tellCondition(at);
                break;
            case 10, 11:
                tellFigures(at);
                break;
            case 12:
                tellRelated(at);
                break;
            default:
                model.turned = random.nextBoolean();
                real.turned(model.turned);
        }
    }

    private void tellLine(String at) {
        long weight = number(0, 100000000);
        long price = number(0, 100000000);
        Object due = model.lines.size();
        if (!in(weight, 0, 100000000) || !in(price, 0, 100000000)) {
            due = ILLEGAL;
        } else if (model.lines.size() == 40) {
            due = STATE;
        } else {
            model.lines.add(new Model.Line(weight, price));
        }
        compare(at + "line", () -> real.line(weight, price), due);
    }

    private void tellAmount(String at, boolean adds) {
        int last = adds ? 4 : 3;
        Map<Integer, Model.Amount> amounts = adds ? model.additions : model.deductions;
        int kind = (int) number(0, last);
        long cents = number(0, adds ? 1000000000 : random.nextBoolean() ? 1000000000 : 500);
        boolean byWeight = random.nextBoolean();
        Object due = !amounts.containsKey(kind);
        if (!in(kind, 0, last) || !in(cents, 0, 1000000000)) {
            due = ILLEGAL;
        } else {
            amounts.putIfAbsent(kind, new Model.Amount(cents, byWeight));
        }
        if (adds) {
            compare(at + "add", () -> real.add(kind, cents, byWeight), due);
        } else {
            compare(at + "less", () -> real.less(kind, cents, byWeight), due);
        }
    }

    private void tellDiscount(String at) {
        int rows = model.discounts.size();
        long last = rows == 0 ? -1 : model.discounts.get(rows - 1).a();
        int days = (int) (random.nextBoolean() ? last + random.nextInt(20) : number(0, 359));
        int thousandths = (int) number(0, 1000);
        Object due = days > last;
        if (!in(days, 0, 359) || !in(thousandths, 0, 1000)) {
            due = ILLEGAL;
        } else if (rows == 10) {
            due = STATE;
        } else if (days > last) {
            model.discounts.add(new Model.Pair(days, thousandths));
        }
        compare(at + "discount", () -> real.discount(days, thousandths), due);
    }

    private void tellDays(String at) {
        int invoice = (int) number(0, 359);
        int paid = (int) (random.nextBoolean() ? invoice + random.nextInt(25) - 2 : number(0, 359));
        boolean due = in(invoice, 0, 359) && in(paid, 0, 359);
        if (due) {
            model.invoice = invoice;
            model.paid = paid;
        }
        compare(at + "days", () -> real.days(invoice, paid), due);
    }

    private void tellRate(String at) {
        int period = random.nextInt(3) == 0 ? model.period() : (int) number(0, 11);
        int up = (int) number(1, 10000);
        int down = (int) number(1, 10000);
        boolean due = in(period, 0, 11) && in(up, 1, 10000) && in(down, 1, 10000)
            && !model.rates.containsKey(period);
        if (due) {
            model.rates.put(period, new Model.Pair(up, down));
        }
        compare(at + "rate", () -> real.rate(period, up, down), due);
    }

    private void tellCondition(String at) {
        int method = random.nextInt(8);
        boolean holds = random.nextInt(5) < 3;
        boolean due = in(method, 1, 6);
        if (due) {
            model.conditions.put(method, holds);
        }
        compare(at + "condition", () -> real.condition(method, holds), due);
    }

    private void tellFigures(String at) {
        int method = random.nextInt(8);
        boolean weighs = method == 2 || method == 3;
        long mostA = weighs ? 100000 : 1000000000;
        long leastB = weighs ? 1 : 0;
        long mostB = weighs ? 1000000000 : 1000;
        long a = number(0, mostA);
        long b = weighs && random.nextBoolean() ? 1 + random.nextInt(9) : number(leastB, mostB);
        boolean due = in(method, 2, 6) && in(a, 0, mostA) && in(b, leastB, mostB);
        if (due) {
            model.figures.put(method, new Model.Pair(a, b));
        }
        compare(at + "figures", () -> real.figures(method, a, b), due);
    }

    private void tellRelated(String at) {
        boolean are = random.nextInt(3) > 0;
        long near = Model.total(model.transaction());
        long test = random.nextBoolean() ? number(-1, 1000000000) : near + random.nextInt(7) - 3;
        int band = random.nextBoolean() ? edgeBand(near, test) : (int) number(0, 1000);
        boolean due = in(test, -1, 1000000000) && in(band, 0, 1000);
        if (due) {
            model.related = are;
            model.test = test;
            model.band = band;
        }
        compare(at + "related", () -> real.related(are, test, band), due);
    }

    /** The band that just reaches the sum, or one less. */
    private int edgeBand(long sum, long test) {
        if (test <= 0) {
            return random.nextInt(2);
        }
        BigInteger apart = BigInteger.valueOf(Math.abs(sum - test)).multiply(BigInteger.valueOf(1000));
        long band = apart.divide(BigInteger.valueOf(test)).longValueExact() + random.nextInt(2);
        return (int) Math.min(band, 1001);
    }

    private void ask(String at) {
        int line = (int) (model.lines.isEmpty() ? number(0, 1) : number(0, model.lines.size() - 1));
        if (small && model.lines.size() > 12) {
            line = random.nextInt(model.lines.size());
        }
        switch (random.nextInt(9)) {
            case 0:
                compare(at + "method", real::method, model.method());
                break;
            case 1, 2:
                askValue(at, line);
                break;
            case 3:
                int asked = line;
                compare(at + "transaction", () -> real.transaction(asked),
                    hasLine(line) ? model.transaction().get(line) : BOUNDS);
                break;
            case 4, 5:
                askShare(at, line);
                break;
            case 6:
                askPlain(at, line);
                break;
            case 7:
                int counted = random.nextInt(9) - 1;
                compare(at + "count " + counted, () -> real.count(counted), dueCount(counted));
                break;
            default:
                int summed = random.nextInt(9) - 1;
                compare(at + "sum " + summed, () -> real.sum(summed), dueSum(summed));
        }
    }

    private boolean hasLine(int line) {
        return line >= 0 && line < model.lines.size();
    }

    private void askValue(String at, int line) {
        int what = random.nextInt(12) == 0 ? random.nextInt(4) - 1 : random.nextInt(2);
        int method = model.method();
        Object due;
        if (!hasLine(line) || !in(what, 0, 1)) {
            due = BOUNDS;
        } else if (method == 0) {
            due = "NoSuchElementException";
        } else {
            due = (what == 0 ? model.ownValues(method) : model.valuesOf(method)).get(line);
        }
        compare(at + "value", () -> real.value(line, what), due);
    }

    private void askShare(String at, int line) {
        long amount = number(0, 1000000000);
        boolean byWeight = random.nextBoolean();
        Object due;
        if (!hasLine(line)) {
            due = BOUNDS;
        } else if (!in(amount, 0, 1000000000)) {
            due = ILLEGAL;
        } else {
            due = model.shared(amount, byWeight).get(line);
        }
        compare(at + "share", () -> real.share(amount, line, byWeight), due);
    }

    private void askPlain(String at, int line) {
        long amount = number(0, 1000000000);
        Object due;
        if (!hasLine(line)) {
            due = BOUNDS;
        } else if (!in(amount, 0, 1000000000)) {
            due = ILLEGAL;
        } else if (model.weights() == 0) {
            due = "ArithmeticException";
        } else {
            BigInteger product = BigInteger.valueOf(amount).multiply(BigInteger.valueOf(model.lines.get(line).weight()));
            due = product.divide(BigInteger.valueOf(model.weights()));
        }
        compare(at + "plain", () -> real.plain(amount, line), due);
    }

    private Object dueCount(int what) {
        switch (what) {
            case 0:
                return model.lines.size();
            case 1:
                return model.additions.size();
            case 2:
                return model.deductions.size();
            case 3:
                return model.period();
            case 4:
                return model.thousandths();
            case 5:
                return model.discounts.size();
            case 6:
                return model.testPassed(model.transaction()) ? 1 : 0;
            default:
                return -1;
        }
    }

    private Object dueSum(int what) {
        int method = model.method();
        switch (what) {
            case 0:
                return model.weights();
            case 1:
                return model.prices();
            case 2:
                return Model.totalOf(model.additions);
            case 3:
                return Model.totalOf(model.deductions);
            case 4:
                return model.discount();
            case 5:
                return method == 0 ? -1 : model.ownSum(method);
            case 6:
                return method == 0 ? -1 : Model.total(model.valuesOf(method));
            default:
                return -1;
        }
    }
}
