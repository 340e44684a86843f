/** Counts what was checked, prints what is not as due, and ends the test. */
final class Check {
    interface Call {
        void run();
    }

    private final String name;
    private int done = 0;
    private int wrong = 0;

    Check(String name) {
        this.name = name;
    }

    void same(String what, long got, long due) {
        same(what, Long.toString(got), Long.toString(due));
    }

    void yes(String what, boolean got) {
        same(what, Boolean.toString(got), "true");
    }

    void no(String what, boolean got) {
        same(what, Boolean.toString(got), "false");
    }

    void same(String what, String got, String due) {
        done++;
        if (!got.equals(due)) {
            wrong++;
            System.out.println(name + ": " + what + " answered " + got + ", due is " + due);
        }
    }

    /** The very class is due, so that an ArrayIndexOutOfBoundsException of the machine is wrong. */
    void thrown(String what, Class<? extends RuntimeException> due, Call call) {
        String got = "nothing thrown";
        try {
            call.run();
        } catch (RuntimeException e) {
            got = e.getClass().getName();
            if (e instanceof ArithmeticException && "/ by zero".equals(e.getMessage())) {
                got = "thrown by the machine: " + got;
            }
        }
        same(what, got, due.getName());
    }

    void illegal(String what, Call call) {
        thrown(what, IllegalArgumentException.class, call);
    }

    void badState(String what, Call call) {
        thrown(what, IllegalStateException.class, call);
    }

    void outOfBounds(String what, Call call) {
        thrown(what, IndexOutOfBoundsException.class, call);
    }

    void end() {
        System.out.println(name + ": " + done + " checks, " + wrong + " wrong");
        if (wrong != 0) {
            System.exit(1);
        }
    }

    /** All that an object of few lines answers: alike before and after what changes nothing. */
    static String answers(ValueMethods x) {
        StringBuilder all = new StringBuilder();
        for (int what = 0; what <= 6; what++) {
            all.append(" count").append(what).append('=').append(x.count(what));
            all.append(" sum").append(what).append('=').append(x.sum(what));
        }
        int method = x.method();
        all.append(" method=").append(method);
        for (int line = 0; line < x.count(0); line++) {
            all.append(" line").append(line).append('=').append(x.transaction(line));
            all.append(',').append(x.share(1000, line, true));
            all.append(',').append(x.share(1000, line, false));
            if (method != 0) {
                all.append(',').append(x.value(line, 0)).append(',').append(x.value(line, 1));
            }
        }
        return all.toString();
    }
}
