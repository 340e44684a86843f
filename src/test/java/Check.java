/** Counts what was checked, prints what is not as due, and ends the test. */
final class Check {
    interface Call {
        void run();
    }

    private final String name;
    private String sentence = "";
    private int sentences = 0;
    private int done = 0;
    private int wrong = 0;

    Check(String name) {
        this.name = name;
    }

    /** What is checked from here on is the document's sentence. */
    void sentence(String words) {
        sentence = "\"" + words + "\": ";
        sentences++;
    }

    void same(String what, long got, long due) {
        same(what, Long.toString(got), Long.toString(due));
    }

    void yes(String what, boolean got) {
        same(what, Boolean.toString(got), "true");
    }

    void no(String what, boolean got) {
        same(what, Boolean.toString(got), "false");
    }

    void same(String what, String got, String due) {
        done++;
        if (!got.equals(due)) {
            wrong++;
            System.out.println(name + ": " + sentence + what + " answered " + got + ", due is " + due);
        }
    }

    /** The very class is due, so that an ArrayIndexOutOfBoundsException of the machine is wrong. */
    void thrown(String what, Class<? extends RuntimeException> due, Call call) {
        String got = "nothing thrown";
        try {
            call.run();
        } catch (RuntimeException e) {
            got = e.getClass().getName();
            if (e instanceof ArithmeticException && "/ by zero".equals(e.getMessage())) {
                got = "thrown by the machine: " + got;
            }
        }
        same(what, got, due.getName());
    }

    void illegal(String what, Call call) {
        thrown(what, IllegalArgumentException.class, call);
    }

    void badState(String what, Call call) {
        thrown(what, IllegalStateException.class, call);
    }

    void outOfBounds(String what, Call call) {
        thrown(what, IndexOutOfBoundsException.class, call);
    }

    void end() {
        String of = sentences == 0 ? "" : " of " + sentences + " sentences";
        System.out.println(name + ": " + done + " checks" + of + ", " + wrong + " wrong");
        if (wrong != 0) {
            System.exit(1);
        }
    }
}
