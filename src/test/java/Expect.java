/** Counts what a test finds, and ends the program with exit code 1 if an answer was not the one that is due. */
final class Expect {
    /** A call of the class under test; what it answers is of no interest where it has to throw. */
    interface Call {
        void make();
    }

    private final String test;
    private int checks = 0;
    private int wrong = 0;

    Expect(String test) {
        this.test = test;
    }

    void same(String what, long got, long due) {
        checks++;
        if (got != due) {
            fault(what + " answered " + got + ", due is " + due);
        }
    }

    void same(String what, String got, String due) {
        checks++;
        if (!got.equals(due)) {
            fault(what + " answered " + got + ", due is " + due);
        }
    }

    void yes(String what, boolean holds) {
        checks++;
        if (!holds) {
            fault(what);
        }
    }

    void noSuch(String what, CreditLinks x, Call call) {
        throwing(what, x, call, IndexOutOfBoundsException.class);
    }

    void wrongArgument(String what, CreditLinks x, Call call) {
        throwing(what, x, call, IllegalArgumentException.class);
    }

    void wrongState(String what, CreditLinks x, Call call) {
        throwing(what, x, call, IllegalStateException.class);
    }

    /** Also looks whether the call that throws leaves all answers as they were. */
    private void throwing(String what, CreditLinks x, Call call, Class<?> due) {
        String before = View.of(x);
        Class<?> got = null;
        try {
            call.make();
        } catch (RuntimeException e) {
            got = e.getClass();
        }
        same(what + " throws", String.valueOf(got), String.valueOf(due));
        same(what + " throws, and the view of the object then", View.of(x), before);
    }

    private void fault(String text) {
        wrong++;
        if (wrong <= 20) {
            System.out.println(test + ": " + text);
        }
    }

    void finish() {
        System.out.println(test + ": " + checks + " checks, " + wrong + " wrong");
        if (wrong != 0 || checks == 0) {
            System.exit(1);
        }
    }
}
