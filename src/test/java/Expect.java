/** Counts what a test finds, and ends the program with exit code 1 if an answer was not the one that is due. */
final class Expect {
    /** A call of the class under test; what it answers is of no interest where it has to throw. */
    interface Call {
        void make();
    }

    private final String test;
    private int checks = 0;
    private int wrong = 0;

    Expect(String test) {
        this.test = test;
    }

    void same(String what, long got, long due) {
        checks++;
        if (got != due) {
            fault(what + " answered " + got + ", due is " + due);
        }
    }

    void same(String what, String got, String due) {
        checks++;
        if (!got.equals(due)) {
            fault(what + " answered " + got + ", due is " + due);
        }
    }

    void yes(String what, boolean holds) {
        checks++;
        if (!holds) {
            fault(what);
        }
    }

    void noSuch(String what, CreditLinks x, Call call) {
        throwing(what, x, call, "IndexOutOfBoundsException");
    }

    void wrongArgument(String what, CreditLinks x, Call call) {
        throwing(what, x, call, "IllegalArgumentException");
    }

    void wrongState(String what, CreditLinks x, Call call) {
        throwing(what, x, call, "IllegalStateException");
    }

    /** Also looks whether the call that throws leaves all answers as they were. */
    private void throwing(String what, CreditLinks x, Call call, String due) {
        String before = View.of(x);
        String got = "nothing";
        try {
            call.make();
        } catch (RuntimeException e) {
            got = Caller.thrown(e);
        }
        same(what + " throws", got, due);
        same(what + " throws, and the view of the object then", View.of(x), before);
    }

    private void fault(String text) {
        wrong++;
        if (wrong <= 20) {
            System.out.println(test + ": " + text);
        }
    }

    void finish() {
        System.out.println(test + ": " + checks + " checks, " + wrong + " wrong");
        if (wrong != 0 || checks == 0) {
            System.exit(1);
        }
    }
}
