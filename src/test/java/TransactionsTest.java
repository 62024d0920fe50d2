/** Promises 20 to 22: begin, tell, end. */
public final class TransactionsTest {
    private static final Expect EXPECT = new Expect("TransactionsTest");

    public static void main(String[] args) {
        promise20Counts();
        promise20WrongState();
        promise21Waits();
        promise21WrongInputs();
        promise21WrongState();
        promise22Commits();
        promise22OrderOfTelling();
        promise22RollsBack();
        promise22BreakEndsIt();
        promise22Sixty();
        promise22WrongState();
        EXPECT.finish();
    }

    private static void promise20Counts() {
        CreditLinks x = new CreditLinks();
        for (int i = 1; i <= 6; i++) {
            EXPECT.same("begin", x.begin(), i);
            if (i % 3 == 0) {
                x.breakOff();
                x.join();
            } else {
                x.end(i % 3 == 1);
            }
        }
    }

    private static void promise20WrongState() {
        CreditLinks x = new CreditLinks();
        x.begin();
        EXPECT.wrongState("begin while one is open", x, () -> x.begin());
        x.breakOff();
        EXPECT.wrongState("begin while down", x, () -> x.begin());
        x.join();
        EXPECT.same("begin after joining: wrong calls were not counted", x.begin(), 2);
    }

    private static void promise21Waits() {
        CreditLinks x = Setup.threeWhole();
        x.begin();
        String before = View.of(x);
        EXPECT.same("one waits", x.tell(2, CreditLinks.ACCEPTED), 1);
        EXPECT.same("two wait", x.tell(0, CreditLinks.REJECTED), 2);
        EXPECT.same("three wait", x.tell(1, CreditLinks.RELEASED), 3);
        EXPECT.same("outcomes that wait show nowhere", View.of(x), before);
        EXPECT.wrongState("decide one that waits", x, () -> x.decide(2, CreditLinks.ACCEPTED));
        x.end(false);
        x.begin();
        EXPECT.same("those before are dropped", x.tell(1, CreditLinks.ACCEPTED), 1);
        EXPECT.same("one that does not wait can be decided", x.decide(2, CreditLinks.ACCEPTED), 1);
        EXPECT.wrongState("tell one that is DECIDED", x, () -> x.tell(2, CreditLinks.ACCEPTED));
    }

    private static void promise21WrongInputs() {
        CreditLinks x = Setup.threeWhole();
        EXPECT.noSuch("tell(3, 3) with none open", x, () -> x.tell(3, 3));
        EXPECT.wrongArgument("tell(0, 3) with none open", x, () -> x.tell(0, 3));
        x.begin();
        for (int delivery : new int[] {-1, 3, 60, Integer.MIN_VALUE, Integer.MAX_VALUE}) {
            EXPECT.noSuch("tell(" + delivery + ", 0)", x, () -> x.tell(delivery, 0));
            EXPECT.noSuch("tell(" + delivery + ", -1), the index first", x, () -> x.tell(delivery, -1));
        }
        for (int outcome : new int[] {-1, 3, Integer.MIN_VALUE, Integer.MAX_VALUE}) {
            EXPECT.wrongArgument("tell(1, " + outcome + ")", x, () -> x.tell(1, outcome));
        }
        EXPECT.same("none of these waits", x.tell(1, 0), 1);
    }

    private static void promise21WrongState() {
        CreditLinks x = Setup.threeWhole();
        EXPECT.wrongState("tell with none open", x, () -> x.tell(1, 0));
        x.begin();
        x.tell(1, CreditLinks.REJECTED);
        EXPECT.wrongState("tell one that waits", x, () -> x.tell(1, CreditLinks.ACCEPTED));
        x.send(1, 2);
        EXPECT.wrongState("tell an UNKNOWN one", x, () -> x.tell(3, 0));
        x.toReceiver(1);
        EXPECT.wrongState("tell a PARTLY one", x, () -> x.tell(3, 0));
        x.toReceiver(1);
        EXPECT.same("tell a WHOLE one", x.tell(3, 0), 2);
        x.end(true);
        EXPECT.same("the first outcome held", x.toSender(1) * 10 + x.heard(1), 11);
        EXPECT.wrongState("tell with none open", x, () -> x.tell(2, 0));
        x.begin();
        EXPECT.wrongState("tell a FORGOTTEN one", x, () -> x.tell(1, 0));
        x.breakOff();
        EXPECT.wrongState("tell while down", x, () -> x.tell(2, 0));
    }

    private static void promise22Commits() {
        CreditLinks x = Setup.threeWhole();
        x.begin();
        EXPECT.same("an empty one", x.end(true), 0);
        x.begin();
        x.tell(0, CreditLinks.ACCEPTED);
        x.tell(1, CreditLinks.ACCEPTED);
        x.tell(2, CreditLinks.REJECTED);
        EXPECT.same("all three", x.end(true), 3);
        EXPECT.same("LOOSE", x.forReceiver(0) * 10 + x.effects(0), 41);
        EXPECT.same("ONCE_OR_MORE", x.forReceiver(1) * 10 + x.effects(1), 41);
        EXPECT.same("JUST_ONCE", x.forReceiver(2) * 10 + x.effects(2), 30);
        EXPECT.same("two outcomes are under way", x.backUnderWay(), 2);
        EXPECT.same("they come", x.toSender(2), 2);
        EXPECT.same("heard", x.heard(1) * 10 + x.heard(2), 1);
    }

    private static void promise22OrderOfTelling() {
        CreditLinks x = Setup.withCredit(1, CreditLinks.ONCE_OR_MORE, 3);
        for (int i = 0; i < 3; i++) {
            x.send(1, 1);
        }
        x.toReceiver(3);
        x.begin();
        int[] order = {1, 2, 0};
        for (int number : order) {
            x.tell(number, CreditLinks.ACCEPTED);
        }
        x.end(true);
        for (int number : order) {
            EXPECT.same("not yet " + number, x.forSender(number), CreditLinks.OPEN);
            x.toSender(1);
            EXPECT.same("now " + number, x.forSender(number), CreditLinks.SETTLED);
        }
    }

    private static void promise22RollsBack() {
        CreditLinks x = Setup.threeWhole();
        x.begin();
        String before = View.of(x);
        x.tell(1, CreditLinks.ACCEPTED);
        x.tell(2, CreditLinks.ACCEPTED);
        EXPECT.same("none is decided", x.end(false), 0);
        EXPECT.same("nothing has changed", View.of(x), before);
        EXPECT.same("they can be decided", x.decide(1, CreditLinks.REJECTED), 0);
        EXPECT.same("they can be decided", x.decide(2, CreditLinks.ACCEPTED), 1);
    }

    private static void promise22BreakEndsIt() {
        CreditLinks x = Setup.threeWhole();
        x.begin();
        x.tell(1, CreditLinks.ACCEPTED);
        x.breakOff();
        EXPECT.wrongState("end while down", x, () -> x.end(true));
        x.join();
        EXPECT.wrongState("end after joining", x, () -> x.end(true));
        EXPECT.same("it is WHOLE", x.forReceiver(1), CreditLinks.WHOLE);
        x.begin();
        EXPECT.same("nothing is left from before", x.end(true), 0);
        EXPECT.same("it can be decided", x.decide(1, CreditLinks.ACCEPTED), 1);
    }

    private static void promise22Sixty() {
        CreditLinks x = new CreditLinks();
        x.setMode(0, CreditLinks.JUST_ONCE);
        for (int i = 0; i < 60; i++) {
            if (x.credit(0) == 0) {
                x.grant(0, 15);
                x.toSender(1);
            }
            x.send(0, 1);
            x.toReceiver(1);
        }
        x.begin();
        for (int i = 59; i >= 0; i--) {
            EXPECT.same("how many wait", x.tell(i, CreditLinks.ACCEPTED), 60 - i);
        }
        EXPECT.same("all sixty", x.end(true), 60);
        EXPECT.same("under way", x.backUnderWay(), 60);
        EXPECT.same("they come", x.toSender(100), 60);
        EXPECT.same("a FORGET each", x.underWay(), 60);
        x.toReceiver(100);
        for (int i = 0; i < 60; i++) {
            EXPECT.same("it is FORGOTTEN", x.forReceiver(i), CreditLinks.FORGOTTEN);
        }
    }

    private static void promise22WrongState() {
        CreditLinks x = new CreditLinks();
        EXPECT.wrongState("end(true) with none open", x, () -> x.end(true));
        EXPECT.wrongState("end(false) with none open", x, () -> x.end(false));
        x.begin();
        x.end(true);
        EXPECT.wrongState("end twice", x, () -> x.end(true));
        EXPECT.same("begin", x.begin(), 2);
    }
}
