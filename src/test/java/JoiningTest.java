/** Promises 16 to 19: breakOff, join, wouldResend, isUp. */
public final class JoiningTest {
    private static final Expect EXPECT = new Expect("JoiningTest");

    public static void main(String[] args) {
        promise16LosesBothRows();
        promise16LooksAtNothingYet();
        promise16WrongState();
        promise17OpenOnes();
        promise17DecidedOnes();
        promise17PartlyOnes();
        promise17PartlyAfterForgotten();
        promise17LooseOnes();
        promise17FramesGoInOrder();
        promise17CountsStartEven();
        promise17WrongState();
        promise18FollowsJoin();
        promise19IsUp();
        EXPECT.finish();
    }

    private static void promise16LosesBothRows() {
        CreditLinks x = Setup.threeWhole();
        EXPECT.same("nothing is under way", x.breakOff(), 0);
        x.join();
        x.toReceiver(100);
        x.grant(1, 4);
        x.decide(2, CreditLinks.ACCEPTED);
        x.toSender(2);
        x.grant(1, 4);
        x.send(1, 3);
        EXPECT.same("three frames, a FORGET and a grant are lost", x.breakOff(), 5);
        EXPECT.same("none are under way", x.underWay() + x.backUnderWay(), 0);
        x.join();
        EXPECT.same("the grant was lost", x.toSender(100) + x.credit(1), 0);
    }

    private static void promise16LooksAtNothingYet() {
        CreditLinks x = Setup.allModes();
        x.send(2, 2);
        x.send(2, 1);
        x.toReceiver(1);
        String credits = "credit 15 15 13 0";
        EXPECT.same("lost", x.breakOff(), 2);
        EXPECT.same("while down", View.of(x),
            "down under way 0/0 would resend 2 " + credits + " [0 -1 1 0] [0 -1 0 0]");
        EXPECT.same("modes can be set while down", x.setMode(2, CreditLinks.LOOSE), CreditLinks.JUST_ONCE);
        EXPECT.same("joined", x.join(), 2);
        EXPECT.same("then", View.of(x), "up under way 3/0 would resend 2 credit 0 0 0 0 [0 -1 0 0] [0 -1 0 0]");
    }

    private static void promise16WrongState() {
        CreditLinks x = new CreditLinks();
        x.breakOff();
        EXPECT.wrongState("breakOff while down", x, () -> x.breakOff());
        EXPECT.wrongState("breakOff while down, again", x, () -> x.breakOff());
        EXPECT.same("join", x.join(), 0);
        EXPECT.same("breakOff", x.breakOff(), 0);
    }

    private static void promise17OpenOnes() {
        CreditLinks x = Setup.allModes();
        for (int i = 0; i < 4; i++) {
            x.send(1, 1);
        }
        x.toReceiver(3);
        x.decide(0, CreditLinks.ACCEPTED);
        x.decide(1, CreditLinks.ACCEPTED);
        x.toSender(1);
        x.breakOff();
        EXPECT.same("one FORGOTTEN and one UNKNOWN are sent anew", x.join(), 2);
        EXPECT.same("a SETTLED one", x.forSender(0), CreditLinks.SETTLED);
        EXPECT.same("its OUTCOME was lost: OPEN, and FORGOTTEN still", x.forReceiver(1), CreditLinks.FORGOTTEN);
        EXPECT.same("an OPEN one that is WHOLE stays", x.forReceiver(2), CreditLinks.WHOLE);
        EXPECT.same("the frames of 1 and 3", x.underWay(), 2);
        EXPECT.same("both become WHOLE", x.toReceiver(100), 2);
        EXPECT.same("1 is WHOLE anew", x.forReceiver(1), CreditLinks.WHOLE);
        EXPECT.same("it takes effect twice", x.decide(1, CreditLinks.ACCEPTED), 2);
        EXPECT.same("2 has not taken effect", x.decide(2, CreditLinks.ACCEPTED), 1);
        EXPECT.same("both outcomes are heard", x.toSender(100), 2);
    }

    private static void promise17DecidedOnes() {
        CreditLinks x = Setup.allModes();
        x.send(2, 1);
        x.send(2, 1);
        x.toReceiver(2);
        x.decide(0, CreditLinks.RELEASED);
        x.decide(1, CreditLinks.ACCEPTED);
        x.toSender(1);
        x.breakOff();
        EXPECT.same("down: 0 is SETTLED and DECIDED", x.forSender(0) * 10 + x.forReceiver(0), 13);
        EXPECT.same("down: 1 is OPEN and DECIDED", x.forSender(1) * 10 + x.forReceiver(1), 3);
        EXPECT.same("none is sent anew", x.join(), 0);
        EXPECT.same("0 is SETTLED and FORGOTTEN", x.forSender(0) * 10 + x.forReceiver(0), 14);
        EXPECT.same("1 is SETTLED and FORGOTTEN", x.forSender(1) * 10 + x.forReceiver(1), 14);
        EXPECT.same("heard of 0", x.heard(0), CreditLinks.RELEASED);
        EXPECT.same("heard of 1", x.heard(1), CreditLinks.ACCEPTED);
        EXPECT.same("effects of 1", x.effects(1), 1);
        EXPECT.same("nothing is under way", x.underWay() + x.backUnderWay(), 0);
        x.breakOff();
        EXPECT.same("nor after another break", x.join(), 0);
        EXPECT.same("heard of 1 still", x.heard(1), CreditLinks.ACCEPTED);
    }

    private static void promise17PartlyOnes() {
        CreditLinks x = Setup.allModes();
        x.send(2, 3);
        x.toReceiver(2);
        x.breakOff();
        EXPECT.same("it is sent anew", x.join(), 1);
        EXPECT.same("it is UNKNOWN", x.forReceiver(0), CreditLinks.UNKNOWN);
        EXPECT.same("all its frames", x.underWay(), 3);
        EXPECT.same("two of them", x.toReceiver(2), 0);
        EXPECT.same("it is PARTLY", x.forReceiver(0), CreditLinks.PARTLY);
        EXPECT.same("the last", x.toReceiver(1), 1);
        x.breakOff();
        EXPECT.same("WHOLE, it is not sent anew", x.join(), 0);
        EXPECT.same("it is WHOLE still", x.forReceiver(0), CreditLinks.WHOLE);
    }

    private static void promise17PartlyAfterForgotten() {
        CreditLinks x = Setup.withCredit(0, CreditLinks.ONCE_OR_MORE, 3);
        x.send(0, 2);
        x.toReceiver(2);
        x.decide(0, CreditLinks.ACCEPTED);
        for (int round = 0; round < 3; round++) {
            x.breakOff();
            EXPECT.same("sent anew", x.join(), 1);
            EXPECT.same("FORGOTTEN until a frame comes", x.forReceiver(0), CreditLinks.FORGOTTEN);
            EXPECT.same("one frame", x.toReceiver(1), 0);
            EXPECT.same("it is PARTLY anew", x.forReceiver(0), CreditLinks.PARTLY);
        }
        EXPECT.same("the other frame", x.toReceiver(1), 1);
        EXPECT.same("accepted again", x.decide(0, CreditLinks.ACCEPTED), 2);
    }

    private static void promise17LooseOnes() {
        CreditLinks x = Setup.withCredit(0, CreditLinks.LOOSE, 5);
        x.send(0, 1);
        x.send(0, 3);
        x.send(0, 1);
        x.toReceiver(3);
        x.breakOff();
        EXPECT.same("LOOSE ones are not sent anew", x.join(), 0);
        EXPECT.same("a WHOLE one stays", x.forReceiver(0), CreditLinks.WHOLE);
        EXPECT.same("a PARTLY one is UNKNOWN", x.forReceiver(1), CreditLinks.UNKNOWN);
        EXPECT.same("an UNKNOWN one stays", x.forReceiver(2), CreditLinks.UNKNOWN);
        EXPECT.same("it can be decided yet", x.decide(0, CreditLinks.ACCEPTED), 1);
    }

    private static void promise17FramesGoInOrder() {
        CreditLinks x = Setup.allModes();
        x.send(2, 2);
        x.send(0, 4);
        x.send(1, 1);
        x.send(2, 3);
        x.breakOff();
        EXPECT.same("three are sent anew", x.join(), 3);
        EXPECT.same("2 and 1 and 3 frames", x.underWay(), 6);
        int[] due = {1, 2, 2, 2};
        x.toReceiver(1);
        EXPECT.same("0 begins", x.forReceiver(0), due[0]);
        x.toReceiver(1);
        EXPECT.same("0 is WHOLE", x.forReceiver(0), due[1]);
        EXPECT.same("2 has not begun", x.forReceiver(2), 0);
        x.toReceiver(1);
        EXPECT.same("2 is WHOLE", x.forReceiver(2), due[2]);
        EXPECT.same("3 has not begun", x.forReceiver(3), 0);
        x.toReceiver(3);
        EXPECT.same("3 is WHOLE", x.forReceiver(3), due[3]);
        EXPECT.same("the LOOSE one is lost", x.forReceiver(1), 0);
    }

    private static void promise17CountsStartEven() {
        CreditLinks x = Setup.allModes();
        for (int i = 0; i < 5; i++) {
            x.send(1, 2);
        }
        x.toReceiver(4);
        EXPECT.same("two came", x.grant(1, 1), 3);
        x.breakOff();
        EXPECT.same("the credit while down", x.credit(1), 10);
        x.join();
        EXPECT.same("no credit is left", x.credit(1) + x.credit(0) + x.credit(2), 0);
        EXPECT.same("the receiver counts five", x.grant(1, 1), 6);
        x.toReceiver(100);
        EXPECT.same("those sent anew do not count", x.grant(1, 1), 6);
        x.toSender(2);
        EXPECT.same("the credit", x.credit(1), 1);
        x.send(1, 1);
        x.toReceiver(1);
        EXPECT.same("a new one counts", x.grant(1, 1), 7);
    }

    private static void promise17WrongState() {
        CreditLinks x = Setup.threeWhole();
        x.decide(2, CreditLinks.ACCEPTED);
        EXPECT.wrongState("join while up", x, () -> x.join());
        x.breakOff();
        x.join();
        EXPECT.wrongState("join while up again", x, () -> x.join());
    }

    private static void promise18FollowsJoin() {
        CreditLinks x = Setup.allModes();
        for (int link = 0; link < 3; link++) {
            x.send(link, 2);
            x.send(link, 2);
        }
        EXPECT.same("all but the LOOSE ones", x.wouldResend(), 4);
        x.toReceiver(7);
        EXPECT.same("3 is PARTLY", x.wouldResend(), 3);
        x.toReceiver(5);
        EXPECT.same("all are WHOLE", x.wouldResend(), 0);
        x.decide(2, CreditLinks.ACCEPTED);
        EXPECT.same("FORGOTTEN, its OUTCOME under way", x.wouldResend(), 1);
        x.decide(4, CreditLinks.ACCEPTED);
        EXPECT.same("DECIDED, it is not sent anew", x.wouldResend(), 1);
        x.toSender(1);
        EXPECT.same("SETTLED", x.wouldResend(), 0);
        x.decide(3, CreditLinks.REJECTED);
        EXPECT.same("asking changes nothing", x.wouldResend() + 10 * x.backUnderWay(), 21);
        x.breakOff();
        EXPECT.same("while down", x.wouldResend(), 1);
        EXPECT.same("as many as join tells", x.join(), 1);
        EXPECT.same("sent anew, under way", x.wouldResend(), 1);
        x.toReceiver(1);
        EXPECT.same("sent anew, PARTLY", x.wouldResend(), 1);
        x.toReceiver(1);
        EXPECT.same("sent anew, WHOLE", x.wouldResend(), 0);
    }

    private static void promise19IsUp() {
        CreditLinks x = new CreditLinks();
        for (int i = 0; i < 3; i++) {
            EXPECT.yes("it is up", x.isUp());
            x.breakOff();
            EXPECT.yes("it is not up", !x.isUp());
            x.join();
        }
    }
}
