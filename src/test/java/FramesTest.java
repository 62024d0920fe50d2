/** Promises 5 to 15: send, toReceiver, toSender, decide, and what both sides hold of a delivery. */
public final class FramesTest {
    private static final Expect EXPECT = new Expect("FramesTest");

    public static void main(String[] args) {
        promise5SendsFrames();
        promise5AtMostSixty();
        promise5WrongInputs();
        promise6FramesCome();
        promise6CountsOnlyWholeOnes();
        promise6WrongInputs();
        promise7FramesCome();
        promise7ForgetIsSent();
        promise7WrongInputs();
        promise8LooseDecision();
        promise8OnceOrMoreDecision();
        promise8JustOnceDecision();
        promise8WrongInputs();
        promise8StatesThatForbidIt();
        promises9To11Numbers();
        promises12To15WrongInputs();
        promise13Heard();
        promise14Forms();
        promise15EffectsAgain();
        EXPECT.finish();
    }

    private static void promise5SendsFrames() {
        CreditLinks x = Setup.allModes();
        for (int frames = 1; frames <= 4; frames++) {
            EXPECT.same("send in " + frames + " frames", x.send(1, frames), frames - 1);
            EXPECT.same("under way after " + frames, x.underWay(), frames * (frames + 1) / 2);
        }
        EXPECT.same("the credit falls by deliveries, not by frames", x.credit(1), 11);
        EXPECT.same("ONCE_OR_MORE is OPEN", x.forSender(0), CreditLinks.OPEN);
        EXPECT.same("JUST_ONCE is OPEN", x.forSender(x.send(2, 1)), CreditLinks.OPEN);
        EXPECT.same("LOOSE is SETTLED at once", x.forSender(x.send(0, 1)), CreditLinks.SETTLED);
        EXPECT.same("numbers go over all links", x.deliveries(), 6);
        EXPECT.same("nothing goes back", x.backUnderWay(), 0);
    }

    private static void promise5AtMostSixty() {
        CreditLinks x = new CreditLinks();
        for (int i = 0; i < 60; i++) {
            if (x.credit(i % 4) == 0) {
                x.grant(i % 4, 15);
                x.toSender(1);
            }
            EXPECT.same("the number", x.send(i % 4, 4), i);
            x.toReceiver(4);
        }
        x.grant(0, 5);
        x.toSender(1);
        EXPECT.wrongState("the 61st", x, () -> x.send(0, 1));
        EXPECT.same("deliveries", x.deliveries(), 60);
        EXPECT.same("the last one", x.forReceiver(59), CreditLinks.WHOLE);
        EXPECT.noSuch("number 60", x, () -> x.forReceiver(60));
        EXPECT.same("the credit of the one that was not sent", x.credit(0), 5);
    }

    private static void promise5WrongInputs() {
        CreditLinks x = Setup.withCredit(0, CreditLinks.LOOSE, 1);
        for (int link : new int[] {-1, 4, Integer.MIN_VALUE, Integer.MAX_VALUE}) {
            EXPECT.noSuch("send(" + link + ", 1)", x, () -> x.send(link, 1));
            EXPECT.noSuch("send(" + link + ", 0), the index first", x, () -> x.send(link, 0));
        }
        for (int frames : new int[] {0, -1, 5, Integer.MIN_VALUE, Integer.MAX_VALUE}) {
            EXPECT.wrongArgument("send(0, " + frames + ")", x, () -> x.send(0, frames));
            EXPECT.wrongArgument("send(1, " + frames + ") without credit", x, () -> x.send(1, frames));
        }
        EXPECT.wrongState("send without credit", x, () -> x.send(1, 1));
        x.breakOff();
        EXPECT.same("credit while down", x.credit(0), 1);
        EXPECT.wrongState("send while down", x, () -> x.send(0, 1));
        EXPECT.wrongArgument("send(0, 0) while down", x, () -> x.send(0, 0));
    }

    private static void promise6FramesCome() {
        CreditLinks x = Setup.allModes();
        x.send(1, 3);
        x.send(2, 1);
        x.send(0, 2);
        EXPECT.same("one frame of three", x.toReceiver(1), 0);
        EXPECT.same("it is PARTLY", x.forReceiver(0), CreditLinks.PARTLY);
        EXPECT.same("two frames of three", x.toReceiver(1), 0);
        EXPECT.same("it is PARTLY", x.forReceiver(0), CreditLinks.PARTLY);
        EXPECT.same("the third, and the next delivery", x.toReceiver(2), 2);
        EXPECT.same("it is WHOLE", x.forReceiver(0), CreditLinks.WHOLE);
        EXPECT.same("it is WHOLE", x.forReceiver(1), CreditLinks.WHOLE);
        EXPECT.same("it is UNKNOWN", x.forReceiver(2), CreditLinks.UNKNOWN);
        EXPECT.same("under way", x.underWay(), 2);
        EXPECT.same("all that there are", x.toReceiver(100), 1);
        EXPECT.same("none are left", x.toReceiver(100), 0);
        EXPECT.same("none are left", x.underWay(), 0);
    }

    private static void promise6CountsOnlyWholeOnes() {
        CreditLinks x = Setup.allModes();
        for (int i = 0; i < 15; i++) {
            x.send(1, 4);
            x.send(2, 4);
        }
        EXPECT.same("under way", x.underWay(), 120);
        EXPECT.same("100 of 120 frames", x.toReceiver(100), 25);
        EXPECT.same("19 more", x.toReceiver(19), 4);
        EXPECT.same("the last one", x.toReceiver(1), 1);
    }

    private static void promise6WrongInputs() {
        CreditLinks x = Setup.withCredit(0, CreditLinks.LOOSE, 3);
        x.send(0, 1);
        for (int count : new int[] {0, -1, 101, Integer.MIN_VALUE, Integer.MAX_VALUE}) {
            EXPECT.wrongArgument("toReceiver(" + count + ")", x, () -> x.toReceiver(count));
        }
        x.breakOff();
        EXPECT.wrongArgument("toReceiver(0) while down", x, () -> x.toReceiver(0));
        EXPECT.same("toReceiver while down", x.toReceiver(1), 0);
    }

    private static void promise7FramesCome() {
        CreditLinks x = Setup.threeWhole();
        x.decide(1, CreditLinks.REJECTED);
        x.grant(3, 2);
        x.decide(2, CreditLinks.RELEASED);
        EXPECT.same("under way", x.backUnderWay(), 3);
        EXPECT.same("the outcome of 1", x.toSender(1), 1);
        EXPECT.same("1 for the sender", x.forSender(1), CreditLinks.SETTLED);
        EXPECT.same("2 for the sender", x.forSender(2), CreditLinks.OPEN);
        EXPECT.same("no credit yet", x.credit(3), 0);
        EXPECT.same("the grant and the outcome of 2", x.toSender(100), 1);
        EXPECT.same("credit", x.credit(3), 2);
        EXPECT.same("2 for the sender", x.forSender(2), CreditLinks.SETTLED);
        EXPECT.same("none are left", x.toSender(1), 0);
        EXPECT.same("none are left", x.backUnderWay(), 0);
    }

    private static void promise7ForgetIsSent() {
        CreditLinks x = Setup.threeWhole();
        x.decide(0, CreditLinks.ACCEPTED);
        x.decide(1, CreditLinks.ACCEPTED);
        x.toSender(100);
        EXPECT.same("no FORGET for LOOSE and ONCE_OR_MORE", x.underWay(), 0);
        x.decide(2, CreditLinks.ACCEPTED);
        x.send(2, 1);
        x.toSender(100);
        EXPECT.same("a frame and a FORGET behind it", x.underWay(), 2);
        x.toReceiver(1);
        EXPECT.same("the FORGET has not come", x.forReceiver(2), CreditLinks.DECIDED);
        EXPECT.same("the frame has come", x.forReceiver(3), CreditLinks.WHOLE);
        EXPECT.same("a FORGET makes none WHOLE", x.toReceiver(1), 0);
        EXPECT.same("the FORGET has come", x.forReceiver(2), CreditLinks.FORGOTTEN);
    }

    private static void promise7WrongInputs() {
        CreditLinks x = new CreditLinks();
        x.grant(0, 4);
        for (int count : new int[] {0, -1, 101, Integer.MIN_VALUE, Integer.MAX_VALUE}) {
            EXPECT.wrongArgument("toSender(" + count + ")", x, () -> x.toSender(count));
        }
        x.breakOff();
        EXPECT.wrongArgument("toSender(101) while down", x, () -> x.toSender(101));
        EXPECT.same("toSender while down", x.toSender(100), 0);
        CreditLinks y = new CreditLinks();
        for (int i = 0; i < 102; i++) {
            y.grant(i % 4, 1);
        }
        y.toSender(100);
        EXPECT.same("102 frames, 100 of them came", y.backUnderWay(), 2);
    }

    private static void promise8LooseDecision() {
        CreditLinks x = Setup.threeWhole();
        EXPECT.same("LOOSE accepted", x.decide(0, CreditLinks.ACCEPTED), 1);
        EXPECT.same("it is FORGOTTEN at once", x.forReceiver(0), CreditLinks.FORGOTTEN);
        EXPECT.same("nothing is sent", x.backUnderWay(), 0);
        EXPECT.same("the sender hears none", x.heard(0), CreditLinks.NONE);
        CreditLinks y = Setup.threeWhole();
        EXPECT.same("LOOSE rejected", y.decide(0, CreditLinks.REJECTED), 0);
        EXPECT.same("it is FORGOTTEN at once", y.forReceiver(0), CreditLinks.FORGOTTEN);
    }

    private static void promise8OnceOrMoreDecision() {
        for (int outcome = 0; outcome <= 2; outcome++) {
            CreditLinks x = Setup.threeWhole();
            int due = outcome == CreditLinks.ACCEPTED ? 1 : 0;
            EXPECT.same("ONCE_OR_MORE decided as " + outcome, x.decide(1, outcome), due);
            EXPECT.same("it is FORGOTTEN at once", x.forReceiver(1), CreditLinks.FORGOTTEN);
            EXPECT.same("it is OPEN", x.forSender(1), CreditLinks.OPEN);
            EXPECT.same("NONE is heard", x.heard(1), CreditLinks.NONE);
            EXPECT.same("an OUTCOME is under way", x.backUnderWay(), 1);
            EXPECT.same("it comes", x.toSender(1), 1);
            EXPECT.same("it is heard", x.heard(1), outcome);
            EXPECT.same("no FORGET", x.underWay(), 0);
            EXPECT.same("effects", x.effects(1), due);
        }
    }

    private static void promise8JustOnceDecision() {
        for (int outcome = 0; outcome <= 2; outcome++) {
            CreditLinks x = Setup.threeWhole();
            int due = outcome == CreditLinks.ACCEPTED ? 1 : 0;
            EXPECT.same("JUST_ONCE decided as " + outcome, x.decide(2, outcome), due);
            EXPECT.same("it is DECIDED", x.forReceiver(2), CreditLinks.DECIDED);
            EXPECT.same("it is OPEN", x.forSender(2), CreditLinks.OPEN);
            EXPECT.same("it comes", x.toSender(1), 1);
            EXPECT.same("it is heard", x.heard(2), outcome);
            EXPECT.same("it is DECIDED still", x.forReceiver(2), CreditLinks.DECIDED);
            EXPECT.same("a FORGET is under way", x.underWay(), 1);
            x.toReceiver(1);
            EXPECT.same("it is FORGOTTEN", x.forReceiver(2), CreditLinks.FORGOTTEN);
            EXPECT.same("effects", x.effects(2), due);
        }
    }

    private static void promise8WrongInputs() {
        CreditLinks x = Setup.threeWhole();
        for (int delivery : new int[] {-1, 3, 60, Integer.MIN_VALUE, Integer.MAX_VALUE}) {
            EXPECT.noSuch("decide(" + delivery + ", 0)", x, () -> x.decide(delivery, 0));
            EXPECT.noSuch("decide(" + delivery + ", 3), the index first", x, () -> x.decide(delivery, 3));
        }
        for (int outcome : new int[] {-1, 3, Integer.MIN_VALUE, Integer.MAX_VALUE}) {
            EXPECT.wrongArgument("decide(1, " + outcome + ")", x, () -> x.decide(1, outcome));
        }
        x.decide(1, 0);
        EXPECT.wrongArgument("decide(1, 3) of a FORGOTTEN one", x, () -> x.decide(1, 3));
        x.breakOff();
        EXPECT.noSuch("decide(3, 0) while down", x, () -> x.decide(3, 0));
        EXPECT.wrongArgument("decide(0, -1) while down", x, () -> x.decide(0, -1));
        EXPECT.wrongState("decide(0, 0) while down", x, () -> x.decide(0, 0));
        x.join();
        EXPECT.same("decide(0, 0) after joining", x.decide(0, 0), 1);
    }

    private static void promise8StatesThatForbidIt() {
        CreditLinks x = Setup.allModes();
        x.send(2, 2);
        EXPECT.wrongState("decide an UNKNOWN one", x, () -> x.decide(0, 0));
        x.toReceiver(1);
        EXPECT.wrongState("decide a PARTLY one", x, () -> x.decide(0, 0));
        x.toReceiver(1);
        x.begin();
        x.tell(0, CreditLinks.REJECTED);
        EXPECT.wrongState("decide one for which an outcome waits", x, () -> x.decide(0, 0));
        x.end(false);
        x.decide(0, 0);
        EXPECT.wrongState("decide a DECIDED one", x, () -> x.decide(0, 0));
        x.toSender(1);
        x.toReceiver(1);
        EXPECT.wrongState("decide a FORGOTTEN one", x, () -> x.decide(0, 0));
    }

    private static void promises9To11Numbers() {
        CreditLinks x = new CreditLinks();
        EXPECT.same("deliveries at first", x.deliveries(), 0);
        EXPECT.same("underWay at first", x.underWay(), 0);
        EXPECT.same("backUnderWay at first", x.backUnderWay(), 0);
        x.grant(0, 3);
        x.grant(0, 3);
        x.grant(1, 3);
        EXPECT.same("backUnderWay", x.backUnderWay(), 3);
        x.toSender(2);
        EXPECT.same("backUnderWay", x.backUnderWay(), 1);
        x.send(0, 4);
        x.send(0, 3);
        EXPECT.same("deliveries", x.deliveries(), 2);
        EXPECT.same("underWay", x.underWay(), 7);
        x.toReceiver(5);
        EXPECT.same("underWay", x.underWay(), 2);
        EXPECT.same("deliveries", x.deliveries(), 2);
        x.breakOff();
        EXPECT.same("underWay after a break", x.underWay(), 0);
        EXPECT.same("backUnderWay after a break", x.backUnderWay(), 0);
        EXPECT.same("deliveries after a break", x.deliveries(), 2);
    }

    private static void promises12To15WrongInputs() {
        CreditLinks x = new CreditLinks();
        for (int round = 0; round < 2; round++) {
            for (int number : new int[] {-1, round * 3, 60, Integer.MIN_VALUE, Integer.MAX_VALUE}) {
                CreditLinks y = round == 0 ? x : Setup.threeWhole();
                EXPECT.noSuch("forSender(" + number + ")", y, () -> y.forSender(number));
                EXPECT.noSuch("heard(" + number + ")", y, () -> y.heard(number));
                EXPECT.noSuch("forReceiver(" + number + ")", y, () -> y.forReceiver(number));
                EXPECT.noSuch("effects(" + number + ")", y, () -> y.effects(number));
            }
        }
    }

    private static void promise13Heard() {
        CreditLinks x = Setup.threeWhole();
        for (int i = 0; i < 3; i++) {
            EXPECT.same("heard of " + i + " before it is decided", x.heard(i), CreditLinks.NONE);
            x.decide(i, CreditLinks.RELEASED);
            EXPECT.same("heard of " + i + " before the OUTCOME comes", x.heard(i), CreditLinks.NONE);
        }
        x.toSender(100);
        EXPECT.same("heard of a LOOSE one", x.heard(0), CreditLinks.NONE);
        EXPECT.same("heard of a ONCE_OR_MORE one", x.heard(1), CreditLinks.RELEASED);
        EXPECT.same("heard of a JUST_ONCE one", x.heard(2), CreditLinks.RELEASED);
    }

    private static void promise14Forms() {
        CreditLinks x = Setup.allModes();
        x.send(2, 2);
        EXPECT.same("sent", x.forReceiver(0), CreditLinks.UNKNOWN);
        x.toReceiver(1);
        EXPECT.same("one frame", x.forReceiver(0), CreditLinks.PARTLY);
        x.toReceiver(1);
        EXPECT.same("both frames", x.forReceiver(0), CreditLinks.WHOLE);
        x.decide(0, CreditLinks.ACCEPTED);
        EXPECT.same("decided", x.forReceiver(0), CreditLinks.DECIDED);
        x.toSender(1);
        x.toReceiver(1);
        EXPECT.same("settled by both", x.forReceiver(0), CreditLinks.FORGOTTEN);
    }

    private static void promise15EffectsAgain() {
        CreditLinks x = Setup.withCredit(3, CreditLinks.ONCE_OR_MORE, 2);
        x.send(3, 2);
        for (int round = 1; round <= 4; round++) {
            x.toReceiver(2);
            EXPECT.same("accepted once more", x.decide(0, CreditLinks.ACCEPTED), round);
            EXPECT.same("effects", x.effects(0), round);
            x.breakOff();
            EXPECT.same("sent anew", x.join(), 1);
        }
        x.toReceiver(2);
        EXPECT.same("rejected at last", x.decide(0, CreditLinks.REJECTED), 4);
        x.toSender(1);
        EXPECT.same("heard", x.heard(0), CreditLinks.REJECTED);
        EXPECT.same("effects", x.effects(0), 4);
    }
}
