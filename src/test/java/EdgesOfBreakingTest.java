/** The part of "Terms" on breaking, joining and transactions: a test for each sentence that names an edge. */
public final class EdgesOfBreakingTest {
    private static final Expect EXPECT = new Expect("EdgesOfBreakingTest");
    private static final String[] OUTCOMES = {"ACCEPTED", "REJECTED", "RELEASED"};

    public static void main(String[] args) {
        allFramesAreLost();
        noneCanBeSentWhileDown();
        lookedAtWhenJoined();
        lookedAtByRisingNumbers();
        partlyIsUnknown();
        partlyOfEachMode();
        partlyIsForgottenAgain();
        openAndDecided();
        openAndUnknown();
        openAndForgotten();
        openAndWhole();
        countsOfTheSenderStay();
        settledAndDecided();
        settledAndOthersStay();
        oneTransactionIsOpen();
        openUntilItEnds();
        waitingIsNotDecidedOtherwise();
        committedInTheOrderOfTelling();
        commitOfAllModes();
        droppedWithARollback();
        droppedWithABreak();
        EXPECT.finish();
    }

    private static Script script(String title) {
        return new Script(EXPECT, title);
    }

    private static int effects(String outcome) {
        return outcome.equals("ACCEPTED") ? 1 : 0;
    }

    /**
     * Terms: "When the connection breaks, all frames under way are lost, and no frame can be sent until it is joined
     * again."
     */
    private static void allFramesAreLost() {
        script("frames of all kinds are lost").open(1, "ONCE_OR_MORE", 5).open(2, "JUST_ONCE", 5)
            .whole(1, 1).whole(2, 1).whole(2, 1)
            .then("decide 1 ACCEPTED = 1", "toSender 1 = 1", "decide 0 REJECTED = 0", "decide 2 RELEASED = 0")
            .then("send 1 3 = 3", "grant 3 7 = 7", "underWay = 4", "backUnderWay = 3", "breakOff = 7")
            .then("underWay = 0", "backUnderWay = 0", "toReceiver 100 = 0", "toSender 100 = 0", "credit 3 = 0")
            .then("forSender 0 = OPEN", "forSender 2 = OPEN", "forReceiver 1 = DECIDED", "forReceiver 3 = UNKNOWN");
    }

    /**
     * Terms: "When the connection breaks, all frames under way are lost, and no frame can be sent until it is joined
     * again."
     */
    private static void noneCanBeSentWhileDown() {
        script("nothing is sent while down").open(1, "ONCE_OR_MORE", 5).whole(1, 1)
            .then("breakOff = 0", "send 1 1 = state", "grant 1 1 = state", "decide 0 ACCEPTED = state")
            .then("underWay = 0", "backUnderWay = 0", "credit 1 = 4", "forReceiver 0 = WHOLE", "join = 0")
            .then("decide 0 ACCEPTED = 1", "grant 1 1 = 2", "toSender 2 = 1", "send 1 1 = 1");
    }

    /** Terms: "Then all deliveries, by rising numbers, are looked at, by what both sides hold:" */
    private static void lookedAtWhenJoined() {
        script("looked at when joined, not when broken").open(1, "ONCE_OR_MORE", 5).open(2, "JUST_ONCE", 5).whole(2, 1)
            .then("decide 0 RELEASED = 0", "send 1 2 = 1", "toReceiver 1 = 0", "breakOff = 2")
            .then("forReceiver 0 = DECIDED", "forSender 0 = OPEN", "heard 0 = NONE", "forReceiver 1 = PARTLY")
            .then("underWay = 0", "join = 1", "forReceiver 0 = FORGOTTEN", "forSender 0 = SETTLED")
            .then("heard 0 = RELEASED", "forReceiver 1 = UNKNOWN", "underWay = 2");
    }

    /** Terms: "Then all deliveries, by rising numbers, are looked at, by what both sides hold:" */
    private static void lookedAtByRisingNumbers() {
        script("sent anew by rising numbers").open(3, "JUST_ONCE", 5).open(1, "ONCE_OR_MORE", 5).whole(3, 1)
            .then("send 3 2 = 1", "toReceiver 2 = 1").whole(1, 1)
            .then("send 1 2 = 3", "send 3 1 = 4", "decide 2 ACCEPTED = 1", "breakOff = 4", "join = 3", "underWay = 4")
            .then("toReceiver 1 = 1", "forReceiver 2 = WHOLE", "forReceiver 3 = UNKNOWN", "forReceiver 4 = UNKNOWN")
            .then("toReceiver 1 = 0", "forReceiver 3 = PARTLY", "toReceiver 1 = 1", "forReceiver 3 = WHOLE")
            .then("forReceiver 4 = UNKNOWN", "toReceiver 1 = 1", "forReceiver 4 = WHOLE");
    }

    /**
     * Terms: "If it is PARTLY for the receiver, it is UNKNOWN (if it was FORGOTTEN before it was PARTLY, FORGOTTEN)."
     */
    private static void partlyIsUnknown() {
        for (int came = 1; came <= 3; came++) {
            script(came + " of four came").open(0, "JUST_ONCE", 5).then("send 0 4 = 0", "toReceiver " + came + " = 0")
                .then("breakOff = " + (4 - came), "forReceiver 0 = PARTLY", "join = 1", "forReceiver 0 = UNKNOWN")
                .then("underWay = 4", "toReceiver 4 = 1");
        }
    }

    /**
     * Terms: "If it is PARTLY for the receiver, it is UNKNOWN (if it was FORGOTTEN before it was PARTLY, FORGOTTEN)."
     */
    private static void partlyOfEachMode() {
        String[] modes = {"LOOSE", "ONCE_OR_MORE", "JUST_ONCE"};
        for (int mode = 0; mode <= 2; mode++) {
            int anew = mode == 0 ? 0 : 1;
            script(modes[mode] + ", PARTLY").open(0, modes[mode], 5).then("send 0 2 = 0", "toReceiver 1 = 0")
                .then("wouldResend = " + anew, "breakOff = 1", "wouldResend = " + anew, "join = " + anew)
                .then("forReceiver 0 = UNKNOWN", "underWay = " + 2 * anew);
        }
    }

    /**
     * Terms: "If it is PARTLY for the receiver, it is UNKNOWN (if it was FORGOTTEN before it was PARTLY, FORGOTTEN)."
     */
    private static void partlyIsForgottenAgain() {
        script("FORGOTTEN before it was PARTLY").open(0, "ONCE_OR_MORE", 5).whole(0, 3)
            .then("decide 0 ACCEPTED = 1", "breakOff = 1")
            .times(2, "join = 1", "forReceiver 0 = FORGOTTEN", "toReceiver 1 = 0", "forReceiver 0 = PARTLY",
                "wouldResend = 1", "breakOff = 2", "forReceiver 0 = PARTLY")
            .then("join = 1", "forReceiver 0 = FORGOTTEN", "toReceiver 2 = 0", "breakOff = 1", "join = 1")
            .then("forReceiver 0 = FORGOTTEN", "effects 0 = 1", "toReceiver 3 = 1", "decide 0 ACCEPTED = 2");
    }

    /**
     * Terms: "If it is OPEN for the sender, and DECIDED for the receiver, it is SETTLED with that outcome, and
     * FORGOTTEN; if it is OPEN, and UNKNOWN or FORGOTTEN for the receiver, all its frames are sent anew (without a
     * change of counts of the sender); if it is OPEN and WHOLE, nothing."
     */
    private static void openAndDecided() {
        for (String outcome : OUTCOMES) {
            script("OPEN and DECIDED, " + outcome).open(0, "JUST_ONCE", 5).whole(0, 1)
                .then("decide 0 " + outcome + " = " + effects(outcome), "breakOff = 1", "forSender 0 = OPEN",
                    "join = 0")
                .then("forSender 0 = SETTLED", "heard 0 = " + outcome, "forReceiver 0 = FORGOTTEN", "underWay = 0")
                .then("backUnderWay = 0", "effects 0 = " + effects(outcome), "breakOff = 0", "join = 0");
        }
    }

    /**
     * Terms: "If it is OPEN for the sender, and DECIDED for the receiver, it is SETTLED with that outcome, and
     * FORGOTTEN; if it is OPEN, and UNKNOWN or FORGOTTEN for the receiver, all its frames are sent anew (without a
     * change of counts of the sender); if it is OPEN and WHOLE, nothing."
     */
    private static void openAndUnknown() {
        for (int frames = 1; frames <= 4; frames++) {
            script("OPEN and UNKNOWN, " + frames).open(0, "JUST_ONCE", 5).then("send 0 " + frames + " = 0")
                .times(3, "breakOff = " + frames, "join = 1", "underWay = " + frames, "forReceiver 0 = UNKNOWN")
                .then("forSender 0 = OPEN", "toReceiver " + frames + " = 1");
        }
    }

    /**
     * Terms: "If it is OPEN for the sender, and DECIDED for the receiver, it is SETTLED with that outcome, and
     * FORGOTTEN; if it is OPEN, and UNKNOWN or FORGOTTEN for the receiver, all its frames are sent anew (without a
     * change of counts of the sender); if it is OPEN and WHOLE, nothing."
     */
    private static void openAndForgotten() {
        for (int frames = 1; frames <= 4; frames++) {
            script("OPEN and FORGOTTEN, " + frames).open(0, "ONCE_OR_MORE", 5).whole(0, frames)
                .then("decide 0 REJECTED = 0", "breakOff = 1", "join = 1", "underWay = " + frames)
                .times(3, "breakOff = " + frames, "join = 1", "underWay = " + frames, "forReceiver 0 = FORGOTTEN")
                .then("forSender 0 = OPEN", "heard 0 = NONE", "toReceiver " + frames + " = 1");
        }
    }

    /**
     * Terms: "If it is OPEN for the sender, and DECIDED for the receiver, it is SETTLED with that outcome, and
     * FORGOTTEN; if it is OPEN, and UNKNOWN or FORGOTTEN for the receiver, all its frames are sent anew (without a
     * change of counts of the sender); if it is OPEN and WHOLE, nothing."
     */
    private static void openAndWhole() {
        for (String mode : new String[] {"ONCE_OR_MORE", "JUST_ONCE"}) {
            script("OPEN and WHOLE, " + mode).open(0, mode, 5).whole(0, 3)
                .times(3, "wouldResend = 0", "breakOff = 0", "join = 0", "underWay = 0", "forReceiver 0 = WHOLE",
                    "forSender 0 = OPEN")
                .then("decide 0 ACCEPTED = 1", "toSender 1 = 1", "heard 0 = ACCEPTED");
        }
    }

    /**
     * Terms: "If it is OPEN for the sender, and DECIDED for the receiver, it is SETTLED with that outcome, and
     * FORGOTTEN; if it is OPEN, and UNKNOWN or FORGOTTEN for the receiver, all its frames are sent anew (without a
     * change of counts of the sender); if it is OPEN and WHOLE, nothing."
     */
    private static void countsOfTheSenderStay() {
        Script s = script("counts of the sender, sent anew").open(0, "JUST_ONCE", 15);
        for (int i = 0; i < 15; i++) {
            s.then("send 0 1 = " + i);
        }
        s.times(2, "breakOff = 15", "join = 15", "credit 0 = 0").then("grant 0 0 = 15", "grant 0 2 = 1",
            "toSender 2 = 0");
        s.then("credit 0 = 2", "send 0 1 = 15", "breakOff = 16", "join = 16", "credit 0 = 0", "grant 0 0 = 0");
    }

    /** Terms: "If it is SETTLED for the sender, and DECIDED for the receiver, it is FORGOTTEN." */
    private static void settledAndDecided() {
        for (String outcome : OUTCOMES) {
            script("SETTLED and DECIDED, " + outcome).open(0, "JUST_ONCE", 5).whole(0, 1)
                .then("decide 0 " + outcome + " = " + effects(outcome), "toSender 1 = 1", "breakOff = 1")
                .then("forReceiver 0 = DECIDED", "wouldResend = 0", "join = 0", "forReceiver 0 = FORGOTTEN")
                .then("forSender 0 = SETTLED", "heard 0 = " + outcome, "underWay = 0", "backUnderWay = 0");
        }
    }

    /** Terms: "If it is SETTLED for the sender, and DECIDED for the receiver, it is FORGOTTEN." */
    private static void settledAndOthersStay() {
        script("SETTLED, and not DECIDED").open(0, "LOOSE", 5).open(1, "ONCE_OR_MORE", 5).whole(0, 1).whole(0, 1)
            .whole(1, 1).then("decide 0 ACCEPTED = 1", "decide 2 REJECTED = 0", "toSender 1 = 1", "send 0 1 = 3")
            .then("breakOff = 1", "wouldResend = 0", "join = 0", "underWay = 0", "forReceiver 0 = FORGOTTEN")
            .then("forReceiver 1 = WHOLE", "forReceiver 2 = FORGOTTEN", "forReceiver 3 = UNKNOWN", "heard 2 = REJECTED")
            .then("heard 0 = NONE", "heard 1 = NONE", "heard 3 = NONE", "effects 0 = 1", "decide 1 ACCEPTED = 1");
    }

    /**
     * Terms: "Outcomes can be told in a transaction; it is open until it is committed or rolled back; one is open at a
     * time."
     */
    private static void oneTransactionIsOpen() {
        script("one at a time").then("begin = 1", "begin = state", "end true = 0", "begin = 2", "begin = state")
            .then("end false = 0", "begin = 3", "begin = state", "breakOff = 0", "begin = state", "join = 0",
                "begin = 4");
    }

    /**
     * Terms: "Outcomes can be told in a transaction; it is open until it is committed or rolled back; one is open at a
     * time."
     */
    private static void openUntilItEnds() {
        script("open until it ends").open(0, "LOOSE", 5).whole(0, 1).whole(0, 1).then("tell 0 ACCEPTED = state")
            .then("begin = 1", "tell 0 ACCEPTED = 1", "grant 0 1 = 3", "toSender 1 = 0", "tell 1 ACCEPTED = 2")
            .then("end true = 2", "end true = state", "tell 0 ACCEPTED = state")
            .whole(0, 1).then("begin = 2", "end false = 0", "end false = state", "tell 2 ACCEPTED = state");
    }

    /** Terms: "Outcomes told in it wait; a delivery for which one waits cannot be decided otherwise." */
    private static void waitingIsNotDecidedOtherwise() {
        script("one that waits").open(2, "JUST_ONCE", 5).whole(2, 1).whole(2, 1)
            .then("begin = 1", "tell 0 ACCEPTED = 1", "forReceiver 0 = WHOLE", "effects 0 = 0", "backUnderWay = 0")
            .then("decide 0 ACCEPTED = state", "decide 0 REJECTED = state", "tell 0 ACCEPTED = state")
            .then("tell 0 RELEASED = state", "decide 1 REJECTED = 0", "end true = 1", "effects 0 = 1")
            .then("forReceiver 0 = DECIDED", "toSender 2 = 2", "heard 0 = ACCEPTED", "heard 1 = REJECTED");
    }

    /**
     * Terms: "With commit() all of them are decided, by the order in which they were told; with a rolling back, or when
     * the connection breaks, which ends the transaction, they are dropped."
     */
    private static void committedInTheOrderOfTelling() {
        script("the order of telling").open(1, "ONCE_OR_MORE", 5).open(2, "JUST_ONCE", 5).whole(1, 1).whole(2, 1)
            .whole(1, 1).then("begin = 1", "tell 2 REJECTED = 1", "tell 0 ACCEPTED = 2", "tell 1 RELEASED = 3")
            .then("end true = 3", "backUnderWay = 3", "toSender 1 = 1", "heard 2 = REJECTED", "forSender 0 = OPEN")
            .then("toSender 1 = 1", "heard 0 = ACCEPTED", "forSender 1 = OPEN", "toSender 1 = 1", "heard 1 = RELEASED");
    }

    /**
     * Terms: "With commit() all of them are decided, by the order in which they were told; with a rolling back, or when
     * the connection breaks, which ends the transaction, they are dropped."
     */
    private static void commitOfAllModes() {
        script("committed in each mode").open(0, "LOOSE", 5).open(1, "ONCE_OR_MORE", 5).open(2, "JUST_ONCE", 5)
            .whole(0, 1).whole(1, 1).whole(2, 1)
            .then("begin = 1", "tell 0 ACCEPTED = 1", "tell 1 ACCEPTED = 2", "tell 2 ACCEPTED = 3", "effects 0 = 0")
            .then("effects 1 = 0", "effects 2 = 0", "end true = 3", "effects 0 = 1", "effects 1 = 1", "effects 2 = 1")
            .then("forReceiver 0 = FORGOTTEN", "forReceiver 1 = FORGOTTEN", "forReceiver 2 = DECIDED")
            .then("backUnderWay = 2", "toSender 2 = 2", "underWay = 1");
    }

    /**
     * Terms: "With commit() all of them are decided, by the order in which they were told; with a rolling back, or when
     * the connection breaks, which ends the transaction, they are dropped."
     */
    private static void droppedWithARollback() {
        script("rolled back").open(2, "JUST_ONCE", 5).whole(2, 1).whole(2, 1)
            .then("begin = 1", "tell 0 ACCEPTED = 1", "tell 1 ACCEPTED = 2", "end false = 0", "backUnderWay = 0")
            .then("forReceiver 0 = WHOLE", "forReceiver 1 = WHOLE", "effects 0 = 0", "begin = 2", "end true = 0")
            .then("forReceiver 0 = WHOLE", "decide 0 REJECTED = 0", "begin = 3", "tell 1 RELEASED = 1", "end true = 1")
            .then("toSender 2 = 2", "heard 0 = REJECTED", "heard 1 = RELEASED");
    }

    /**
     * Terms: "With commit() all of them are decided, by the order in which they were told; with a rolling back, or when
     * the connection breaks, which ends the transaction, they are dropped."
     */
    private static void droppedWithABreak() {
        script("broken").open(2, "JUST_ONCE", 5).whole(2, 1).whole(2, 1)
            .then("begin = 1", "tell 0 ACCEPTED = 1", "tell 1 ACCEPTED = 2", "breakOff = 0", "end true = state")
            .then("tell 0 ACCEPTED = state", "join = 0", "end false = state", "forReceiver 0 = WHOLE", "effects 0 = 0")
            .then("decide 0 REJECTED = 0", "begin = 2", "tell 1 RELEASED = 1", "end true = 1", "effects 1 = 0");
    }
}
