/** The part of "Terms" on deliveries, frames that count, and outcomes: a test for each sentence that names an edge. */
public final class EdgesOfOutcomesTest {
    private static final Expect EXPECT = new Expect("EdgesOfOutcomesTest");
    private static final String[] OUTCOMES = {"ACCEPTED", "REJECTED", "RELEASED"};

    public static void main(String[] args) {
        numbersFrom0To59();
        sixtyOverAllLinks();
        oneToFourFrames();
        countGrowsByOne();
        countGrowsModulo16();
        forTheSender();
        looseIsSettledAtOnce();
        looseNeverHears();
        oneFrameIsWholeAtOnce();
        fourFramesArePartlyThrice();
        decidedOrForgotten();
        effectsAreCountedForEach();
        effectsOfOnceOrMore();
        effectsOfJustOnce();
        framesCountForUnknown();
        framesCountForPartly();
        framesCountForForgotten();
        forgottenIsWholeAnew();
        forgottenIsPartlyAnew();
        onlyWholeIsDecided();
        loose();
        onceOrMore();
        onceOrMoreSettledOnce();
        justOnce();
        justOnceForgetsAfterAll();
        EXPECT.finish();
    }

    private static Script script(String title) {
        return new Script(EXPECT, title);
    }

    private static int effects(String outcome) {
        return outcome.equals("ACCEPTED") ? 1 : 0;
    }

    /** Terms: "Deliveries are numbered from 0, at most 60." */
    private static void numbersFrom0To59() {
        Script s = script("numbers on one link").then("setMode 0 ONCE_OR_MORE = LOOSE");
        for (int i = 0; i < 60; i++) {
            if (i % 15 == 0) {
                s.then("grant 0 15 = " + (15 - i / 15), "toSender 1 = 0");
            }
            s.then("forSender " + i + " = index", "send 0 1 = " + i, "forSender " + i + " = OPEN", "toReceiver 1 = 1");
        }
        s.then("grant 0 15 = 11", "toSender 1 = 0", "credit 0 = 15", "send 0 1 = state", "send 0 4 = state");
        s.then("deliveries = 60", "forSender 59 = OPEN", "forSender 60 = index");
    }

    /** Terms: "Deliveries are numbered from 0, at most 60." */
    private static void sixtyOverAllLinks() {
        Script s = script("numbers over all links");
        for (int i = 0; i < 60; i++) {
            int link = i % 4;
            if (i < 4) {
                s.open(link, "LOOSE", 15);
            }
            s.then("send " + link + " 1 = " + i);
        }
        s.then("toReceiver 60 = 60");
        for (int link = 0; link <= 3; link++) {
            s.then("grant " + link + " 1 = 0", "toSender 1 = 0", "credit " + link + " = 1",
                "send " + link + " 1 = state");
        }
        s.then("breakOff = 0", "join = 0", "grant 0 1 = 0", "toSender 1 = 0", "send 0 1 = state", "deliveries = 60");
    }

    /**
     * Terms: "A delivery is of a link, and goes in 1 to 4 frames; the sender's count grows by 1 with it, modulo 16."
     */
    private static void oneToFourFrames() {
        script("1 to 4 frames").open(0, "LOOSE", 9).then("send 0 0 = argument", "send 0 1 = 0", "underWay = 1")
            .then("send 0 2 = 1", "underWay = 3", "send 0 3 = 2", "underWay = 6", "send 0 4 = 3", "underWay = 10")
            .then("send 0 5 = argument", "underWay = 10", "deliveries = 4");
    }

    /**
     * Terms: "A delivery is of a link, and goes in 1 to 4 frames; the sender's count grows by 1 with it, modulo 16."
     */
    private static void countGrowsByOne() {
        script("the count of one link").open(1, "LOOSE", 9).open(2, "LOOSE", 9)
            .then("send 1 4 = 0", "credit 1 = 8", "credit 2 = 9", "send 2 1 = 1", "credit 1 = 8", "credit 2 = 8")
            .then("send 1 1 = 2", "credit 1 = 7", "credit 2 = 8", "credit 0 = 0", "credit 3 = 0");
    }

    /**
     * Terms: "A delivery is of a link, and goes in 1 to 4 frames; the sender's count grows by 1 with it, modulo 16."
     */
    private static void countGrowsModulo16() {
        Script s = script("the count after 15").open(1, "LOOSE", 15);
        for (int i = 0; i < 15; i++) {
            s.whole(1, 4);
        }
        s.then("grant 1 2 = 1", "toSender 1 = 0", "credit 1 = 2", "send 1 4 = 15", "credit 1 = 1");
        s.then("breakOff = 4", "join = 0", "grant 1 0 = 0", "grant 1 1 = 1", "toSender 2 = 0", "credit 1 = 1");
    }

    /**
     * Terms: "For the sender it is OPEN, or SETTLED with an outcome: ACCEPTED, REJECTED, RELEASED, or NONE, if it never
     * heard of one."
     */
    private static void forTheSender() {
        for (String mode : new String[] {"ONCE_OR_MORE", "JUST_ONCE"}) {
            for (String outcome : OUTCOMES) {
                script(mode + " " + outcome).open(0, mode, 2).then("send 0 1 = 0", "forSender 0 = OPEN")
                    .then("heard 0 = NONE", "toReceiver 1 = 1", "forSender 0 = OPEN", "heard 0 = NONE")
                    .then("decide 0 " + outcome + " = " + effects(outcome), "forSender 0 = OPEN", "heard 0 = NONE")
                    .then("toSender 1 = 1", "forSender 0 = SETTLED", "heard 0 = " + outcome);
            }
        }
    }

    /** Terms: "In the mode LOOSE it is SETTLED with NONE as soon as it is sent." */
    private static void looseIsSettledAtOnce() {
        script("LOOSE, sent").open(0, "LOOSE", 2).then("send 0 4 = 0", "forSender 0 = SETTLED", "heard 0 = NONE")
            .then("forReceiver 0 = UNKNOWN", "wouldResend = 0");
    }

    /** Terms: "In the mode LOOSE it is SETTLED with NONE as soon as it is sent." */
    private static void looseNeverHears() {
        for (String outcome : OUTCOMES) {
            script("LOOSE, " + outcome).open(0, "LOOSE", 2).whole(0, 2)
                .then("decide 0 " + outcome + " = " + effects(outcome), "toSender 100 = 0", "heard 0 = NONE")
                .then("breakOff = 0", "join = 0", "forSender 0 = SETTLED", "heard 0 = NONE");
        }
    }

    /**
     * Terms: "For the receiver it is UNKNOWN at first, PARTLY when some of its frames have come, WHOLE when the last
     * one has, and then DECIDED with an outcome, or FORGOTTEN."
     */
    private static void oneFrameIsWholeAtOnce() {
        for (String mode : new String[] {"LOOSE", "ONCE_OR_MORE", "JUST_ONCE"}) {
            script(mode + ", one frame").open(3, mode, 2).then("send 3 1 = 0", "forReceiver 0 = UNKNOWN")
                .then("toReceiver 1 = 1", "forReceiver 0 = WHOLE");
        }
    }

    /**
     * Terms: "For the receiver it is UNKNOWN at first, PARTLY when some of its frames have come, WHOLE when the last
     * one has, and then DECIDED with an outcome, or FORGOTTEN."
     */
    private static void fourFramesArePartlyThrice() {
        for (String mode : new String[] {"LOOSE", "ONCE_OR_MORE", "JUST_ONCE"}) {
            script(mode + ", four frames").open(3, mode, 2).then("send 3 4 = 0", "forReceiver 0 = UNKNOWN")
                .times(3, "toReceiver 1 = 0", "forReceiver 0 = PARTLY").then("toReceiver 1 = 1",
                    "forReceiver 0 = WHOLE");
        }
    }

    /**
     * Terms: "For the receiver it is UNKNOWN at first, PARTLY when some of its frames have come, WHOLE when the last
     * one has, and then DECIDED with an outcome, or FORGOTTEN."
     */
    private static void decidedOrForgotten() {
        for (String outcome : OUTCOMES) {
            String decide = outcome + " = " + effects(outcome);
            script(outcome).open(0, "LOOSE", 2).open(1, "ONCE_OR_MORE", 2).open(2, "JUST_ONCE", 2)
                .whole(0, 2).whole(1, 2).whole(2, 2)
                .then("decide 0 " + decide, "decide 1 " + decide, "decide 2 " + decide)
                .then("forReceiver 0 = FORGOTTEN", "forReceiver 1 = FORGOTTEN", "forReceiver 2 = DECIDED");
        }
    }

    /** Terms: "Messages that a receiver accepts take effect: that is counted for each delivery." */
    private static void effectsAreCountedForEach() {
        script("effects of three").open(0, "LOOSE", 4).then("send 0 1 = 0", "effects 0 = 0", "toReceiver 1 = 1")
            .whole(0, 1).whole(0, 1).then("effects 0 = 0", "decide 0 REJECTED = 0", "decide 2 RELEASED = 0")
            .then("decide 1 ACCEPTED = 1", "effects 0 = 0", "effects 1 = 1", "effects 2 = 0");
    }

    /** Terms: "Messages that a receiver accepts take effect: that is counted for each delivery." */
    private static void effectsOfOnceOrMore() {
        script("ONCE_OR_MORE, five times").open(0, "ONCE_OR_MORE", 4).whole(0, 1)
            .then("decide 0 ACCEPTED = 1", "breakOff = 1", "join = 1", "toReceiver 1 = 1", "effects 0 = 1")
            .then("decide 0 ACCEPTED = 2", "breakOff = 1", "join = 1", "toReceiver 1 = 1", "effects 0 = 2")
            .then("decide 0 RELEASED = 2", "breakOff = 1", "join = 1", "toReceiver 1 = 1", "effects 0 = 2")
            .then("decide 0 REJECTED = 2", "breakOff = 1", "join = 1", "toReceiver 1 = 1", "effects 0 = 2")
            .then("decide 0 ACCEPTED = 3", "toSender 1 = 1", "breakOff = 0", "join = 0", "effects 0 = 3");
    }

    /** Terms: "Messages that a receiver accepts take effect: that is counted for each delivery." */
    private static void effectsOfJustOnce() {
        script("JUST_ONCE, once").open(0, "JUST_ONCE", 4).whole(0, 1)
            .then("decide 0 ACCEPTED = 1", "breakOff = 1", "join = 0", "effects 0 = 1", "toReceiver 100 = 0")
            .then("decide 0 ACCEPTED = state", "breakOff = 0", "join = 0", "effects 0 = 1");
    }

    /**
     * Terms: "Frames of a delivery count only if the receiver holds it as UNKNOWN (then with the first frame), PARTLY
     * (with the frame that comes next), or FORGOTTEN (then with the first frame, and it is PARTLY, or WHOLE, anew)."
     */
    private static void framesCountForUnknown() {
        script("UNKNOWN").open(1, "JUST_ONCE", 4).then("send 1 2 = 0", "breakOff = 2", "join = 1")
            .then("forReceiver 0 = UNKNOWN", "toReceiver 1 = 0", "forReceiver 0 = PARTLY")
            .then("breakOff = 1", "join = 1", "forReceiver 0 = UNKNOWN", "toReceiver 2 = 1", "forReceiver 0 = WHOLE");
    }

    /**
     * Terms: "Frames of a delivery count only if the receiver holds it as UNKNOWN (then with the first frame), PARTLY
     * (with the frame that comes next), or FORGOTTEN (then with the first frame, and it is PARTLY, or WHOLE, anew)."
     */
    private static void framesCountForPartly() {
        for (int came = 1; came <= 3; came++) {
            script("PARTLY after " + came).open(1, "JUST_ONCE", 4).then("send 1 4 = 0", "toReceiver " + came + " = 0")
                .then("breakOff = " + (4 - came), "join = 1", "toReceiver " + (4 - came) + " = 0")
                .then("forReceiver 0 = PARTLY", "toReceiver " + came + " = 1", "forReceiver 0 = WHOLE", "underWay = 0");
        }
    }

    /**
     * Terms: "Frames of a delivery count only if the receiver holds it as UNKNOWN (then with the first frame), PARTLY
     * (with the frame that comes next), or FORGOTTEN (then with the first frame, and it is PARTLY, or WHOLE, anew)."
     */
    private static void framesCountForForgotten() {
        script("FORGOTTEN, four frames").open(1, "ONCE_OR_MORE", 4).whole(1, 4)
            .then("decide 0 REJECTED = 0", "breakOff = 1", "join = 1", "forReceiver 0 = FORGOTTEN", "underWay = 4")
            .times(3, "toReceiver 1 = 0", "forReceiver 0 = PARTLY").then("toReceiver 1 = 1", "forReceiver 0 = WHOLE");
    }

    /**
     * Terms: "Frames of a delivery count only if the receiver holds it as UNKNOWN (then with the first frame), PARTLY
     * (with the frame that comes next), or FORGOTTEN (then with the first frame, and it is PARTLY, or WHOLE, anew)."
     */
    private static void forgottenIsWholeAnew() {
        script("FORGOTTEN, one frame").open(1, "ONCE_OR_MORE", 4).whole(1, 1)
            .then("decide 0 RELEASED = 0", "breakOff = 1", "join = 1", "forReceiver 0 = FORGOTTEN")
            .then("toReceiver 1 = 1", "forReceiver 0 = WHOLE", "decide 0 ACCEPTED = 1", "forReceiver 0 = FORGOTTEN");
    }

    /**
     * Terms: "Frames of a delivery count only if the receiver holds it as UNKNOWN (then with the first frame), PARTLY
     * (with the frame that comes next), or FORGOTTEN (then with the first frame, and it is PARTLY, or WHOLE, anew)."
     */
    private static void forgottenIsPartlyAnew() {
        script("FORGOTTEN, two frames").open(1, "ONCE_OR_MORE", 4).whole(1, 2)
            .then("decide 0 ACCEPTED = 1", "breakOff = 1", "join = 1", "toReceiver 1 = 0", "forReceiver 0 = PARTLY")
            .then("decide 0 ACCEPTED = state", "toReceiver 1 = 1", "decide 0 ACCEPTED = 2");
    }

    /** Terms: "The receiver decides a delivery that is WHOLE." */
    private static void onlyWholeIsDecided() {
        script("decided only when WHOLE").open(2, "JUST_ONCE", 4).then("send 2 2 = 0", "decide 0 ACCEPTED = state")
            .then("toReceiver 1 = 0", "decide 0 ACCEPTED = state", "toReceiver 1 = 1", "decide 0 ACCEPTED = 1")
            .then("decide 0 ACCEPTED = state", "toSender 1 = 1", "decide 0 ACCEPTED = state", "toReceiver 1 = 0")
            .then("forReceiver 0 = FORGOTTEN", "decide 0 ACCEPTED = state", "effects 0 = 1");
    }

    /** Terms: "LOOSE: it is FORGOTTEN at once; nothing is sent." */
    private static void loose() {
        for (String outcome : OUTCOMES) {
            String told = " " + outcome;
            script("LOOSE" + told).open(0, "LOOSE", 4).whole(0, 1).whole(0, 1)
                .then("decide 0" + told + " = " + effects(outcome), "forReceiver 0 = FORGOTTEN", "backUnderWay = 0")
                .then("begin = 1", "tell 1" + told + " = 1", "end true = 1", "forReceiver 1 = FORGOTTEN")
                .then("backUnderWay = 0", "underWay = 0", "effects 1 = " + effects(outcome));
        }
    }

    /**
     * Terms: "ONCE_OR_MORE: it is FORGOTTEN at once; an OUTCOME frame is sent. When that comes to the sender, and the
     * delivery is OPEN, it is SETTLED with this outcome."
     */
    private static void onceOrMore() {
        for (String outcome : OUTCOMES) {
            script("ONCE_OR_MORE " + outcome).open(0, "ONCE_OR_MORE", 4).whole(0, 1)
                .then("decide 0 " + outcome + " = " + effects(outcome), "forReceiver 0 = FORGOTTEN")
                .then("backUnderWay = 1", "forSender 0 = OPEN", "heard 0 = NONE", "toSender 1 = 1")
                .then("backUnderWay = 0", "forSender 0 = SETTLED", "heard 0 = " + outcome, "underWay = 0")
                .then("forReceiver 0 = FORGOTTEN", "wouldResend = 0");
        }
    }

    /**
     * Terms: "ONCE_OR_MORE: it is FORGOTTEN at once; an OUTCOME frame is sent. When that comes to the sender, and the
     * delivery is OPEN, it is SETTLED with this outcome."
     */
    private static void onceOrMoreSettledOnce() {
        script("the OUTCOME that comes holds").open(0, "ONCE_OR_MORE", 4).whole(0, 1)
            .then("decide 0 REJECTED = 0", "breakOff = 1", "heard 0 = NONE", "join = 1", "toReceiver 1 = 1")
            .then("decide 0 RELEASED = 0", "backUnderWay = 1", "toSender 1 = 1", "heard 0 = RELEASED")
            .then("toSender 1 = 0", "breakOff = 0", "join = 0", "heard 0 = RELEASED");
    }

    /**
     * Terms: "JUST_ONCE: it is DECIDED; an OUTCOME frame is sent. When that comes to the sender, and the delivery is
     * OPEN, it is SETTLED with this outcome; and, whether it was OPEN or not, a FORGET frame is sent. When that comes
     * to the receiver, and it is DECIDED, it is FORGOTTEN."
     */
    private static void justOnce() {
        for (String outcome : OUTCOMES) {
            script("JUST_ONCE " + outcome).open(0, "JUST_ONCE", 4).whole(0, 1)
                .then("decide 0 " + outcome + " = " + effects(outcome), "forReceiver 0 = DECIDED")
                .then("backUnderWay = 1", "underWay = 0", "forSender 0 = OPEN", "heard 0 = NONE", "toSender 1 = 1")
                .then("forSender 0 = SETTLED", "heard 0 = " + outcome, "underWay = 1", "forReceiver 0 = DECIDED")
                .then("toReceiver 1 = 0", "forReceiver 0 = FORGOTTEN", "underWay = 0", "backUnderWay = 0");
        }
    }

    /**
     * Terms: "JUST_ONCE: it is DECIDED; an OUTCOME frame is sent. When that comes to the sender, and the delivery is
     * OPEN, it is SETTLED with this outcome; and, whether it was OPEN or not, a FORGET frame is sent. When that comes
     * to the receiver, and it is DECIDED, it is FORGOTTEN."
     */
    private static void justOnceForgetsAfterAll() {
        script("the FORGET is lost").open(0, "JUST_ONCE", 4).whole(0, 1)
            .then("decide 0 RELEASED = 0", "toSender 1 = 1", "breakOff = 1", "forReceiver 0 = DECIDED", "join = 0")
            .then("forReceiver 0 = FORGOTTEN", "heard 0 = RELEASED", "underWay = 0", "backUnderWay = 0");
    }
}
