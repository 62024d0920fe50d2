/** Promises 5 to 8, sentence by sentence: send, toReceiver, toSender, decide. */
public final class EdgesOfSendingTest {
    private static final Expect EXPECT = new Expect("EdgesOfSendingTest");
    private static final String[] NO_LINKS = {"-1", "4", "5", "MIN", "MAX"};
    private static final String[] WRONG_COUNTS = {"-1", "0", "101", "102", "MIN", "MAX"};
    private static final String[] WRONG_OUTCOMES = {"-1", "3", "4", "MIN", "MAX"};

    public static void main(String[] args) {
        sendPutsFramesUnderWay();
        sendLinks();
        sendFrames();
        sendReturns();
        sendNoSuchLink();
        sendFramesOutOfRange();
        sendWhileDown();
        sendTheSixtyFirst();
        sendWithoutCredit();
        toReceiverBringsFrames();
        toReceiverCounts();
        toReceiverAllIfFewer();
        toReceiverReturns();
        toReceiverReturnsThoseAnew();
        toReceiverReturnsAllSixty();
        toReceiverCountOutOfRange();
        toSenderBringsFrames();
        toSenderCounts();
        toSenderAllIfFewer();
        toSenderReturns();
        toSenderReturnsAllSixty();
        toSenderCountOutOfRange();
        decideIsNoTransaction();
        decideDeliveries();
        decideOutcomes();
        decideReturns();
        decideNoSuchDelivery();
        decideNoSuchOutcome();
        decideWhileDown();
        decideWhatIsNotWhole();
        decideOneThatWaits();
        EXPECT.finish();
    }

    private static Script script(String title) {
        return new Script(EXPECT, title);
    }

    /** Promise 5: "Sends a message on a link." */
    private static void sendPutsFramesUnderWay() {
        script("send").open(1, "ONCE_OR_MORE", 2).then("send 1 4 = 0", "underWay = 4", "backUnderWay = 0")
            .then("credit 1 = 1", "forReceiver 0 = UNKNOWN", "forSender 0 = OPEN", "effects 0 = 0", "send 1 1 = 1")
            .then("underWay = 5", "credit 1 = 0", "deliveries = 2");
    }

    /** Promise 5: "`link`: 0 to 3" */
    private static void sendLinks() {
        script("send, links").open(0, "LOOSE", 1).open(3, "JUST_ONCE", 1).then("send -1 1 = index", "send 0 1 = 0")
            .then("send 3 1 = 1", "send 4 1 = index", "credit 0 = 0", "credit 3 = 0", "forSender 0 = SETTLED")
            .then("forSender 1 = OPEN");
    }

    /** Promise 5: "`frames`: 1 to 4: in how many frames" */
    private static void sendFrames() {
        for (int frames = 1; frames <= 4; frames++) {
            Script s = script("send in " + frames).open(2, "JUST_ONCE", 3).then("send 2 0 = argument");
            s.then("send 2 5 = argument", "send 2 " + frames + " = 0", "underWay = " + frames);
            s.times(frames - 1, "toReceiver 1 = 0").then("toReceiver 1 = 1", "underWay = 0");
        }
    }

    /** Promise 5: "Returns the number of the delivery." */
    private static void sendReturns() {
        script("send, the number").open(2, "LOOSE", 3).open(1, "LOOSE", 2).then("send 2 1 = 0", "send 1 4 = 1")
            .then("send 2 0 = argument", "send 0 1 = state", "send 4 1 = index", "send 2 2 = 2", "breakOff = 7",
                "join = 0")
            .then("send 2 2 = state", "grant 2 1 = 3", "toSender 1 = 0", "send 2 2 = 3", "deliveries = 4");
    }

    /** Promise 5: "Throws `IndexOutOfBoundsException` if there is no such link" */
    private static void sendNoSuchLink() {
        script("send, no such link").each("send # 1 = index", NO_LINKS).each("send # 0 = index", NO_LINKS)
            .open(0, "LOOSE", 1).each("send # 4 = index", NO_LINKS).each("send # 5 = index", NO_LINKS)
            .then("breakOff = 0").each("send # 1 = index", NO_LINKS).each("send # 5 = index", NO_LINKS);
    }

    /** Promise 5: "Throws `IllegalArgumentException` if frames is out of range" */
    private static void sendFramesOutOfRange() {
        script("send, frames out of range").open(0, "LOOSE", 2).each("send 0 # = argument", "0", "-1", "5", "6",
            "MIN", "MAX")
            .each("send 3 # = argument", "0", "5").then("breakOff = 0").each("send 0 # = argument", "0", "5")
            .then("join = 0", "deliveries = 0");
        script("send, frames out of range, sixty").sixty(0, "LOOSE", 1).each("send 0 # = argument", "0", "5");
    }

    /**
     * Promise 5: "Throws `IllegalStateException` if the connection is not up, there are 60 deliveries, or the sender
     * has no credit on the link"
     */
    private static void sendWhileDown() {
        script("send while down").open(0, "LOOSE", 15).then("breakOff = 0", "credit 0 = 15", "send 0 1 = state")
            .then("send 0 4 = state", "send 1 1 = state", "deliveries = 0", "join = 0", "send 0 1 = state")
            .then("grant 0 1 = 1", "toSender 1 = 0", "send 0 1 = 0");
    }

    /**
     * Promise 5: "Throws `IllegalStateException` if the connection is not up, there are 60 deliveries, or the sender
     * has no credit on the link"
     */
    private static void sendTheSixtyFirst() {
        script("send the 61st").sixty(1, "ONCE_OR_MORE", 1).open(0, "LOOSE", 1).then("send 0 1 = state")
            .then("credit 0 = 1", "deliveries = 60", "underWay = 0", "grant 1 1 = 13", "toSender 1 = 0", "credit 1 = 1")
            .then("send 1 4 = state", "credit 1 = 1");
        Script s = script("send the 60th");
        for (int i = 0; i < 59; i++) {
            if (i < 4) {
                s.open(i, "LOOSE", 15);
            }
            s.then("send " + i % 4 + " 1 = " + i);
        }
        s.then("credit 3 = 1", "send 3 4 = 59", "deliveries = 60", "credit 3 = 0", "send 3 4 = state");
    }

    /**
     * Promise 5: "Throws `IllegalStateException` if the connection is not up, there are 60 deliveries, or the sender
     * has no credit on the link"
     */
    private static void sendWithoutCredit() {
        script("send without credit").open(2, "LOOSE", 1).then("send 0 1 = state", "send 1 1 = state",
            "send 3 1 = state")
            .then("send 2 1 = 0", "send 2 1 = state", "send 2 4 = state", "toReceiver 1 = 1", "send 2 1 = state")
            .then("grant 2 1 = 2", "send 2 1 = state", "toSender 1 = 0", "send 2 1 = 1", "send 2 1 = state");
    }

    /** Promise 6: "Lets frames of the sender come to the receiver." */
    private static void toReceiverBringsFrames() {
        script("toReceiver").open(1, "JUST_ONCE", 5).then("send 1 2 = 0", "send 1 2 = 1", "grant 1 1 = 1")
            .then("toReceiver 3 = 1", "forReceiver 0 = WHOLE", "forReceiver 1 = PARTLY", "underWay = 1")
            .then("backUnderWay = 1", "forSender 0 = OPEN", "toReceiver 1 = 1", "forReceiver 1 = WHOLE",
                "underWay = 0");
    }

    /** Promise 6: "`count`: 1 to 100: how many, or all, if there are fewer" */
    private static void toReceiverCounts() {
        script("toReceiver, 1 and 100").sixtyUnderWay("LOOSE", 4).then("toReceiver 0 = argument", "toReceiver 1 = 0")
            .then("underWay = 239", "toReceiver 101 = argument", "toReceiver 100 = 25", "underWay = 139")
            .then("toReceiver 99 = 25", "underWay = 40", "toReceiver 40 = 10", "underWay = 0");
    }

    /** Promise 6: "`count`: 1 to 100: how many, or all, if there are fewer" */
    private static void toReceiverAllIfFewer() {
        script("toReceiver, fewer").then("toReceiver 1 = 0", "toReceiver 100 = 0").open(0, "LOOSE", 15)
            .then("send 0 3 = 0", "send 0 4 = 1", "toReceiver 100 = 2", "underWay = 0", "toReceiver 1 = 0")
            .then("send 0 2 = 2", "toReceiver 3 = 1", "send 0 2 = 3", "breakOff = 2", "toReceiver 100 = 0",
                "toReceiver 1 = 0");
    }

    /** Promise 6: "Returns how many deliveries become WHOLE by that." */
    private static void toReceiverReturns() {
        script("toReceiver, how many").open(1, "JUST_ONCE", 9).whole(1, 1)
            .then("decide 0 ACCEPTED = 1", "send 1 4 = 1", "toSender 1 = 1", "send 1 1 = 2", "send 1 1 = 3",
                "send 1 2 = 4")
            .then("underWay = 9", "toReceiver 3 = 0", "toReceiver 1 = 1", "toReceiver 1 = 0", "toReceiver 3 = 2")
            .then("forReceiver 4 = PARTLY", "toReceiver 100 = 1", "toReceiver 100 = 0");
    }

    /** Promise 6: "Returns how many deliveries become WHOLE by that." */
    private static void toReceiverReturnsThoseAnew() {
        script("toReceiver, anew").open(1, "ONCE_OR_MORE", 9).whole(1, 1).whole(1, 2)
            .then("decide 0 ACCEPTED = 1", "decide 1 ACCEPTED = 1", "send 1 1 = 2", "breakOff = 3", "join = 3")
            .then("toReceiver 2 = 1", "toReceiver 2 = 2", "toReceiver 1 = 0");
    }

    /** Promise 6: "Returns how many deliveries become WHOLE by that." */
    private static void toReceiverReturnsAllSixty() {
        script("toReceiver, sixty").sixtyUnderWay("LOOSE", 1).then("toReceiver 100 = 60", "forReceiver 59 = WHOLE");
        script("toReceiver, none of sixty").sixtyUnderWay("LOOSE", 4).then("toReceiver 3 = 0", "toReceiver 1 = 1");
    }

    /** Promise 6: "Throws `IllegalArgumentException` if count is out of range" */
    private static void toReceiverCountOutOfRange() {
        script("toReceiver, out of range").each("toReceiver # = argument", WRONG_COUNTS).open(1, "ONCE_OR_MORE", 9)
            .then("send 1 3 = 0").each("toReceiver # = argument", WRONG_COUNTS).then("underWay = 3", "breakOff = 3")
            .each("toReceiver # = argument", WRONG_COUNTS).then("toReceiver 1 = 0");
    }

    /** Promise 7: "Lets frames of the receiver come to the sender." */
    private static void toSenderBringsFrames() {
        script("toSender").open(1, "JUST_ONCE", 5).whole(1, 1).then("grant 1 9 = 10", "decide 0 ACCEPTED = 1",
            "send 1 2 = 1")
            .then("toSender 1 = 0", "credit 1 = 8", "backUnderWay = 1", "underWay = 2", "forSender 0 = OPEN")
            .then("toSender 1 = 1", "forSender 0 = SETTLED", "backUnderWay = 0", "underWay = 3")
            .then("forReceiver 1 = UNKNOWN", "forReceiver 0 = DECIDED");
    }

    /** Promise 7: "`count`: 1 to 100: how many, or all, if there are fewer" */
    private static void toSenderCounts() {
        script("toSender, 1 and 100").times(50, "grant 0 1 = 1", "grant 1 2 = 2", "grant 2 3 = 3", "grant 3 4 = 4")
            .then("toSender 0 = argument", "toSender 1 = 0", "backUnderWay = 199", "toSender 101 = argument")
            .then("toSender 100 = 0", "backUnderWay = 99", "toSender 98 = 0", "backUnderWay = 1", "toSender 1 = 0")
            .then("backUnderWay = 0");
    }

    /** Promise 7: "`count`: 1 to 100: how many, or all, if there are fewer" */
    private static void toSenderAllIfFewer() {
        script("toSender, fewer").then("toSender 1 = 0", "toSender 100 = 0").open(0, "ONCE_OR_MORE", 15).whole(0, 1)
            .then("grant 1 3 = 3", "decide 0 ACCEPTED = 1", "toSender 3 = 1", "backUnderWay = 0", "toSender 1 = 0")
            .then("grant 1 5 = 5", "toSender 100 = 0", "credit 1 = 5", "grant 1 6 = 6", "breakOff = 1",
                "toSender 100 = 0")
            .then("toSender 1 = 0", "credit 1 = 5");
    }

    /** Promise 7: "Returns how many deliveries become SETTLED by that." */
    private static void toSenderReturns() {
        script("toSender, how many").open(0, "LOOSE", 5).open(1, "ONCE_OR_MORE", 5).open(2, "JUST_ONCE", 5)
            .whole(0, 1).whole(1, 1).whole(2, 1).whole(1, 1)
            .then("grant 0 1 = 2").each("decide # RELEASED = 0", "0", "2", "1", "3").then("grant 0 2 = 3")
            .then("backUnderWay = 5", "toSender 1 = 0", "toSender 2 = 2", "toSender 100 = 1", "toSender 100 = 0")
            .then("heard 0 = NONE", "heard 1 = RELEASED", "heard 2 = RELEASED", "heard 3 = RELEASED");
    }

    /** Promise 7: "Returns how many deliveries become SETTLED by that." */
    private static void toSenderReturnsAllSixty() {
        Script s = script("toSender, sixty").sixty(2, "JUST_ONCE", 1);
        for (int i = 0; i < 60; i++) {
            s.then("decide " + i + " ACCEPTED = 1");
        }
        s.then("backUnderWay = 60", "toSender 59 = 59", "toSender 100 = 1", "underWay = 60", "toReceiver 100 = 0");
        s.then("forReceiver 0 = FORGOTTEN", "forReceiver 59 = FORGOTTEN");
    }

    /** Promise 7: "Throws `IllegalArgumentException` if count is out of range" */
    private static void toSenderCountOutOfRange() {
        script("toSender, out of range").each("toSender # = argument", WRONG_COUNTS).open(1, "ONCE_OR_MORE", 9)
            .whole(1, 1)
            .then("decide 0 REJECTED = 0").each("toSender # = argument", WRONG_COUNTS)
            .then("backUnderWay = 1", "breakOff = 1").each("toSender # = argument", WRONG_COUNTS)
            .then("toSender 1 = 0");
    }

    /** Promise 8: "Lets the receiver decide a delivery, not in a transaction." */
    private static void decideIsNoTransaction() {
        script("decide beside a transaction").open(2, "JUST_ONCE", 5).whole(2, 1).whole(2, 1).whole(2, 1)
            .then("decide 0 REJECTED = 0", "begin = 1", "tell 2 ACCEPTED = 1", "decide 1 ACCEPTED = 1", "end false = 0")
            .then("forReceiver 0 = DECIDED", "forReceiver 1 = DECIDED", "forReceiver 2 = WHOLE", "backUnderWay = 2");
    }

    /** Promise 8: "`delivery`: a delivery" */
    private static void decideDeliveries() {
        script("decide the first and the last").sixty(2, "JUST_ONCE", 1).then("decide -1 ACCEPTED = index")
            .then("decide 0 REJECTED = 0", "decide 59 ACCEPTED = 1", "decide 60 ACCEPTED = index", "backUnderWay = 2")
            .then("forReceiver 0 = DECIDED", "forReceiver 1 = WHOLE", "forReceiver 58 = WHOLE",
                "forReceiver 59 = DECIDED");
    }

    /** Promise 8: "`outcome`: ACCEPTED, REJECTED or RELEASED" */
    private static void decideOutcomes() {
        script("decide, outcomes").open(1, "ONCE_OR_MORE", 5).whole(1, 1).whole(1, 1).whole(1, 1)
            .then("decide 0 -1 = argument", "decide 0 0 = 1", "decide 1 1 = 0", "decide 2 3 = argument",
                "decide 2 2 = 0")
            .then("toSender 3 = 3", "heard 0 = ACCEPTED", "heard 1 = REJECTED", "heard 2 = RELEASED");
    }

    /** Promise 8: "Returns how often it has taken effect then." */
    private static void decideReturns() {
        script("decide, how often").open(1, "ONCE_OR_MORE", 5).whole(1, 1).whole(1, 1).then("decide 1 RELEASED = 0")
            .then("decide 0 ACCEPTED = 1", "breakOff = 2", "join = 2", "toReceiver 2 = 2", "decide 1 ACCEPTED = 1")
            .then("decide 0 ACCEPTED = 2", "breakOff = 2", "join = 2", "toReceiver 2 = 2", "decide 1 REJECTED = 1")
            .then("decide 0 ACCEPTED = 3", "breakOff = 2", "join = 2", "toReceiver 2 = 2", "decide 0 RELEASED = 3");
    }

    /** Promise 8: "Throws `IndexOutOfBoundsException` if there is no such delivery" */
    private static void decideNoSuchDelivery() {
        script("decide, no such delivery").then("decide 0 ACCEPTED = index", "decide -1 3 = index").open(0, "LOOSE", 5)
            .whole(0, 1).each("decide # ACCEPTED = index", "-1", "1", "2", "60", "MIN", "MAX")
            .each("decide # 3 = index", "-1", "1", "60").then("breakOff = 0", "decide 1 ACCEPTED = index")
            .then("decide 1 3 = index", "decide -1 -1 = index");
    }

    /** Promise 8: "Throws `IllegalArgumentException` if there is no such outcome" */
    private static void decideNoSuchOutcome() {
        script("decide, no such outcome").open(0, "LOOSE", 5).whole(0, 1).each("decide 0 # = argument", WRONG_OUTCOMES)
            .then("send 0 1 = 1", "decide 1 3 = argument", "decide 1 -1 = argument", "decide 0 ACCEPTED = 1")
            .then("decide 0 3 = argument", "breakOff = 1").each("decide 0 # = argument", WRONG_OUTCOMES);
    }

    /**
     * Promise 8: "Throws `IllegalStateException` if the connection is not up, the delivery is not WHOLE, or an outcome
     * waits for it"
     */
    private static void decideWhileDown() {
        script("decide while down").open(0, "LOOSE", 5).open(1, "ONCE_OR_MORE", 5).open(2, "JUST_ONCE", 5)
            .whole(0, 1).whole(1, 1).whole(2, 1).then("breakOff = 0").each("forReceiver # = WHOLE", "0", "1", "2")
            .each("decide # ACCEPTED = state", "0", "1", "2").then("join = 0").each("decide # ACCEPTED = 1", "0", "1",
                "2");
    }

    /**
     * Promise 8: "Throws `IllegalStateException` if the connection is not up, the delivery is not WHOLE, or an outcome
     * waits for it"
     */
    private static void decideWhatIsNotWhole() {
        script("decide what is not WHOLE").open(2, "JUST_ONCE", 5).then("send 2 4 = 0", "decide 0 ACCEPTED = state")
            .times(3, "toReceiver 1 = 0", "decide 0 ACCEPTED = state").then("toReceiver 1 = 1", "decide 0 REJECTED = 0")
            .then("decide 0 REJECTED = state", "decide 0 ACCEPTED = state", "breakOff = 1", "join = 0")
            .then("forReceiver 0 = FORGOTTEN", "decide 0 ACCEPTED = state", "effects 0 = 0");
        script("decide one FORGOTTEN").open(0, "LOOSE", 5).open(1, "ONCE_OR_MORE", 5).whole(0, 1).whole(1, 2)
            .then("decide 0 ACCEPTED = 1", "decide 0 ACCEPTED = state", "decide 1 ACCEPTED = 1",
                "decide 1 ACCEPTED = state")
            .then("breakOff = 1", "join = 1", "decide 1 ACCEPTED = state", "toReceiver 1 = 0",
                "decide 1 ACCEPTED = state");
    }

    /**
     * Promise 8: "Throws `IllegalStateException` if the connection is not up, the delivery is not WHOLE, or an outcome
     * waits for it"
     */
    private static void decideOneThatWaits() {
        script("decide one that waits").open(0, "LOOSE", 5).whole(0, 1).then("begin = 1", "tell 0 REJECTED = 1")
            .each("decide 0 # = state", "ACCEPTED", "REJECTED", "RELEASED").then("end false = 0",
                "decide 0 ACCEPTED = 1");
        script("decide one that waited").open(0, "LOOSE", 5).whole(0, 1).then("begin = 1", "tell 0 REJECTED = 1")
            .then("breakOff = 0", "decide 0 ACCEPTED = state", "join = 0", "decide 0 ACCEPTED = 1");
    }
}
