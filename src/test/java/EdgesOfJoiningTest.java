/** Promises 16 to 19, sentence by sentence: breakOff, join, wouldResend, isUp. */
public final class EdgesOfJoiningTest {
    private static final Expect EXPECT = new Expect("EdgesOfJoiningTest");

    public static void main(String[] args) {
        breakOffBreaks();
        breakOffReturnsNone();
        breakOffReturnsBothRows();
        breakOffReturnsAsManyAsThereCanBe();
        breakOffWhileDown();
        joinJoins();
        joinReturnsNone();
        joinReturnsThoseSentAnew();
        joinReturnsAllSixty();
        joinWhileUp();
        wouldResendNone();
        wouldResendWhileUp();
        wouldResendWhileDown();
        wouldResendInATransaction();
        wouldResendAllSixty();
        isUpTells();
        isUpAfterRefusals();
        EXPECT.finish();
    }

    private static Script script(String title) {
        return new Script(EXPECT, title);
    }

    /** Promise 16: "Breaks the connection." */
    private static void breakOffBreaks() {
        script("breakOff").open(0, "LOOSE", 5).then("isUp = true", "breakOff = 0", "isUp = false", "grant 0 1 = state")
            .then("send 0 1 = state", "begin = state", "credit 0 = 5", "join = 0", "isUp = true");
    }

    /** Promise 16: "Returns how many frames are lost." */
    private static void breakOffReturnsNone() {
        script("breakOff, none").then("breakOff = 0", "join = 0", "breakOff = 0", "join = 0").open(1, "JUST_ONCE", 5)
            .whole(1, 4).then("breakOff = 0");
    }

    /** Promise 16: "Returns how many frames are lost." */
    private static void breakOffReturnsBothRows() {
        script("breakOff, the sender's row").open(0, "LOOSE", 5).then("send 0 4 = 0", "breakOff = 4");
        script("breakOff, the receiver's row").then("grant 0 1 = 1", "grant 0 1 = 1", "breakOff = 2");
        script("breakOff, both rows").open(2, "JUST_ONCE", 5).whole(2, 1).whole(2, 1)
            .then("decide 0 ACCEPTED = 1", "toSender 1 = 1", "decide 1 ACCEPTED = 1", "grant 2 1 = 3", "send 2 3 = 2")
            .then("toReceiver 1 = 0", "breakOff = 5");
    }

    /** Promise 16: "Returns how many frames are lost." */
    private static void breakOffReturnsAsManyAsThereCanBe() {
        script("breakOff, many").sixtyUnderWay("ONCE_OR_MORE", 4).times(60, "grant 0 1 = 1").then("breakOff = 300")
            .then("join = 60", "breakOff = 240", "underWay = 0", "backUnderWay = 0");
    }

    /** Promise 16: "Throws `IllegalStateException` if it is not up" */
    private static void breakOffWhileDown() {
        script("breakOff while down").open(1, "ONCE_OR_MORE", 5).then("send 1 2 = 0", "toReceiver 1 = 0",
            "breakOff = 1")
            .then("breakOff = state", "breakOff = state", "forReceiver 0 = PARTLY", "join = 1", "breakOff = 2")
            .then("breakOff = state", "join = 1");
    }

    /** Promise 17: "Joins the connection again." */
    private static void joinJoins() {
        script("join").open(0, "LOOSE", 5).then("breakOff = 0", "join = 0", "isUp = true", "credit 0 = 0",
            "grant 0 2 = 2")
            .then("toSender 1 = 0", "send 0 1 = 0", "toReceiver 1 = 1", "begin = 1", "tell 0 ACCEPTED = 1",
                "end true = 1");
    }

    /** Promise 17: "Returns how many deliveries are sent anew." */
    private static void joinReturnsNone() {
        script("join, no delivery").then("breakOff = 0", "join = 0", "underWay = 0");
        script("join, none sent anew").open(0, "LOOSE", 5).open(1, "ONCE_OR_MORE", 5).open(2, "JUST_ONCE", 5)
            .whole(2, 1).whole(2, 1).whole(2, 1).whole(1, 1).whole(1, 1)
            .each("decide # RELEASED = 0", "0", "3").then("toSender 2 = 2", "decide 1 ACCEPTED = 1", "send 0 4 = 5")
            .then("breakOff = 6", "join = 0", "underWay = 0");
    }

    /** Promise 17: "Returns how many deliveries are sent anew." */
    private static void joinReturnsThoseSentAnew() {
        script("join, three sent anew").open(1, "ONCE_OR_MORE", 5).open(2, "JUST_ONCE", 5).whole(1, 1).whole(2, 1)
            .then("decide 0 ACCEPTED = 1", "send 2 4 = 2", "send 1 3 = 3", "toReceiver 2 = 0", "breakOff = 6",
                "join = 3")
            .then("underWay = 8", "toReceiver 1 = 1", "toReceiver 4 = 1", "breakOff = 3", "join = 1", "underWay = 3");
    }

    /** Promise 17: "Returns how many deliveries are sent anew." */
    private static void joinReturnsAllSixty() {
        script("join, sixty").sixtyUnderWay("JUST_ONCE", 4).then("breakOff = 240", "join = 60", "toReceiver 4 = 1")
            .then("toReceiver 1 = 0", "breakOff = 235", "join = 59", "underWay = 236");
        script("join, sixty LOOSE").sixtyUnderWay("LOOSE", 1).then("breakOff = 60", "join = 0", "underWay = 0");
    }

    /** Promise 17: "Throws `IllegalStateException` if it is up" */
    private static void joinWhileUp() {
        script("join while up").then("join = state").open(2, "JUST_ONCE", 5).whole(2, 1).then("decide 0 ACCEPTED = 1")
            .then("send 2 2 = 1", "toReceiver 1 = 0", "join = state", "forReceiver 0 = DECIDED",
                "forReceiver 1 = PARTLY")
            .then("credit 2 = 3", "breakOff = 2", "join = 1", "join = state");
    }

    /**
     * Promise 18: "Returns how many deliveries would be sent anew if the connection was broken and joined now; if it is
     * not up, if it was joined now."
     */
    private static void wouldResendNone() {
        script("wouldResend, none").then("wouldResend = 0", "breakOff = 0", "wouldResend = 0", "join = 0",
            "wouldResend = 0")
            .open(0, "LOOSE", 5).then("send 0 2 = 0", "wouldResend = 0", "toReceiver 1 = 0", "wouldResend = 0")
            .then("breakOff = 1", "wouldResend = 0", "join = 0", "wouldResend = 0");
    }

    /**
     * Promise 18: "Returns how many deliveries would be sent anew if the connection was broken and joined now; if it is
     * not up, if it was joined now."
     */
    private static void wouldResendWhileUp() {
        script("wouldResend, ONCE_OR_MORE").open(1, "ONCE_OR_MORE", 5).then("send 1 2 = 0", "wouldResend = 1")
            .then("toReceiver 1 = 0", "wouldResend = 1", "toReceiver 1 = 1", "wouldResend = 0", "decide 0 ACCEPTED = 1")
            .then("wouldResend = 1", "toSender 1 = 1", "wouldResend = 0");
        script("wouldResend, JUST_ONCE").open(1, "JUST_ONCE", 5).then("send 1 2 = 0", "wouldResend = 1")
            .then("toReceiver 1 = 0", "wouldResend = 1", "toReceiver 1 = 1", "wouldResend = 0", "decide 0 ACCEPTED = 1")
            .then("wouldResend = 0", "toSender 1 = 1", "wouldResend = 0", "toReceiver 1 = 0", "wouldResend = 0");
    }

    /**
     * Promise 18: "Returns how many deliveries would be sent anew if the connection was broken and joined now; if it is
     * not up, if it was joined now."
     */
    private static void wouldResendWhileDown() {
        script("wouldResend while down").open(1, "ONCE_OR_MORE", 5).open(2, "JUST_ONCE", 5).whole(1, 1).whole(2, 1)
            .then("send 2 2 = 2", "send 2 2 = 3", "toReceiver 1 = 0", "decide 0 REJECTED = 0", "decide 1 REJECTED = 0")
            .then("wouldResend = 3", "breakOff = 5", "wouldResend = 3", "wouldResend = 3", "forReceiver 1 = DECIDED")
            .then("forReceiver 2 = PARTLY", "forSender 1 = OPEN", "join = 3", "wouldResend = 3");
    }

    /**
     * Promise 18: "Returns how many deliveries would be sent anew if the connection was broken and joined now; if it is
     * not up, if it was joined now."
     */
    private static void wouldResendInATransaction() {
        script("wouldResend in a transaction").open(1, "ONCE_OR_MORE", 5).whole(1, 1).then("begin = 1",
            "wouldResend = 0")
            .then("tell 0 ACCEPTED = 1", "wouldResend = 0", "end true = 1", "wouldResend = 1", "breakOff = 1",
                "join = 1");
    }

    /**
     * Promise 18: "Returns how many deliveries would be sent anew if the connection was broken and joined now; if it is
     * not up, if it was joined now."
     */
    private static void wouldResendAllSixty() {
        script("wouldResend, sixty").sixtyUnderWay("ONCE_OR_MORE", 1).then("wouldResend = 60", "toReceiver 1 = 1")
            .then("wouldResend = 59", "breakOff = 59", "wouldResend = 59", "join = 59", "toReceiver 100 = 59")
            .then("wouldResend = 0");
    }

    /** Promise 19: "Tells whether the connection is up." */
    private static void isUpTells() {
        script("isUp").times(4, "isUp = true", "isUp = true", "breakOff = 0", "isUp = false", "isUp = false",
            "join = 0")
            .then("isUp = true");
    }

    /** Promise 19: "Tells whether the connection is up." */
    private static void isUpAfterRefusals() {
        script("isUp after refusals").then("join = state", "isUp = true", "breakOff = 0", "breakOff = state")
            .then("isUp = false", "begin = state", "end true = state", "isUp = false", "setMode 0 LOOSE = LOOSE")
            .then("toReceiver 1 = 0", "toSender 1 = 0", "isUp = false", "join = 0", "isUp = true");
    }
}
