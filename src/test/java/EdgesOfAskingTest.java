/** Promises 9 to 15, sentence by sentence: what an object tells of its deliveries and frames. */
public final class EdgesOfAskingTest {
    private static final Expect EXPECT = new Expect("EdgesOfAskingTest");

    public static void main(String[] args) {
        deliveriesFrom0To60();
        deliveriesAfterRefusals();
        underWayFrom0To240();
        underWayWithForgets();
        underWayAnew();
        backUnderWayWithGrants();
        backUnderWayWithOutcomes();
        forSenderDeliveries();
        forSenderTells();
        forSenderReturns();
        forSenderNoSuchDelivery();
        heardDeliveries();
        heardTells();
        heardReturns();
        heardNoSuchDelivery();
        forReceiverDeliveries();
        forReceiverTells();
        forReceiverReturns();
        forReceiverNoSuchDelivery();
        effectsDeliveries();
        effectsTells();
        effectsNoSuchDelivery();
        EXPECT.finish();
    }

    private static Script script(String title) {
        return new Script(EXPECT, title);
    }

    /** Three deliveries, one of each mode, all WHOLE. */
    private static Script threeWhole(String title) {
        return script(title).open(0, "LOOSE", 5).open(1, "ONCE_OR_MORE", 5).open(2, "JUST_ONCE", 5)
            .whole(0, 1).whole(1, 1).whole(2, 1);
    }

    private static void noSuchDelivery(String call) {
        script(call + ", no delivery").each(call + " # = index", "-1", "0", "1", "MIN", "MAX");
        threeWhole(call + ", three deliveries").each(call + " # = index", "-1", "3", "4", "59", "60", "MIN", "MAX")
            .then("breakOff = 0", call + " 3 = index", call + " -1 = index");
        script(call + ", sixty deliveries").sixty(0, "LOOSE", 1).each(call + " # = index", "-1", "60", "61");
    }

    /** Promise 9: "Returns how many deliveries there are." */
    private static void deliveriesFrom0To60() {
        Script s = script("deliveries").then("deliveries = 0");
        for (int i = 0; i < 60; i++) {
            if (i % 15 == 0) {
                s.then("grant 0 15 = " + (15 - i / 15), "toSender 1 = 0");
            }
            s.whole(0, 1).then("deliveries = " + (i + 1));
        }
        s.then("breakOff = 0", "deliveries = 60", "join = 0", "deliveries = 60");
    }

    /** Promise 9: "Returns how many deliveries there are." */
    private static void deliveriesAfterRefusals() {
        script("deliveries, none sent").then("send 0 1 = state", "deliveries = 0").open(0, "ONCE_OR_MORE", 2)
            .then("deliveries = 0", "send 0 5 = argument", "deliveries = 0", "send 0 4 = 0", "deliveries = 1")
            .then("breakOff = 4", "join = 1", "deliveries = 1", "toReceiver 4 = 1", "decide 0 ACCEPTED = 1")
            .then("toSender 1 = 1", "deliveries = 1");
    }

    /** Promise 10: "Returns how many frames of the sender are under way." */
    private static void underWayFrom0To240() {
        script("underWay").then("underWay = 0").sixtyUnderWay("JUST_ONCE", 4).then("underWay = 240", "toReceiver 1 = 0")
            .then("underWay = 239", "breakOff = 239", "underWay = 0", "join = 60", "underWay = 240")
            .then("toReceiver 100 = 25", "underWay = 140", "toReceiver 100 = 25", "underWay = 40",
                "toReceiver 100 = 10")
            .then("underWay = 0");
    }

    /** Promise 10: "Returns how many frames of the sender are under way." */
    private static void underWayWithForgets() {
        threeWhole("underWay, FORGET").each("decide # REJECTED = 0", "0", "1", "2").then("underWay = 0",
            "toSender 1 = 1")
            .then("underWay = 0", "toSender 1 = 1", "underWay = 1", "send 0 3 = 3", "underWay = 4", "grant 0 1 = 2")
            .then("underWay = 4", "toReceiver 1 = 0", "underWay = 3");
    }

    /** Promise 10: "Returns how many frames of the sender are under way." */
    private static void underWayAnew() {
        script("underWay, anew").open(0, "LOOSE", 5).open(1, "ONCE_OR_MORE", 5).then("send 0 4 = 0", "send 1 3 = 1")
            .then("send 1 1 = 2", "underWay = 8", "toReceiver 5 = 1", "underWay = 3", "breakOff = 3", "underWay = 0")
            .then("join = 2", "underWay = 4", "toReceiver 4 = 2", "breakOff = 0", "join = 0", "underWay = 0");
    }

    /** Promise 11: "Returns how many frames of the receiver are under way." */
    private static void backUnderWayWithGrants() {
        Script s = script("backUnderWay").then("backUnderWay = 0");
        for (int i = 1; i <= 120; i++) {
            s.then("grant " + i % 4 + " 0 = 0", "backUnderWay = " + i);
        }
        s.then("toSender 100 = 0", "backUnderWay = 20", "underWay = 0", "breakOff = 20", "backUnderWay = 0",
            "join = 0");
        s.then("backUnderWay = 0");
    }

    /** Promise 11: "Returns how many frames of the receiver are under way." */
    private static void backUnderWayWithOutcomes() {
        threeWhole("backUnderWay, OUTCOME").then("decide 0 ACCEPTED = 1", "backUnderWay = 0", "begin = 1")
            .then("tell 2 ACCEPTED = 1", "backUnderWay = 0", "decide 1 ACCEPTED = 1", "backUnderWay = 1",
                "end true = 1")
            .then("backUnderWay = 2", "toSender 1 = 1", "backUnderWay = 1", "toSender 1 = 1", "backUnderWay = 0")
            .then("toReceiver 1 = 0", "backUnderWay = 0");
    }

    /** Promise 12: "`delivery`: a delivery" */
    private static void forSenderDeliveries() {
        script("forSender, first and last").sixty(0, "ONCE_OR_MORE", 1).then("decide 59 ACCEPTED = 1", "toSender 1 = 1")
            .then("forSender -1 = index", "forSender 0 = OPEN", "forSender 58 = OPEN", "forSender 59 = SETTLED")
            .then("forSender 60 = index");
    }

    /** Promise 12: "Returns what a delivery is for the sender." */
    private static void forSenderTells() {
        threeWhole("forSender").then("forSender 0 = SETTLED", "forSender 1 = OPEN", "forSender 2 = OPEN")
            .then("decide 2 REJECTED = 0", "forSender 2 = OPEN", "toSender 1 = 1", "forSender 2 = SETTLED")
            .then("decide 1 REJECTED = 0", "breakOff = 2", "forSender 1 = OPEN", "join = 1", "forSender 1 = OPEN");
    }

    /** Promise 12: "Returns OPEN or SETTLED." */
    private static void forSenderReturns() {
        script("forSender, 0 or 1").open(2, "JUST_ONCE", 5).then("send 2 2 = 0", "forSender 0 = 0", "toReceiver 1 = 0")
            .then("forSender 0 = 0", "toReceiver 1 = 1", "forSender 0 = 0", "decide 0 RELEASED = 0", "forSender 0 = 0")
            .then("toSender 1 = 1", "forSender 0 = 1", "toReceiver 1 = 0", "forSender 0 = 1", "breakOff = 0")
            .then("forSender 0 = 1", "join = 0", "forSender 0 = 1");
    }

    /** Promise 12: "Throws `IndexOutOfBoundsException` if there is no such delivery" */
    private static void forSenderNoSuchDelivery() {
        noSuchDelivery("forSender");
    }

    /** Promise 13: "`delivery`: a delivery" */
    private static void heardDeliveries() {
        script("heard, first and last").sixty(0, "ONCE_OR_MORE", 1).then("decide 59 RELEASED = 0", "toSender 1 = 1")
            .then("heard -1 = index", "heard 0 = NONE", "heard 58 = NONE", "heard 59 = RELEASED", "heard 60 = index");
    }

    /** Promise 13: "Returns the outcome that the sender has heard of a delivery." */
    private static void heardTells() {
        threeWhole("heard").each("decide # REJECTED = 0", "0", "1", "2").each("heard # = NONE", "0", "1", "2")
            .then("toSender 100 = 2", "heard 0 = NONE", "heard 1 = REJECTED", "heard 2 = REJECTED", "toReceiver 1 = 0")
            .then("breakOff = 0", "join = 0", "heard 0 = NONE", "heard 1 = REJECTED", "heard 2 = REJECTED");
    }

    /** Promise 13: "Returns the outcome; NONE if it is OPEN, or none was heard." */
    private static void heardReturns() {
        for (int outcome = 0; outcome <= 2; outcome++) {
            int effects = outcome == 0 ? 1 : 0;
            threeWhole("heard, " + outcome).each("heard # = -1", "0", "1", "2")
                .each("decide # " + outcome + " = " + effects, "0", "1", "2").each("heard # = -1", "0", "1", "2")
                .then("toSender 1 = 1", "heard 1 = " + outcome, "heard 2 = -1", "breakOff = 1", "heard 2 = -1",
                    "join = 0")
                .then("heard 0 = -1", "heard 1 = " + outcome, "heard 2 = " + outcome);
        }
    }

    /** Promise 13: "Throws `IndexOutOfBoundsException` if there is no such delivery" */
    private static void heardNoSuchDelivery() {
        noSuchDelivery("heard");
    }

    /** Promise 14: "`delivery`: a delivery" */
    private static void forReceiverDeliveries() {
        script("forReceiver, first and last").sixty(2, "JUST_ONCE", 1).then("decide 59 RELEASED = 0")
            .then("forReceiver -1 = index", "forReceiver 0 = WHOLE", "forReceiver 58 = WHOLE",
                "forReceiver 59 = DECIDED")
            .then("forReceiver 60 = index");
    }

    /** Promise 14: "Returns what a delivery is for the receiver." */
    private static void forReceiverTells() {
        script("forReceiver").open(2, "JUST_ONCE", 5).then("send 2 1 = 0", "send 2 2 = 1", "send 2 1 = 2")
            .then("toReceiver 2 = 1", "forReceiver 0 = WHOLE", "forReceiver 1 = PARTLY", "forReceiver 2 = UNKNOWN")
            .then("breakOff = 2", "forReceiver 0 = WHOLE", "forReceiver 1 = PARTLY", "forReceiver 2 = UNKNOWN",
                "join = 2")
            .then("forReceiver 0 = WHOLE", "forReceiver 1 = UNKNOWN", "forReceiver 2 = UNKNOWN");
    }

    /** Promise 14: "Returns UNKNOWN, PARTLY, WHOLE, DECIDED or FORGOTTEN." */
    private static void forReceiverReturns() {
        script("forReceiver, 0 to 4").open(2, "JUST_ONCE", 5).then("send 2 2 = 0", "forReceiver 0 = 0",
            "toReceiver 1 = 0")
            .then("forReceiver 0 = 1", "toReceiver 1 = 1", "forReceiver 0 = 2", "decide 0 ACCEPTED = 1")
            .then("forReceiver 0 = 3", "toSender 1 = 1", "forReceiver 0 = 3", "toReceiver 1 = 0", "forReceiver 0 = 4");
    }

    /** Promise 14: "Throws `IndexOutOfBoundsException` if there is no such delivery" */
    private static void forReceiverNoSuchDelivery() {
        noSuchDelivery("forReceiver");
    }

    /** Promise 15: "`delivery`: a delivery" */
    private static void effectsDeliveries() {
        script("effects, first and last").sixty(2, "JUST_ONCE", 1).then("decide 59 ACCEPTED = 1", "effects -1 = index")
            .then("effects 0 = 0", "effects 58 = 0", "effects 59 = 1", "effects 60 = index");
    }

    /** Promise 15: "Returns how often a delivery has taken effect." */
    private static void effectsTells() {
        threeWhole("effects").each("effects # = 0", "0", "1", "2").then("decide 0 ACCEPTED = 1",
            "decide 1 ACCEPTED = 1")
            .then("decide 2 REJECTED = 0", "breakOff = 2", "join = 1", "toReceiver 1 = 1", "effects 1 = 1", "begin = 1")
            .then("tell 1 ACCEPTED = 1", "effects 1 = 1", "end true = 1", "effects 0 = 1", "effects 1 = 2",
                "effects 2 = 0");
    }

    /** Promise 15: "Throws `IndexOutOfBoundsException` if there is no such delivery" */
    private static void effectsNoSuchDelivery() {
        noSuchDelivery("effects");
    }
}
