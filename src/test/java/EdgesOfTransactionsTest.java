/** Promises 20 to 22, sentence by sentence: begin, tell, end. */
public final class EdgesOfTransactionsTest {
    private static final Expect EXPECT = new Expect("EdgesOfTransactionsTest");
    private static final String[] WRONG_OUTCOMES = {"-1", "3", "4", "MIN", "MAX"};

    public static void main(String[] args) {
        beginOpens();
        beginReturns();
        beginReturnsMany();
        beginWhileDown();
        beginWhileOneIsOpen();
        tellWaits();
        tellDeliveries();
        tellOutcomes();
        tellReturns();
        tellReturnsUpToSixty();
        tellNoSuchDelivery();
        tellNoSuchOutcome();
        tellWithNoneOpen();
        tellWhatIsNotWhole();
        tellOneThatWaits();
        endEnds();
        endCommits();
        endReturnsNone();
        endReturns();
        endReturnsUpToSixty();
        endWithNoneOpen();
        EXPECT.finish();
    }

    private static Script script(String title) {
        return new Script(EXPECT, title);
    }

    /** Three deliveries, one of each mode, all WHOLE. */
    private static Script threeWhole(String title) {
        return script(title).open(0, "LOOSE", 5).open(1, "ONCE_OR_MORE", 5).open(2, "JUST_ONCE", 5)
            .whole(0, 1).whole(1, 1).whole(2, 1);
    }

    /** Promise 20: "Opens a transaction." */
    private static void beginOpens() {
        threeWhole("begin").then("tell 0 ACCEPTED = state", "end true = state", "begin = 1", "tell 0 ACCEPTED = 1")
            .then("underWay = 0", "backUnderWay = 0", "end true = 1");
    }

    /** Promise 20: "Returns how many there were, this one included." */
    private static void beginReturns() {
        script("begin, how many").then("begin = 1", "end true = 0", "begin = 2", "end false = 0", "begin = 3",
            "breakOff = 0")
            .then("join = 0", "begin = 4", "begin = state", "end true = 0", "end true = state", "begin = 5");
    }

    /** Promise 20: "Returns how many there were, this one included." */
    private static void beginReturnsMany() {
        Script s = script("begin, 256 of them");
        for (int i = 1; i <= 256; i++) {
            s.then("begin = " + i, "end " + (i % 2 == 0) + " = 0");
        }
    }

    /** Promise 20: "Throws `IllegalStateException` if the connection is not up, or one is open" */
    private static void beginWhileDown() {
        script("begin while down").then("breakOff = 0", "begin = state", "begin = state", "join = 0", "begin = 1")
            .then("breakOff = 0", "begin = state", "join = 0", "begin = 2");
    }

    /** Promise 20: "Throws `IllegalStateException` if the connection is not up, or one is open" */
    private static void beginWhileOneIsOpen() {
        threeWhole("begin while one is open").then("begin = 1", "begin = state", "tell 1 ACCEPTED = 1", "begin = state")
            .then("tell 2 ACCEPTED = 2", "begin = state", "end true = 2", "begin = 2", "end true = 0");
    }

    /** Promise 21: "Tells an outcome in the transaction that is open." */
    private static void tellWaits() {
        threeWhole("tell").then("begin = 1", "tell 1 ACCEPTED = 1", "forReceiver 1 = WHOLE", "effects 1 = 0")
            .then("backUnderWay = 0", "wouldResend = 0", "end true = 1", "forReceiver 1 = FORGOTTEN", "effects 1 = 1")
            .then("backUnderWay = 1", "forReceiver 0 = WHOLE", "forReceiver 2 = WHOLE");
    }

    /** Promise 21: "`delivery`: a delivery" */
    private static void tellDeliveries() {
        script("tell of the first and the last").sixty(1, "ONCE_OR_MORE", 1).then("begin = 1",
            "tell -1 ACCEPTED = index")
            .then("tell 0 REJECTED = 1", "tell 59 ACCEPTED = 2", "tell 60 ACCEPTED = index", "end true = 2")
            .then("forReceiver 0 = FORGOTTEN", "forReceiver 1 = WHOLE", "forReceiver 58 = WHOLE")
            .then("forReceiver 59 = FORGOTTEN", "toSender 2 = 2", "heard 0 = REJECTED", "heard 59 = ACCEPTED");
    }

    /** Promise 21: "`outcome`: ACCEPTED, REJECTED or RELEASED" */
    private static void tellOutcomes() {
        script("tell, outcomes").open(1, "ONCE_OR_MORE", 5).whole(1, 1).whole(1, 1).whole(1, 1)
            .then("begin = 1", "tell 0 -1 = argument", "tell 0 0 = 1", "tell 1 1 = 2", "tell 2 3 = argument",
                "tell 2 2 = 3")
            .then("end true = 3", "toSender 3 = 3", "heard 0 = ACCEPTED", "heard 1 = REJECTED", "heard 2 = RELEASED");
    }

    /** Promise 21: "Returns how many outcomes wait then." */
    private static void tellReturns() {
        threeWhole("tell, how many").then("begin = 1", "tell 2 RELEASED = 1", "tell 2 RELEASED = state",
            "tell 0 ACCEPTED = 2")
            .then("decide 1 ACCEPTED = 1", "end false = 0", "begin = 2", "tell 0 ACCEPTED = 1", "end true = 1",
                "begin = 3")
            .then("tell 2 ACCEPTED = 1", "breakOff = 1", "join = 1", "begin = 4", "tell 2 ACCEPTED = 1");
    }

    /** Promise 21: "Returns how many outcomes wait then." */
    private static void tellReturnsUpToSixty() {
        Script s = script("tell, sixty").sixty(1, "ONCE_OR_MORE", 1).then("begin = 1");
        for (int i = 0; i < 60; i++) {
            s.then("tell " + (i * 7 % 60) + " RELEASED = " + (i + 1));
        }
        s.then("tell 0 ACCEPTED = state", "end false = 0", "begin = 2", "tell 0 ACCEPTED = 1");
    }

    /** Promise 21: "Throws `IndexOutOfBoundsException` if there is no such delivery" */
    private static void tellNoSuchDelivery() {
        script("tell, no delivery").then("tell 0 ACCEPTED = index", "tell -1 3 = index", "begin = 1")
            .then("tell 0 ACCEPTED = index", "tell 0 3 = index");
        threeWhole("tell, no such delivery").each("tell # ACCEPTED = index", "-1", "3", "60", "MIN", "MAX")
            .then("begin = 1", "tell 0 ACCEPTED = 1").each("tell # ACCEPTED = index", "-1", "3", "60", "MIN", "MAX")
            .each("tell # 3 = index", "-1", "3", "60").then("end true = 1", "breakOff = 0", "tell 3 3 = index");
    }

    /** Promise 21: "Throws `IllegalArgumentException` if there is no such outcome" */
    private static void tellNoSuchOutcome() {
        threeWhole("tell, no such outcome").each("tell 0 # = argument", WRONG_OUTCOMES).then("begin = 1")
            .each("tell 0 # = argument", WRONG_OUTCOMES).then("tell 0 ACCEPTED = 1").each("tell 0 # = argument", "-1",
                "3")
            .then("send 1 1 = 3", "tell 3 3 = argument", "tell 3 -1 = argument", "breakOff = 1")
            .each("tell 1 # = argument", WRONG_OUTCOMES);
    }

    /**
     * Promise 21: "Throws `IllegalStateException` if no transaction is open, the delivery is not WHOLE, or an outcome
     * waits for it"
     */
    private static void tellWithNoneOpen() {
        threeWhole("tell with none open").each("tell # ACCEPTED = state", "0", "1", "2").then("begin = 1",
            "end true = 0")
            .then("tell 0 ACCEPTED = state", "begin = 2", "end false = 0", "tell 0 ACCEPTED = state", "begin = 3")
            .then("breakOff = 0", "tell 0 ACCEPTED = state", "join = 0", "tell 0 ACCEPTED = state", "begin = 4")
            .then("tell 0 ACCEPTED = 1");
    }

    /**
     * Promise 21: "Throws `IllegalStateException` if no transaction is open, the delivery is not WHOLE, or an outcome
     * waits for it"
     */
    private static void tellWhatIsNotWhole() {
        script("tell what is not WHOLE").open(2, "JUST_ONCE", 5).then("begin = 1", "send 2 4 = 0",
            "tell 0 ACCEPTED = state")
            .times(3, "toReceiver 1 = 0", "tell 0 ACCEPTED = state").then("toReceiver 1 = 1", "tell 0 REJECTED = 1")
            .then("end true = 1", "begin = 2", "forReceiver 0 = DECIDED", "tell 0 ACCEPTED = state", "toSender 1 = 1")
            .then("tell 0 ACCEPTED = state", "toReceiver 1 = 0", "forReceiver 0 = FORGOTTEN",
                "tell 0 ACCEPTED = state");
        threeWhole("tell of one FORGOTTEN").then("begin = 1", "decide 0 ACCEPTED = 1", "tell 0 ACCEPTED = state")
            .then("decide 1 ACCEPTED = 1", "tell 1 ACCEPTED = state", "tell 2 ACCEPTED = 1");
    }

    /**
     * Promise 21: "Throws `IllegalStateException` if no transaction is open, the delivery is not WHOLE, or an outcome
     * waits for it"
     */
    private static void tellOneThatWaits() {
        threeWhole("tell of one that waits").then("begin = 1", "tell 1 REJECTED = 1")
            .each("tell 1 # = state", "ACCEPTED", "REJECTED", "RELEASED").then("tell 2 ACCEPTED = 2",
                "tell 1 ACCEPTED = state")
            .then("tell 2 REJECTED = state", "end true = 2", "toSender 2 = 2", "heard 1 = REJECTED",
                "heard 2 = ACCEPTED");
    }

    /** Promise 22: "Ends the transaction that is open." */
    private static void endEnds() {
        threeWhole("end").then("begin = 1", "tell 0 ACCEPTED = 1", "end true = 1", "tell 1 ACCEPTED = state",
            "begin = 2")
            .then("tell 1 ACCEPTED = 1", "end false = 0", "tell 1 ACCEPTED = state", "decide 1 REJECTED = 0",
                "begin = 3");
    }

    /** Promise 22: "`commits`: whether it is committed; otherwise it is rolled back" */
    private static void endCommits() {
        threeWhole("end true").then("begin = 1", "tell 2 ACCEPTED = 1", "tell 1 RELEASED = 2", "end true = 2")
            .then("forReceiver 2 = DECIDED", "effects 2 = 1", "forReceiver 1 = FORGOTTEN", "effects 1 = 0")
            .then("backUnderWay = 2");
        threeWhole("end false").then("begin = 1", "tell 2 ACCEPTED = 1", "tell 1 RELEASED = 2", "end false = 0")
            .then("forReceiver 2 = WHOLE", "effects 2 = 0", "forReceiver 1 = WHOLE", "effects 1 = 0",
                "backUnderWay = 0");
    }

    /** Promise 22: "Returns how many outcomes were decided by that." */
    private static void endReturnsNone() {
        script("end, none told").then("begin = 1", "end true = 0", "begin = 2", "end false = 0");
        threeWhole("end, none decided").then("begin = 1", "decide 0 ACCEPTED = 1", "end true = 0", "begin = 2")
            .then("tell 1 ACCEPTED = 1", "end false = 0", "begin = 3", "end true = 0", "effects 1 = 0");
    }

    /** Promise 22: "Returns how many outcomes were decided by that." */
    private static void endReturns() {
        threeWhole("end, how many").then("begin = 1", "tell 1 RELEASED = 1", "end true = 1", "begin = 2")
            .then("tell 2 REJECTED = 1", "tell 0 ACCEPTED = 2", "end true = 2", "begin = 3", "end true = 0");
    }

    /** Promise 22: "Returns how many outcomes were decided by that." */
    private static void endReturnsUpToSixty() {
        Script s = script("end, sixty").sixty(2, "JUST_ONCE", 1).then("begin = 1");
        for (int i = 0; i < 60; i++) {
            s.then("tell " + (59 - i) + " ACCEPTED = " + (i + 1));
        }
        s.then("end true = 60", "backUnderWay = 60", "toSender 1 = 1", "heard 59 = ACCEPTED", "heard 58 = NONE");
        s.then("toSender 100 = 59", "underWay = 60", "effects 0 = 1", "effects 59 = 1");
    }

    /** Promise 22: "Throws `IllegalStateException` if no transaction is open" */
    private static void endWithNoneOpen() {
        threeWhole("end with none open").then("end true = state", "end false = state", "begin = 1",
            "tell 1 ACCEPTED = 1")
            .then("end true = 1", "end true = state", "end false = state", "begin = 2", "end false = 0",
                "end true = state")
            .then("end false = state", "begin = 3", "tell 2 ACCEPTED = 1", "breakOff = 1", "end true = state")
            .then("end false = state", "join = 1", "end true = state", "end false = state", "forReceiver 2 = WHOLE");
    }
}
