/**
 * What "Terms" says of exceptions, in states that differ: in each, all calls that have to be refused, with what they
 * throw. Script holds what is learnt after each of them against the same run without it.
 */
public final class RefusedCallsTest {
    private static final Expect EXPECT = new Expect("RefusedCallsTest");
    private static final String[] NO_LINKS = {"-1", "4", "MIN", "MAX"};

    public static void main(String[] args) {
        noSuchLinkOrDelivery();
        argumentOutOfItsRange();
        stateAsTold();
        indexBeforeArgument();
        indexBeforeState();
        argumentBeforeState();
        indexBeforeArgumentAndState();
        nothingThere();
        grantsUnderWay();
        creditUsedUp();
        partly();
        whole();
        decided();
        forgetUnderWay();
        forgotten();
        partlyAnew();
        transactionOpen();
        outcomesWait();
        otherOrderWaits();
        down();
        downAfterATransaction();
        joinedAgain();
        sixtyDeliveries();
        sixtyOutcomesWait();
        countsPast15();
        EXPECT.finish();
    }

    private static Script script(String title) {
        return new Script(EXPECT, title);
    }

    /** All calls that are refused for their arguments, whatever the state is; numbers of deliveries are below next. */
    private static void wrongArguments(Script s, int next) {
        s.each("setMode # JUST_ONCE = index", NO_LINKS).each("grant # 3 = index", NO_LINKS)
            .each("credit # = index", NO_LINKS).each("send # 1 = index", NO_LINKS);
        String[] none = {"-1", "" + next, "60", "MIN", "MAX"};
        for (String call : new String[] {"forSender #", "heard #", "forReceiver #", "effects #", "decide # 0",
            "tell # 0"}) {
            s.each(call + " = index", none);
        }
        s.each("setMode 1 # = argument", "-1", "3").each("grant 1 # = argument", "-1", "16")
            .each("send 1 # = argument", "0", "5").each("toReceiver # = argument", "0", "101")
            .each("toSender # = argument", "0", "101");
        for (int i = 0; i < next; i += 20) {
            s.each("decide " + i + " # = argument", "-1", "3").each("tell " + i + " # = argument", "-1", "3");
        }
        s.then("setMode 4 3 = index", "grant 4 16 = index", "send 4 5 = index", "decide " + next + " 3 = index")
            .then("tell " + next + " 3 = index");
    }

    /**
     * Terms: "An IndexOutOfBoundsException is thrown if there is no such link or delivery, an IllegalArgumentException
     * if another argument is out of its range, an IllegalStateException as told."
     */
    private static void noSuchLinkOrDelivery() {
        script("index").each("setMode # 0 = index", NO_LINKS).each("grant # 0 = index", NO_LINKS)
            .each("credit # = index", NO_LINKS).each("send # 1 = index", NO_LINKS)
            .each("# 0 = index", "forSender", "heard", "forReceiver", "effects").then("decide 0 0 = index",
                "tell 0 0 = index");
    }

    /**
     * Terms: "An IndexOutOfBoundsException is thrown if there is no such link or delivery, an IllegalArgumentException
     * if another argument is out of its range, an IllegalStateException as told."
     */
    private static void argumentOutOfItsRange() {
        script("argument").open(0, "LOOSE", 1).whole(0, 1).each("setMode 0 # = argument", "-1", "3")
            .each("grant 0 # = argument", "-1", "16").each("send 0 # = argument", "0", "5")
            .each("toReceiver # = argument", "0", "101").each("toSender # = argument", "0", "101")
            .each("decide 0 # = argument", "-1", "3").then("begin = 1").each("tell 0 # = argument", "-1", "3");
    }

    /**
     * Terms: "An IndexOutOfBoundsException is thrown if there is no such link or delivery, an IllegalArgumentException
     * if another argument is out of its range, an IllegalStateException as told."
     */
    private static void stateAsTold() {
        script("state").open(0, "ONCE_OR_MORE", 1).then("send 0 1 = 0", "send 0 1 = state", "decide 0 0 = state",
            "join = state")
            .then("tell 0 0 = state", "end true = state", "begin = 1", "begin = state", "breakOff = 1",
                "breakOff = state")
            .then("grant 0 0 = state", "begin = state");
    }

    /** Terms: "If several exceptions of a throws clause apply, the one that is listed first is thrown." */
    private static void indexBeforeArgument() {
        script("index before argument").open(0, "LOOSE", 2).whole(0, 1).then("begin = 1")
            .each("setMode # 3 = index", NO_LINKS).each("grant # 16 = index", NO_LINKS)
            .each("send # 5 = index", NO_LINKS)
            .each("decide # 3 = index", "-1", "1").each("tell # 3 = index", "-1", "1");
    }

    /** Terms: "If several exceptions of a throws clause apply, the one that is listed first is thrown." */
    private static void indexBeforeState() {
        script("index before state").open(0, "LOOSE", 2).whole(0, 1).each("tell # 0 = index", "-1", "1")
            .then("breakOff = 0").each("grant # 1 = index", NO_LINKS).each("send # 1 = index", NO_LINKS)
            .each("decide # 0 = index", "-1", "1").each("tell # 0 = index", "-1", "1");
        script("index before state, sixty").sixty(0, "LOOSE", 1).each("send # 1 = index", NO_LINKS);
    }

    /** Terms: "If several exceptions of a throws clause apply, the one that is listed first is thrown." */
    private static void argumentBeforeState() {
        script("argument before state").open(0, "LOOSE", 2).then("send 0 2 = 0").each("send 1 # = argument", "0", "5")
            .each("decide 0 # = argument", "-1", "3").each("tell 0 # = argument", "-1", "3")
            .then("toReceiver 2 = 1", "begin = 1", "tell 0 0 = 1").each("decide 0 # = argument", "-1", "3")
            .each("tell 0 # = argument", "-1", "3").then("breakOff = 0").each("grant 0 # = argument", "-1", "16")
            .each("send 0 # = argument", "0", "5").each("decide 0 # = argument", "-1", "3")
            .each("tell 0 # = argument", "-1", "3");
        script("argument before state, sixty").sixty(0, "LOOSE", 1).each("send 0 # = argument", "0", "5");
    }

    /** Terms: "If several exceptions of a throws clause apply, the one that is listed first is thrown." */
    private static void indexBeforeArgumentAndState() {
        script("index before both").open(0, "LOOSE", 2).then("send 0 1 = 0").each("tell # 3 = index", "-1", "1")
            .then("breakOff = 1").each("grant # 16 = index", NO_LINKS).each("send # 0 = index", NO_LINKS)
            .each("decide # -1 = index", "-1", "1").each("tell # -1 = index", "-1", "1");
    }

    /** Terms: "A call that throws an exception changes nothing." */
    private static void nothingThere() {
        Script s = script("nothing there");
        wrongArguments(s, 0);
        s.then("join = state", "end true = state", "end false = state").each("send # 1 = state", "0", "1", "2", "3");
    }

    /** Terms: "A call that throws an exception changes nothing." */
    private static void grantsUnderWay() {
        Script s = script("grants under way").then("grant 0 15 = 15", "grant 3 1 = 1", "grant 0 2 = 2",
            "setMode 1 2 = 0");
        wrongArguments(s, 0);
        s.then("join = state", "end true = state").each("send # 4 = state", "0", "1", "2", "3");
        s.then("toSender 1 = 0", "credit 0 = 15", "toSender 2 = 0", "credit 0 = 2", "setMode 1 0 = 2");
    }

    /** Terms: "A call that throws an exception changes nothing." */
    private static void creditUsedUp() {
        Script s = script("all credit used").open(0, "JUST_ONCE", 15);
        for (int i = 0; i < 15; i++) {
            s.then("send 0 1 = " + i);
        }
        wrongArguments(s, 15);
        s.times(2, "send 0 1 = state", "send 0 4 = state").then("credit 0 = 0", "deliveries = 15", "underWay = 15");
    }

    /** Terms: "A call that throws an exception changes nothing." */
    private static void partly() {
        Script s = script("PARTLY").open(1, "JUST_ONCE", 4).then("send 1 4 = 0", "send 1 2 = 1", "toReceiver 2 = 0");
        wrongArguments(s, 2);
        s.then("decide 0 0 = state", "decide 1 0 = state", "tell 0 0 = state", "join = state", "end true = state");
        s.then("begin = 1", "tell 0 0 = state", "tell 1 0 = state", "toReceiver 2 = 1", "toReceiver 2 = 1");
    }

    /** Terms: "A call that throws an exception changes nothing." */
    private static void whole() {
        Script s = script("WHOLE").open(1, "ONCE_OR_MORE", 4).open(2, "JUST_ONCE", 4).whole(1, 2).whole(2, 1);
        wrongArguments(s, 2);
        s.then("tell 0 0 = state", "tell 1 0 = state", "join = state", "end true = state", "send 0 1 = state");
        s.then("decide 0 0 = 1", "decide 1 1 = 0", "toSender 2 = 2");
    }

    /** Terms: "A call that throws an exception changes nothing." */
    private static void decided() {
        Script s = script("DECIDED").open(2, "JUST_ONCE", 4).whole(2, 1).then("decide 0 RELEASED = 0", "grant 2 5 = 6");
        wrongArguments(s, 1);
        s.each("decide 0 # = state", "0", "1", "2").each("tell 0 # = state", "0", "1", "2").then("join = state");
        s.then("begin = 1", "tell 0 0 = state", "toSender 1 = 1", "heard 0 = RELEASED", "toReceiver 1 = 0");
    }

    /** Terms: "A call that throws an exception changes nothing." */
    private static void forgetUnderWay() {
        Script s = script("FORGET under way").open(2, "JUST_ONCE", 4).whole(2, 1).then("decide 0 ACCEPTED = 1",
            "send 2 2 = 1")
            .then("toSender 1 = 1");
        wrongArguments(s, 2);
        s.then("decide 0 0 = state", "decide 1 0 = state", "tell 0 0 = state", "join = state", "end false = state");
        s.then("toReceiver 2 = 1", "forReceiver 0 = DECIDED", "toReceiver 1 = 0", "forReceiver 0 = FORGOTTEN");
    }

    /** Terms: "A call that throws an exception changes nothing." */
    private static void forgotten() {
        Script s = script("FORGOTTEN").open(0, "LOOSE", 4).open(1, "ONCE_OR_MORE", 4).whole(0, 1).whole(1, 1)
            .then("decide 0 ACCEPTED = 1", "decide 1 ACCEPTED = 1");
        wrongArguments(s, 2);
        s.each("decide # 0 = state", "0", "1").each("tell # 0 = state", "0", "1").then("begin = 1");
        s.each("tell # 0 = state", "0", "1").then("end true = 0", "effects 0 = 1", "effects 1 = 1", "toSender 1 = 1");
    }

    /** Terms: "A call that throws an exception changes nothing." */
    private static void partlyAnew() {
        Script s = script("PARTLY anew").open(1, "ONCE_OR_MORE", 4).whole(1, 3)
            .then("decide 0 ACCEPTED = 1", "breakOff = 1", "join = 1", "toReceiver 1 = 0");
        wrongArguments(s, 1);
        s.then("decide 0 0 = state", "tell 0 0 = state", "join = state", "send 1 1 = state", "begin = 1",
            "tell 0 0 = state");
        s.then("breakOff = 2", "join = 1", "forReceiver 0 = FORGOTTEN");
    }

    /** Terms: "A call that throws an exception changes nothing." */
    private static void transactionOpen() {
        Script s = script("a transaction is open").open(1, "ONCE_OR_MORE", 4).whole(1, 1).then("send 1 2 = 1",
            "begin = 1");
        wrongArguments(s, 2);
        s.times(2, "begin = state").then("tell 1 0 = state", "decide 1 0 = state", "join = state", "end true = 0",
            "begin = 2");
    }

    /** Terms: "A call that throws an exception changes nothing." */
    private static void outcomesWait() {
        Script s = script("outcomes wait").open(1, "ONCE_OR_MORE", 4).open(2, "JUST_ONCE", 4).whole(1, 1).whole(2, 1)
            .whole(1, 2).then("begin = 1", "tell 2 REJECTED = 1", "tell 0 ACCEPTED = 2");
        wrongArguments(s, 3);
        s.each("decide 0 # = state", "0", "1", "2").each("tell 0 # = state", "0", "1", "2").each("tell 2 # = state",
            "0", "1", "2");
        s.then("begin = state", "join = state", "tell 1 RELEASED = 3", "end true = 3", "toSender 1 = 1",
            "heard 2 = REJECTED");
        s.then("toSender 1 = 1", "heard 0 = ACCEPTED", "toSender 1 = 1", "heard 1 = RELEASED");
    }

    /** Terms: "A call that throws an exception changes nothing." */
    private static void otherOrderWaits() {
        script("the order of telling stays").open(1, "ONCE_OR_MORE", 4).whole(1, 1).whole(1, 1)
            .then("begin = 1", "tell 1 RELEASED = 1", "tell 0 ACCEPTED = 2", "tell 1 REJECTED = state", "begin = state")
            .then("end true = 2", "toSender 1 = 1", "heard 1 = RELEASED", "heard 0 = NONE", "toSender 1 = 1",
                "heard 0 = 0");
    }

    /** Terms: "A call that throws an exception changes nothing." */
    private static void down() {
        Script s = script("down").open(1, "ONCE_OR_MORE", 6).open(2, "JUST_ONCE", 6).whole(1, 1).whole(1, 1).whole(2, 1)
            .whole(2, 1).then("decide 0 ACCEPTED = 1", "decide 2 REJECTED = 0", "send 2 3 = 4", "toReceiver 1 = 0")
            .then("breakOff = 4");
        wrongArguments(s, 5);
        s.each("grant # 1 = state", "0", "1", "2", "3").each("send # 1 = state", "0", "1", "2", "3");
        s.each("decide # 0 = state", "0", "1", "2", "3", "4").each("tell # 0 = state", "0", "1", "2", "3", "4");
        s.then("breakOff = state", "begin = state", "end true = state", "end false = state", "join = 2",
            "underWay = 4");
    }

    /** Terms: "A call that throws an exception changes nothing." */
    private static void downAfterATransaction() {
        Script s = script("down after a transaction").open(2, "JUST_ONCE", 6).whole(2, 1).whole(2, 1)
            .then("begin = 1", "tell 1 ACCEPTED = 1", "breakOff = 0");
        wrongArguments(s, 2);
        s.then("begin = state", "end true = state", "end false = state", "breakOff = state", "grant 2 1 = state");
        s.each("decide # 0 = state", "0", "1").each("tell # 0 = state", "0", "1").then("join = 0", "begin = 2");
    }

    /** Terms: "A call that throws an exception changes nothing." */
    private static void joinedAgain() {
        Script s = script("joined again").open(1, "ONCE_OR_MORE", 6).whole(1, 1).then("send 1 4 = 1",
            "toReceiver 2 = 0")
            .then("begin = 1", "breakOff = 2", "join = 1", "grant 1 3 = 5");
        wrongArguments(s, 2);
        s.then("join = state", "end true = state", "tell 0 0 = state", "decide 1 0 = state").each("send # 1 = state",
            "0", "1");
        s.then("toSender 1 = 0", "credit 1 = 3", "toReceiver 4 = 1", "begin = 2");
    }

    /** Terms: "A call that throws an exception changes nothing." */
    private static void sixtyDeliveries() {
        Script s = script("sixty").sixty(2, "JUST_ONCE", 1).then("grant 2 15 = 11", "toSender 1 = 0", "credit 2 = 15");
        s.each("send 2 # = state", "1", "4").each("send 0 # = state", "1", "4").each("forSender # = index", "-1", "60");
        s.each("decide # 0 = index", "-1", "60").each("tell # 0 = index", "-1", "60").then("tell 59 0 = state");
        s.each("decide 59 # = argument", "-1", "3").then("credit 2 = 15", "deliveries = 60", "decide 59 0 = 1");
    }

    /** Terms: "A call that throws an exception changes nothing." */
    private static void sixtyOutcomesWait() {
        Script s = script("sixty wait").sixty(1, "ONCE_OR_MORE", 1).then("begin = 1");
        for (int i = 59; i >= 0; i--) {
            s.then("tell " + i + " " + i % 3 + " = " + (60 - i));
        }
        s.each("tell # 0 = state", "0", "30", "59").each("decide # 0 = state", "0", "30", "59").then("begin = state");
        s.then("tell 60 0 = index", "tell 59 3 = argument", "end true = 60", "toSender 1 = 1", "heard 59 = 2");
    }

    /** Terms: "A call that throws an exception changes nothing." */
    private static void countsPast15() {
        Script s = script("counts past 15").open(0, "LOOSE", 15);
        for (int i = 0; i < 15; i++) {
            s.whole(0, 1);
        }
        s.then("grant 0 4 = 3", "toSender 1 = 0").whole(0, 1).whole(0, 1).then("credit 0 = 2", "grant 0 15 = 0");
        wrongArguments(s, 17);
        s.then("send 1 1 = state", "grant 0 0 = 1", "grant 0 1 = 2", "toSender 1 = 0", "credit 0 = 15",
            "toSender 1 = 0");
        s.then("credit 0 = 0", "send 0 1 = state", "toSender 1 = 0", "credit 0 = 1", "send 0 1 = 17",
            "send 0 1 = state");
    }
}
