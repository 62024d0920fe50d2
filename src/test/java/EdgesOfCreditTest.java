/** "What it is" and the part of "Terms" on links, frames and credit: a test for each sentence that names an edge. */
public final class EdgesOfCreditTest {
    private static final Expect EXPECT = new Expect("EdgesOfCreditTest");

    public static void main(String[] args) {
        call512AfterGrants();
        call512AfterABreak();
        call512AfterAllKinds();
        fourLinks();
        modesOfLinks();
        connectionIsUpAtFirst();
        rowOfTheSender();
        rowOfTheReceiver();
        rowsAreApart();
        senderCountAndLimitAtFirst();
        senderCountPasses15();
        senderLimitPasses15();
        mostCreditAndNone();
        limitBehindTheCount();
        receiverCountPasses15();
        receiverCountsFirstFramesOnly();
        receiverCountsNoneSentAnew();
        receiverCountsNoForget();
        receiverCountsLinksApart();
        limitStaysAsItWasTold();
        limitHoldsWhenItComes();
        smallerLimitHoldsToo();
        countsMeetWhenJoined();
        countsMeetAt15();
        countsMeetPast15();
        countsOfAllLinksMeet();
        EXPECT.finish();
    }

    private static Script script(String title) {
        return new Script(EXPECT, title);
    }

    /**
     * What it is: "An object is used for at most 512 calls after it has been made; what later calls answer is free."
     */
    private static void call512AfterGrants() {
        Script s = script("511 grants");
        for (int i = 0; i < 511; i++) {
            s.then("grant " + i % 4 + " " + i % 16 + " = " + i % 16);
        }
        s.then("backUnderWay = 511");
    }

    /**
     * What it is: "An object is used for at most 512 calls after it has been made; what later calls answer is free."
     */
    private static void call512AfterABreak() {
        Script s = script("511 grants, a break");
        for (int i = 0; i < 511; i++) {
            s.then("grant " + i % 4 + " " + i % 16 + " = " + i % 16);
        }
        s.then("breakOff = 511");
    }

    /**
     * What it is: "An object is used for at most 512 calls after it has been made; what later calls answer is free."
     */
    private static void call512AfterAllKinds() {
        Script s = script("512 calls of all kinds").then("setMode 3 JUST_ONCE = LOOSE");
        for (int i = 0; i < 496; i++) {
            s.then("grant " + i % 4 + " " + i % 16 + " = " + i % 16);
        }
        s.times(5, "toSender 100 = 0");
        s.then("credit 3 = 15", "send 3 1 = 0", "send 3 4 = 1", "credit 3 = 13", "toReceiver 100 = 2",
            "decide 0 ACCEPTED = 1", "begin = 1", "tell 1 ACCEPTED = 1", "end true = 1", "toSender 100 = 2");
    }

    /** Terms: "There are 4 links, 0 to 3." */
    private static void fourLinks() {
        Script s = script("links 0 to 3");
        for (int link = 0; link <= 3; link++) {
            s.then("setMode " + link + " ONCE_OR_MORE = LOOSE", "grant " + link + " 2 = 2", "toSender 1 = 0",
                "credit " + link + " = 2", "send " + link + " 1 = " + link);
        }
        for (int link : new int[] {-1, 4}) {
            s.then("setMode " + link + " LOOSE = index", "grant " + link + " 2 = index", "credit " + link + " = index",
                "send " + link + " 1 = index");
        }
    }

    /** Terms: "A link has a mode: LOOSE, ONCE_OR_MORE or JUST_ONCE; at first LOOSE." */
    private static void modesOfLinks() {
        for (int link = 0; link <= 3; link++) {
            script("the first mode of " + link).then("setMode " + link + " LOOSE = LOOSE",
                "setMode " + link + " ONCE_OR_MORE = LOOSE", "setMode " + link + " JUST_ONCE = ONCE_OR_MORE",
                "setMode " + link + " LOOSE = JUST_ONCE");
            script("sent in the first mode of " + link).then("grant " + link + " 1 = 1", "toSender 1 = 0",
                "send " + link + " 1 = 0", "forSender 0 = SETTLED", "toReceiver 1 = 1", "decide 0 ACCEPTED = 1",
                "forReceiver 0 = FORGOTTEN", "backUnderWay = 0");
        }
    }

    /** Terms: "The connection is up at first." */
    private static void connectionIsUpAtFirst() {
        script("up at first").then("isUp = true", "join = state", "breakOff = 0", "isUp = false");
    }

    /** Terms: "Frames of the sender, and of the receiver, are under way in two rows, first in, first out." */
    private static void rowOfTheSender() {
        script("the sender's row").open(1, "JUST_ONCE", 9).whole(1, 1)
            .then("send 1 2 = 1", "decide 0 REJECTED = 0", "toSender 1 = 1", "send 1 1 = 2", "underWay = 4")
            .then("toReceiver 1 = 0", "forReceiver 1 = PARTLY", "forReceiver 0 = DECIDED", "forReceiver 2 = UNKNOWN")
            .then("toReceiver 1 = 1", "forReceiver 1 = WHOLE", "forReceiver 0 = DECIDED", "forReceiver 2 = UNKNOWN")
            .then("toReceiver 1 = 0", "forReceiver 0 = FORGOTTEN", "forReceiver 2 = UNKNOWN")
            .then("toReceiver 1 = 1", "forReceiver 2 = WHOLE", "underWay = 0");
    }

    /** Terms: "Frames of the sender, and of the receiver, are under way in two rows, first in, first out." */
    private static void rowOfTheReceiver() {
        script("the receiver's row").open(1, "ONCE_OR_MORE", 9).whole(1, 1).whole(1, 1)
            .then("grant 0 5 = 5", "decide 1 REJECTED = 0", "grant 0 3 = 3", "decide 0 RELEASED = 0")
            .then("toSender 1 = 0", "credit 0 = 5", "forSender 1 = OPEN")
            .then("toSender 1 = 1", "forSender 1 = SETTLED", "credit 0 = 5")
            .then("toSender 1 = 0", "credit 0 = 3", "forSender 0 = OPEN")
            .then("toSender 1 = 1", "forSender 0 = SETTLED", "backUnderWay = 0");
    }

    /** Terms: "Frames of the sender, and of the receiver, are under way in two rows, first in, first out." */
    private static void rowsAreApart() {
        script("two rows").open(0, "LOOSE", 9).then("send 0 3 = 0", "grant 0 1 = 1", "underWay = 3", "backUnderWay = 1")
            .then("toReceiver 1 = 0", "underWay = 2", "backUnderWay = 1")
            .then("toSender 1 = 0", "underWay = 2", "backUnderWay = 0")
            .then("toSender 1 = 0", "underWay = 2", "toReceiver 2 = 1", "underWay = 0");
    }

    /**
     * Terms: "The sender has for each link a count, 0 to 15, of what it has sent, and a limit, 0 to 15, both 0 at
     * first; its credit is the limit less the count, modulo 16, from 0 to 15."
     */
    private static void senderCountAndLimitAtFirst() {
        for (int link = 0; link <= 3; link++) {
            script("credit at first").then("credit " + link + " = 0", "send " + link + " 1 = state",
                "grant " + link + " 1 = 1", "toSender 1 = 0", "credit " + link + " = 1", "send " + link + " 1 = 0",
                "credit " + link + " = 0", "send " + link + " 1 = state");
        }
    }

    /**
     * Terms: "The sender has for each link a count, 0 to 15, of what it has sent, and a limit, 0 to 15, both 0 at
     * first; its credit is the limit less the count, modulo 16, from 0 to 15."
     */
    private static void senderCountPasses15() {
        Script s = script("the sender's count passes 15").open(2, "LOOSE", 15);
        for (int i = 0; i < 15; i++) {
            s.then("credit 2 = " + (15 - i)).whole(2, 1);
        }
        s.then("credit 2 = 0", "grant 2 3 = 2", "toSender 1 = 0", "credit 2 = 3");
        s.then("send 2 1 = 15", "credit 2 = 2", "send 2 1 = 16", "credit 2 = 1", "send 2 1 = 17", "credit 2 = 0");
        s.then("send 2 1 = state");
    }

    /**
     * Terms: "The sender has for each link a count, 0 to 15, of what it has sent, and a limit, 0 to 15, both 0 at
     * first; its credit is the limit less the count, modulo 16, from 0 to 15."
     */
    private static void senderLimitPasses15() {
        Script s = script("the sender's limit passes 15").open(2, "LOOSE", 15);
        for (int i = 0; i < 8; i++) {
            s.whole(2, 2);
        }
        s.then("grant 2 7 = 15", "toSender 1 = 0", "credit 2 = 7");
        s.then("grant 2 8 = 0", "toSender 1 = 0", "credit 2 = 8");
        s.then("grant 2 9 = 1", "toSender 1 = 0", "credit 2 = 9");
    }

    /**
     * Terms: "The sender has for each link a count, 0 to 15, of what it has sent, and a limit, 0 to 15, both 0 at
     * first; its credit is the limit less the count, modulo 16, from 0 to 15."
     */
    private static void mostCreditAndNone() {
        Script s = script("credit from 15 to 0").open(3, "ONCE_OR_MORE", 15);
        for (int i = 0; i < 15; i++) {
            s.then("send 3 4 = " + i, "credit 3 = " + (14 - i));
        }
        s.then("send 3 4 = state", "send 3 1 = state", "grant 3 0 = 0", "toSender 1 = 0", "credit 3 = 1");
        s.then("send 3 1 = 15", "credit 3 = 0", "send 3 1 = state", "toReceiver 61 = 16", "grant 3 15 = 15");
        s.then("toSender 1 = 0", "credit 3 = 15");
    }

    /**
     * Terms: "The sender has for each link a count, 0 to 15, of what it has sent, and a limit, 0 to 15, both 0 at
     * first; its credit is the limit less the count, modulo 16, from 0 to 15."
     */
    private static void limitBehindTheCount() {
        script("a limit behind the count").open(0, "LOOSE", 3)
            .then("send 0 1 = 0", "send 0 1 = 1", "grant 0 2 = 2", "grant 0 1 = 1", "grant 0 0 = 0")
            .then("toSender 1 = 0", "credit 0 = 0", "send 0 1 = state")
            .then("toSender 1 = 0", "credit 0 = 15", "toSender 1 = 0", "credit 0 = 14");
    }

    /**
     * Terms: "The receiver grants credit by a frame that tells a limit: the count of what came to it of this link (it
     * counts likewise, 0 to 15, when the first frame of a delivery comes that was not sent anew) and the credit
     * granted, added, modulo 16."
     */
    private static void receiverCountPasses15() {
        Script s = script("the receiver's count passes 15").open(1, "ONCE_OR_MORE", 15);
        for (int i = 0; i < 14; i++) {
            s.whole(1, 1);
        }
        s.then("grant 1 0 = 14", "grant 1 1 = 15", "grant 1 2 = 0", "grant 1 15 = 13").whole(1, 1);
        s.then("grant 1 0 = 15", "grant 1 1 = 0", "grant 1 15 = 14", "toSender 100 = 0", "credit 1 = 15").whole(1, 1);
        s.then("grant 1 0 = 0", "grant 1 1 = 1", "grant 1 15 = 15").whole(1, 1);
        s.then("grant 1 0 = 1", "grant 1 14 = 15", "grant 1 15 = 0");
    }

    /**
     * Terms: "The receiver grants credit by a frame that tells a limit: the count of what came to it of this link (it
     * counts likewise, 0 to 15, when the first frame of a delivery comes that was not sent anew) and the credit
     * granted, added, modulo 16."
     */
    private static void receiverCountsFirstFramesOnly() {
        script("frame by frame").open(0, "LOOSE", 15).then("send 0 4 = 0", "send 0 1 = 1", "grant 0 0 = 0")
            .then("toReceiver 1 = 0", "grant 0 0 = 1", "toReceiver 1 = 0", "grant 0 0 = 1")
            .then("toReceiver 1 = 0", "grant 0 0 = 1", "toReceiver 1 = 1", "grant 0 0 = 1")
            .then("toReceiver 1 = 1", "grant 0 0 = 2", "decide 0 ACCEPTED = 1", "grant 0 0 = 2");
    }

    /**
     * Terms: "The receiver grants credit by a frame that tells a limit: the count of what came to it of this link (it
     * counts likewise, 0 to 15, when the first frame of a delivery comes that was not sent anew) and the credit
     * granted, added, modulo 16."
     */
    private static void receiverCountsNoneSentAnew() {
        script("sent anew").open(1, "ONCE_OR_MORE", 15).then("send 1 2 = 0", "send 1 1 = 1", "toReceiver 1 = 0")
            .then("grant 1 0 = 1", "breakOff = 3", "join = 2", "grant 1 0 = 2")
            .then("toReceiver 1 = 0", "grant 1 0 = 2", "toReceiver 1 = 1", "grant 1 0 = 2")
            .then("toReceiver 1 = 1", "grant 1 0 = 2", "decide 1 ACCEPTED = 1", "breakOff = 5", "join = 1")
            .then("toReceiver 1 = 1", "forReceiver 1 = WHOLE", "grant 1 3 = 5", "toSender 1 = 0", "credit 1 = 3")
            .then("send 1 2 = 2", "grant 1 0 = 2", "toReceiver 1 = 0", "grant 1 0 = 3");
    }

    /**
     * Terms: "The receiver grants credit by a frame that tells a limit: the count of what came to it of this link (it
     * counts likewise, 0 to 15, when the first frame of a delivery comes that was not sent anew) and the credit
     * granted, added, modulo 16."
     */
    private static void receiverCountsNoForget() {
        script("a FORGET frame comes").open(2, "JUST_ONCE", 15).whole(2, 1)
            .then("decide 0 ACCEPTED = 1", "toSender 1 = 1", "underWay = 1", "grant 2 0 = 1", "toReceiver 1 = 0")
            .then("forReceiver 0 = FORGOTTEN", "grant 2 0 = 1", "grant 0 0 = 0");
    }

    /**
     * Terms: "The receiver grants credit by a frame that tells a limit: the count of what came to it of this link (it
     * counts likewise, 0 to 15, when the first frame of a delivery comes that was not sent anew) and the credit
     * granted, added, modulo 16."
     */
    private static void receiverCountsLinksApart() {
        script("each link by itself").open(0, "LOOSE", 5).open(3, "LOOSE", 5)
            .whole(3, 1).whole(0, 2).whole(3, 3)
            .then("grant 0 0 = 1", "grant 1 0 = 0", "grant 2 0 = 0", "grant 3 0 = 2");
    }

    /** Terms: "When that comes to the sender, it is its limit." */
    private static void limitStaysAsItWasTold() {
        script("a limit under way, and deliveries that come").open(0, "LOOSE", 9)
            .then("send 0 1 = 0", "grant 0 4 = 4", "send 0 2 = 1", "toReceiver 1 = 1", "grant 0 4 = 5")
            .then("toReceiver 2 = 1", "grant 0 4 = 6", "credit 0 = 7", "toSender 1 = 0", "credit 0 = 2")
            .then("toSender 1 = 0", "credit 0 = 3", "toSender 1 = 0", "credit 0 = 4");
    }

    /** Terms: "When that comes to the sender, it is its limit." */
    private static void limitHoldsWhenItComes() {
        script("a limit comes").then("grant 1 15 = 15", "credit 1 = 0", "send 1 1 = state", "toSender 1 = 0")
            .then("credit 1 = 15", "credit 0 = 0", "credit 2 = 0", "credit 3 = 0", "send 1 1 = 0");
    }

    /** Terms: "When that comes to the sender, it is its limit." */
    private static void smallerLimitHoldsToo() {
        script("the last limit that came holds").then("grant 2 15 = 15", "grant 2 0 = 0", "grant 2 1 = 1")
            .then("toSender 1 = 0", "credit 2 = 15", "toSender 1 = 0", "credit 2 = 0", "send 2 1 = state")
            .then("toSender 1 = 0", "credit 2 = 1", "send 2 1 = 0", "credit 2 = 0");
    }

    /**
     * Terms: "When the connection is joined again, the count of the receiver becomes that of the sender, and the limit
     * of the sender its count."
     */
    private static void countsMeetWhenJoined() {
        Script s = script("14 sent, 7 came").open(1, "LOOSE", 15);
        for (int i = 0; i < 14; i++) {
            s.then("send 1 1 = " + i);
        }
        s.then("toReceiver 7 = 7", "grant 1 3 = 10", "credit 1 = 1", "breakOff = 8", "credit 1 = 1", "join = 0");
        s.then("credit 1 = 0", "send 1 1 = state", "grant 1 0 = 14", "grant 1 1 = 15", "grant 1 2 = 0");
        s.then("toSender 1 = 0", "credit 1 = 0", "toSender 1 = 0", "credit 1 = 1", "toSender 1 = 0", "credit 1 = 2");
    }

    /**
     * Terms: "When the connection is joined again, the count of the receiver becomes that of the sender, and the limit
     * of the sender its count."
     */
    private static void countsMeetAt15() {
        Script s = script("15 sent, none came").open(1, "LOOSE", 15);
        for (int i = 0; i < 15; i++) {
            s.then("send 1 1 = " + i);
        }
        s.then("breakOff = 15", "credit 1 = 0", "join = 0", "credit 1 = 0", "grant 1 0 = 15", "grant 1 15 = 14");
        s.then("grant 1 1 = 0", "toSender 3 = 0", "credit 1 = 1", "send 1 1 = 15", "toReceiver 1 = 1", "grant 1 0 = 0");
    }

    /**
     * Terms: "When the connection is joined again, the count of the receiver becomes that of the sender, and the limit
     * of the sender its count."
     */
    private static void countsMeetPast15() {
        Script s = script("17 sent, 15 came").open(0, "LOOSE", 15);
        for (int i = 0; i < 15; i++) {
            s.whole(0, 1);
        }
        s.then("grant 0 5 = 4", "toSender 1 = 0", "send 0 1 = 15", "send 0 1 = 16", "credit 0 = 3", "grant 0 0 = 15");
        s.then("breakOff = 3", "credit 0 = 3", "join = 0", "credit 0 = 0", "grant 0 0 = 1", "grant 0 15 = 0");
        s.then("toSender 2 = 0", "credit 0 = 15");
    }

    /**
     * Terms: "When the connection is joined again, the count of the receiver becomes that of the sender, and the limit
     * of the sender its count."
     */
    private static void countsOfAllLinksMeet() {
        Script s = script("0, 1, 2 and 3 sent on links 0 to 3");
        int number = 0;
        for (int link = 0; link <= 3; link++) {
            s.open(link, "LOOSE", 9);
            for (int i = 0; i < link; i++) {
                s.then("send " + link + " 2 = " + number++);
            }
        }
        s.then("breakOff = 12", "join = 0");
        for (int link = 0; link <= 3; link++) {
            s.then("credit " + link + " = 0", "grant " + link + " 0 = " + link);
        }
    }
}
