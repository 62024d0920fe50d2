/** Promises 1 to 4, sentence by sentence: a new object, setMode, grant, credit. */
public final class EdgesOfLinksTest {
    private static final Expect EXPECT = new Expect("EdgesOfLinksTest");
    private static final String[] NO_LINKS = {"-1", "4", "5", "MIN", "MAX"};

    public static void main(String[] args) {
        newObject();
        newObjectRefuses();
        setModeFromNowOn();
        setModeWhileUnderWay();
        setModeBeforeSentAnew();
        setModeBeforeCommit();
        setModeLinks();
        setModeModes();
        setModeReturns();
        setModeNoSuchLink();
        setModeNoSuchMode();
        grantSendsAFrame();
        grantLinks();
        grantCredits();
        grantReturns();
        grantNoSuchLink();
        grantCreditOutOfRange();
        grantWhileDown();
        creditOfTheSender();
        creditLinks();
        creditNoSuchLink();
        EXPECT.finish();
    }

    private static Script script(String title) {
        return new Script(EXPECT, title);
    }

    /** Promise 1: "Begins with the connection up, without deliveries." */
    private static void newObject() {
        script("a new object").then("isUp = true", "deliveries = 0", "underWay = 0", "backUnderWay = 0")
            .then("wouldResend = 0", "toReceiver 100 = 0", "toSender 100 = 0").each("credit # = 0", "0", "1", "2", "3")
            .then("begin = 1", "end true = 0", "breakOff = 0", "wouldResend = 0", "join = 0");
    }

    /** Promise 1: "Begins with the connection up, without deliveries." */
    private static void newObjectRefuses() {
        script("a new object refuses").then("join = state", "end true = state", "end false = state")
            .each("# 0 = index", "forSender", "heard", "forReceiver", "effects")
            .then("decide 0 ACCEPTED = index", "tell 0 ACCEPTED = index").each("send # 1 = state", "0", "1", "2", "3");
    }

    /**
     * Promise 2: "Sets the mode of a link, for deliveries that are sent from now on; a delivery keeps the mode that its
     * link had when it was sent."
     */
    private static void setModeFromNowOn() {
        script("modes change between deliveries").open(1, "LOOSE", 9).whole(1, 1)
            .then("setMode 1 JUST_ONCE = LOOSE").whole(1, 1).then("setMode 1 ONCE_OR_MORE = JUST_ONCE").whole(1, 1)
            .then("forSender 0 = SETTLED", "forSender 1 = OPEN", "forSender 2 = OPEN")
            .each("decide # RELEASED = 0", "0", "1", "2").then("setMode 1 LOOSE = ONCE_OR_MORE").whole(1, 1)
            .then("forReceiver 0 = FORGOTTEN", "forReceiver 1 = DECIDED", "forReceiver 2 = FORGOTTEN")
            .then("backUnderWay = 2", "toSender 2 = 2", "underWay = 1", "forSender 3 = SETTLED");
    }

    /**
     * Promise 2: "Sets the mode of a link, for deliveries that are sent from now on; a delivery keeps the mode that its
     * link had when it was sent."
     */
    private static void setModeWhileUnderWay() {
        script("a mode changes under way").open(1, "JUST_ONCE", 9).then("send 1 2 = 0", "setMode 1 LOOSE = JUST_ONCE")
            .then("forSender 0 = OPEN", "toReceiver 1 = 0", "setMode 1 ONCE_OR_MORE = LOOSE", "toReceiver 1 = 1")
            .then("decide 0 ACCEPTED = 1", "forReceiver 0 = DECIDED", "setMode 1 LOOSE = ONCE_OR_MORE",
                "toSender 1 = 1")
            .then("underWay = 1", "heard 0 = ACCEPTED");
    }

    /**
     * Promise 2: "Sets the mode of a link, for deliveries that are sent from now on; a delivery keeps the mode that its
     * link had when it was sent."
     */
    private static void setModeBeforeSentAnew() {
        script("a mode changes while down").open(1, "ONCE_OR_MORE", 9).then("send 1 1 = 0", "breakOff = 1")
            .then("setMode 1 JUST_ONCE = ONCE_OR_MORE", "join = 1", "toReceiver 1 = 1", "decide 0 ACCEPTED = 1")
            .then("forReceiver 0 = FORGOTTEN", "setMode 1 LOOSE = JUST_ONCE", "breakOff = 1", "join = 1")
            .then("toReceiver 1 = 1", "decide 0 ACCEPTED = 2", "toSender 1 = 1", "underWay = 0");
    }

    /**
     * Promise 2: "Sets the mode of a link, for deliveries that are sent from now on; a delivery keeps the mode that its
     * link had when it was sent."
     */
    private static void setModeBeforeCommit() {
        script("a mode changes in a transaction").open(1, "LOOSE", 9).whole(1, 1).then("begin = 1")
            .then("tell 0 ACCEPTED = 1", "setMode 1 JUST_ONCE = LOOSE", "end true = 1", "forReceiver 0 = FORGOTTEN")
            .then("backUnderWay = 0", "forSender 0 = SETTLED", "heard 0 = NONE");
    }

    /** Promise 2: "`link`: 0 to 3" */
    private static void setModeLinks() {
        script("setMode, links").then("setMode 0 ONCE_OR_MORE = LOOSE", "setMode 3 JUST_ONCE = LOOSE")
            .then("setMode -1 LOOSE = index", "setMode 4 LOOSE = index", "setMode 1 LOOSE = LOOSE")
            .then("setMode 2 LOOSE = LOOSE", "setMode 0 LOOSE = ONCE_OR_MORE", "setMode 3 LOOSE = JUST_ONCE");
    }

    /** Promise 2: "`mode`: LOOSE, ONCE_OR_MORE or JUST_ONCE" */
    private static void setModeModes() {
        script("setMode, modes").then("setMode 2 0 = LOOSE", "setMode 2 -1 = argument", "setMode 2 1 = LOOSE")
            .then("setMode 2 3 = argument", "setMode 2 2 = ONCE_OR_MORE", "setMode 2 3 = argument")
            .then("setMode 2 -1 = argument", "setMode 2 0 = JUST_ONCE");
    }

    /** Promise 2: "Returns the mode before." */
    private static void setModeReturns() {
        script("setMode, the mode before").then("setMode 1 JUST_ONCE = LOOSE", "setMode 1 JUST_ONCE = JUST_ONCE")
            .then("breakOff = 0", "setMode 1 ONCE_OR_MORE = JUST_ONCE", "join = 0", "setMode 1 LOOSE = ONCE_OR_MORE")
            .then("setMode 1 LOOSE = LOOSE");
    }

    /** Promise 2: "Throws `IndexOutOfBoundsException` if there is no such link" */
    private static void setModeNoSuchLink() {
        script("setMode, no such link").then("setMode 3 JUST_ONCE = LOOSE").each("setMode # LOOSE = index", NO_LINKS)
            .each("setMode # 3 = index", NO_LINKS).each("setMode # -1 = index", NO_LINKS)
            .then("breakOff = 0").each("setMode # ONCE_OR_MORE = index", NO_LINKS);
    }

    /** Promise 2: "Throws `IllegalArgumentException` if there is no such mode" */
    private static void setModeNoSuchMode() {
        script("setMode, no such mode").then("setMode 0 JUST_ONCE = LOOSE")
            .each("setMode 0 # = argument", "-1", "3", "4", "MIN", "MAX").then("setMode 3 3 = argument", "breakOff = 0")
            .then("setMode 0 3 = argument", "setMode 0 -1 = argument", "setMode 0 LOOSE = JUST_ONCE");
    }

    /** Promise 3: "Lets the receiver grant credit on a link." */
    private static void grantSendsAFrame() {
        script("grant").then("backUnderWay = 0", "grant 1 4 = 4", "backUnderWay = 1", "underWay = 0", "credit 1 = 0")
            .then("grant 1 0 = 0", "backUnderWay = 2", "toSender 1 = 0", "credit 1 = 4", "toSender 1 = 0",
                "credit 1 = 0");
    }

    /** Promise 3: "`link`: 0 to 3" */
    private static void grantLinks() {
        script("grant, links").then("grant -1 1 = index", "grant 0 1 = 1", "grant 3 2 = 2", "grant 4 1 = index")
            .then("toSender 100 = 0", "credit 0 = 1", "credit 1 = 0", "credit 2 = 0", "credit 3 = 2");
    }

    /** Promise 3: "`credit`: 0 to 15" */
    private static void grantCredits() {
        script("grant, credits").then("grant 2 -1 = argument", "grant 2 0 = 0", "grant 2 15 = 15",
            "grant 2 16 = argument")
            .then("backUnderWay = 2", "toSender 1 = 0", "credit 2 = 0", "toSender 1 = 0", "credit 2 = 15");
    }

    /** Promise 3: "Returns the limit that it tells." */
    private static void grantReturns() {
        Script s = script("grant, the limit").open(3, "LOOSE", 15);
        for (int came = 1; came <= 15; came++) {
            s.whole(3, 1).then("grant 3 0 = " + came, "grant 3 " + (15 - came) + " = 15");
            s.then("grant 3 " + (16 - came) + " = 0", "grant 3 15 = " + (came - 1));
        }
        s.then("toSender 100 = 0", "credit 3 = 15").whole(3, 1).then("grant 3 0 = 0", "grant 3 15 = 15");
    }

    /** Promise 3: "Throws `IndexOutOfBoundsException` if there is no such link" */
    private static void grantNoSuchLink() {
        script("grant, no such link").then("grant 0 3 = 3").each("grant # 1 = index", NO_LINKS)
            .each("grant # 16 = index", NO_LINKS).each("grant # -1 = index", NO_LINKS)
            .then("breakOff = 1").each("grant # 1 = index", NO_LINKS).each("grant # 16 = index", NO_LINKS);
    }

    /** Promise 3: "Throws `IllegalArgumentException` if credit is out of range" */
    private static void grantCreditOutOfRange() {
        script("grant, credit out of range").each("grant 0 # = argument", "-1", "16", "17", "MIN", "MAX")
            .then("grant 3 16 = argument", "grant 3 -1 = argument", "breakOff = 0", "grant 0 16 = argument")
            .then("grant 0 -1 = argument", "join = 0", "grant 0 16 = argument", "backUnderWay = 0");
    }

    /** Promise 3: "Throws `IllegalStateException` if the connection is not up" */
    private static void grantWhileDown() {
        script("grant while down").then("breakOff = 0").each("grant # 0 = state", "0", "1", "2", "3")
            .then("grant 0 15 = state", "backUnderWay = 0", "join = 0", "grant 0 15 = 15", "backUnderWay = 1");
    }

    /** Promise 4: "Returns the credit that the sender has on a link." */
    private static void creditOfTheSender() {
        script("credit").then("credit 1 = 0", "grant 1 2 = 2", "credit 1 = 0", "toSender 1 = 0", "credit 1 = 2")
            .then("send 1 4 = 0", "credit 1 = 1", "send 1 1 = 1", "credit 1 = 0", "toReceiver 5 = 2", "credit 1 = 0")
            .then("grant 1 15 = 1", "credit 1 = 0", "toSender 1 = 0", "credit 1 = 15", "breakOff = 0", "credit 1 = 15")
            .then("join = 0", "credit 1 = 0");
    }

    /** Promise 4: "`link`: 0 to 3" */
    private static void creditLinks() {
        script("credit, links").then("grant 0 1 = 1", "grant 1 5 = 5", "grant 2 10 = 10", "grant 3 15 = 15")
            .then("toSender 4 = 0", "credit -1 = index", "credit 0 = 1", "credit 1 = 5", "credit 2 = 10",
                "credit 3 = 15")
            .then("credit 4 = index");
    }

    /** Promise 4: "Throws `IndexOutOfBoundsException` if there is no such link" */
    private static void creditNoSuchLink() {
        script("credit, no such link").each("credit # = index", NO_LINKS).open(0, "LOOSE", 4).then("send 0 2 = 0")
            .each("credit # = index", NO_LINKS).then("breakOff = 2").each("credit # = index", NO_LINKS);
    }
}
