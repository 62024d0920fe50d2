/** Promises 1 to 4: a new object, setMode, grant, credit. */
public final class LinksTest {
    private static final int[] NO_LINKS = {-1, 4, 5, Integer.MIN_VALUE, Integer.MAX_VALUE};
    private static final Expect EXPECT = new Expect("LinksTest");

    public static void main(String[] args) {
        promise1NewObject();
        promise2ModesAreKept();
        promise2DeliveryKeepsItsMode();
        promise2WrongInputs();
        promise3LimitFollowsWhatCame();
        promise3FramesComeInTheirOrder();
        promise3WrongInputs();
        promise4CreditWraps();
        promise4LinksCountForThemselves();
        promise4OlderLimitMayGiveMore();
        promise4WrongInputs();
        EXPECT.finish();
    }

    private static void promise1NewObject() {
        CreditLinks x = new CreditLinks();
        EXPECT.yes("a new object is up", x.isUp());
        EXPECT.same("deliveries of a new object", x.deliveries(), 0);
        EXPECT.same("a new object", View.of(x), "up under way 0/0 would resend 0 credit 0 0 0 0");
        EXPECT.wrongState("join of a new object", x, () -> x.join());
        EXPECT.wrongState("end of a new object", x, () -> x.end(false));
        EXPECT.same("begin of a new object", x.begin(), 1);
    }

    private static void promise2ModesAreKept() {
        CreditLinks x = new CreditLinks();
        for (int link = 0; link < 4; link++) {
            EXPECT.same("the first mode of link " + link, x.setMode(link, CreditLinks.ONCE_OR_MORE), CreditLinks.LOOSE);
        }
        EXPECT.same("the mode of link 3", x.setMode(3, CreditLinks.JUST_ONCE), CreditLinks.ONCE_OR_MORE);
        EXPECT.same("the mode of link 3", x.setMode(3, CreditLinks.JUST_ONCE), CreditLinks.JUST_ONCE);
        EXPECT.same("the mode of link 2", x.setMode(2, CreditLinks.LOOSE), CreditLinks.ONCE_OR_MORE);
        x.breakOff();
        EXPECT.same("the mode set while down", x.setMode(0, CreditLinks.JUST_ONCE), CreditLinks.ONCE_OR_MORE);
        x.join();
        EXPECT.same("the mode after joining", x.setMode(0, CreditLinks.LOOSE), CreditLinks.JUST_ONCE);
    }

    private static void promise2DeliveryKeepsItsMode() {
        CreditLinks x = Setup.withCredit(2, CreditLinks.JUST_ONCE, 5);
        x.send(2, 1);
        x.setMode(2, CreditLinks.LOOSE);
        x.send(2, 1);
        x.setMode(2, CreditLinks.ONCE_OR_MORE);
        x.send(2, 1);
        EXPECT.same("the one that was sent JUST_ONCE", x.forSender(0), CreditLinks.OPEN);
        EXPECT.same("the one that was sent LOOSE", x.forSender(1), CreditLinks.SETTLED);
        EXPECT.same("the one that was sent ONCE_OR_MORE", x.forSender(2), CreditLinks.OPEN);
        x.toReceiver(3);
        for (int i = 0; i < 3; i++) {
            x.decide(i, CreditLinks.REJECTED);
        }
        EXPECT.same("JUST_ONCE, decided", x.forReceiver(0), CreditLinks.DECIDED);
        EXPECT.same("LOOSE, decided", x.forReceiver(1), CreditLinks.FORGOTTEN);
        EXPECT.same("ONCE_OR_MORE, decided", x.forReceiver(2), CreditLinks.FORGOTTEN);
        EXPECT.same("outcomes under way", x.backUnderWay(), 2);
    }

    private static void promise2WrongInputs() {
        CreditLinks x = new CreditLinks();
        x.setMode(0, CreditLinks.ONCE_OR_MORE);
        for (int link : NO_LINKS) {
            EXPECT.noSuch("setMode(" + link + ", 1)", x, () -> x.setMode(link, 1));
            EXPECT.noSuch("setMode(" + link + ", 3), the index first", x, () -> x.setMode(link, 3));
        }
        for (int mode : new int[] {-1, 3, Integer.MIN_VALUE, Integer.MAX_VALUE}) {
            EXPECT.wrongArgument("setMode(0, " + mode + ")", x, () -> x.setMode(0, mode));
        }
        EXPECT.same("the mode after wrong calls", x.setMode(0, 0), CreditLinks.ONCE_OR_MORE);
    }

    private static void promise3LimitFollowsWhatCame() {
        CreditLinks x = Setup.withCredit(1, CreditLinks.LOOSE, 15);
        EXPECT.same("grant(1, 0) before anything came", x.grant(1, 0), 0);
        EXPECT.same("grant(1, 15) before anything came", x.grant(1, 15), 15);
        x.toSender(2);
        x.send(1, 2);
        EXPECT.same("a sent delivery has not come", x.grant(1, 3), 3);
        x.toReceiver(1);
        EXPECT.same("its first frame has come", x.grant(1, 3), 4);
        x.toReceiver(1);
        EXPECT.same("its second frame counts no more", x.grant(1, 3), 4);
        EXPECT.same("another link", x.grant(0, 3), 3);
        for (int i = 0; i < 13; i++) {
            x.send(1, 1);
        }
        x.toReceiver(13);
        EXPECT.same("14 came", x.grant(1, 1), 15);
        EXPECT.same("14 came, the limit wraps", x.grant(1, 2), 0);
        EXPECT.same("14 came, the limit wraps", x.grant(1, 15), 13);
        x.toSender(100);
        x.send(1, 1);
        x.send(1, 1);
        x.toReceiver(2);
        EXPECT.same("16 came", x.grant(1, 0), 0);
    }

    private static void promise3FramesComeInTheirOrder() {
        CreditLinks x = new CreditLinks();
        x.grant(0, 7);
        x.grant(0, 2);
        EXPECT.same("grants under way", x.backUnderWay(), 2);
        EXPECT.same("no limit has come", x.credit(0), 0);
        x.toSender(1);
        EXPECT.same("the first limit has come", x.credit(0), 7);
        x.toSender(1);
        EXPECT.same("the second limit has come", x.credit(0), 2);
        EXPECT.same("none under way", x.backUnderWay(), 0);
    }

    private static void promise3WrongInputs() {
        CreditLinks x = new CreditLinks();
        for (int link : NO_LINKS) {
            EXPECT.noSuch("grant(" + link + ", 1)", x, () -> x.grant(link, 1));
            EXPECT.noSuch("grant(" + link + ", 16), the index first", x, () -> x.grant(link, 16));
        }
        for (int credit : new int[] {-1, 16, Integer.MIN_VALUE, Integer.MAX_VALUE}) {
            EXPECT.wrongArgument("grant(0, " + credit + ")", x, () -> x.grant(0, credit));
        }
        x.breakOff();
        EXPECT.noSuch("grant(4, 16) while down", x, () -> x.grant(4, 16));
        EXPECT.wrongArgument("grant(0, 16) while down", x, () -> x.grant(0, 16));
        EXPECT.wrongState("grant(0, 1) while down", x, () -> x.grant(0, 1));
        x.join();
        EXPECT.same("grant(0, 1) after joining", x.grant(0, 1), 1);
    }

    private static void promise4CreditWraps() {
        CreditLinks x = new CreditLinks();
        int number = 0;
        for (int round = 0; round < 5; round++) {
            x.grant(3, 10);
            x.toSender(1);
            EXPECT.same("credit in round " + round, x.credit(3), 10);
            for (int left = 9; left >= 0; left--) {
                EXPECT.same("the number", x.send(3, 1), number++);
                EXPECT.same("credit that is left in round " + round, x.credit(3), left);
            }
            EXPECT.wrongState("send without credit", x, () -> x.send(3, 1));
            x.toReceiver(10);
        }
    }

    private static void promise4LinksCountForThemselves() {
        CreditLinks x = new CreditLinks();
        for (int link = 0; link < 4; link++) {
            x.grant(link, link + 3);
        }
        x.toSender(4);
        for (int link = 0; link < 4; link++) {
            EXPECT.same("credit of link " + link, x.credit(link), link + 3);
        }
        x.send(2, 4);
        EXPECT.same("credit of link 1", x.credit(1), 4);
        EXPECT.same("credit of link 2", x.credit(2), 4);
        EXPECT.same("credit of link 3", x.credit(3), 6);
    }

    private static void promise4OlderLimitMayGiveMore() {
        CreditLinks x = Setup.withCredit(0, CreditLinks.LOOSE, 5);
        for (int i = 0; i < 5; i++) {
            x.send(0, 1);
        }
        x.grant(0, 4);
        x.toSender(1);
        EXPECT.same("limit 4 less count 5, modulo 16", x.credit(0), 15);
    }

    private static void promise4WrongInputs() {
        CreditLinks x = new CreditLinks();
        for (int link : NO_LINKS) {
            EXPECT.noSuch("credit(" + link + ")", x, () -> x.credit(link));
        }
    }
}
