import java.util.List;

/** LANGUAGE.md, rule 7: whatever is called, and however often, nothing but what the document names is thrown. */
public final class LongUseTest {
    private static final Expect EXPECT = new Expect("LongUseTest");
    private static final List<String> NAMED =
        List.of("IndexOutOfBoundsException", "IllegalArgumentException", "IllegalStateException");

    public static void main(String[] args) {
        fullWithin512Calls();
        moreGrantsThanTheRowHolds();
        allFramesAtOnce();
        drawnCallsPastTheLast();
        EXPECT.finish();
    }

    private static void fullWithin512Calls() {
        CreditLinks x = new CreditLinks();
        for (int i = 1; i <= 508; i++) {
            EXPECT.same("grant " + i, x.grant(i % 4, i % 16), i % 16);
        }
        EXPECT.same("under way", x.backUnderWay(), 508);
        EXPECT.same("100 come", x.toSender(100), 0);
        EXPECT.same("under way", x.backUnderWay(), 408);
        EXPECT.same("all are lost", x.breakOff(), 408);
    }

    private static void moreGrantsThanTheRowHolds() {
        CreditLinks x = new CreditLinks();
        for (int i = 0; i < 5000; i++) {
            String got = Caller.answer(x, "grant", i % 4, i % 16);
            EXPECT.same("grant " + i, got, "" + i % 16);
        }
        for (int i = 0; i < 100; i++) {
            EXPECT.same("toSender", Caller.answer(x, "toSender", 100, 0), "0");
        }
        EXPECT.same("none are left", x.backUnderWay(), 0);
    }

    private static void allFramesAtOnce() {
        CreditLinks x = new CreditLinks();
        for (int i = 0; i < 60; i++) {
            if (i % 15 == 0) {
                x.setMode(i / 15, 1 + i / 15 % 2);
                x.grant(i / 15, 15);
                x.toSender(1);
            }
            x.send(i / 15, 4);
        }
        EXPECT.same("all frames of all deliveries", x.underWay(), 240);
        EXPECT.same("all are lost", x.breakOff(), 240);
        EXPECT.same("all are sent anew", x.join(), 60);
        EXPECT.same("all frames of all deliveries", x.underWay(), 240);
        EXPECT.same("they come", x.toReceiver(100) + x.toReceiver(100) + x.toReceiver(100), 60);
    }

    private static void drawnCallsPastTheLast() {
        for (int run = 0; run < 60; run++) {
            CreditLinks x = new CreditLinks();
            Caller caller = new Caller(100000 + run);
            for (int i = 0; i < 6000; i++) {
                caller.next(x.deliveries(), 1 + run % 12);
                String got = Caller.answer(x, caller.name, caller.first, caller.second);
                boolean thrown = Character.isLetter(got.charAt(0));
                EXPECT.yes(caller.text() + " answered " + got, !thrown || NAMED.contains(got));
            }
        }
    }
}
