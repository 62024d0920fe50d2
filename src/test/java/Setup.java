/** Objects in states that several tests begin with. */
final class Setup {
    private Setup() {
    }

    /** One link in a mode, with a credit that has come to the sender. */
    static CreditLinks withCredit(int link, int mode, int credit) {
        CreditLinks x = new CreditLinks();
        x.setMode(link, mode);
        x.grant(link, credit);
        x.toSender(1);
        return x;
    }

    /** Link 0 LOOSE, link 1 ONCE_OR_MORE, link 2 JUST_ONCE, each with a credit of 15. */
    static CreditLinks allModes() {
        CreditLinks x = new CreditLinks();
        for (int link = 0; link < 3; link++) {
            x.setMode(link, link);
            x.grant(link, 15);
        }
        x.toSender(3);
        return x;
    }

    /** As allModes, with one delivery of a frame on each of these links, WHOLE for the receiver. */
    static CreditLinks threeWhole() {
        CreditLinks x = allModes();
        for (int link = 0; link < 3; link++) {
            x.send(link, 1);
        }
        x.toReceiver(3);
        return x;
    }
}
