/**
 * All that later calls can learn of an object, as one text; the object is used up by it. What no call shows at once
 * shows in it: modes, the receiver's counts, the order of frames, outcomes that wait, how many transactions there were.
 */
final class Probe {
    /** A transaction that is open is committed, rolled back, or ended by a break. */
    static final int WAYS = 3;
    private static final int MOST_FRAMES = 600;

    private final CreditLinks x;
    private final StringBuilder text = new StringBuilder();

    private Probe(CreditLinks x) {
        this.x = x;
    }

    static String of(CreditLinks x, int way) {
        Probe probe = new Probe(x);
        probe.look();
        // The counts first: what follows may be refused, and would change both objects alike if it did more than that.
        if (x.isUp()) {
            probe.links();
        }
        if (way == 0) {
            probe.call("end", 1, 0);
        } else if (way == 1) {
            probe.call("end", 0, 0);
        } else if (x.isUp()) {
            probe.call("breakOff", 0, 0);
        }
        if (!x.isUp()) {
            probe.call("join", 0, 0);
        }
        probe.transaction();
        probe.links();
        probe.frames();
        probe.decisions();
        probe.frames();
        probe.links();
        return probe.text.toString();
    }

    private void call(String name, int a, int b) {
        text.append(name).append(' ').append(Caller.answer(x, name, a, b)).append('\n');
    }

    private void look() {
        text.append(View.of(x)).append('\n');
    }

    private void transaction() {
        call("begin", 0, 0);
        for (int i = 0; i < x.deliveries(); i++) {
            call("tell", i, CreditLinks.ACCEPTED);
        }
        call("end", 0, 0);
        look();
    }

    private void links() {
        for (int link = 0; link < 4; link++) {
            call("grant", link, 0);
            call("setMode", link, CreditLinks.ONCE_OR_MORE);
        }
        look();
    }

    private void frames() {
        for (int i = 0; i < MOST_FRAMES && x.backUnderWay() > 0; i++) {
            call("toSender", 1, 0);
            look();
        }
        for (int i = 0; i < MOST_FRAMES && x.underWay() > 0; i++) {
            call("toReceiver", 1, 0);
            look();
        }
    }

    private void decisions() {
        for (int i = 0; i < x.deliveries(); i++) {
            call("decide", i, CreditLinks.ACCEPTED);
        }
        look();
    }
}
