import java.util.ArrayList;

/**
 * Message links with credit between a sender and a receiver, over a connection that breaks and is joined again.
 * What each call does is told by the numbered promises of the document.
 */
public final class CreditLinks {
    public static final int NONE = -1;
    public static final int LOOSE = 0, ONCE_OR_MORE = 1, JUST_ONCE = 2;
    public static final int ACCEPTED = 0, REJECTED = 1, RELEASED = 2;
    public static final int OPEN = 0, SETTLED = 1;
    public static final int UNKNOWN = 0, PARTLY = 1, WHOLE = 2, DECIDED = 3, FORGOTTEN = 4;

    private static final int LINKS = 4;
    private static final int WRAP = 16;
    private static final int MOST_CREDIT = 15;
    private static final int MOST_FRAMES = 4;
    private static final int MOST_DELIVERIES = 60;
    private static final int MOST_COMING = 100;

    // The kinds of frames: three of the sender, then two of the receiver.
    private static final int PART = 0, PART_ANEW = 1, FORGET = 2;
    private static final int LIMIT = 3, OUTCOME = 4;

    private final Link[] links = new Link[LINKS];
    private final ArrayList<Delivery> sent = new ArrayList<>();
    private final Row forward = new Row();
    private final Row backward = new Row();
    private final ArrayList<Delivery> told = new ArrayList<>();
    private boolean connected = true;
    private boolean inTransaction = false;
    private int transactions = 0;

    public CreditLinks() {
        for (int i = 0; i < LINKS; i++) {
            links[i] = new Link();
        }
    }

    // ---- links and credit

    public int setMode(int link, int mode) throws IndexOutOfBoundsException, IllegalArgumentException {
        Link chosen = linkAt(link);
        if (mode < LOOSE || mode > JUST_ONCE) {
            throw new IllegalArgumentException("there is no such mode");
        }
        int before = chosen.mode;
        chosen.mode = mode;
        return before;
    }

    public int grant(int link, int credit)
            throws IndexOutOfBoundsException, IllegalArgumentException, IllegalStateException {
        Link chosen = linkAt(link);
        if (credit < 0 || credit > MOST_CREDIT) {
            throw new IllegalArgumentException("credit is out of range");
        }
        requireConnection();
        int limit = wrapped(chosen.comeCount + credit);
        backward.add(LIMIT, link, limit);
        return limit;
    }

    public int credit(int link) throws IndexOutOfBoundsException {
        return linkAt(link).creditLeft();
    }

    // ---- deliveries and frames

    public int send(int link, int frames)
            throws IndexOutOfBoundsException, IllegalArgumentException, IllegalStateException {
        Link chosen = linkAt(link);
        if (frames < 1 || frames > MOST_FRAMES) {
            throw new IllegalArgumentException("frames is out of range");
        }
        requireConnection();
        if (sent.size() >= MOST_DELIVERIES) {
            throw new IllegalStateException("there are as many deliveries as there can be");
        }
        if (chosen.creditLeft() == 0) {
            throw new IllegalStateException("the sender has no credit on the link");
        }
        Delivery delivery = new Delivery(sent.size(), link, chosen.mode, frames);
        sent.add(delivery);
        chosen.countSent();
        addParts(delivery, PART);
        return delivery.number;
    }

    public int toReceiver(int count) throws IllegalArgumentException {
        requireCount(count);
        int becameWhole = 0;
        for (int i = 0; i < count && forward.length() > 0; i++) {
            if (receiverTakesFrame()) {
                becameWhole++;
            }
        }
        return becameWhole;
    }

    public int toSender(int count) throws IllegalArgumentException {
        requireCount(count);
        int becameSettled = 0;
        for (int i = 0; i < count && backward.length() > 0; i++) {
            if (senderTakesFrame()) {
                becameSettled++;
            }
        }
        return becameSettled;
    }

    public int decide(int delivery, int outcome)
            throws IndexOutOfBoundsException, IllegalArgumentException, IllegalStateException {
        Delivery chosen = deliveryAt(delivery);
        requireOutcome(outcome);
        requireConnection();
        requireUndecided(chosen);
        carryOut(chosen, outcome);
        return chosen.effectCount;
    }

    public int deliveries() {
        return sent.size();
    }

    public int underWay() {
        return forward.length();
    }

    public int backUnderWay() {
        return backward.length();
    }

    public int forSender(int delivery) throws IndexOutOfBoundsException {
        return deliveryAt(delivery).atSender;
    }

    public int heard(int delivery) throws IndexOutOfBoundsException {
        return deliveryAt(delivery).outcomeAtSender;
    }

    public int forReceiver(int delivery) throws IndexOutOfBoundsException {
        return deliveryAt(delivery).atReceiver;
    }

    public int effects(int delivery) throws IndexOutOfBoundsException {
        return deliveryAt(delivery).effectCount;
    }

    // ---- breaking and joining

    public int breakOff() throws IllegalStateException {
        requireConnection();
        int lost = forward.length() + backward.length();
        forward.drop();
        backward.drop();
        closeTransaction();
        connected = false;
        return lost;
    }

    public int join() throws IllegalStateException {
        if (connected) {
            throw new IllegalStateException("the connection is up");
        }
        connected = true;
        for (Link link : links) {
            link.startAgain();
        }
        int anew = 0;
        for (int i = 0; i < sent.size(); i++) {
            Delivery delivery = sent.get(i);
            delivery.bringTogether();
            if (delivery.goesAnew()) {
                addParts(delivery, PART_ANEW);
                anew++;
            }
        }
        return anew;
    }

    public int wouldResend() {
        int anew = 0;
        for (int i = 0; i < sent.size(); i++) {
            if (sent.get(i).goesAnew()) {
                anew++;
            }
        }
        return anew;
    }

    public boolean isUp() {
        return connected;
    }

    // ---- transactions

    public int begin() throws IllegalStateException {
        requireConnection();
        if (inTransaction) {
            throw new IllegalStateException("a transaction is open");
        }
        inTransaction = true;
        transactions++;
        return transactions;
    }

    public int tell(int delivery, int outcome)
            throws IndexOutOfBoundsException, IllegalArgumentException, IllegalStateException {
        Delivery chosen = deliveryAt(delivery);
        requireOutcome(outcome);
        requireTransaction();
        requireUndecided(chosen);
        chosen.outcomeWaiting = outcome;
        told.add(chosen);
        return told.size();
    }

    public int end(boolean commits) throws IllegalStateException {
        requireTransaction();
        int decided = 0;
        if (commits) {
            for (int i = 0; i < told.size(); i++) {
                Delivery delivery = told.get(i);
                carryOut(delivery, delivery.outcomeWaiting);
                decided++;
            }
        }
        closeTransaction();
        return decided;
    }

    // ---- what several calls need

    private Link linkAt(int number) {
        if (number < 0 || number >= LINKS) {
            throw new IndexOutOfBoundsException("there is no such link");
        }
        return links[number];
    }

    private Delivery deliveryAt(int number) {
        if (number < 0 || number >= sent.size()) {
            throw new IndexOutOfBoundsException("there is no such delivery");
        }
        return sent.get(number);
    }

    private void requireConnection() {
        if (!connected) {
            throw new IllegalStateException("the connection is not up");
        }
    }

    private void requireTransaction() {
        if (!inTransaction) {
            throw new IllegalStateException("no transaction is open");
        }
    }

    private static void requireUndecided(Delivery delivery) {
        if (delivery.atReceiver != WHOLE) {
            throw new IllegalStateException("the delivery is not whole");
        }
        if (delivery.outcomeWaiting != NONE) {
            throw new IllegalStateException("an outcome waits for the delivery");
        }
    }

    private static void requireOutcome(int outcome) {
        if (outcome < ACCEPTED || outcome > RELEASED) {
            throw new IllegalArgumentException("there is no such outcome");
        }
    }

    private static void requireCount(int count) {
        if (count < 1 || count > MOST_COMING) {
            throw new IllegalArgumentException("count is out of range");
        }
    }

    private static int wrapped(int number) {
        return Math.floorMod(number, WRAP);
    }

    private void addParts(Delivery delivery, int kind) {
        for (int part = 0; part < delivery.parts; part++) {
            forward.add(kind, delivery.number, part);
        }
    }

    /** Tells whether a delivery becomes WHOLE by the frame. */
    private boolean receiverTakesFrame() {
        int kind = forward.firstKind();
        Delivery delivery = deliveryAt(forward.firstSubject());
        int part = forward.firstValue();
        forward.dropFirst();
        if (kind == FORGET) {
            delivery.forgetDecided();
            return false;
        }
        // The receiver's count was made even with the sender's when they joined, so only new deliveries raise it.
        if (kind == PART && part == 0) {
            linkAt(delivery.link).countCome();
        }
        return delivery.takePart(part);
    }

    /** Tells whether a delivery becomes SETTLED by the frame. */
    private boolean senderTakesFrame() {
        int kind = backward.firstKind();
        int subject = backward.firstSubject();
        int value = backward.firstValue();
        backward.dropFirst();
        if (kind == LIMIT) {
            linkAt(subject).limit = value;
            return false;
        }
        Delivery delivery = deliveryAt(subject);
        if (delivery.mode == JUST_ONCE) {
            forward.add(FORGET, subject, 0);
        }
        return delivery.settle(value);
    }

    private void carryOut(Delivery delivery, int outcome) {
        delivery.takeDecision(outcome);
        if (delivery.mode != LOOSE) {
            backward.add(OUTCOME, delivery.number, outcome);
        }
    }

    private void closeTransaction() {
        for (int i = 0; i < told.size(); i++) {
            told.get(i).outcomeWaiting = NONE;
        }
        told.clear();
        inTransaction = false;
    }

    /** What both sides count of a link. */
    private static final class Link {
        int mode = LOOSE;
        int sentCount = 0;
        int limit = 0;
        int comeCount = 0;

        int creditLeft() {
            return wrapped(limit - sentCount);
        }

        void countSent() {
            sentCount = wrapped(sentCount + 1);
        }

        void countCome() {
            comeCount = wrapped(comeCount + 1);
        }

        void startAgain() {
            comeCount = sentCount;
            limit = sentCount;
        }
    }

    /** A delivery as each side holds it. */
    private static final class Delivery {
        final int number;
        final int link;
        final int mode;
        final int parts;
        int atSender;
        int outcomeAtSender = NONE;
        int atReceiver = UNKNOWN;
        int beforeParts = UNKNOWN;
        int nextPart = 0;
        int outcomeAtReceiver = NONE;
        int outcomeWaiting = NONE;
        int effectCount = 0;

        Delivery(int number, int link, int mode, int parts) {
            this.number = number;
            this.link = link;
            this.mode = mode;
            this.parts = parts;
            this.atSender = mode == LOOSE ? SETTLED : OPEN;
        }

        /** Tells whether it becomes WHOLE by that. */
        boolean takePart(int part) {
            boolean begins = atReceiver == UNKNOWN || atReceiver == FORGOTTEN;
            boolean fits = begins ? part == 0 : atReceiver == PARTLY && part == nextPart;
            if (!fits) {
                return false;
            }
            if (begins) {
                beforeParts = atReceiver;
            }
            nextPart = part + 1;
            atReceiver = nextPart == parts ? WHOLE : PARTLY;
            return atReceiver == WHOLE;
        }

        void takeDecision(int outcome) {
            if (outcome == ACCEPTED) {
                effectCount++;
            }
            outcomeAtReceiver = outcome;
            atReceiver = mode == JUST_ONCE ? DECIDED : FORGOTTEN;
        }

        void forgetDecided() {
            if (atReceiver == DECIDED) {
                atReceiver = FORGOTTEN;
            }
        }

        /** Tells whether it becomes SETTLED by that. */
        boolean settle(int outcome) {
            if (atSender != OPEN) {
                return false;
            }
            atSender = SETTLED;
            outcomeAtSender = outcome;
            return true;
        }

        void bringTogether() {
            if (atReceiver == PARTLY) {
                atReceiver = beforeParts;
            } else if (atReceiver == DECIDED) {
                settle(outcomeAtReceiver);
                atReceiver = FORGOTTEN;
            }
        }

        // PARTLY counts too: joining again makes it UNKNOWN or FORGOTTEN before it is looked at.
        boolean goesAnew() {
            boolean missing = atReceiver == UNKNOWN || atReceiver == PARTLY || atReceiver == FORGOTTEN;
            return atSender == OPEN && missing;
        }
    }

    /**
     * Frames under way in one direction, as a ring, so that no call has to make objects. Within the 512 calls of an
     * object it cannot be full: each grant, decide or tell puts one frame at most into the receiver's row, and the
     * sender's row holds at most the 240 frames of all deliveries. Past that a frame without a place is dropped.
     */
    private static final class Row {
        static final int ROOM = 512;
        // ROOM is a power of two: the mask keeps every place inside the ring.
        static final int MASK = ROOM - 1;

        final int[] kinds = new int[ROOM];
        final int[] subjects = new int[ROOM];
        final int[] values = new int[ROOM];
        int first = 0;
        int size = 0;

        int length() {
            return size;
        }

        void add(int kind, int subject, int value) {
            if (size >= ROOM) {
                return;
            }
            int place = (first + size) & MASK;
            kinds[place] = kind;
            subjects[place] = subject;
            values[place] = value;
            size++;
        }

        int firstKind() {
            return kinds[first & MASK];
        }

        int firstSubject() {
            return subjects[first & MASK];
        }

        int firstValue() {
            return values[first & MASK];
        }

        void dropFirst() {
            if (size > 0) {
                first = (first + 1) & MASK;
                size--;
            }
        }

        void drop() {
            first = 0;
            size = 0;
        }
    }
}
