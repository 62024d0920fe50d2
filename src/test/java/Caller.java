/** Calls a CreditLinks by the name of the call, and draws calls by a row of numbers that is always the same. */
final class Caller {
    static final String[] ASKING = {"credit", "deliveries", "underWay", "backUnderWay", "forSender", "heard",
        "forReceiver", "effects", "wouldResend", "isUp"};
    private static final int[] EDGES = {-1, 0, 3, 4, 5, 15, 16, 60, 100, 101, Integer.MIN_VALUE, Integer.MAX_VALUE};

    private long state;
    String name;
    int first;
    int second;

    Caller(long seed) {
        state = seed;
    }

    int draw(int below) {
        state = state * 6364136223846793005L + 1442695040888963407L;
        return (int) ((state >>> 33) % below);
    }

    /** Draws the next call. Larger liveliness lets frames come and connections break more often. */
    void next(int deliveries, int liveliness) {
        int kind = draw(100);
        first = draw(4);
        second = draw(3);
        if (kind < 16) {
            name = "send";
            second = 1 + draw(4);
        } else if (kind < 26) {
            name = "grant";
            second = draw(16);
        } else if (kind < 42) {
            name = "toReceiver";
            first = 1 + draw(liveliness);
        } else if (kind < 54) {
            name = "toSender";
            first = 1 + draw(liveliness);
        } else if (kind < 58) {
            name = "setMode";
        } else if (kind < 72) {
            name = "decide";
            first = draw(deliveries + 1);
        } else if (kind < 76) {
            name = "begin";
        } else if (kind < 84) {
            name = "tell";
            first = draw(deliveries + 1);
        } else if (kind < 87) {
            name = "end";
        } else if (kind < 90) {
            name = draw(8) < liveliness ? "breakOff" : "join";
        } else if (kind < 94) {
            name = "join";
        } else {
            name = ASKING[draw(ASKING.length)];
            first = draw(deliveries + 1);
        }
        if (draw(25) == 0) {
            first = EDGES[draw(EDGES.length)];
        }
        if (draw(25) == 0) {
            second = EDGES[draw(EDGES.length)];
        }
    }

    String text() {
        return name + "(" + first + ", " + second + ")";
    }

    /** The answer as a text: a number, or the simple name of what was thrown. */
    static String answer(CreditLinks x, String name, int a, int b) {
        try {
            return "" + number(x, name, a, b);
        } catch (RuntimeException e) {
            return thrown(e);
        }
    }

    /** The simple name of an exception; what the library threw, and not the class itself, is told as that. */
    static String thrown(RuntimeException e) {
        StackTraceElement[] places = e.getStackTrace();
        boolean byTheClass = places.length > 0 && places[0].getClassName().startsWith("CreditLinks");
        return e.getClass().getSimpleName() + (byTheClass ? "" : " of the library");
    }

    private static int number(CreditLinks x, String name, int a, int b) {
        return switch (name) {
            case "setMode" -> x.setMode(a, b);
            case "grant" -> x.grant(a, b);
            case "credit" -> x.credit(a);
            case "send" -> x.send(a, b);
            case "toReceiver" -> x.toReceiver(a);
            case "toSender" -> x.toSender(a);
            case "decide" -> x.decide(a, b);
            case "deliveries" -> x.deliveries();
            case "underWay" -> x.underWay();
            case "backUnderWay" -> x.backUnderWay();
            case "forSender" -> x.forSender(a);
            case "heard" -> x.heard(a);
            case "forReceiver" -> x.forReceiver(a);
            case "effects" -> x.effects(a);
            case "breakOff" -> x.breakOff();
            case "join" -> x.join();
            case "wouldResend" -> x.wouldResend();
            case "isUp" -> x.isUp() ? 1 : 0;
            case "begin" -> x.begin();
            case "tell" -> x.tell(a, b);
            case "end" -> x.end(a != 0);
            default -> throw new AssertionError(name);
        };
    }
}
