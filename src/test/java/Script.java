import java.util.ArrayList;
import java.util.List;
import java.util.Map;

/**
 * A run of calls on a new object, each told with the answer that is due: "send 0 1 = 0", "join = state".
 * The document's constants stand by their names; index, argument and state are the exceptions that are due.
 * After each call that has to throw, all that later calls can learn is held against the same run without that call.
 */
final class Script {
    // The values stand here as the document tells them, not as the class has them.
    private static final Map<String, Integer> NAMES = Map.ofEntries(
        Map.entry("NONE", -1), Map.entry("LOOSE", 0), Map.entry("ONCE_OR_MORE", 1), Map.entry("JUST_ONCE", 2),
        Map.entry("ACCEPTED", 0), Map.entry("REJECTED", 1), Map.entry("RELEASED", 2), Map.entry("OPEN", 0),
        Map.entry("SETTLED", 1), Map.entry("UNKNOWN", 0), Map.entry("PARTLY", 1), Map.entry("WHOLE", 2),
        Map.entry("DECIDED", 3), Map.entry("FORGOTTEN", 4), Map.entry("false", 0), Map.entry("true", 1),
        Map.entry("MIN", Integer.MIN_VALUE), Map.entry("MAX", Integer.MAX_VALUE));
    private static final Map<String, String> THROWN = Map.of("index", "IndexOutOfBoundsException",
        "argument", "IllegalArgumentException", "state", "IllegalStateException");

    private final Expect expect;
    private final String title;
    private final CreditLinks x = new CreditLinks();
    private final List<String> done = new ArrayList<>();
    private int calls = 0;

    Script(Expect expect, String title) {
        this.expect = expect;
        this.title = title;
    }

    Script then(String... lines) {
        for (String line : lines) {
            one(line);
        }
        return this;
    }

    Script times(int count, String... lines) {
        for (int i = 0; i < count; i++) {
            then(lines);
        }
        return this;
    }

    /** The line once for each of the values, which stand for the sign # in it. */
    Script each(String line, String... values) {
        for (String value : values) {
            then(line.replace("#", value));
        }
        return this;
    }

    /** A link without deliveries gets its mode, and a credit that comes to the sender. */
    Script open(int link, String mode, int credit) {
        return then("setMode " + link + " " + mode + " = LOOSE", "grant " + link + " " + credit + " = " + credit,
            "toSender 1 = 0", "credit " + link + " = " + credit);
    }

    /** A delivery in so many frames is sent and comes at once. */
    Script whole(int link, int frames) {
        return then("send " + link + " " + frames + " = " + x.deliveries(), "toReceiver " + frames + " = 1");
    }

    /** Sixty deliveries of a link, all WHOLE; the credit is used up. */
    Script sixty(int link, String mode, int frames) {
        then("setMode " + link + " " + mode + " = LOOSE");
        for (int round = 0; round < 4; round++) {
            then("grant " + link + " 15 = " + (15 - round), "toSender 1 = 0");
            for (int i = 0; i < 15; i++) {
                whole(link, frames);
            }
        }
        return then("deliveries = 60", "credit " + link + " = 0");
    }

    /** Links 0 to 3 get the mode and 15 deliveries each, in so many frames; all of them stay under way. */
    Script sixtyUnderWay(String mode, int frames) {
        for (int link = 0; link < 4; link++) {
            open(link, mode, 15);
            for (int i = 0; i < 15; i++) {
                then("send " + link + " " + frames + " = " + (link * 15 + i));
            }
        }
        return then("deliveries = 60", "underWay = " + 60 * frames);
    }

    private void one(String line) {
        int at = line.indexOf(" = ");
        String call = line.substring(0, at);
        String due = line.substring(at + 3);
        calls++;
        String what = title + ", call " + calls + ", " + call;
        boolean refused = THROWN.containsKey(due);
        expect.same(what, answer(x, call), refused ? THROWN.get(due) : "" + value(due));
        if (refused) {
            changesNothing(what, call);
        } else {
            done.add(call);
        }
    }

    private void changesNothing(String what, String refused) {
        for (int way = 0; way < Probe.WAYS; way++) {
            CreditLinks without = replay();
            CreditLinks with = replay();
            answer(with, refused);
            expect.same(what + ": what is learnt later, by way " + way, Probe.of(with, way), Probe.of(without, way));
        }
    }

    private CreditLinks replay() {
        CreditLinks again = new CreditLinks();
        for (String call : done) {
            answer(again, call);
        }
        return again;
    }

    private static String answer(CreditLinks object, String call) {
        String[] words = call.split(" ");
        int a = words.length > 1 ? value(words[1]) : 0;
        int b = words.length > 2 ? value(words[2]) : 0;
        return Caller.answer(object, words[0], a, b);
    }

    private static int value(String word) {
        return NAMES.containsKey(word) ? NAMES.get(word) : Integer.parseInt(word);
    }
}
