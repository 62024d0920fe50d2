/**
 * Holds the class against the model in each run of up to six calls out of some, from several states: what drawn runs
 * may miss, an order of a few calls round a break or a transaction, is here for certain.
 */
public final class ShortRunsTest {
    private static final Expect EXPECT = new Expect("ShortRunsTest");
    private static final int DEPTH = 6;

    /** Link 0 LOOSE, 1 ONCE_OR_MORE, 2 JUST_ONCE, each with credit. */
    private static final String OPENED = "setMode 1 1, setMode 2 2, grant 0 9, grant 1 9, grant 2 9, toSender 3";
    private static final String[] STATES = {
        OPENED + ", send 0 2, toReceiver 1",
        OPENED + ", send 1 2, toReceiver 2",
        OPENED + ", send 2 2, toReceiver 2",
        OPENED + ", send 1 2, toReceiver 2, decide 0 0, breakOff",
        OPENED + ", send 2 1, toReceiver 1, decide 0 1, toSender 1",
        OPENED + ", send 2 1, send 1 1, toReceiver 2, begin, tell 1 0"};
    private static final String[] CALLS = {"send 1 1", "toReceiver 1", "toReceiver 3", "toSender 1", "decide 0 0",
        "decide 1 1", "tell 0 1", "breakOff", "join", "begin", "end 1", "grant 1 3"};

    private static final String[] run = new String[DEPTH];

    public static void main(String[] args) {
        for (String state : STATES) {
            extend(state.split(", "), 0);
        }
        EXPECT.finish();
    }

    private static void extend(String[] state, int length) {
        for (String call : CALLS) {
            run[length] = call;
            boolean answered = compare(state, length + 1);
            if (answered && length + 1 < DEPTH) {
                extend(state, length + 1);
            }
        }
    }

    /**
     * Tells whether the last call is answered: a run does not go on behind one that throws, as that changes nothing,
     * which RefusedCallsTest looks at. The answers ahead of the last call were looked at in shorter runs.
     */
    private static boolean compare(String[] state, int length) {
        CreditLinks x = new CreditLinks();
        Model model = new Model();
        for (String call : state) {
            answer(x, call);
            answer(model, call);
        }
        for (int i = 0; i < length - 1; i++) {
            answer(x, run[i]);
            answer(model, run[i]);
        }
        String got = answer(x, run[length - 1]);
        String due = answer(model, run[length - 1]);
        if (!got.equals(due) || !View.of(x).equals(model.view())) {
            String what = String.join(", ", state) + "; " + String.join(", ", java.util.Arrays.copyOf(run, length));
            EXPECT.same(what, got + ", " + View.of(x), due + ", " + model.view());
        } else {
            EXPECT.yes("as due", true);
        }
        return Character.isDigit(due.charAt(0));
    }

    private static String answer(CreditLinks x, String call) {
        String[] words = call.split(" ");
        return Caller.answer(x, words[0], number(words, 1), number(words, 2));
    }

    private static String answer(Model model, String call) {
        String[] words = call.split(" ");
        return model.call(words[0], number(words, 1), number(words, 2));
    }

    private static int number(String[] words, int at) {
        return words.length > at ? Integer.parseInt(words[at]) : 0;
    }
}
