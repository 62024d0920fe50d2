import java.util.TreeMap;

/** Holds the class against the model, in long runs of drawn calls, and looks at every answer after every call. */
public final class ModelTest {
    private static final Expect EXPECT = new Expect("ModelTest");
    private static final TreeMap<String, Integer> SEEN = new TreeMap<>();
    private static final int RUNS = 2000;

    public static void main(String[] args) {
        for (int run = 0; run < RUNS; run++) {
            compare(run);
        }
        allWasReached();
        EXPECT.finish();
    }

    private static void compare(int run) {
        CreditLinks x = new CreditLinks();
        Model model = new Model();
        Caller caller = new Caller(run);
        int liveliness = 1 + run % 12;
        for (int i = 0; i < 512; i++) {
            caller.next(x.deliveries(), liveliness);
            String due = model.call(caller.name, caller.first, caller.second);
            String got = Caller.answer(x, caller.name, caller.first, caller.second);
            String what = "run " + run + ", call " + i + ", " + caller.text();
            EXPECT.same(what, got, due);
            String view = View.of(x);
            EXPECT.same(what + ", and the view then", view, model.view());
            see(caller.name, due);
            if (!got.equals(due)) {
                return;
            }
        }
    }

    private static void see(String name, String answer) {
        boolean thrown = Character.isLetter(answer.charAt(0));
        String key = name + " " + (thrown ? answer : answer.equals("0") ? "0" : "n");
        SEEN.merge(key, 1, Integer::sum);
    }

    /** Runs that never got anywhere would prove nothing. */
    private static void allWasReached() {
        String[] due = {"send n", "send IllegalStateException", "grant n", "toReceiver n", "toSender n", "decide n",
            "decide IllegalStateException", "tell n", "tell IllegalStateException", "end n", "end 0", "breakOff n",
            "join n", "begin n", "effects n", "setMode n", "wouldResend n"};
        for (String key : due) {
            EXPECT.yes(key + " came " + SEEN.get(key) + " times", SEEN.getOrDefault(key, 0) > 100);
        }
    }
}
