import java.util.ArrayDeque;
import java.util.ArrayList;
import java.util.LinkedHashMap;
import java.util.List;
import java.util.Map;

/**
 * The document's Terms, written a second time as literally as may be and without regard to LANGUAGE.md, so that
 * ModelTest can hold the class against it. Calls are by name, and an exception is told as a text.
 */
final class Model {
    private static final class Message {
        int link, mode, frames, effects, come;
        String sender = "OPEN", receiver = "UNKNOWN";
        int heard = -1, verdict = -1;
        boolean forgottenBefore;
    }

    private record Frame(String kind, int which, int what, boolean anew) {
    }

    private final int[] mode = new int[4], count = new int[4], limit = new int[4], came = new int[4];
    private final List<Message> messages = new ArrayList<>();
    private final ArrayDeque<Frame> out = new ArrayDeque<>(), back = new ArrayDeque<>();
    private Map<Integer, Integer> waiting = null;
    private boolean up = true;
    private int begun = 0;

    /** The answer of a call as a text: a number, or the name of an exception. */
    String call(String name, int a, int b) {
        boolean ofLink = List.of("setMode", "grant", "credit", "send").contains(name);
        boolean ofMessage = List.of("decide", "tell", "forSender", "heard", "forReceiver", "effects").contains(name);
        if (ofLink && (a < 0 || a > 3) || ofMessage && (a < 0 || a >= messages.size())) {
            return "IndexOutOfBoundsException";
        }
        boolean bad = switch (name) {
            case "setMode", "decide", "tell" -> b < 0 || b > 2;
            case "grant" -> b < 0 || b > 15;
            case "send" -> b < 1 || b > 4;
            case "toReceiver", "toSender" -> a < 1 || a > 100;
            default -> false;
        };
        if (bad) {
            return "IllegalArgumentException";
        }
        return forbidden(name, a) ? "IllegalStateException" : "" + answer(name, a, b);
    }

    /** The same text as View.of makes. */
    String view() {
        StringBuilder text = new StringBuilder();
        text.append(call("isUp", 0, 0).equals("1") ? "up" : "down");
        text.append(" under way ").append(call("underWay", 0, 0)).append('/');
        text.append(call("backUnderWay", 0, 0));
        text.append(" would resend ").append(call("wouldResend", 0, 0)).append(" credit");
        for (int link = 0; link < 4; link++) {
            text.append(' ').append(call("credit", link, 0));
        }
        int deliveries = Integer.parseInt(call("deliveries", 0, 0));
        for (int i = 0; i < deliveries; i++) {
            text.append(" [").append(call("forSender", i, 0)).append(' ').append(call("heard", i, 0));
            text.append(' ').append(call("forReceiver", i, 0)).append(' ').append(call("effects", i, 0));
            text.append(']');
        }
        return text.toString();
    }

    private boolean forbidden(String name, int a) {
        return switch (name) {
            case "grant", "breakOff" -> !up;
            case "send" -> !up || messages.size() == 60 || credit(a) == 0;
            case "decide" -> !up || !receiver(a, "WHOLE") || waiting != null && waiting.containsKey(a);
            case "join" -> up;
            case "begin" -> !up || waiting != null;
            case "tell" -> waiting == null || !receiver(a, "WHOLE") || waiting.containsKey(a);
            case "end" -> waiting == null;
            default -> false;
        };
    }

    private int answer(String name, int a, int b) {
        return switch (name) {
            case "setMode" -> setMode(a, b);
            case "grant" -> grant(a, b);
            case "credit" -> credit(a);
            case "send" -> send(a, b);
            case "toReceiver" -> toReceiver(a);
            case "toSender" -> toSender(a);
            case "decide" -> decide(a, b);
            case "deliveries" -> messages.size();
            case "underWay" -> out.size();
            case "backUnderWay" -> back.size();
            case "forSender" -> messages.get(a).sender.equals("OPEN") ? 0 : 1;
            case "heard" -> messages.get(a).heard;
            case "forReceiver" -> List.of("UNKNOWN", "PARTLY", "WHOLE", "DECIDED", "FORGOTTEN")
                .indexOf(messages.get(a).receiver);
            case "effects" -> messages.get(a).effects;
            case "breakOff" -> breakOff();
            case "join" -> join();
            case "wouldResend" -> wouldResend();
            case "isUp" -> up ? 1 : 0;
            case "begin" -> begin();
            case "tell" -> tell(a, b);
            case "end" -> end(a != 0);
            default -> throw new AssertionError(name);
        };
    }

    private boolean receiver(int number, String form) {
        return messages.get(number).receiver.equals(form);
    }

    private int setMode(int link, int to) {
        int before = mode[link];
        mode[link] = to;
        return before;
    }

    private int grant(int link, int more) {
        back.add(new Frame("limit", link, (came[link] + more) % 16, false));
        return (came[link] + more) % 16;
    }

    private int credit(int link) {
        return (limit[link] - count[link] + 16) % 16;
    }

    private int send(int link, int frames) {
        Message m = new Message();
        m.link = link;
        m.mode = mode[link];
        m.frames = frames;
        if (m.mode == 0) {
            m.sender = "SETTLED";
        }
        messages.add(m);
        count[link] = (count[link] + 1) % 16;
        sendFrames(messages.size() - 1, false);
        return messages.size() - 1;
    }

    private void sendFrames(int number, boolean anew) {
        for (int i = 1; i <= messages.get(number).frames; i++) {
            out.add(new Frame("part", number, i, anew));
        }
    }

    private int toReceiver(int most) {
        int whole = 0;
        for (; most > 0 && !out.isEmpty(); most--) {
            Frame f = out.remove();
            Message m = messages.get(f.which);
            if (f.kind.equals("forget")) {
                if (m.receiver.equals("DECIDED")) {
                    m.receiver = "FORGOTTEN";
                }
                continue;
            }
            if (f.what == 1 && !f.anew) {
                came[m.link] = (came[m.link] + 1) % 16;
            }
            boolean first = m.receiver.equals("UNKNOWN") || m.receiver.equals("FORGOTTEN");
            if (first && f.what == 1) {
                m.forgottenBefore = m.receiver.equals("FORGOTTEN");
                m.come = 0;
                m.receiver = "PARTLY";
            }
            if (m.receiver.equals("PARTLY") && f.what == m.come + 1) {
                m.come++;
                if (m.come == m.frames) {
                    m.receiver = "WHOLE";
                    whole++;
                }
            }
        }
        return whole;
    }

    private int toSender(int most) {
        int settled = 0;
        for (; most > 0 && !back.isEmpty(); most--) {
            Frame f = back.remove();
            if (f.kind.equals("limit")) {
                limit[f.which] = f.what;
                continue;
            }
            Message m = messages.get(f.which);
            if (m.sender.equals("OPEN")) {
                m.sender = "SETTLED";
                m.heard = f.what;
                settled++;
            }
            if (m.mode == 2) {
                out.add(new Frame("forget", f.which, 0, false));
            }
        }
        return settled;
    }

    private int decide(int number, int outcome) {
        Message m = messages.get(number);
        m.effects += outcome == 0 ? 1 : 0;
        m.verdict = outcome;
        m.receiver = m.mode == 2 ? "DECIDED" : "FORGOTTEN";
        if (m.mode != 0) {
            back.add(new Frame("outcome", number, outcome, false));
        }
        return m.effects;
    }

    private int breakOff() {
        int lost = out.size() + back.size();
        out.clear();
        back.clear();
        waiting = null;
        up = false;
        return lost;
    }

    private int join() {
        up = true;
        for (int link = 0; link < 4; link++) {
            came[link] = count[link];
            limit[link] = count[link];
        }
        int anew = 0;
        for (int i = 0; i < messages.size(); i++) {
            Message m = messages.get(i);
            if (m.receiver.equals("PARTLY")) {
                m.receiver = m.forgottenBefore ? "FORGOTTEN" : "UNKNOWN";
            }
            if (m.sender.equals("OPEN") && m.receiver.equals("DECIDED")) {
                m.sender = "SETTLED";
                m.heard = m.verdict;
                m.receiver = "FORGOTTEN";
            } else if (m.sender.equals("OPEN") && (m.receiver.equals("UNKNOWN") || m.receiver.equals("FORGOTTEN"))) {
                sendFrames(i, true);
                anew++;
            } else if (m.sender.equals("SETTLED") && m.receiver.equals("DECIDED")) {
                m.receiver = "FORGOTTEN";
            }
        }
        return anew;
    }

    private int wouldResend() {
        int anew = 0;
        for (Message m : messages) {
            if (m.sender.equals("OPEN") && !m.receiver.equals("WHOLE") && !m.receiver.equals("DECIDED")) {
                anew++;
            }
        }
        return anew;
    }

    private int begin() {
        waiting = new LinkedHashMap<>();
        return ++begun;
    }

    private int tell(int number, int outcome) {
        waiting.put(number, outcome);
        return waiting.size();
    }

    private int end(boolean commits) {
        Map<Integer, Integer> all = waiting;
        waiting = null;
        if (!commits) {
            return 0;
        }
        for (Map.Entry<Integer, Integer> one : all.entrySet()) {
            decide(one.getKey(), one.getValue());
        }
        return all.size();
    }
}
