/** All that the calls which change nothing tell of an object, as one text. */
final class View {
    private View() {
    }

    static String of(CreditLinks x) {
        StringBuilder text = new StringBuilder();
        text.append(x.isUp() ? "up" : "down").append(" under way ").append(x.underWay()).append('/')
            .append(x.backUnderWay()).append(" would resend ").append(x.wouldResend()).append(" credit");
        for (int link = 0; link < 4; link++) {
            text.append(' ').append(x.credit(link));
        }
        for (int i = 0; i < x.deliveries(); i++) {
            text.append(" [").append(x.forSender(i)).append(' ').append(x.heard(i)).append(' ')
                .append(x.forReceiver(i)).append(' ').append(x.effects(i)).append(']');
        }
        return text.toString();
    }
}
