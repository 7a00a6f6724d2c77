/**
 * All that can be seen of an object, as one text, so that two objects can be held against each other. Looking takes
 * more than 512 calls; the program does not count its calls, so the answers stay good.
 */
final class State {
    private static final int[] SPANS = {1, 2, 3, 5, 10, 20, 100, 1000, 1000000};

    private final QuotaDesk x;
    private final StringBuilder text = new StringBuilder();

    private State(QuotaDesk x) {
        this.x = x;
    }

    /** What can be seen without changing anything. */
    static String seen(QuotaDesk x) {
        State state = new State(x);
        state.look();
        return state.text.toString();
    }

    /**
     * What can be seen, and then what only comes to light as the object is used on: numbers, letters that are not
     * received, the rule, pleas and what they told. The object is another one behind that.
     */
    static String told(QuotaDesk x) {
        State state = new State(x);
        state.look();
        state.goOn();
        return state.text.toString();
    }

    private void add(String what, long answer) {
        text.append(what).append(' ').append(answer).append('\n');
    }

    private void look() {
        for (int what = 0; what <= 3; what++) {
            add("count " + what, x.count(what));
        }
        for (int i = 0; i < x.count(0); i++) {
            for (int what = 0; what <= 5; what++) {
                add("letter " + i + " " + what, x.letter(i, what));
            }
        }
        for (int gate = 0; gate < x.count(2); gate++) {
            lookAt(gate);
        }
        int window = (int) x.about(0, 1);
        for (int k = window - 4; k <= window + 4; k++) {
            add("there " + k, x.there(k));
        }
        for (int k = -1; k <= 200; k++) {
            add("used " + k, x.used(k));
        }
        for (int span : SPANS) {
            add("busiest " + span, x.busiest(span));
        }
        lookAtDesk();
    }

    private void lookAt(int gate) {
        for (int what = 0; what <= 2; what++) {
            add("about " + gate + " " + what, x.about(gate, what));
        }
        int window = (int) x.about(gate, 1);
        for (int k = window - 3; k <= window + 3; k++) {
            for (int what = 0; what <= 2; what++) {
                add("has " + gate + " " + k + " " + what, x.has(gate, k, what));
            }
        }
    }

    /** Whether the desk is up is only told by a change; no plea waits while it is down, so the change can be undone. */
    private void lookAtDesk() {
        boolean wasDown = x.desk(false);
        add("desk is down", wasDown ? 1 : 0);
        if (wasDown) {
            x.desk(true);
        }
    }

    private void goOn() {
        x.desk(false);
        for (int gate = 0; gate < x.count(2); gate++) {
            add("restart " + gate, x.restart(gate) ? 1 : 0);
            add("split", x.split());
            add("resend " + gate, x.resend(gate));
        }
        look();
        add("deliverAll", x.deliverAll(1000));
        look();
        for (int gate = 0; gate < x.count(2); gate++) {
            x.resend(gate);
            add("deliverAll", x.deliverAll(1000));
            x.plead(gate, 7 + gate);
        }
        add("deliverAll", x.deliverAll(1000));
        look();
        add("split", x.split());
        look();
        x.pass(1);
        look();
    }
}
