/**
 * Promises 1 to 18: in each of some states each call is made with each argument at and around the
 * document's edges. The answer, all readings, and how the run goes on are compared with the model,
 * so that a refused call is seen to change nothing, also nothing that has no reading.
 */
public final class EveryArgumentTest {
    private static final int[] EDGES = {
        Integer.MIN_VALUE, Integer.MIN_VALUE + 1, -256, -16, -5, -4, -3, -2, -1, 0, 1, 2, 3, 4, 5, 6,
        7, 8, 9, 10, 11, 12, 13, 14, 15, 16, 17, 31, 32, 33, 255, 256, 257, 65537,
        Integer.MAX_VALUE - 1, Integer.MAX_VALUE};
    private static final int[] PAYLOADS = {Integer.MIN_VALUE, -1, 0, 1, Integer.MAX_VALUE};
    /** The calls that can change something come first among the names. */
    private static final int CHANGING = 6;

    private static final String VIEW_OF_TWO =
        "change 0 3, change 1 3, form 3, tell 0 1, tell 1 1, step 0, step 1, carry 0 1, carry 1 0";
    private static final String VIEW_OF_ALL =
        "change 0 15, change 1 15, change 2 15, change 3 15, form 15, tell 0 1, tell 1 1, tell 2 1, "
        + "tell 3 1, step 0, step 1, step 2, step 3";
    private static final String[] STATES = {
        "",
        "send 0 1, send 0 2, send 0 3, send 0 4, step 0, send 3 5",
        "change 0 3, change 1 15, change 2 7",
        "change 0 3, change 1 3, form 3, change 3 12",
        "change 0 3, change 1 3, form 3, tell 0 1, change 1 7",
        "change 0 1, form 1, change 0 3, change 1 3, form 3, tell 0 2, change 2 4, form 4, tell 2 3",
        VIEW_OF_TWO + ", send 0 1, send 0 2, send 0 3, send 0 4, carry 0 1, step 1, send 1 5",
        VIEW_OF_TWO + ", send 1 7, change 0 3, change 1 3, form 3, tell 0 2, carry 1 0",
        VIEW_OF_TWO + ", change 0 3, change 1 3, form 3, tell 0 2, tell 1 2, carry 1 0, carry 0 1, "
            + "step 0, send 0 6, change 0 3, change 1 3, form 3, tell 0 3, tell 1 3, carry 0 1",
        VIEW_OF_ALL + ", send 3 1, carry 3 2, carry 3 2, step 2, send 2 2, carry 2 0, carry 2 0",
        VIEW_OF_ALL + ", send 2 1, send 2 2, carry 2 0, carry 2 0, carry 2 0, step 0, step 0, "
            + "change 0 3, change 1 3, form 3, tell 0 2, tell 1 2, carry 0 1, carry 0 1, carry 1 0",
        times(15, "change 1 15") + ", send 0 3, change 0 3",
        times(14, "change 0 1, form 1") + ", tell 0 14, change 0 1, change 1 2",
        times(15, "change 0 1, form 1") + ", change 1 3, tell 0 15",
    };

    private final String state;
    private final GroupViews x = new GroupViews();
    private final Model model = new Model();
    private int made;

    private EveryArgumentTest(String state) {
        this.state = state;
        play(state);
    }

    public static void main(String[] args) {
        for (String state : STATES) {
            for (int kind = 0; kind < Calls.NAMES.length; kind++) {
                tryArguments(state, kind);
            }
        }
        Checks.end();
    }

    private static String times(int count, String calls) {
        StringBuilder text = new StringBuilder(calls);
        for (int i = 1; i < count; i++) {
            text.append(", ").append(calls);
        }
        return text.toString();
    }

    private static void tryArguments(String state, int kind) {
        int[] none = {0};
        int[] some = Calls.NAMES[kind].equals("send") ? PAYLOADS : EDGES;
        int[] seconds = Calls.hasTwoArguments(kind) ? some : none;
        if (kind >= CHANGING) {
            // Reading changes nothing, so one object is enough for some readings.
            for (int a : EDGES) {
                EveryArgumentTest run = new EveryArgumentTest(state);
                for (int b : seconds) {
                    run.call(kind, a, b);
                }
            }
            return;
        }
        for (int a : EDGES) {
            for (int b : seconds) {
                EveryArgumentTest run = new EveryArgumentTest(state);
                run.call(kind, a, b);
                run.readAll();
                run.goOn();
            }
        }
    }

    private void play(String calls) {
        if (calls.isEmpty()) {
            return;
        }
        for (String call : calls.split(", ")) {
            String[] words = call.split(" ");
            int second = words.length > 2 ? Integer.parseInt(words[2]) : 0;
            call(Calls.kindOf(words[0]), Integer.parseInt(words[1]), second);
        }
    }

    private void call(String name, int a, int b) {
        call(Calls.kindOf(name), a, b);
    }

    private void call(int kind, int a, int b) {
        made++;
        int got = Calls.ask(x, kind, a, b);
        int want = Calls.ask(model, kind, a, b);
        if (got != want) {
            Checks.due("after [" + state + "]: call " + made + ", " + Calls.textOf(kind, a, b), got, want);
        }
    }

    private void readAll() {
        for (int p = 0; p < 4; p++) {
            call("view", p, 0);
            call("blocked", p, 0);
            call("pending", p, 0);
            call("changes", p, 0);
            call("sent", p, 0);
            for (int q = 0; q < 4; q++) {
                call("event", p, q);
                call("delivered", p, q);
                call("known", p, q);
                call("waiting", p, q);
            }
        }
        for (int v = 1; v <= 4; v++) {
            call("members", v, 0);
            for (int p = 0; p < 4; p++) {
                call("start", v, p);
            }
        }
    }

    /** Shows who is open, what was told, what is known and what the packets hold. */
    private void goOn() {
        int[] sets = {15, 7, 3, 12, 1, 2, 4, 8};
        for (int set : sets) {
            call("form", set, 0);
        }
        tellNewest();
        carryAndStep();
        for (int p = 0; p < 4; p++) {
            call("send", p, 900 + p);
            call("change", p, 15);
        }
        call("form", 15, 0);
        tellNewest();
        carryAndStep();
    }

    private void tellNewest() {
        int newest = 0;
        while (model.members(newest + 1) != 0) {
            newest++;
        }
        for (int p = 0; p < 4; p++) {
            call("tell", p, newest - 1);
            call("tell", p, newest);
        }
    }

    private void carryAndStep() {
        for (int turn = 0; turn < 2; turn++) {
            for (int p = 0; p < 4; p++) {
                for (int q = 0; q < 4; q++) {
                    call("carry", p, q);
                }
                call("step", p, 0);
                call("step", p, 0);
                call("step", p, 0);
                call("event", p, 3);
            }
        }
    }
}
