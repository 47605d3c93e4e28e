/** The calls by number, so that a test can make the same ones of the program and of the model. */
final class Calls {
    static final String[] NAMES = {
        "send", "change", "form", "tell", "carry", "step", "event", "view", "members", "start",
        "blocked", "pending", "changes", "sent", "delivered", "known", "waiting"};

    private Calls() {
    }

    static int kindOf(String name) {
        for (int kind = 0; kind < NAMES.length; kind++) {
            if (NAMES[kind].equals(name)) {
                return kind;
            }
        }
        throw new IllegalArgumentException(name);
    }

    /** Whether the call has two arguments; if not, the second is left out. */
    static boolean hasTwoArguments(int kind) {
        switch (NAMES[kind]) {
            case "send":
            case "change":
            case "tell":
            case "carry":
            case "event":
            case "start":
            case "delivered":
            case "known":
            case "waiting":
                return true;
            default:
                return false;
        }
    }

    static String textOf(int kind, int a, int b) {
        String second = hasTwoArguments(kind) ? ", " + b : "";
        return NAMES[kind] + "(" + a + second + ")";
    }

    static int ask(GroupViews x, int kind, int a, int b) {
        switch (NAMES[kind]) {
            case "send": return x.send(a, b);
            case "change": return x.change(a, b);
            case "form": return x.form(a);
            case "tell": return x.tell(a, b);
            case "carry": return x.carry(a, b);
            case "step": return x.step(a);
            case "event": return x.event(a, b);
            case "view": return x.view(a);
            case "members": return x.members(a);
            case "start": return x.start(a, b);
            case "blocked": return x.blocked(a) ? 1 : 0;
            case "pending": return x.pending(a);
            case "changes": return x.changes(a);
            case "sent": return x.sent(a);
            case "delivered": return x.delivered(a, b);
            case "known": return x.known(a, b);
            default: return x.waiting(a, b);
        }
    }

    static int ask(Model x, int kind, int a, int b) {
        switch (NAMES[kind]) {
            case "send": return x.send(a, b);
            case "change": return x.change(a, b);
            case "form": return x.form(a);
            case "tell": return x.tell(a, b);
            case "carry": return x.carry(a, b);
            case "step": return x.step(a);
            case "event": return x.event(a, b);
            case "view": return x.view(a);
            case "members": return x.members(a);
            case "start": return x.start(a, b);
            case "blocked": return x.blocked(a);
            case "pending": return x.pending(a);
            case "changes": return x.changes(a);
            case "sent": return x.sent(a);
            case "delivered": return x.delivered(a, b);
            case "known": return x.known(a, b);
            default: return x.waiting(a, b);
        }
    }
}
