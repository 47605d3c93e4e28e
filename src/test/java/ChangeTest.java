/** Promise 3. */
public final class ChangeTest {
    public static void main(String[] args) {
        putsASyncIntoTheLinesOfTheSet();
        takesThePendingViewAway();
        opensAgain();
        cutHasSentOfTheSender();
        laterChangeHasALaterCut();
        refuses();
        refusesTheSixteenth();
        Checks.end();
    }

    private static void putsASyncIntoTheLinesOfTheSet() {
        GroupViews x = new GroupViews();
        Checks.due("change(1, 11)", x.change(1, 11), 1);
        Checks.due("waiting(1, 0)", x.waiting(1, 0), 1);
        Checks.due("waiting(1, 2)", x.waiting(1, 2), 0);
        Checks.due("waiting(1, 3)", x.waiting(1, 3), 1);
        Checks.due("waiting(0, 1)", x.waiting(0, 1), 0);
        Checks.due("blocked(1)", x.blocked(1), true);
        Checks.due("blocked(0)", x.blocked(0), false);
        Checks.due("changes(1)", x.changes(1), 1);
        Checks.due("view(1)", x.view(1), 0);
        Checks.due("change(1, 6)", x.change(1, 6), 2);
        Checks.due("waiting(1, 0)", x.waiting(1, 0), 1);
        Checks.due("waiting(1, 2)", x.waiting(1, 2), 1);
        Checks.due("waiting(1, 3)", x.waiting(1, 3), 1);
        // The set counts, not the present view.
        GroupViews y = Checks.inView(3);
        y.change(0, 13);
        Checks.due("to the view's other: waiting(0, 1)", y.waiting(0, 1), 0);
        Checks.due("to the set's: waiting(0, 2)", y.waiting(0, 2), 1);
        Checks.due("to the set's: waiting(0, 3)", y.waiting(0, 3), 1);
    }

    private static void takesThePendingViewAway() {
        GroupViews x = new GroupViews();
        x.change(0, 1);
        x.form(1);
        x.tell(0, 1);
        Checks.due("pending(0)", x.pending(0), 1);
        Checks.due("change(0, 1)", x.change(0, 1), 2);
        Checks.due("pending(0) after a change", x.pending(0), 0);
        Checks.due("blocked(0)", x.blocked(0), true);
        Checks.due("step(0)", x.step(0), 0);
        Checks.due("view(0)", x.view(0), 0);
    }

    private static void opensAgain() {
        GroupViews x = new GroupViews();
        x.change(0, 1);
        Checks.due("form(1)", x.form(1), 1);
        Checks.due("form(1) again", x.form(1), -4);
        x.change(0, 1);
        Checks.due("form(1) after a change", x.form(1), 2);
        Checks.due("start(1, 0)", x.start(1, 0), 1);
        Checks.due("start(2, 0)", x.start(2, 0), 2);
    }

    /** All that the sender sent is delivered before the next view, also what it did not deliver. */
    private static void cutHasSentOfTheSender() {
        GroupViews x = Checks.inView(3);
        x.send(0, 5);
        x.send(0, 6);
        x.step(0);
        Checks.changeAll(x, 3);
        int v = x.form(3);
        Checks.tellAll(x, 3, v);
        Checks.drain(x, 1, 0);
        Checks.due("0 delivers its second", x.step(0), 1);
        Checks.due("payload", x.event(0, 3), 6);
        Checks.due("0 installs", x.step(0), 2);
        Checks.drain(x, 0, 1);
        Checks.due("1 delivers the first", x.step(1), 1);
        Checks.due("1 delivers the second", x.step(1), 1);
        Checks.due("1 installs", x.step(1), 2);
    }

    /** Of two changes in one view only the later one's cut counts for the view that starts there. */
    private static void laterChangeHasALaterCut() {
        GroupViews x = Checks.inView(7);
        x.send(2, 9);
        x.change(0, 3);
        Checks.due("blocked without pending: step(0)", x.step(0), 0);
        x.carry(2, 0);
        Checks.due("blocked without pending: step(0)", x.step(0), 0);
        x.change(0, 3);
        x.change(1, 3);
        int v = x.form(3);
        Checks.due("start of 0", x.start(v, 0), 3);
        Checks.tellAll(x, 3, v);
        x.carry(0, 1);
        Checks.due("1 knows only the earlier sync", x.step(1), 0);
        x.carry(0, 1);
        Checks.due("nobody's cut has 2's message", x.step(1), 2);
        x.carry(1, 0);
        Checks.due("0 knows 2's message, beyond the limit", x.step(0), 2);
        Checks.due("known in the new view", x.known(0, 2), 0);
    }

    private static void refuses() {
        GroupViews x = Checks.inView(3);
        String before = Checks.readings(x);
        Checks.due("change(-1, 15)", x.change(-1, 15), -1);
        Checks.due("change(4, 31)", x.change(4, 31), -1);
        Checks.due("change(4, 0)", x.change(4, 0), -1);
        Checks.due("change(0, 0)", x.change(0, 0), -2);
        Checks.due("change(0, 16)", x.change(0, 16), -2);
        Checks.due("change(0, 17)", x.change(0, 17), -2);
        Checks.due("change(0, -1)", x.change(0, -1), -2);
        Checks.due("change(0, 14)", x.change(0, 14), -2);
        Checks.due("change(3, 7)", x.change(3, 7), -2);
        Checks.due("change(0, MIN + 1)", x.change(0, Integer.MIN_VALUE + 1), -2);
        Checks.due("change(0, MAX)", x.change(0, Integer.MAX_VALUE), -2);
        Checks.same("refused change", before, Checks.readings(x));
        Checks.due("a refused change does not open", x.form(1), -4);
    }

    private static void refusesTheSixteenth() {
        GroupViews x = new GroupViews();
        for (int n = 1; n <= 15; n++) {
            Checks.due("change(2, 15)", x.change(2, 15), n);
        }
        Checks.due("form(4)", x.form(4), 1);
        x.tell(2, 1);
        String before = Checks.readings(x);
        Checks.due("a wrong set comes first", x.change(2, 3), -2);
        Checks.due("the sixteenth change", x.change(2, 15), -3);
        Checks.same("refused change", before, Checks.readings(x));
        Checks.due("it is not open", x.form(4), -4);
        Checks.due("changes(2)", x.changes(2), 15);
        Checks.due("start(1, 2)", x.start(1, 2), 15);
        Checks.due("waiting(2, 3)", x.waiting(2, 3), 15);
        Checks.due("step(2)", x.step(2), 2);
        Checks.due("another process still changes", x.change(0, 15), 1);
    }
}
