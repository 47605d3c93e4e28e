/** Promises 9 to 18: the calls that only read. */
public final class ReadingsTest {
    public static void main(String[] args) {
        view();
        members();
        start();
        blocked();
        pending();
        changes();
        sent();
        delivered();
        known();
        waiting();
        viewAndPendingReachFifteen();
        countsReachFour();
        knownIsOfThePresentViewAlone();
        readingChangesNothing();
        Checks.end();
    }

    private static void view() {
        GroupViews x = Checks.inView(6);
        int[] want = {0, 1, 1, 0};
        for (int p = 0; p < 4; p++) {
            Checks.due("view(" + p + ")", x.view(p), want[p]);
        }
        Checks.changeAll(x, 6);
        Checks.due("view(1) is the old one while it changes", x.view(1), 1);
        for (int p : Checks.NO_PROCESS) {
            Checks.due("view(" + p + ")", x.view(p), -1);
        }
    }

    private static void members() {
        GroupViews x = Checks.inView(6);
        Checks.due("second view", Checks.install(x, 9), 2);
        Checks.due("members(0)", x.members(0), 0);
        Checks.due("members(1)", x.members(1), 6);
        Checks.due("members(2)", x.members(2), 9);
        Checks.due("members(3)", x.members(3), 0);
        int[] notFormed = {-1, 15, 16, 17, Integer.MIN_VALUE, Integer.MAX_VALUE};
        for (int v : notFormed) {
            Checks.due("members(" + v + ")", x.members(v), 0);
        }
    }

    private static void start() {
        GroupViews x = new GroupViews();
        x.change(1, 6);
        Checks.changeAll(x, 6);
        x.form(6);
        int[] want = {0, 2, 1, 0};
        for (int p = 0; p < 4; p++) {
            Checks.due("start(1, " + p + ")", x.start(1, p), want[p]);
            Checks.due("start(0, " + p + ")", x.start(0, p), 0);
            Checks.due("start(2, " + p + ")", x.start(2, p), 0);
            Checks.due("start(-1, " + p + ")", x.start(-1, p), 0);
            Checks.due("start(16, " + p + ")", x.start(16, p), 0);
            Checks.due("start(MAX, " + p + ")", x.start(Integer.MAX_VALUE, p), 0);
        }
        x.change(1, 6);
        Checks.due("a later change leaves it", x.start(1, 1), 2);
        for (int p : Checks.NO_PROCESS) {
            Checks.due("start(1, " + p + ")", x.start(1, p), 0);
            Checks.due("start(" + p + ", " + p + ")", x.start(p, p), 0);
        }
    }

    private static void blocked() {
        GroupViews x = new GroupViews();
        x.change(3, 8);
        Checks.due("blocked(3)", x.blocked(3), true);
        Checks.due("blocked(2)", x.blocked(2), false);
        x.form(8);
        x.tell(3, 1);
        Checks.due("blocked(3) when told", x.blocked(3), true);
        x.step(3);
        Checks.due("blocked(3) when installed", x.blocked(3), false);
        x.change(0, 1);
        x.change(3, 8);
        for (int p : Checks.NO_PROCESS) {
            Checks.due("blocked(" + p + ")", x.blocked(p), false);
        }
    }

    private static void pending() {
        GroupViews x = Checks.inView(1);
        Checks.changeAll(x, 3);
        x.form(3);
        Checks.due("pending(0) before it is told", x.pending(0), 0);
        x.tell(0, 2);
        Checks.due("pending(0)", x.pending(0), 2);
        Checks.due("pending(1)", x.pending(1), 0);
        x.step(0);
        Checks.due("pending(0) when installed", x.pending(0), 0);
        for (int p : Checks.NO_PROCESS) {
            Checks.due("pending(" + p + ")", x.pending(p), -1);
        }
    }

    private static void changes() {
        GroupViews x = new GroupViews();
        x.change(2, 4);
        x.change(2, 4);
        x.change(2, 3);
        Checks.due("changes(2)", x.changes(2), 2);
        Checks.due("changes(1)", x.changes(1), 0);
        for (int p : Checks.NO_PROCESS) {
            Checks.due("changes(" + p + ")", x.changes(p), -1);
        }
    }

    private static void sent() {
        GroupViews x = Checks.inView(15);
        for (int n = 1; n <= 4; n++) {
            x.send(1, n);
            Checks.due("sent(1)", x.sent(1), n);
        }
        x.send(1, 5);
        Checks.due("sent(1)", x.sent(1), 4);
        Checks.due("sent(0)", x.sent(0), 0);
        x.change(1, 15);
        Checks.due("sent(1) when blocked", x.sent(1), 4);
        for (int p : Checks.NO_PROCESS) {
            Checks.due("sent(" + p + ")", x.sent(p), -1);
        }
    }

    private static void delivered() {
        GroupViews x = Checks.inView(15);
        for (int q = 0; q < 4; q++) {
            for (int n = 0; n <= q; n++) {
                x.send(q, n);
            }
        }
        Checks.drainAll(x);
        for (int i = 0; i < 10; i++) {
            Checks.due("step(2)", x.step(2), 1);
        }
        for (int q = 0; q < 4; q++) {
            Checks.due("delivered(2, " + q + ")", x.delivered(2, q), q + 1);
            Checks.due("delivered(1, " + q + ")", x.delivered(1, q), 0);
        }
        for (int p : Checks.NO_PROCESS) {
            Checks.due("delivered(" + p + ", 0)", x.delivered(p, 0), -1);
            Checks.due("delivered(0, " + p + ")", x.delivered(0, p), -1);
            Checks.due("delivered(" + p + ", 4)", x.delivered(p, 4), -1);
        }
    }

    private static void known() {
        GroupViews x = Checks.inView(15);
        for (int n = 1; n <= 4; n++) {
            x.send(3, n);
            Checks.due("known(3, 3)", x.known(3, 3), n);
            Checks.due("known(1, 3)", x.known(1, 3), n - 1);
            x.carry(3, 1);
            Checks.due("known(1, 3)", x.known(1, 3), n);
        }
        x.step(1);
        Checks.due("delivered or not: known(1, 3)", x.known(1, 3), 4);
        Checks.due("known(0, 3)", x.known(0, 3), 0);
        Checks.due("known(3, 1)", x.known(3, 1), 0);
        Checks.due("known(1, 1)", x.known(1, 1), 0);
        for (int p : Checks.NO_PROCESS) {
            Checks.due("known(" + p + ", 0)", x.known(p, 0), -1);
            Checks.due("known(0, " + p + ")", x.known(0, p), -1);
            Checks.due("known(" + p + ", 4)", x.known(p, 4), -1);
        }
    }

    private static void waiting() {
        GroupViews x = Checks.inView(7);
        x.send(0, 1);
        x.change(0, 15);
        int[] want = {-1, 2, 2, 1};
        for (int q = 0; q < 4; q++) {
            Checks.due("waiting(0, " + q + ")", x.waiting(0, q), want[q]);
            Checks.due("waiting(" + q + ", 0)", x.waiting(q, 0), q == 0 ? -1 : 0);
            Checks.due("waiting(q, q)", x.waiting(q, q), -1);
        }
        x.carry(0, 2);
        Checks.due("waiting(0, 2)", x.waiting(0, 2), 1);
        Checks.due("waiting(0, 1)", x.waiting(0, 1), 2);
        for (int p : Checks.NO_PROCESS) {
            Checks.due("waiting(" + p + ", 0)", x.waiting(p, 0), -1);
            Checks.due("waiting(0, " + p + ")", x.waiting(0, p), -1);
            Checks.due("waiting(" + p + ", " + p + ")", x.waiting(p, p), -1);
        }
    }

    private static void viewAndPendingReachFifteen() {
        GroupViews x = new GroupViews();
        for (int v = 1; v <= 15; v++) {
            x.change(3, 8);
            Checks.due("changes(3)", x.changes(3), v);
            x.form(8);
            Checks.due("members(" + v + ")", x.members(v), 8);
            Checks.due("start(" + v + ", 3)", x.start(v, 3), v);
            x.tell(3, v);
            Checks.due("pending(3)", x.pending(3), v);
            Checks.due("view(3)", x.view(3), v - 1);
            x.step(3);
            Checks.due("pending(3)", x.pending(3), 0);
            Checks.due("view(3)", x.view(3), v);
        }
    }

    private static void countsReachFour() {
        for (int p = 0; p < 4; p++) {
            GroupViews x = new GroupViews();
            for (int n = 1; n <= 4; n++) {
                x.send(p, n);
                Checks.due("sent(p)", x.sent(p), n);
                Checks.due("known(p, p)", x.known(p, p), n);
                Checks.due("delivered(p, p)", x.delivered(p, p), n - 1);
                x.step(p);
                Checks.due("delivered(p, p)", x.delivered(p, p), n);
            }
            x.send(p, 5);
            x.step(p);
            Checks.due("sent(p)", x.sent(p), 4);
            Checks.due("known(p, p)", x.known(p, p), 4);
            Checks.due("delivered(p, p)", x.delivered(p, p), 4);
        }
    }

    /** "in p's present view": not those of the view before it, nor those of the one after it. */
    private static void knownIsOfThePresentViewAlone() {
        GroupViews x = Checks.inView(3);
        x.send(0, 1);
        x.send(0, 2);
        x.carry(0, 1);
        Checks.due("known(1, 0)", x.known(1, 0), 1);
        Checks.changeAll(x, 3);
        x.form(3);
        Checks.tellAll(x, 3, 2);
        x.carry(1, 0);
        Checks.due("0 installs view 2", Checks.stepUntilView(x, 0), true);
        Checks.due("known(0, 0) in view 2", x.known(0, 0), 0);
        x.send(0, 3);
        Checks.drain(x, 0, 1);
        Checks.due("known(1, 0) in view 1 still", x.known(1, 0), 2);
        Checks.due("1 installs view 2", Checks.stepUntilView(x, 1), true);
        Checks.due("known(1, 0) in view 2", x.known(1, 0), 1);
    }

    private static void readingChangesNothing() {
        GroupViews x = Checks.inView(15);
        x.send(0, 1);
        x.change(1, 15);
        String before = Checks.readings(x);
        Checks.same("reading", before, Checks.readings(x));
    }
}
