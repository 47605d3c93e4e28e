/** Promise 2. */
public final class SendTest {
    public static void main(String[] args) {
        sendsToTheOthersOfTheView();
        sendsAloneInViewZero();
        vectorIsOfTheTimeOfSending();
        refuses();
        refusesWhenBlocked();
        countsAnewInEachView();
        keepsAnyPayload();
        Checks.end();
    }

    private static void sendsToTheOthersOfTheView() {
        GroupViews x = Checks.inView(11);
        Checks.due("first send(1)", x.send(1, 70), 1);
        Checks.due("second send(1)", x.send(1, 71), 2);
        Checks.due("waiting(1, 0)", x.waiting(1, 0), 2);
        Checks.due("waiting(1, 2)", x.waiting(1, 2), 0);
        Checks.due("waiting(1, 3)", x.waiting(1, 3), 2);
        Checks.due("waiting(0, 1)", x.waiting(0, 1), 0);
        Checks.due("sent(1)", x.sent(1), 2);
        Checks.due("the sender knows: known(1, 1)", x.known(1, 1), 2);
        Checks.due("another does not: known(0, 1)", x.known(0, 1), 0);
        Checks.due("not delivered yet: delivered(1, 1)", x.delivered(1, 1), 0);
        Checks.due("another sender counts for itself", x.send(3, 72), 1);
    }

    private static void sendsAloneInViewZero() {
        GroupViews x = new GroupViews();
        for (int n = 1; n <= 4; n++) {
            Checks.due("send(2) in view 0", x.send(2, 10 * n), n);
        }
        for (int q = 0; q < 4; q++) {
            if (q != 2) {
                Checks.due("waiting(2, " + q + ")", x.waiting(2, q), 0);
                Checks.due("known(" + q + ", 2)", x.known(q, 2), 0);
            }
        }
        Checks.due("known(2, 2)", x.known(2, 2), 4);
        for (int n = 1; n <= 4; n++) {
            Checks.due("step(2)", x.step(2), 1);
            Checks.due("sender", x.event(2, 1), 2);
            Checks.due("number", x.event(2, 2), n);
            Checks.due("payload", x.event(2, 3), 10 * n);
        }
        Checks.due("step(2) with nothing left", x.step(2), 0);
    }

    /** What the sender delivers after sending does not hold the message back elsewhere. */
    private static void vectorIsOfTheTimeOfSending() {
        GroupViews x = Checks.inView(7);
        x.send(0, 1);
        x.send(1, 2);
        x.carry(0, 1);
        Checks.due("1 delivers 0's message after it sent", x.step(1), 1);
        Checks.due("of process 0", x.event(1, 1), 0);
        x.carry(1, 2);
        Checks.due("2 needs only what stood when 1 sent", x.step(2), 1);
        Checks.due("of process 1", x.event(2, 1), 1);
    }

    private static void refuses() {
        GroupViews x = Checks.inView(3);
        for (int n = 1; n <= 4; n++) {
            x.send(0, n);
        }
        String before = Checks.readings(x);
        Checks.due("send(-1)", x.send(-1, 5), -1);
        Checks.due("send(4)", x.send(4, 5), -1);
        Checks.due("send(MIN)", x.send(Integer.MIN_VALUE, 5), -1);
        Checks.due("send(MAX)", x.send(Integer.MAX_VALUE, 5), -1);
        Checks.due("the fifth send(0)", x.send(0, 5), -3);
        Checks.same("refused send", before, Checks.readings(x));
    }

    private static void refusesWhenBlocked() {
        GroupViews x = Checks.inView(3);
        for (int n = 1; n <= 4; n++) {
            x.send(0, n);
        }
        Checks.changeAll(x, 3);
        String before = Checks.readings(x);
        Checks.due("blocked comes before four sent", x.send(0, 5), -2);
        Checks.due("blocked", x.send(1, 5), -2);
        Checks.same("refused send", before, Checks.readings(x));
    }

    private static void countsAnewInEachView() {
        GroupViews x = Checks.inView(3);
        for (int n = 1; n <= 4; n++) {
            Checks.due("send(0) in view 1", x.send(0, n), n);
        }
        Checks.due("second view", Checks.install(x, 3), 2);
        for (int n = 1; n <= 4; n++) {
            Checks.due("send(0) in view 2", x.send(0, 100 + n), n);
        }
        Checks.due("the fifth send(0) in view 2", x.send(0, 5), -3);
        Checks.drain(x, 0, 1);
        Checks.due("step(1)", x.step(1), 1);
        Checks.due("payload of view 2", x.event(1, 3), 101);
    }

    private static void keepsAnyPayload() {
        int[] payloads = {0, -1, Integer.MIN_VALUE, Integer.MAX_VALUE};
        GroupViews x = Checks.inView(9);
        for (int payload : payloads) {
            x.send(3, payload);
        }
        Checks.drain(x, 3, 0);
        for (int payload : payloads) {
            Checks.due("step(0)", x.step(0), 1);
            Checks.due("payload", x.event(0, 3), payload);
        }
    }
}
