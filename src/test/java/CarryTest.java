/** Promise 6. */
public final class CarryTest {
    public static void main(String[] args) {
        carriesInOrder();
        syncBringsTheMessagesOfItsCut();
        syncBringsMessagesOfEachProcess();
        syncOfViewZeroBringsNone();
        carriesWhatIsKnown();
        keepsMessagesOfALaterView();
        keepsLongLines();
        refuses();
        Checks.end();
    }

    private static void carriesInOrder() {
        GroupViews x = Checks.inView(3);
        x.send(0, 1);
        x.send(0, 2);
        x.change(0, 3);
        Checks.due("waiting(0, 1)", x.waiting(0, 1), 3);
        Checks.due("carry(0, 1)", x.carry(0, 1), 1);
        Checks.due("known(1, 0)", x.known(1, 0), 1);
        Checks.due("carry(0, 1)", x.carry(0, 1), 1);
        Checks.due("known(1, 0)", x.known(1, 0), 2);
        Checks.due("carry(0, 1)", x.carry(0, 1), 2);
        Checks.due("carry(0, 1)", x.carry(0, 1), 0);
        Checks.due("the other way", x.carry(1, 0), 0);
        Checks.due("not in the view", x.carry(0, 2), 0);
        Checks.due("carrying delivers nothing", x.delivered(1, 0), 0);
        Checks.due("step(1)", x.step(1), 1);
        Checks.due("payload", x.event(1, 3), 1);
    }

    private static void syncBringsTheMessagesOfItsCut() {
        GroupViews x = Checks.inView(15);
        x.send(2, 20);
        x.send(2, 21);
        x.send(2, 22);
        Checks.drain(x, 2, 0);
        x.step(0);
        x.step(0);
        x.send(0, 1);
        x.send(0, 2);
        // To the processes 0, 1 and 3: not to 2.
        x.change(0, 11);
        Checks.due("messages first", x.carry(0, 3), 1);
        Checks.due("messages first", x.carry(0, 3), 1);
        Checks.due("known(3, 2)", x.known(3, 2), 0);
        Checks.due("the sync", x.carry(0, 3), 2);
        Checks.due("known(3, 2) is what 0 delivered", x.known(3, 2), 2);
        Checks.due("known(3, 0)", x.known(3, 0), 2);
        Checks.due("known(3, 1)", x.known(3, 1), 0);
        int[] payloads = {20, 21, 1, 2};
        for (int payload : payloads) {
            Checks.due("step(3)", x.step(3), 1);
            Checks.due("payload", x.event(3, 3), payload);
        }
        Checks.due("2's third is not known", x.step(3), 0);
        // A process outside the set gets no sync.
        Checks.drain(x, 0, 2);
        Checks.due("known(2, 0)", x.known(2, 0), 2);
        Checks.due("carry(0, 2)", x.carry(0, 2), 0);
    }

    private static void syncBringsMessagesOfEachProcess() {
        for (int r = 0; r < 3; r++) {
            GroupViews x = Checks.inView(15);
            x.send(r, 5);
            Checks.drain(x, r, 3);
            x.step(3);
            x.change(3, 15);
            int receiver = r == 0 ? 1 : 0;
            Checks.due("carry(3, receiver)", x.carry(3, receiver), 2);
            for (int q = 0; q < 4; q++) {
                Checks.due("known of " + q, x.known(receiver, q), q == r ? 1 : 0);
            }
        }
    }

    private static void syncOfViewZeroBringsNone() {
        GroupViews x = new GroupViews();
        x.send(0, 1);
        x.send(0, 2);
        x.change(0, 3);
        Checks.due("carry(0, 1)", x.carry(0, 1), 2);
        Checks.due("known(1, 0)", x.known(1, 0), 0);
        Checks.due("step(1)", x.step(1), 0);
        Checks.due("known(0, 0)", x.known(0, 0), 2);
    }

    private static void carriesWhatIsKnown() {
        GroupViews x = Checks.inView(7);
        x.send(2, 9);
        x.carry(2, 0);
        x.step(0);
        x.change(0, 7);
        x.carry(0, 1);
        Checks.due("known(1, 2) by 0's sync", x.known(1, 2), 1);
        Checks.due("waiting(2, 1)", x.waiting(2, 1), 1);
        Checks.due("carry(2, 1) of what 1 knows", x.carry(2, 1), 1);
        Checks.due("known(1, 2)", x.known(1, 2), 1);
        Checks.due("waiting(2, 1)", x.waiting(2, 1), 0);
    }

    private static void keepsMessagesOfALaterView() {
        GroupViews x = new GroupViews();
        Checks.changeAll(x, 3);
        x.form(3);
        Checks.tellAll(x, 3, 1);
        Checks.drainAll(x);
        x.step(0);
        x.send(0, 4);
        Checks.due("carry(0, 1)", x.carry(0, 1), 1);
        Checks.due("known(1, 0) in view 0", x.known(1, 0), 0);
        Checks.due("1 installs", x.step(1), 2);
        Checks.due("known(1, 0) in view 1", x.known(1, 0), 1);
        Checks.due("step(1)", x.step(1), 1);
        Checks.due("payload", x.event(1, 3), 4);
    }

    /** Fifteen syncs and four messages in each of many views go through one line. */
    private static void keepsLongLines() {
        GroupViews x = new GroupViews();
        for (int v = 1; v <= 15; v++) {
            Checks.changeAll(x, 3);
            Checks.due("form(3)", x.form(3), v);
            Checks.due("tell(0, v)", x.tell(0, v), 0);
            Checks.due("tell(1, v)", x.tell(1, v), 0);
            Checks.drain(x, 1, 0);
            Checks.due("0 installs", Checks.stepUntilView(x, 0), true);
            for (int n = 1; n <= 4; n++) {
                Checks.due("send(0)", x.send(0, 10 * v + n), n);
            }
        }
        Checks.due("waiting(0, 1)", x.waiting(0, 1), 75);
        for (int v = 1; v <= 15; v++) {
            Checks.due("carry(0, 1)", x.carry(0, 1), 2);
            for (int n = 1; n <= 4; n++) {
                Checks.due("carry(0, 1)", x.carry(0, 1), 1);
            }
        }
        Checks.due("carry(0, 1)", x.carry(0, 1), 0);
    }

    private static void refuses() {
        GroupViews x = Checks.inView(15);
        x.send(0, 1);
        x.send(3, 1);
        String before = Checks.readings(x);
        for (int p = 0; p < 4; p++) {
            Checks.due("carry(p, p)", x.carry(p, p), -1);
            Checks.due("carry(p, 4)", x.carry(p, 4), -1);
            Checks.due("carry(4, p)", x.carry(4, p), -1);
            Checks.due("carry(p, -1)", x.carry(p, -1), -1);
            Checks.due("carry(-1, p)", x.carry(-1, p), -1);
        }
        Checks.due("carry(4, 4)", x.carry(4, 4), -1);
        Checks.due("carry(MIN, MAX)", x.carry(Integer.MIN_VALUE, Integer.MAX_VALUE), -1);
        Checks.same("refused carry", before, Checks.readings(x));
    }
}
