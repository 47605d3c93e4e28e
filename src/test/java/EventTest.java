/** Promise 8. */
public final class EventTest {
    public static void main(String[] args) {
        tellsAMessage();
        tellsAView();
        keepsTheLatestThatDidSomething();
        tellsAnyPayload();
        tellsAMessageAfterAView();
        zeroIfThereWasNone();
        zeroIfThereIsNoSuchProcess();
        zeroIfThereIsNoSuchPlace();
        Checks.end();
    }

    private static void event(GroupViews x, int p, int[] want) {
        for (int i = 0; i < 4; i++) {
            Checks.due("event(" + p + ", " + i + ")", x.event(p, i), want[i]);
        }
    }

    private static void tellsAMessage() {
        GroupViews x = Checks.inView(14);
        x.send(3, 77);
        x.send(3, -78);
        Checks.drain(x, 3, 1);
        x.step(1);
        event(x, 1, new int[] {1, 3, 1, 77});
        x.step(1);
        event(x, 1, new int[] {1, 3, 2, -78});
        event(x, 0, new int[] {0, 0, 0, 0});
    }

    private static void tellsAView() {
        GroupViews x = Checks.inView(14);
        event(x, 1, new int[] {2, 1, 14, 2});
        event(x, 2, new int[] {2, 1, 14, 4});
        event(x, 3, new int[] {2, 1, 14, 8});
        Checks.due("second view", Checks.install(x, 15), 2);
        event(x, 0, new int[] {2, 2, 15, 1});
        event(x, 1, new int[] {2, 2, 15, 14});
        event(x, 3, new int[] {2, 2, 15, 14});
        Checks.due("third view", Checks.install(x, 5), 3);
        event(x, 2, new int[] {2, 3, 5, 5});
        event(x, 1, new int[] {2, 2, 15, 14});
    }

    private static void keepsTheLatestThatDidSomething() {
        GroupViews x = new GroupViews();
        x.send(2, 5);
        x.step(2);
        Checks.due("step(2)", x.step(2), 0);
        event(x, 2, new int[] {1, 2, 1, 5});
        x.change(2, 4);
        Checks.due("blocked step(2)", x.step(2), 0);
        x.form(4);
        x.tell(2, 1);
        event(x, 2, new int[] {1, 2, 1, 5});
        Checks.due("step(2)", x.step(2), 2);
        event(x, 2, new int[] {2, 1, 4, 4});
        Checks.due("step(2)", x.step(2), 0);
        event(x, 2, new int[] {2, 1, 4, 4});
    }

    /** "0 if there was none": also when something was sent, carried or changed. */
    private static void zeroIfThereWasNone() {
        GroupViews x = new GroupViews();
        event(x, 0, new int[] {0, 0, 0, 0});
        x.send(0, 6);
        x.change(1, 3);
        x.carry(1, 0);
        Checks.due("step(1) does nothing", x.step(1), 0);
        event(x, 0, new int[] {0, 0, 0, 0});
        event(x, 1, new int[] {0, 0, 0, 0});
        Checks.due("step(0)", x.step(0), 1);
        event(x, 0, new int[] {1, 0, 1, 6});
        event(x, 1, new int[] {0, 0, 0, 0});
    }

    /** "or p is not 0 .. 3" */
    private static void zeroIfThereIsNoSuchProcess() {
        GroupViews x = Checks.inView(15);
        for (int p : Checks.NO_PROCESS) {
            event(x, p, new int[] {0, 0, 0, 0});
        }
    }

    /** "or i is not 0 .. 3" */
    private static void zeroIfThereIsNoSuchPlace() {
        int[] noPlace = {-1, 4, 5, 8, Integer.MIN_VALUE, Integer.MAX_VALUE};
        GroupViews x = Checks.inView(15);
        x.send(3, 6);
        x.step(3);
        for (int p = 0; p < 4; p++) {
            for (int i : noPlace) {
                Checks.due("event(" + p + ", " + i + ")", x.event(p, i), 0);
            }
        }
        Checks.due("event(9, 9)", x.event(9, 9), 0);
    }

    /** A payload can be any int, also one that looks like an answer that tells of nothing. */
    private static void tellsAnyPayload() {
        int[] payloads = {0, -1, Integer.MIN_VALUE, Integer.MAX_VALUE};
        GroupViews x = new GroupViews();
        for (int i = 0; i < 4; i++) {
            x.send(0, payloads[i]);
            x.step(0);
            event(x, 0, new int[] {1, 0, i + 1, payloads[i]});
        }
    }

    /** A later event of the other kind leaves nothing of the earlier one. */
    private static void tellsAMessageAfterAView() {
        GroupViews x = Checks.inView(15);
        event(x, 0, new int[] {2, 1, 15, 1});
        x.send(0, 0);
        x.step(0);
        event(x, 0, new int[] {1, 0, 1, 0});
    }
}
