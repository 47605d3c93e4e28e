/** Promise 8. */
public final class EventTest {
    public static void main(String[] args) {
        tellsAMessage();
        tellsAView();
        keepsTheLatestThatDidSomething();
        answersZero();
        Checks.end();
    }

    private static void event(GroupViews x, int p, int[] want) {
        for (int i = 0; i < 4; i++) {
            Checks.due("event(" + p + ", " + i + ")", x.event(p, i), want[i]);
        }
    }

    private static void tellsAMessage() {
        GroupViews x = Checks.inView(14);
        x.send(3, 77);
        x.send(3, -78);
        Checks.drain(x, 3, 1);
        x.step(1);
        event(x, 1, new int[] {1, 3, 1, 77});
        x.step(1);
        event(x, 1, new int[] {1, 3, 2, -78});
        event(x, 0, new int[] {0, 0, 0, 0});
    }

    private static void tellsAView() {
        GroupViews x = Checks.inView(14);
        event(x, 1, new int[] {2, 1, 14, 2});
        event(x, 2, new int[] {2, 1, 14, 4});
        event(x, 3, new int[] {2, 1, 14, 8});
        Checks.due("second view", Checks.install(x, 15), 2);
        event(x, 0, new int[] {2, 2, 15, 1});
        event(x, 1, new int[] {2, 2, 15, 14});
        event(x, 3, new int[] {2, 2, 15, 14});
        Checks.due("third view", Checks.install(x, 5), 3);
        event(x, 2, new int[] {2, 3, 5, 5});
        event(x, 1, new int[] {2, 2, 15, 14});
    }

    private static void keepsTheLatestThatDidSomething() {
        GroupViews x = new GroupViews();
        x.send(2, 5);
        x.step(2);
        Checks.due("step(2)", x.step(2), 0);
        event(x, 2, new int[] {1, 2, 1, 5});
        x.change(2, 4);
        Checks.due("blocked step(2)", x.step(2), 0);
        x.form(4);
        x.tell(2, 1);
        event(x, 2, new int[] {1, 2, 1, 5});
        Checks.due("step(2)", x.step(2), 2);
        event(x, 2, new int[] {2, 1, 4, 4});
        Checks.due("step(2)", x.step(2), 0);
        event(x, 2, new int[] {2, 1, 4, 4});
    }

    private static void answersZero() {
        GroupViews x = Checks.inView(15);
        Checks.due("event(-1, 0)", x.event(-1, 0), 0);
        Checks.due("event(4, 0)", x.event(4, 0), 0);
        Checks.due("event(0, -1)", x.event(0, -1), 0);
        Checks.due("event(0, 4)", x.event(0, 4), 0);
        Checks.due("event(0, MAX)", x.event(0, Integer.MAX_VALUE), 0);
        Checks.due("event(MIN, 0)", x.event(Integer.MIN_VALUE, 0), 0);
        GroupViews y = new GroupViews();
        y.send(0, 6);
        event(y, 0, new int[] {0, 0, 0, 0});
    }
}
