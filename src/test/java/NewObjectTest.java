/** Promise 1. */
public final class NewObjectTest {
    public static void main(String[] args) {
        GroupViews x = new GroupViews();
        for (int p = 0; p < 4; p++) {
            Checks.due("view(" + p + ")", x.view(p), 0);
            Checks.due("blocked(" + p + ")", x.blocked(p), false);
            Checks.due("pending(" + p + ")", x.pending(p), 0);
            Checks.due("changes(" + p + ")", x.changes(p), 0);
            Checks.due("sent(" + p + ")", x.sent(p), 0);
            for (int q = 0; q < 4; q++) {
                Checks.due("event(" + p + ", " + q + ")", x.event(p, q), 0);
                Checks.due("delivered(" + p + ", " + q + ")", x.delivered(p, q), 0);
                Checks.due("known(" + p + ", " + q + ")", x.known(p, q), 0);
                Checks.due("waiting(" + p + ", " + q + ")", x.waiting(p, q), p == q ? -1 : 0);
            }
        }
        for (int v = -1; v <= 16; v++) {
            Checks.due("members(" + v + ")", x.members(v), 0);
            for (int p = 0; p < 4; p++) {
                Checks.due("start(" + v + ", " + p + ")", x.start(v, p), 0);
            }
        }
        nothingMovesYet();
        objectsAreApart();
        Checks.end();
    }

    private static void nothingMovesYet() {
        GroupViews x = new GroupViews();
        for (int p = 0; p < 4; p++) {
            Checks.due("step(" + p + ")", x.step(p), 0);
            Checks.due("tell(" + p + ", 0)", x.tell(p, 0), -2);
            for (int q = 0; q < 4; q++) {
                Checks.due("carry(" + p + ", " + q + ")", x.carry(p, q), p == q ? -1 : 0);
            }
        }
        for (int set = 1; set <= 15; set++) {
            Checks.due("no process is open: form(" + set + ")", x.form(set), -4);
        }
    }

    private static void objectsAreApart() {
        GroupViews x = Checks.inView(15);
        x.send(0, 1);
        GroupViews y = new GroupViews();
        Checks.same("a second object", Checks.readings(new GroupViews()), Checks.readings(y));
        Checks.due("view of the first object", x.view(0), 1);
    }
}
