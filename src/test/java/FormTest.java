/** Promise 4. */
public final class FormTest {
    public static void main(String[] args) {
        forms();
        formsASmallerSet();
        refuses();
        refusesTheSixteenth();
        Checks.end();
    }

    private static void forms() {
        GroupViews x = new GroupViews();
        x.change(0, 15);
        x.change(1, 15);
        x.change(1, 15);
        x.change(3, 15);
        Checks.due("form(11)", x.form(11), 1);
        Checks.due("members(1)", x.members(1), 11);
        Checks.due("start(1, 0)", x.start(1, 0), 1);
        Checks.due("start(1, 1)", x.start(1, 1), 2);
        Checks.due("start(1, 2)", x.start(1, 2), 0);
        Checks.due("start(1, 3)", x.start(1, 3), 1);
        Checks.due("none was told: pending(0)", x.pending(0), 0);
        Checks.due("0 is not open any more", x.form(1), -4);
        Checks.due("1 is not open any more", x.form(2), -4);
        Checks.due("3 is not open any more", x.form(8), -4);
        x.change(2, 4);
        Checks.due("the next number", x.form(4), 2);
        Checks.due("members(2)", x.members(2), 4);
    }

    private static void formsASmallerSet() {
        GroupViews x = new GroupViews();
        x.change(0, 15);
        x.change(1, 3);
        x.change(2, 7);
        Checks.due("7 is not within 1's set", x.form(7), -4);
        Checks.due("form(3)", x.form(3), 1);
        Checks.due("2 is still open", x.form(4), 2);
    }

    private static void refuses() {
        GroupViews x = new GroupViews();
        x.change(0, 3);
        x.change(1, 15);
        String before = Checks.readings(x);
        Checks.due("form(0)", x.form(0), -2);
        Checks.due("form(-1)", x.form(-1), -2);
        Checks.due("form(16)", x.form(16), -2);
        Checks.due("form(17)", x.form(17), -2);
        Checks.due("form(MIN)", x.form(Integer.MIN_VALUE), -2);
        Checks.due("form(MAX)", x.form(Integer.MAX_VALUE), -2);
        Checks.due("2 is not open", x.form(7), -4);
        Checks.due("2 is not open", x.form(4), -4);
        x.change(2, 15);
        Checks.due("7 is not within 0's set", x.form(7), -4);
        Checks.due("6 is within both sets", x.form(6), 1);
        Checks.due("0 stayed open", x.form(1), 2);
        x.change(0, 15);
        x.change(0, 1);
        x.change(1, 15);
        Checks.due("the latest set counts", x.form(3), -4);
        Checks.due("start(1, 0)", x.start(1, 0), 0);
        GroupViews y = new GroupViews();
        y.change(0, 3);
        y.change(1, 15);
        y.form(7);
        y.form(16);
        Checks.same("refused form", before, Checks.readings(y));
    }

    private static void refusesTheSixteenth() {
        GroupViews x = new GroupViews();
        for (int v = 1; v <= 15; v++) {
            x.change(0, 1);
            Checks.due("form(1)", x.form(1), v);
        }
        x.change(1, 15);
        String before = Checks.readings(x);
        Checks.due("the sixteenth view", x.form(2), -3);
        Checks.due("full comes before not open", x.form(1), -3);
        Checks.due("a wrong set comes first", x.form(0), -2);
        Checks.due("a wrong set comes first", x.form(16), -2);
        Checks.same("refused form", before, Checks.readings(x));
        Checks.due("members(15)", x.members(15), 1);
        Checks.due("members(16)", x.members(16), 0);
        Checks.due("start(15, 0)", x.start(15, 0), 15);
        Checks.due("tell(0, 15)", x.tell(0, 15), 0);
        Checks.due("step(0)", x.step(0), 2);
        Checks.due("view(0)", x.view(0), 15);
        Checks.due("send in view 15", x.send(0, 8), 1);
        Checks.due("step(0)", x.step(0), 1);
        Checks.due("payload", x.event(0, 3), 8);
    }
}
