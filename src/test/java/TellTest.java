/** Promise 5. */
public final class TellTest {
    public static void main(String[] args) {
        tells();
        refusesWrongArguments();
        refusesWhatWasTold();
        refusesAnEarlierView();
        Checks.end();
    }

    private static void tells() {
        GroupViews x = new GroupViews();
        Checks.changeAll(x, 5);
        x.form(5);
        Checks.due("tell(2, 1)", x.tell(2, 1), 0);
        Checks.due("pending(2)", x.pending(2), 1);
        Checks.due("pending(0)", x.pending(0), 0);
        Checks.due("view(2)", x.view(2), 0);
        Checks.due("blocked(2)", x.blocked(2), true);
        // C is process 2 alone, because its view 0 is its own: no sync of 0 is awaited.
        Checks.due("step(2)", x.step(2), 2);
    }

    private static void refusesWrongArguments() {
        GroupViews x = new GroupViews();
        Checks.due("nothing formed: tell(0, 1)", x.tell(0, 1), -2);
        Checks.changeAll(x, 3);
        x.form(3);
        String before = Checks.readings(x);
        Checks.due("tell(-1, 1)", x.tell(-1, 1), -1);
        Checks.due("tell(4, 1)", x.tell(4, 1), -1);
        Checks.due("tell(4, 0)", x.tell(4, 0), -1);
        Checks.due("tell(0, 0)", x.tell(0, 0), -2);
        Checks.due("tell(0, -1)", x.tell(0, -1), -2);
        Checks.due("tell(0, 2)", x.tell(0, 2), -2);
        Checks.due("tell(0, 16)", x.tell(0, 16), -2);
        Checks.due("tell(0, MAX)", x.tell(0, Integer.MAX_VALUE), -2);
        Checks.due("tell(0, MIN)", x.tell(0, Integer.MIN_VALUE), -2);
        Checks.due("2 is not in view 1", x.tell(2, 1), -2);
        Checks.same("refused tell", before, Checks.readings(x));
    }

    private static void refusesWhatWasTold() {
        GroupViews x = new GroupViews();
        Checks.changeAll(x, 3);
        x.form(3);
        Checks.due("tell(0, 1)", x.tell(0, 1), 0);
        String before = Checks.readings(x);
        Checks.due("told already", x.tell(0, 1), -3);
        Checks.same("refused tell", before, Checks.readings(x));
        x.change(0, 3);
        Checks.due("told comes before the start", x.tell(0, 1), -3);
        x.change(1, 3);
        Checks.due("another change since", x.tell(1, 1), -4);
        Checks.due("pending(1)", x.pending(1), 0);
        Checks.due("a refused tell is not told", x.tell(1, 1), -4);
    }

    private static void refusesAnEarlierView() {
        GroupViews x = new GroupViews();
        x.change(0, 1);
        x.form(1);
        x.change(0, 3);
        x.change(1, 3);
        x.form(3);
        Checks.due("the start is not the latest change", x.tell(0, 1), -4);
        Checks.due("tell(0, 2)", x.tell(0, 2), 0);
        Checks.due("told a greater one", x.tell(0, 1), -3);
        Checks.due("pending(0)", x.pending(0), 2);
        Checks.due("step(0)", x.step(0), 2);
        Checks.due("told also after the installing", x.tell(0, 2), -3);
        Checks.due("told a greater one", x.tell(0, 1), -3);
        Checks.due("not in view 1, which is less too", x.tell(1, 1), -2);
    }
}
