/**
 * Each refusal that promises 2 to 7 name: alone, before the ones that come after it, next to the
 * call that is not refused yet, and changing nothing.
 */
public final class RefusalsTest {
    public static void main(String[] args) {
        sendOfNoProcess();
        sendOfABlockedOne();
        sendOfAFifthInEachView();
        sendRefusesInOrder();
        changeOfNoProcess();
        changeToNoSet();
        changeToASetWithoutP();
        changeOfASixteenth();
        changeRefusesInOrder();
        formOfNoSet();
        formOfASixteenth();
        formOfOneNotOpen();
        formOfTooLargeASet();
        formRefusesInOrder();
        tellOfNoProcess();
        tellOfNoView();
        tellOfAViewWithoutP();
        tellOfWhatWasTold();
        tellOfAnotherStart();
        tellRefusesInOrder();
        carryOfNoProcess();
        carryToOneself();
        carryOfAnEmptyLine();
        carryOfAnOldView();
        stepOfNoProcess();
        Checks.end();
    }

    private static void sendOfNoProcess() {
        GroupViews x = Checks.inView(15);
        String before = Checks.readings(x);
        for (int p : Checks.NO_PROCESS) {
            Checks.due("send(" + p + ", 1)", x.send(p, 1), -1);
        }
        Checks.same("send of no process", before, Checks.readings(x));
        Checks.due("the least process", x.send(0, 1), 1);
        Checks.due("the greatest process", x.send(3, 1), 1);
    }

    private static void sendOfABlockedOne() {
        for (int p = 0; p < 4; p++) {
            GroupViews x = new GroupViews();
            x.change(p, 15);
            Checks.due("blocked in view 0", x.send(p, 1), -2);
            x.form(1 << p);
            Checks.due("blocked, formed", x.send(p, 1), -2);
            x.tell(p, 1);
            String before = Checks.readings(x);
            Checks.due("blocked, told", x.send(p, 1), -2);
            Checks.same("send of a blocked one", before, Checks.readings(x));
            Checks.due("it installs", x.step(p), 2);
            Checks.due("not blocked any more", x.send(p, 1), 1);
        }
    }

    private static void sendOfAFifthInEachView() {
        GroupViews x = new GroupViews();
        for (int v = 0; v <= 15; v++) {
            for (int n = 1; n <= 4; n++) {
                Checks.due("send(3) in view " + v, x.send(3, n), n);
            }
            Checks.due("the fifth in view " + v, x.send(3, 5), -3);
            Checks.due("again", x.send(3, 5), -3);
            Checks.due("sent(3)", x.sent(3), 4);
            Checks.due("known(3, 3)", x.known(3, 3), 4);
            if (v < 15) {
                x.change(3, 8);
                x.form(8);
                x.tell(3, v + 1);
                Checks.due("it delivers four and installs", Checks.stepUntilView(x, 3), true);
            }
        }
        Checks.due("another one sends", x.send(2, 1), 1);
    }

    private static void sendRefusesInOrder() {
        GroupViews x = new GroupViews();
        for (int p = 0; p < 4; p++) {
            for (int n = 1; n <= 4; n++) {
                x.send(p, n);
            }
            x.change(p, 15);
        }
        Checks.due("no process, before blocked and four sent", x.send(4, 1), -1);
        Checks.due("no process, before blocked and four sent", x.send(-1, 1), -1);
        Checks.due("blocked, before four sent", x.send(0, 1), -2);
        Checks.due("blocked, before four sent", x.send(3, 1), -2);
    }

    private static void changeOfNoProcess() {
        GroupViews x = Checks.inView(15);
        String before = Checks.readings(x);
        for (int p : Checks.NO_PROCESS) {
            Checks.due("change(" + p + ", 15)", x.change(p, 15), -1);
        }
        Checks.same("change of no process", before, Checks.readings(x));
        for (int set = 1; set <= 15; set++) {
            Checks.due("none became open: form(" + set + ")", x.form(set), -4);
        }
    }

    private static void changeToNoSet() {
        for (int p = 0; p < 4; p++) {
            GroupViews x = new GroupViews();
            String before = Checks.readings(x);
            for (int set : Checks.NO_SET) {
                Checks.due("change(" + p + ", " + set + ")", x.change(p, set), -2);
            }
            Checks.due("p and a process 4", x.change(p, 16 | 1 << p), -2);
            Checks.due("p and the sign", x.change(p, Integer.MIN_VALUE | 1 << p), -2);
            Checks.same("change to no set", before, Checks.readings(x));
            Checks.due("p is not open", x.form(1 << p), -4);
            Checks.due("the greatest set", x.change(p, 15), 1);
            Checks.due("its least set", x.change(p, 1 << p), 2);
        }
    }

    private static void changeToASetWithoutP() {
        for (int p = 0; p < 4; p++) {
            GroupViews x = new GroupViews();
            int made = 0;
            for (int set = 1; set <= 15; set++) {
                made += Checks.has(set, p) ? 1 : 0;
                int want = Checks.has(set, p) ? made : -2;
                Checks.due("change(" + p + ", " + set + ")", x.change(p, set), want);
            }
            Checks.due("changes(p)", x.changes(p), 8);
        }
    }

    private static void changeOfASixteenth() {
        for (int p = 0; p < 4; p++) {
            GroupViews x = new GroupViews();
            for (int n = 1; n <= 15; n++) {
                Checks.due("change(p, 15)", x.change(p, 15), n);
            }
            String before = Checks.readings(x);
            Checks.due("the sixteenth", x.change(p, 15), -3);
            Checks.due("again", x.change(p, 1 << p), -3);
            Checks.same("a sixteenth change", before, Checks.readings(x));
            int pair = 1 << p | 1 << (p + 1) % 4;
            x.change((p + 1) % 4, 15);
            Checks.due("its set stays", x.form(pair), 1);
            Checks.due("start is the fifteenth", x.start(1, p), 15);
            Checks.due("tell(p, 1)", x.tell(p, 1), 0);
            Checks.due("a sixteenth when told", x.change(p, 15), -3);
            Checks.due("pending(p) stays", x.pending(p), 1);
            Checks.due("it installs", x.step(p), 2);
            Checks.due("a sixteenth when not blocked", x.change(p, 15), -3);
            Checks.due("blocked(p) stays", x.blocked(p), false);
        }
    }

    private static void changeRefusesInOrder() {
        GroupViews x = new GroupViews();
        for (int n = 1; n <= 15; n++) {
            x.change(0, 1);
        }
        for (int set : Checks.NO_SET) {
            Checks.due("no process, before no set", x.change(4, set), -1);
            Checks.due("no set, before fifteen changes", x.change(0, set), -2);
        }
        Checks.due("no process, before not in the set", x.change(-1, 14), -1);
        Checks.due("not in the set, before fifteen changes", x.change(0, 14), -2);
        Checks.due("fifteen changes", x.change(0, 1), -3);
    }

    private static void formOfNoSet() {
        GroupViews x = new GroupViews();
        Checks.changeAll(x, 15);
        String before = Checks.readings(x);
        for (int set : Checks.NO_SET) {
            Checks.due("form(" + set + ")", x.form(set), -2);
        }
        Checks.same("form of no set", before, Checks.readings(x));
        Checks.due("the least set", x.form(1), 1);
        x.change(0, 15);
        Checks.due("the greatest set", x.form(15), 2);
    }

    private static void formOfASixteenth() {
        GroupViews x = new GroupViews();
        for (int v = 1; v <= 15; v++) {
            x.change(v % 2, 3);
            Checks.due("form", x.form(1 << v % 2), v);
        }
        x.change(0, 3);
        x.change(1, 3);
        String before = Checks.readings(x);
        Checks.due("the sixteenth", x.form(3), -3);
        Checks.due("again", x.form(1), -3);
        Checks.same("a sixteenth view", before, Checks.readings(x));
        Checks.due("members(15)", x.members(15), 2);
        Checks.due("members(16)", x.members(16), 0);
        Checks.due("start(15, 1)", x.start(15, 1), 8);
        Checks.due("start(16, 0)", x.start(16, 0), 0);
        Checks.due("tell(0, 16)", x.tell(0, 16), -2);
    }

    private static void formOfOneNotOpen() {
        for (int p = 0; p < 4; p++) {
            GroupViews x = new GroupViews();
            int alone = 1 << p;
            Checks.due("before its first change", x.form(alone), -4);
            x.change(p, alone);
            Checks.due("open", x.form(alone), 1);
            String before = Checks.readings(x);
            Checks.due("when formed", x.form(alone), -4);
            Checks.same("form of one not open", before, Checks.readings(x));
            x.tell(p, 1);
            Checks.due("when told", x.form(alone), -4);
            x.step(p);
            Checks.due("when installed", x.form(alone), -4);
            Checks.due("members(2)", x.members(2), 0);
            x.change(p, alone);
            Checks.due("open again", x.form(alone), 2);
        }
    }

    private static void formOfTooLargeASet() {
        GroupViews x = new GroupViews();
        x.change(0, 7);
        x.change(1, 7);
        x.change(2, 15);
        x.change(3, 15);
        String before = Checks.readings(x);
        Checks.due("3 is not in the sets of 0 and 1", x.form(15), -4);
        Checks.due("3 is not in the set of 0", x.form(9), -4);
        Checks.due("3 is not in the set of 1", x.form(14), -4);
        Checks.same("form of too large a set", before, Checks.readings(x));
        Checks.due("within the sets of 2 and 3", x.form(12), 1);
        Checks.due("0 and 1 stayed open", x.form(3), 2);
    }

    private static void formRefusesInOrder() {
        GroupViews x = new GroupViews();
        for (int v = 1; v <= 15; v++) {
            for (int set : Checks.NO_SET) {
                Checks.due("no set, with " + (v - 1) + " views", x.form(set), -2);
            }
            x.change(0, 1);
            Checks.due("form(1)", x.form(1), v);
        }
        for (int set : Checks.NO_SET) {
            Checks.due("no set, before fifteen views", x.form(set), -2);
        }
        Checks.due("fifteen views, before not open", x.form(1), -3);
        Checks.due("fifteen views, before not open", x.form(2), -3);
        x.change(1, 2);
        Checks.due("fifteen views, before too large a set", x.form(6), -3);
    }

    private static void tellOfNoProcess() {
        GroupViews x = new GroupViews();
        Checks.changeAll(x, 15);
        x.form(15);
        String before = Checks.readings(x);
        for (int p : Checks.NO_PROCESS) {
            Checks.due("tell(" + p + ", 1)", x.tell(p, 1), -1);
        }
        Checks.same("tell of no process", before, Checks.readings(x));
        Checks.tellAll(x, 15, 1);
    }

    private static void tellOfNoView() {
        int[] never = {0, -1, 16, 17, Integer.MIN_VALUE, Integer.MAX_VALUE};
        GroupViews x = new GroupViews();
        for (int v = 1; v <= 15; v++) {
            Checks.due("not formed yet: tell(0, " + v + ")", x.tell(0, v), -2);
            x.change(0, 1);
            Checks.due("form(1)", x.form(1), v);
            for (int not : never) {
                Checks.due("tell(0, " + not + ")", x.tell(0, not), -2);
            }
            Checks.due("not the next one", x.tell(0, v + 1), -2);
            Checks.due("pending(0)", x.pending(0), 0);
            Checks.due("tell(0, " + v + ")", x.tell(0, v), 0);
        }
    }

    private static void tellOfAViewWithoutP() {
        for (int out = 0; out < 4; out++) {
            GroupViews x = new GroupViews();
            int set = 15 - (1 << out);
            Checks.changeAll(x, 15);
            x.form(set);
            String before = Checks.readings(x);
            Checks.due("tell(" + out + ", 1)", x.tell(out, 1), -2);
            Checks.same("tell of a view without p", before, Checks.readings(x));
            Checks.tellAll(x, set, 1);
        }
    }

    private static void tellOfWhatWasTold() {
        GroupViews x = new GroupViews();
        x.change(0, 1);
        x.form(1);
        x.change(0, 1);
        x.form(1);
        x.change(0, 1);
        x.form(1);
        Checks.due("told the third", x.tell(0, 3), 0);
        String before = Checks.readings(x);
        Checks.due("told the same", x.tell(0, 3), -3);
        Checks.due("told a greater one", x.tell(0, 2), -3);
        Checks.due("told a greater one", x.tell(0, 1), -3);
        Checks.same("tell of what was told", before, Checks.readings(x));
        x.step(0);
        Checks.due("installed", x.tell(0, 3), -3);
        Checks.due("pending(0) when installed", x.pending(0), 0);
        Checks.due("blocked(0) when installed", x.blocked(0), false);
        x.change(0, 1);
        x.form(1);
        Checks.due("a greater one is not refused", x.tell(0, 4), 0);
    }

    private static void tellOfAnotherStart() {
        for (int p = 0; p < 4; p++) {
            GroupViews x = new GroupViews();
            x.change(p, 15);
            x.form(1 << p);
            x.change(p, 15);
            String before = Checks.readings(x);
            Checks.due("a change since", x.tell(p, 1), -4);
            Checks.due("it does not count as told", x.tell(p, 1), -4);
            Checks.same("tell of another start", before, Checks.readings(x));
            x.form(1 << p);
            Checks.due("the earlier one still", x.tell(p, 1), -4);
            Checks.due("the later one", x.tell(p, 2), 0);
        }
    }

    private static void tellRefusesInOrder() {
        GroupViews x = new GroupViews();
        x.change(1, 2);
        x.form(2);
        x.change(0, 1);
        x.form(1);
        Checks.due("no process, before no view", x.tell(4, 0), -1);
        Checks.due("no process, before no view", x.tell(-1, 16), -1);
        Checks.due("not in it, before another start", x.tell(2, 1), -2);
        Checks.due("tell(0, 2)", x.tell(0, 2), 0);
        Checks.due("no view, before told a greater one", x.tell(0, 0), -2);
        Checks.due("no view, before told a greater one", x.tell(0, -1), -2);
        Checks.due("not in it, before told a greater one", x.tell(0, 1), -2);
        x.change(0, 1);
        Checks.due("told, before another start", x.tell(0, 2), -3);
        Checks.due("no view, before another start", x.tell(0, 3), -2);
        x.change(1, 2);
        Checks.due("another start", x.tell(1, 1), -4);
    }

    private static void carryOfNoProcess() {
        GroupViews x = Checks.inView(15);
        x.send(0, 1);
        x.send(3, 1);
        String before = Checks.readings(x);
        for (int p : Checks.NO_PROCESS) {
            for (int q = 0; q < 4; q++) {
                Checks.due("carry(" + p + ", " + q + ")", x.carry(p, q), -1);
                Checks.due("carry(" + q + ", " + p + ")", x.carry(q, p), -1);
            }
            Checks.due("carry(" + p + ", 4)", x.carry(p, 4), -1);
        }
        Checks.same("carry of no process", before, Checks.readings(x));
        Checks.due("carry(0, 3)", x.carry(0, 3), 1);
        Checks.due("carry(3, 0)", x.carry(3, 0), 1);
    }

    private static void carryToOneself() {
        GroupViews x = Checks.inView(15);
        for (int p = 0; p < 4; p++) {
            x.send(p, 1);
        }
        String before = Checks.readings(x);
        for (int p = 0; p < 4; p++) {
            Checks.due("carry(" + p + ", " + p + ")", x.carry(p, p), -1);
        }
        Checks.same("carry to oneself", before, Checks.readings(x));
    }

    private static void carryOfAnEmptyLine() {
        GroupViews x = new GroupViews();
        x.change(0, 3);
        Checks.due("the last packet", x.carry(0, 1), 2);
        String before = Checks.readings(x);
        for (int i = 0; i < 3; i++) {
            Checks.due("empty", x.carry(0, 1), 0);
        }
        Checks.due("never used", x.carry(1, 0), 0);
        Checks.same("carry of an empty line", before, Checks.readings(x));
        x.change(0, 3);
        Checks.due("waiting(0, 1)", x.waiting(0, 1), 1);
        Checks.due("not empty any more", x.carry(0, 1), 2);
    }

    /** A message comes to one that has left its view, and to one that is blocked. */
    private static void carryOfAnOldView() {
        GroupViews x = Checks.inView(7);
        x.send(2, 9);
        Checks.changeAll(x, 3);
        x.form(3);
        x.tell(0, 2);
        x.carry(1, 0);
        Checks.due("0 installs view 2", x.step(0), 2);
        Checks.due("carry(2, 0)", x.carry(2, 0), 1);
        Checks.due("not of the present view: known(0, 2)", x.known(0, 2), 0);
        Checks.due("step(0)", x.step(0), 0);
        Checks.due("1 is blocked", x.carry(2, 1), 1);
        Checks.due("known(1, 2)", x.known(1, 2), 1);
        Checks.due("step(1)", x.step(1), 0);
    }

    private static void stepOfNoProcess() {
        GroupViews x = Checks.inView(15);
        for (int p = 0; p < 4; p++) {
            x.send(p, 1);
        }
        String before = Checks.readings(x);
        for (int p : Checks.NO_PROCESS) {
            Checks.due("step(" + p + ")", x.step(p), -1);
        }
        Checks.same("step of no process", before, Checks.readings(x));
        Checks.due("the least process", x.step(0), 1);
        Checks.due("the greatest process", x.step(3), 1);
    }
}
