/** What the tests share: counting wrong answers, and bringing processes into a view. */
final class Checks {
    static final int[] NO_PROCESS = {-1, 4, 5, Integer.MIN_VALUE, Integer.MAX_VALUE};
    static final int[] NO_SET = {0, -1, 16, 17, 31, Integer.MIN_VALUE, Integer.MAX_VALUE};

    private static int wrong = 0;

    private Checks() {
    }

    static void due(String what, int got, int want) {
        if (got != want) {
            wrong++;
            System.out.println(what + " answered " + got + ", due is " + want);
        }
    }

    static void due(String what, boolean got, boolean want) {
        if (got != want) {
            wrong++;
            System.out.println(what + " answered " + got + ", due is " + want);
        }
    }

    /** Ends the test: exit code 1 if an answer was wrong. */
    static void end() {
        if (wrong != 0) {
            System.out.println(wrong + " answers are not as due");
            System.exit(1);
        }
    }

    static boolean has(int set, int p) {
        return (set & 1 << p) != 0;
    }

    /** Makes a change to the set at each process of it. */
    static void changeAll(GroupViews x, int set) {
        for (int p = 0; p < 4; p++) {
            if (has(set, p)) {
                x.change(p, set);
            }
        }
    }

    static void tellAll(GroupViews x, int set, int v) {
        for (int p = 0; p < 4; p++) {
            if (has(set, p)) {
                due("tell(" + p + ", " + v + ")", x.tell(p, v), 0);
            }
        }
    }

    /** Carries until the line is empty. */
    static void drain(GroupViews x, int p, int q) {
        for (int i = 0; i < 100 && x.waiting(p, q) > 0; i++) {
            x.carry(p, q);
        }
    }

    static void drainAll(GroupViews x) {
        for (int p = 0; p < 4; p++) {
            for (int q = 0; q < 4; q++) {
                if (p != q) {
                    drain(x, p, q);
                }
            }
        }
    }

    /** Steps p until it installs a view (true) or does nothing (false). */
    static boolean stepUntilView(GroupViews x, int p) {
        for (int i = 0; i < 100; i++) {
            int did = x.step(p);
            if (did != 1) {
                return did == 2;
            }
        }
        return false;
    }

    /** Brings all processes of the set into a new view with this set: its number. */
    static int install(GroupViews x, int set) {
        changeAll(x, set);
        int v = x.form(set);
        tellAll(x, set, v);
        drainAll(x);
        for (int p = 0; p < 4; p++) {
            if (has(set, p)) {
                due("process " + p + " installs view " + v, stepUntilView(x, p), true);
            }
        }
        return v;
    }

    static GroupViews inView(int set) {
        GroupViews x = new GroupViews();
        due("first view", install(x, set), 1);
        return x;
    }

    /**
     * The readings of the object as text, to see that a refused call changed nothing. They are 109
     * of the 512 calls that an object has.
     */
    static String readings(GroupViews x) {
        StringBuilder text = new StringBuilder();
        for (int p = 0; p < 4; p++) {
            text.append(x.view(p)).append(' ').append(x.blocked(p)).append(' ').append(x.pending(p));
            text.append(' ').append(x.changes(p)).append(' ').append(x.sent(p)).append(':');
            for (int q = 0; q < 4; q++) {
                text.append(x.delivered(p, q)).append(' ').append(x.known(p, q)).append(' ');
                text.append(x.waiting(p, q)).append(' ').append(x.event(p, q)).append(',');
            }
        }
        for (int v = 0; v <= 16; v++) {
            text.append(x.members(v)).append('/');
        }
        for (int p = 0; p < 4; p++) {
            text.append(x.start(1, p)).append(' ').append(x.start(2, p)).append(' ');
        }
        return text.toString();
    }

    static void same(String what, String before, String after) {
        due(what + " changed something", !before.equals(after), false);
    }
}
