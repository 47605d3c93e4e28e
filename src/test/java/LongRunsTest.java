import java.util.ArrayDeque;
import java.util.Queue;
import java.util.Random;

/** Promises 1 to 18: long runs of mixed calls, always the same ones, compared with the model. */
public final class LongRunsTest {
    private static final int RUNS = 4000;
    private static final int CALLS = 512;
    private static final int CHANGE = 1;
    private static final int FORM = 2;
    private static final int TELL = 3;
    private static final int STEP = 5;
    /** How often each call is made, in the order of the names; a run varies some. */
    private static final int[] SHARES = {20, 3, 2, 8, 34, 34, 8, 2, 2, 3, 2, 2, 2, 2, 4, 5, 3};

    /** How often each kind of answer came, to see that the runs reach what they should. */
    private static final int[][] REACHED = new int[Calls.NAMES.length][40];

    public static void main(String[] args) {
        for (int run = 1; run <= RUNS; run++) {
            run(run, new Random(run));
        }
        lookAtReach();
        Checks.end();
    }

    private static void run(int run, Random random) {
        GroupViews x = new GroupViews();
        Model model = new Model();
        int[] shares = SHARES.clone();
        shares[CHANGE] = random.nextInt(6);
        shares[STEP] = 10 + random.nextInt(50);
        int favourite = 1 + random.nextInt(15);
        int calmness = 5 + random.nextInt(80);
        Queue<int[]> plan = new ArrayDeque<>();
        for (int call = 1; call <= CALLS; call++) {
            if (plan.isEmpty() && random.nextInt(calmness) == 0) {
                planView(plan, set(random, favourite));
            }
            int kind = choose(random, shares);
            int a = first(random, kind, favourite, model);
            int b = second(random, kind, favourite, model, a);
            if (!plan.isEmpty() && random.nextInt(2) == 0) {
                int[] planned = plan.remove();
                kind = planned[0];
                a = planned[1];
                b = kind == TELL ? newest(model) : planned[2];
            }
            int got = Calls.ask(x, kind, a, b);
            int want = Calls.ask(model, kind, a, b);
            Checks.due("run " + run + ", call " + call + ": " + Calls.textOf(kind, a, b), got, want);
            if (got != want) {
                return;
            }
            if (want >= -4 && want < 36) {
                REACHED[kind][want + 4]++;
            }
        }
    }

    /** All that brings a set into a view but for carrying and stepping, which come by chance. */
    private static void planView(Queue<int[]> plan, int set) {
        for (int p = 0; p < 4; p++) {
            if (Checks.has(set, p)) {
                plan.add(new int[] {CHANGE, p, set});
            }
        }
        plan.add(new int[] {FORM, set, 0});
        for (int p = 0; p < 4; p++) {
            if (Checks.has(set, p)) {
                plan.add(new int[] {TELL, p, 0});
            }
        }
    }

    private static int choose(Random random, int[] shares) {
        int all = 0;
        for (int share : shares) {
            all += share;
        }
        int rest = random.nextInt(all);
        int kind = 0;
        while (rest >= shares[kind]) {
            rest -= shares[kind];
            kind++;
        }
        return kind;
    }

    private static int process(Random random) {
        return random.nextInt(60) == 0 ? random.nextInt(12) - 4 : random.nextInt(4);
    }

    private static int set(Random random, int favourite) {
        return random.nextInt(3) > 0 ? favourite : random.nextInt(18) - 1;
    }

    private static int newest(Model model) {
        int newest = 0;
        while (model.members(newest + 1) != 0) {
            newest++;
        }
        return newest;
    }

    private static int viewNumber(Random random, Model model) {
        return random.nextInt(3) > 0 ? newest(model) : random.nextInt(18) - 1;
    }

    private static int first(Random random, int kind, int favourite, Model model) {
        switch (Calls.NAMES[kind]) {
            case "form":
                return set(random, favourite);
            case "members":
            case "start":
                return viewNumber(random, model);
            default:
                return process(random);
        }
    }

    private static int second(Random random, int kind, int favourite, Model model, int p) {
        switch (Calls.NAMES[kind]) {
            case "send":
                return random.nextInt();
            case "change":
                int set = set(random, favourite);
                return p >= 0 && p < 4 && random.nextInt(10) > 0 ? set | 1 << p : set;
            case "tell":
                return viewNumber(random, model);
            case "event":
                return random.nextInt(20) == 0 ? random.nextInt(12) - 4 : random.nextInt(4);
            default:
                return process(random);
        }
    }

    private static void lookAtReach() {
        int[][] answers = {
            {-3, -2, -1, 1, 2, 3, 4}, {-3, -2, -1, 1, 15}, {-4, -3, -2, 1, 15}, {-4, -3, -2, -1, 0},
            {-1, 0, 1, 2}, {-1, 0, 1, 2}, {0, 1, 2}, {-1, 0, 1, 10}, {0, 1, 15}, {0, 1, 10}, {0, 1},
            {-1, 0, 1, 10}, {-1, 0, 1, 15}, {-1, 0, 4}, {-1, 0, 4}, {-1, 0, 4}, {-1, 0, 10}};
        for (int kind = 0; kind < Calls.NAMES.length; kind++) {
            for (int answer : answers[kind]) {
                Checks.due("the runs reach " + answer + " of " + Calls.NAMES[kind],
                    REACHED[kind][answer + 4] > 0, true);
            }
        }
    }
}
