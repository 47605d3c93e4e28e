/** Promise 7. */
public final class StepTest {
    public static void main(String[] args) {
        takesTheLeastSender();
        deliversInNumberOrder();
        waitsForTheVector();
        waitsForEachPlaceOfTheVector();
        blockedWithoutPendingDoesNothing();
        waitsForTheSyncs();
        remembersAnEarlierSync();
        awaitsOnlyThoseInBothViews();
        deliversUpToTheGreatestCut();
        leavesWhatIsBeyondTheLimits();
        deliversBeforeItInstalls();
        limitsAreOfCompanionsAlone();
        installingBeginsAnew();
        deliversFourInViewFour();
        doesAllInViewFifteen();
        refuses();
        Checks.end();
    }

    private static void takesTheLeastSender() {
        GroupViews x = Checks.inView(15);
        for (int p = 3; p >= 0; p--) {
            x.send(p, p);
        }
        x.send(0, 4);
        Checks.drainAll(x);
        int[] senders = {0, 0, 1, 2, 3};
        for (int p = 0; p < 4; p++) {
            for (int sender : senders) {
                Checks.due("step(" + p + ")", x.step(p), 1);
                Checks.due("sender at " + p, x.event(p, 1), sender);
            }
            Checks.due("nothing left", x.step(p), 0);
        }
    }

    private static void deliversInNumberOrder() {
        GroupViews x = Checks.inView(3);
        for (int n = 1; n <= 4; n++) {
            x.send(1, 10 * n);
        }
        Checks.drain(x, 1, 0);
        for (int n = 1; n <= 4; n++) {
            Checks.due("step(0)", x.step(0), 1);
            Checks.due("number", x.event(0, 2), n);
            Checks.due("payload", x.event(0, 3), 10 * n);
            Checks.due("delivered(0, 1)", x.delivered(0, 1), n);
        }
        Checks.due("step(0)", x.step(0), 0);
        Checks.due("delivered(1, 1)", x.delivered(1, 1), 0);
    }

    private static void waitsForTheVector() {
        GroupViews x = Checks.inView(15);
        x.send(3, 30);
        x.send(3, 31);
        Checks.drain(x, 3, 2);
        x.step(2);
        x.send(2, 20);
        Checks.drain(x, 2, 0);
        Checks.due("2's message waits for 3's", x.step(0), 0);
        Checks.due("known(0, 2)", x.known(0, 2), 1);
        x.carry(3, 0);
        Checks.due("step(0)", x.step(0), 1);
        Checks.due("3's first", x.event(0, 3), 30);
        Checks.due("step(0)", x.step(0), 1);
        Checks.due("one of 3 is enough", x.event(0, 3), 20);
        x.carry(3, 0);
        Checks.due("step(0)", x.step(0), 1);
        Checks.due("3's second", x.event(0, 3), 31);
        // The own place of a sender does not count: 3 did not deliver its own when it sent again.
        Checks.due("step(3)", x.step(3), 1);
        Checks.due("own first", x.event(3, 3), 30);
    }

    private static void waitsForEachPlaceOfTheVector() {
        for (int r = 0; r < 3; r++) {
            GroupViews x = Checks.inView(15);
            x.send(r, 5);
            Checks.drain(x, r, 3);
            x.step(3);
            x.send(3, 6);
            int receiver = r == 0 ? 1 : 0;
            x.carry(3, receiver);
            Checks.due("3's message waits for that of " + r, x.step(receiver), 0);
            x.carry(r, receiver);
            Checks.due("step", x.step(receiver), 1);
            Checks.due("payload", x.event(receiver, 3), 5);
            Checks.due("step", x.step(receiver), 1);
            Checks.due("payload", x.event(receiver, 3), 6);
        }
    }

    private static void blockedWithoutPendingDoesNothing() {
        GroupViews x = Checks.inView(3);
        x.send(0, 1);
        x.send(1, 2);
        Checks.drainAll(x);
        x.change(0, 3);
        Checks.due("step(0)", x.step(0), 0);
        Checks.due("delivered(0, 0)", x.delivered(0, 0), 0);
        Checks.due("step(1) is not blocked", x.step(1), 1);
        x.change(1, 3);
        x.form(3);
        Checks.due("formed, but not told", x.step(0), 0);
    }

    private static void waitsForTheSyncs() {
        GroupViews x = Checks.inView(7);
        x.send(0, 1);
        Checks.changeAll(x, 7);
        x.form(7);
        Checks.tellAll(x, 7, 2);
        Checks.due("no sync of 1 and 2", x.step(0), 0);
        x.carry(2, 0);
        Checks.due("no sync of 1", x.step(0), 0);
        x.carry(1, 0);
        Checks.due("ready", x.step(0), 1);
        Checks.due("install", x.step(0), 2);
        Checks.due("1 knows its own alone", x.step(1), 0);
    }

    /** 0 changes once more after view 2 was formed: 1 goes into view 2 by the earlier sync. */
    private static void remembersAnEarlierSync() {
        GroupViews x = Checks.inView(3);
        Checks.changeAll(x, 3);
        x.form(3);
        Checks.tellAll(x, 3, 2);
        x.change(0, 3);
        Checks.drain(x, 0, 1);
        Checks.due("1 installs", x.step(1), 2);
        Checks.due("companions", x.event(1, 3), 3);
        Checks.drain(x, 1, 0);
        Checks.due("0 has no pending view any more", x.step(0), 0);
    }

    private static void awaitsOnlyThoseInBothViews() {
        GroupViews x = Checks.inView(3);
        Checks.due("view of 2 and 3", Checks.install(x, 12), 2);
        x.change(0, 15);
        x.change(1, 15);
        x.change(2, 15);
        x.form(7);
        Checks.tellAll(x, 7, 3);
        x.carry(1, 0);
        Checks.due("0 does not await 2", x.step(0), 2);
        Checks.due("companions", x.event(0, 3), 3);
        Checks.due("2 awaits itself alone", x.step(2), 2);
        Checks.due("companions", x.event(2, 3), 4);
        Checks.due("1 awaits 0", x.step(1), 0);
        x.carry(0, 1);
        Checks.due("1 installs", x.step(1), 2);
        Checks.due("3 stays", x.view(3), 2);
    }

    /** 0 has two of 3's messages, 1 has one and one of 2's: both go on with two and one. */
    private static void deliversUpToTheGreatestCut() {
        GroupViews x = Checks.inView(15);
        x.send(3, 30);
        x.send(3, 31);
        x.send(2, 20);
        x.carry(3, 0);
        x.carry(3, 0);
        x.step(0);
        x.step(0);
        x.carry(3, 1);
        x.step(1);
        x.carry(2, 1);
        x.step(1);
        Checks.changeAll(x, 3);
        x.form(3);
        Checks.tellAll(x, 3, 2);
        x.carry(0, 1);
        x.carry(1, 0);
        Checks.due("step(0)", x.step(0), 1);
        Checks.due("2's message", x.event(0, 3), 20);
        Checks.due("0 installs", x.step(0), 2);
        Checks.due("step(1)", x.step(1), 1);
        Checks.due("3's second", x.event(1, 3), 31);
        Checks.due("1 installs", x.step(1), 2);
    }

    private static void leavesWhatIsBeyondTheLimits() {
        GroupViews x = Checks.inView(7);
        x.send(2, 20);
        x.send(2, 21);
        x.carry(2, 0);
        x.step(0);
        x.carry(2, 0);
        Checks.due("known(0, 2)", x.known(0, 2), 2);
        Checks.changeAll(x, 3);
        x.form(3);
        Checks.tellAll(x, 3, 2);
        x.carry(0, 1);
        x.carry(1, 0);
        Checks.due("0 does not deliver the second", x.step(0), 2);
        Checks.due("1 delivers the first", x.step(1), 1);
        Checks.drain(x, 2, 1);
        Checks.due("1 does not deliver the second", x.step(1), 2);
    }

    private static void deliversBeforeItInstalls() {
        GroupViews x = Checks.inView(3);
        x.send(0, 1);
        x.send(1, 2);
        Checks.drain(x, 0, 1);
        x.step(1);
        x.send(1, 3);
        Checks.changeAll(x, 3);
        x.form(3);
        Checks.tellAll(x, 3, 2);
        Checks.drainAll(x);
        int[] payloads = {1, 2, 3};
        for (int payload : payloads) {
            Checks.due("step(0)", x.step(0), 1);
            Checks.due("payload", x.event(0, 3), payload);
            Checks.due("view(0)", x.view(0), 1);
            Checks.due("blocked(0)", x.blocked(0), true);
        }
        Checks.due("step(0)", x.step(0), 2);
    }

    /** 0 sent in view 2; 1, which stayed in view 1, is in both sets but no companion. */
    private static void limitsAreOfCompanionsAlone() {
        GroupViews x = Checks.inView(3);
        Checks.changeAll(x, 3);
        x.form(3);
        Checks.tellAll(x, 3, 2);
        Checks.drainAll(x);
        Checks.due("0 installs view 2", x.step(0), 2);
        x.send(0, 1);
        x.send(0, 2);
        Checks.changeAll(x, 3);
        x.form(3);
        Checks.tellAll(x, 3, 3);
        Checks.due("the sync of 1 is awaited still", x.step(0), 0);
        Checks.drainAll(x);
        Checks.due("1 has nothing to deliver", x.step(1), 2);
        Checks.due("companions of 1", x.event(1, 3), 2);
        Checks.due("0 delivers", x.step(0), 1);
        Checks.due("0 delivers", x.step(0), 1);
        Checks.due("0 installs view 3", x.step(0), 2);
        Checks.due("companions of 0", x.event(0, 3), 1);
    }

    private static void installingBeginsAnew() {
        GroupViews x = Checks.inView(3);
        x.send(0, 1);
        x.send(1, 2);
        Checks.drainAll(x);
        x.step(0);
        x.step(0);
        Checks.due("delivered(0, 1)", x.delivered(0, 1), 1);
        Checks.due("second view", Checks.install(x, 7), 2);
        Checks.due("view(0)", x.view(0), 2);
        Checks.due("blocked(0)", x.blocked(0), false);
        Checks.due("pending(0)", x.pending(0), 0);
        Checks.due("sent(0)", x.sent(0), 0);
        Checks.due("changes(0)", x.changes(0), 2);
        for (int q = 0; q < 4; q++) {
            Checks.due("delivered(0, " + q + ")", x.delivered(0, q), 0);
            Checks.due("known(0, " + q + ")", x.known(0, q), 0);
        }
        Checks.due("installing does not open", x.form(1), -4);
        Checks.due("step(0)", x.step(0), 0);
    }

    private static void deliversFourInViewFour() {
        GroupViews x = new GroupViews();
        for (int v = 1; v <= 4; v++) {
            Checks.due("view", Checks.install(x, 10), v);
        }
        for (int n = 1; n <= 4; n++) {
            x.send(3, n);
        }
        Checks.changeAll(x, 10);
        x.form(10);
        Checks.tellAll(x, 10, 5);
        Checks.drainAll(x);
        for (int n = 1; n <= 4; n++) {
            Checks.due("step(1)", x.step(1), 1);
            Checks.due("payload", x.event(1, 3), n);
        }
        Checks.due("step(1)", x.step(1), 2);
    }

    /** The last view, of all processes, with all messages that it can have. */
    private static void doesAllInViewFifteen() {
        GroupViews x = new GroupViews();
        for (int v = 1; v <= 14; v++) {
            x.change(0, 1);
            x.form(1);
        }
        Checks.due("the last view", Checks.install(x, 15), 15);
        for (int p = 0; p < 4; p++) {
            Checks.due("nothing to do yet", x.step(p), 0);
            for (int n = 1; n <= 4; n++) {
                Checks.due("send(" + p + ")", x.send(p, 10 * p + n), n);
            }
        }
        Checks.drain(x, 0, 3);
        Checks.drain(x, 1, 3);
        Checks.drain(x, 2, 3);
        for (int q = 0; q < 4; q++) {
            for (int n = 1; n <= 4; n++) {
                Checks.due("step(3)", x.step(3), 1);
                Checks.due("payload", x.event(3, 3), 10 * q + n);
            }
        }
        Checks.due("nothing more to do", x.step(3), 0);
        Checks.due("view(3)", x.view(3), 15);
    }

    private static void refuses() {
        GroupViews x = Checks.inView(15);
        x.send(0, 1);
        x.send(3, 1);
        String before = Checks.readings(x);
        Checks.due("step(-1)", x.step(-1), -1);
        Checks.due("step(4)", x.step(4), -1);
        Checks.due("step(MIN)", x.step(Integer.MIN_VALUE), -1);
        Checks.due("step(MAX)", x.step(Integer.MAX_VALUE), -1);
        Checks.due("nothing to do: step(1)", x.step(1), 0);
        Checks.same("step that does nothing", before, Checks.readings(x));
    }
}
