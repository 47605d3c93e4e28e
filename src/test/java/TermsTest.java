/** The boundary cases that the document names before its promises: a method for each sentence. */
public final class TermsTest {
    public static void main(String[] args) {
        the512thCallIsAsDue();
        laterCallsEnd();
        bitPStandsForProcessP();
        viewZeroHasItsProcessAlone();
        viewsZeroAreDifferentOnes();
        fifteenViewsHaveTheirSetsAndStarts();
        changesBeginWithZero();
        nothingKnownIsForgotten();
        numbersAreOneToFourInEachView();
        vectorsReachFromZeroToFour();
        cutsReachFromZeroToFour();
        linesKeepTheOrder();
        thereAreTwelveLines();
        sentInAViewOfOneGoesIntoNoLine();
        sentIsNotDeliveredYet();
        changeToOneselfGoesIntoNoLine();
        changeOfABlockedOneIsAChange();
        formingNeedsEachOneOpen();
        formingNeedsEachOnesSet();
        refusedFormUsesNoNumber();
        stepDoesOneThing();
        allLimitsAreFourWhenNotBlocked();
        readyWithTheLastSync();
        readyAloneWithoutASync();
        notReadyDoesNothing();
        heldBackOneIsPassedOver();
        Checks.end();
    }

    /** "An object is used for at most 512 calls after it has been made" */
    private static void the512thCallIsAsDue() {
        GroupViews x = new GroupViews();
        for (int call = 1; call <= 508; call++) {
            Checks.due("call " + call + ", view(0)", x.view(0), 0);
        }
        Checks.due("call 509, change(0, 1)", x.change(0, 1), 1);
        Checks.due("call 510, form(1)", x.form(1), 1);
        Checks.due("call 511, tell(0, 1)", x.tell(0, 1), 0);
        Checks.due("call 512, step(0)", x.step(0), 2);
    }

    /** "what later calls answer is free": but they answer, and throw nothing. */
    private static void laterCallsEnd() {
        GroupViews x = Checks.inView(15);
        int answers = 0;
        for (int i = 0; i < 20000; i++) {
            int kind = i % Calls.NAMES.length;
            Calls.ask(x, kind, i * 7 % 5, i / 3 % 17);
            answers++;
        }
        Checks.due("later calls", answers, 20000);
    }

    /** "A SET is an int 0 .. 15; bit p stands for process p (0 .. 3)." */
    private static void bitPStandsForProcessP() {
        for (int p = 0; p < 4; p++) {
            GroupViews x = new GroupViews();
            int alone = 1 << p;
            Checks.due("all but p: change(p, " + (15 - alone) + ")", x.change(p, 15 - alone), -2);
            Checks.due("p alone: change(p, " + alone + ")", x.change(p, alone), 1);
            for (int q = 0; q < 4; q++) {
                Checks.due("only p is open: form(" + (1 << q) + ")", x.form(1 << q), q == p ? 1 : -4);
            }
            for (int q = 0; q < 4; q++) {
                Checks.due("only p is in it: tell(" + q + ", 1)", x.tell(q, 1), q == p ? 0 : -2);
                Checks.due("start(1, " + q + ")", x.start(1, q), q == p ? 1 : 0);
            }
            Checks.due("step(p)", x.step(p), 2);
            Checks.due("its set", x.event(p, 2), alone);
            Checks.due("its companions", x.event(p, 3), alone);
        }
    }

    /** "each process begins in its own view 0, which has that process alone" */
    private static void viewZeroHasItsProcessAlone() {
        for (int p = 0; p < 4; p++) {
            GroupViews x = new GroupViews();
            Checks.due("send(p)", x.send(p, 3), 1);
            for (int q = 0; q < 4; q++) {
                Checks.due("known(" + q + ", p)", x.known(q, p), q == p ? 1 : 0);
                Checks.due("waiting(p, " + q + ")", x.waiting(p, q), q == p ? -1 : 0);
                Checks.due("step(" + q + ")", x.step(q), q == p ? 1 : 0);
            }
        }
    }

    /** "(the views 0 of two processes are different ones)", "(of a p in view 0 only p itself)" */
    private static void viewsZeroAreDifferentOnes() {
        GroupViews x = new GroupViews();
        x.send(0, 5);
        x.send(0, 6);
        x.send(1, 7);
        Checks.changeAll(x, 3);
        x.form(3);
        Checks.tellAll(x, 3, 1);
        Checks.drainAll(x);
        Checks.due("known(0, 1)", x.known(0, 1), 0);
        Checks.due("known(1, 0)", x.known(1, 0), 0);
        Checks.due("1 delivers its own", x.step(1), 1);
        Checks.due("payload", x.event(1, 3), 7);
        Checks.due("1 installs", x.step(1), 2);
        Checks.due("companions of 1", x.event(1, 3), 2);
        Checks.due("0 delivers its own", x.step(0), 1);
        Checks.due("0 delivers its own", x.step(0), 1);
        Checks.due("payload", x.event(0, 3), 6);
        Checks.due("0 installs", x.step(0), 2);
        Checks.due("companions of 0", x.event(0, 3), 1);
    }

    /** "at most 15; each has a set, and for each process of it a START": view v gets the set v. */
    private static void fifteenViewsHaveTheirSetsAndStarts() {
        GroupViews x = new GroupViews();
        for (int v = 1; v <= 15; v++) {
            Checks.changeAll(x, v);
            Checks.due("form(" + v + ")", x.form(v), v);
        }
        int[] changes = new int[4];
        for (int v = 1; v <= 15; v++) {
            Checks.due("members(" + v + ")", x.members(v), v);
            for (int p = 0; p < 4; p++) {
                changes[p] += Checks.has(v, p) ? 1 : 0;
                int want = Checks.has(v, p) ? changes[p] : 0;
                Checks.due("start(" + v + ", " + p + ")", x.start(v, p), want);
            }
        }
    }

    /** "the number of its latest CHANGE (0 at first)" */
    private static void changesBeginWithZero() {
        GroupViews x = new GroupViews();
        for (int p = 0; p < 4; p++) {
            Checks.due("changes(p) at first", x.changes(p), 0);
            Checks.due("the first change", x.change(p, 15), 1);
            Checks.due("changes(p)", x.changes(p), 1);
        }
    }

    /**
     * "what it KNOWS, messages and syncs, which it never forgets": 1 gets a message and a sync of
     * view 1 while it is in view 0, and needs both for its way out of view 1.
     */
    private static void nothingKnownIsForgotten() {
        GroupViews x = new GroupViews();
        Checks.changeAll(x, 3);
        x.form(3);
        Checks.tellAll(x, 3, 1);
        Checks.due("0 installs view 1", x.step(0), 2);
        x.send(0, 8);
        x.change(0, 3);
        Checks.drain(x, 0, 1);
        Checks.due("known(1, 0) in view 0", x.known(1, 0), 0);
        Checks.due("1 installs view 1", x.step(1), 2);
        Checks.due("known(1, 0) in view 1", x.known(1, 0), 1);
        x.change(1, 3);
        x.form(3);
        Checks.tellAll(x, 3, 2);
        Checks.due("1 delivers", x.step(1), 1);
        Checks.due("payload", x.event(1, 3), 8);
        Checks.due("1 installs view 2", x.step(1), 2);
        Checks.due("companions of 1", x.event(1, 3), 3);
    }

    /** "a number (1 .. 4, in the order in which the sender sent them in that view)" */
    private static void numbersAreOneToFourInEachView() {
        GroupViews x = new GroupViews();
        for (int v = 0; v <= 2; v++) {
            for (int n = 1; n <= 4; n++) {
                Checks.due("send(2)", x.send(2, 10 * v + n), n);
            }
            for (int n = 1; n <= 4; n++) {
                Checks.due("step(2)", x.step(2), 1);
                Checks.due("number", x.event(2, 2), n);
                Checks.due("payload", x.event(2, 3), 10 * v + n);
            }
            Checks.due("the next view", Checks.install(x, 6), v + 1);
        }
    }

    /** "a vector: for each process r other than the sender, what DELIVERED r was": 0, and 4. */
    private static void vectorsReachFromZeroToFour() {
        GroupViews x = Checks.inView(7);
        x.send(1, 50);
        for (int n = 1; n <= 4; n++) {
            x.send(0, n);
            x.carry(0, 1);
            Checks.due("1 delivers 0's", x.step(1), 1);
        }
        x.send(1, 51);
        Checks.drain(x, 1, 2);
        Checks.due("the vector of 0 holds nothing back", x.step(2), 1);
        Checks.due("payload", x.event(2, 3), 50);
        for (int n = 1; n <= 4; n++) {
            Checks.due("the vector of 4 holds back", x.step(2), 0);
            x.carry(0, 2);
            Checks.due("step(2)", x.step(2), 1);
            Checks.due("payload", x.event(2, 3), n);
        }
        Checks.due("not any more", x.step(2), 1);
        Checks.due("payload", x.event(2, 3), 51);
    }

    /**
     * "a cut: for each process r other than the sender, what DELIVERED r was, and for the sender
     * itself what SENT was", and "all messages .. with a number from 1 to the cut's r".
     */
    private static void cutsReachFromZeroToFour() {
        for (int n = 0; n <= 4; n++) {
            GroupViews x = Checks.inView(7);
            sendMany(x, 2, 4);
            for (int i = 0; i < n; i++) {
                x.carry(2, 0);
                Checks.due("0 delivers 2's", x.step(0), 1);
            }
            sendMany(x, 0, n);
            Checks.changeAll(x, 3);
            Checks.drain(x, 0, 1);
            Checks.drain(x, 1, 0);
            Checks.due("known(1, 2) by the sync", x.known(1, 2), n);
            Checks.due("known(1, 0)", x.known(1, 0), n);
            x.form(3);
            Checks.tellAll(x, 3, 2);
            stepTimes(x, 1, 2 * n);
            Checks.due("delivered(1, 2)", x.delivered(1, 2), n);
            Checks.due("delivered(1, 0)", x.delivered(1, 0), n);
            Checks.due("1 installs after " + 2 * n, x.step(1), 2);
            stepTimes(x, 0, n);
            Checks.due("delivered(0, 0)", x.delivered(0, 0), n);
            Checks.due("0 installs after " + n, x.step(0), 2);
        }
    }

    private static void sendMany(GroupViews x, int p, int count) {
        for (int n = 1; n <= count; n++) {
            Checks.due("send(" + p + ")", x.send(p, 10 * p + n), n);
        }
    }

    private static void stepTimes(GroupViews x, int p, int count) {
        for (int i = 0; i < count; i++) {
            Checks.due("step(" + p + ") delivers", x.step(p), 1);
        }
    }

    /** "packets (messages and syncs) wait in the order in which they were put in" */
    private static void linesKeepTheOrder() {
        GroupViews x = Checks.inView(3);
        x.send(0, 1);
        x.change(0, 3);
        x.change(1, 3);
        x.form(3);
        x.tell(0, 2);
        x.carry(1, 0);
        Checks.due("0 installs view 2", Checks.stepUntilView(x, 0), true);
        x.send(0, 2);
        x.send(0, 3);
        x.change(0, 3);
        int[] kinds = {1, 2, 1, 1, 2, 0};
        for (int i = 0; i < kinds.length; i++) {
            Checks.due("packet " + i, x.carry(0, 1), kinds[i]);
        }
    }

    /** "There is a LINE from each process to each other one" */
    private static void thereAreTwelveLines() {
        for (int p = 0; p < 4; p++) {
            for (int q = 0; q < 4; q++) {
                GroupViews x = new GroupViews();
                Checks.due("change(p)", x.change(p, 1 << p | 1 << q), 1);
                for (int r = 0; r < 4; r++) {
                    if (r != p) {
                        Checks.due("from p to " + r, x.carry(p, r), r == q ? 2 : 0);
                        Checks.due("back from " + r, x.carry(r, p), 0);
                    }
                }
            }
        }
    }

    /** "is put into the lines to all other processes of its present view": there is no other. */
    private static void sentInAViewOfOneGoesIntoNoLine() {
        for (int p = 0; p < 4; p++) {
            GroupViews x = Checks.inView(1 << p);
            Checks.due("send(p)", x.send(p, 1), 1);
            for (int q = 0; q < 4; q++) {
                Checks.due("waiting(p, " + q + ")", x.waiting(p, q), q == p ? -1 : 0);
            }
            Checks.due("step(p)", x.step(p), 1);
        }
    }

    /** "(It is not delivered yet, also not here.)" */
    private static void sentIsNotDeliveredYet() {
        GroupViews x = Checks.inView(15);
        x.send(0, 1);
        Checks.drainAll(x);
        for (int p = 0; p < 4; p++) {
            Checks.due("known(" + p + ", 0)", x.known(p, 0), 1);
            Checks.due("delivered(" + p + ", 0)", x.delivered(p, 0), 0);
            Checks.due("event(" + p + ", 0) is of the view", x.event(p, 0), 2);
        }
    }

    /** "put into the lines to all other processes of the set": there is no other. */
    private static void changeToOneselfGoesIntoNoLine() {
        GroupViews x = Checks.inView(15);
        x.change(0, 1);
        for (int q = 1; q < 4; q++) {
            Checks.due("waiting(0, " + q + ")", x.waiting(0, q), 0);
        }
        x.change(0, 15);
        for (int q = 1; q < 4; q++) {
            Checks.due("waiting(0, " + q + ")", x.waiting(0, q), 1);
        }
    }

    /** "its number grows by 1, its set is that one": also when it is blocked and open already. */
    private static void changeOfABlockedOneIsAChange() {
        GroupViews x = new GroupViews();
        Checks.due("change(0, 1)", x.change(0, 1), 1);
        Checks.due("change(0, 3)", x.change(0, 3), 2);
        Checks.due("blocked(0)", x.blocked(0), true);
        x.change(1, 3);
        Checks.due("within the later set", x.form(3), 1);
        Checks.due("start(1, 0)", x.start(1, 0), 2);
    }

    /** "each process of the set must be open" */
    private static void formingNeedsEachOneOpen() {
        for (int last = 0; last < 4; last++) {
            GroupViews x = new GroupViews();
            for (int p = 0; p < 4; p++) {
                if (p != last) {
                    x.change(p, 15);
                }
            }
            Checks.due("one is not open", x.form(15), -4);
            x.change(last, 15);
            Checks.due("all are open", x.form(15), 1);
        }
    }

    /** "and the set must lie within the set of its latest change" */
    private static void formingNeedsEachOnesSet() {
        for (int p = 0; p < 4; p++) {
            for (int out = 0; out < 4; out++) {
                if (out != p) {
                    GroupViews x = new GroupViews();
                    Checks.changeAll(x, 15);
                    x.change(p, 15 - (1 << out));
                    Checks.due("one more than the set of p", x.form(15), -4);
                    Checks.due("the set of p itself", x.form(15 - (1 << out)), 1);
                }
            }
        }
    }

    /** "Then the least number not used is its number" */
    private static void refusedFormUsesNoNumber() {
        GroupViews x = new GroupViews();
        x.form(0);
        x.form(1);
        x.form(16);
        x.change(0, 1);
        Checks.due("the first view", x.form(1), 1);
        x.form(1);
        x.change(1, 2);
        Checks.due("the second view", x.form(2), 2);
    }

    /** "A STEP of p does at most one thing." */
    private static void stepDoesOneThing() {
        GroupViews x = Checks.inView(3);
        sendMany(x, 0, 3);
        Checks.due("step(0)", x.step(0), 1);
        Checks.due("delivered(0, 0)", x.delivered(0, 0), 1);
        Checks.changeAll(x, 3);
        x.form(3);
        Checks.tellAll(x, 3, 2);
        x.carry(1, 0);
        Checks.due("step(0)", x.step(0), 1);
        Checks.due("delivered(0, 0)", x.delivered(0, 0), 2);
        Checks.due("the last message", x.step(0), 1);
        Checks.due("delivered(0, 0)", x.delivered(0, 0), 3);
        Checks.due("not installed in the same step", x.view(0), 1);
        Checks.due("the view", x.step(0), 2);
        Checks.due("view(0)", x.view(0), 2);
        Checks.due("nothing more", x.step(0), 0);
    }

    /** "p is not blocked: all limits are 4." */
    private static void allLimitsAreFourWhenNotBlocked() {
        GroupViews x = Checks.inView(15);
        for (int p = 0; p < 4; p++) {
            sendMany(x, p, 4);
        }
        for (int q = 1; q < 4; q++) {
            Checks.drain(x, q, 0);
        }
        stepTimes(x, 0, 16);
        for (int q = 0; q < 4; q++) {
            Checks.due("delivered(0, " + q + ")", x.delivered(0, q), 4);
        }
        Checks.due("all is delivered", x.step(0), 0);
    }

    /** "Does p know for each q of C the sync of q": it lacks one, and then none. */
    private static void readyWithTheLastSync() {
        for (int p = 0; p < 4; p++) {
            GroupViews x = Checks.inView(15);
            Checks.changeAll(x, 15);
            x.form(15);
            Checks.tellAll(x, 15, 2);
            for (int q = 0; q < 4; q++) {
                if (q != p) {
                    Checks.due("no sync of " + q, x.step(p), 0);
                    Checks.due("carry(" + q + ", p)", x.carry(q, p), 2);
                }
            }
            Checks.due("ready", x.step(p), 2);
            Checks.due("companions", x.event(p, 3), 15);
        }
    }

    /** "both in the pending view and in the present one": that is p alone, which knows its own. */
    private static void readyAloneWithoutASync() {
        GroupViews x = Checks.inView(3);
        x.change(0, 13);
        x.change(2, 13);
        x.change(3, 13);
        x.form(13);
        x.tell(0, 2);
        Checks.due("step(0)", x.step(0), 2);
        Checks.due("set", x.event(0, 2), 13);
        Checks.due("companions", x.event(0, 3), 1);
    }

    /** "Otherwise nothing is done": also when a message would be deliverable. */
    private static void notReadyDoesNothing() {
        GroupViews x = Checks.inView(3);
        x.send(0, 1);
        Checks.changeAll(x, 3);
        Checks.due("blocked, no pending view", x.step(0), 0);
        x.form(3);
        Checks.tellAll(x, 3, 2);
        Checks.due("blocked, not ready", x.step(0), 0);
        Checks.due("delivered(0, 0)", x.delivered(0, 0), 0);
        x.carry(1, 0);
        Checks.due("ready", x.step(0), 1);
    }

    /** "If a message is deliverable, the one of the least such q": 0's waits for 3's at first. */
    private static void heldBackOneIsPassedOver() {
        GroupViews x = Checks.inView(15);
        x.send(3, 30);
        x.carry(3, 0);
        x.step(0);
        x.send(0, 1);
        x.send(2, 20);
        Checks.drain(x, 0, 1);
        Checks.drain(x, 2, 1);
        Checks.due("step(1)", x.step(1), 1);
        Checks.due("2's", x.event(1, 1), 2);
        Checks.due("0's waits", x.step(1), 0);
        x.carry(3, 1);
        Checks.due("step(1)", x.step(1), 1);
        Checks.due("3's", x.event(1, 1), 3);
        Checks.due("step(1)", x.step(1), 1);
        Checks.due("0's", x.event(1, 1), 0);
    }
}
