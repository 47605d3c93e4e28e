/**
 * Messages in a group whose members change: four processes, the packets on their way between them,
 * and the service that forms views, in one object.
 */
public final class GroupViews {
    private static final int PROCESSES = 4;
    private static final int GREATEST_SET = 15;
    private static final int MOST_VIEWS = 15;
    private static final int MOST_CHANGES = 15;
    private static final int MOST_SENT = 4;

    /** What steps and carries answer; a step's answers are also the kinds of its event. */
    private static final int NOTHING = 0;
    private static final int WAS_MESSAGE = 1;
    private static final int WAS_SYNC = 2;
    private static final int WAS_VIEW = 2;

    private static final int WRONG_PROCESS = -1;

    /**
     * In a line a message is its slot (view and number) and a sync is FIRST_SYNC + its change: the
     * line tells the sender, and the sender keeps what it made.
     */
    private static final int SLOTS = (MOST_VIEWS + 1) * MOST_SENT;
    private static final int FIRST_SYNC = SLOTS;
    private static final int NO_PACKET = -1;

    /** Vectors, cuts, limits and DELIVERED are COUNTS: one int with eight bits for each process. */
    private static final int COUNT_BITS = 8;
    private static final int COUNT_MASK = 255;
    private static final int ALL_LIMITS_FOUR = 0x04040404;

    private final ProcessState[] processes = new ProcessState[PROCESSES];
    private final Line[] lines = new Line[PROCESSES * PROCESSES];
    private final int[] sets = new int[MOST_VIEWS + 1];
    private final int[] starts = new int[(MOST_VIEWS + 1) * PROCESSES];
    private int formed;

    public GroupViews() {
        for (int p = 0; p < PROCESSES; p++) {
            processes[p] = new ProcessState();
        }
        for (int i = 0; i < lines.length; i++) {
            lines[i] = new Line();
        }
    }

    public int send(int p, int payload) {
        if (!isProcess(p)) {
            return WRONG_PROCESS;
        }
        ProcessState sender = processes[p];
        if (sender.blocked) {
            return -2;
        }
        if (sender.sent >= MOST_SENT) {
            return -3;
        }
        sender.sent++;
        int slot = slotOf(sender.view, sender.sent);
        sender.payloads[slot] = payload;
        // The sender's own place is 0, so that it never holds back a delivery.
        sender.vectors[slot] = withCount(sender.delivered, p, 0);
        sender.learnMessage(sender.view, p, sender.sent);
        putToOthers(p, presentSet(p), slot);
        return sender.sent;
    }

    public int change(int p, int set) {
        if (!isProcess(p)) {
            return WRONG_PROCESS;
        }
        if (!isNonEmptySet(set) || !has(set, p)) {
            return -2;
        }
        ProcessState changed = processes[p];
        if (changed.lastChange >= MOST_CHANGES) {
            return -3;
        }
        changed.lastChange++;
        changed.changeSet = set;
        changed.blocked = true;
        changed.open = true;
        changed.pending = 0;
        changed.cutViews[changed.lastChange] = changed.view;
        changed.cuts[changed.lastChange] = withCount(changed.delivered, p, changed.sent);
        changed.learnSync(p, changed.lastChange);
        putToOthers(p, set, FIRST_SYNC + changed.lastChange);
        return changed.lastChange;
    }

    public int form(int set) {
        if (!isNonEmptySet(set)) {
            return -2;
        }
        if (formed >= MOST_VIEWS) {
            return -3;
        }
        if (!canForm(set)) {
            return -4;
        }
        formed++;
        sets[formed] = set;
        for (int p = 0; p < PROCESSES; p++) {
            if (has(set, p)) {
                starts[startIndex(formed, p)] = processes[p].lastChange;
                processes[p].open = false;
            }
        }
        return formed;
    }

    public int tell(int p, int v) {
        if (!isProcess(p)) {
            return WRONG_PROCESS;
        }
        if (!isFormed(v) || !has(sets[v], p)) {
            return -2;
        }
        ProcessState told = processes[p];
        if (told.greatestTold >= v) {
            return -3;
        }
        if (starts[startIndex(v, p)] != told.lastChange) {
            return -4;
        }
        told.greatestTold = v;
        told.pending = v;
        return 0;
    }

    public int carry(int p, int q) {
        if (!isLine(p, q)) {
            return WRONG_PROCESS;
        }
        int packet = lines[lineIndex(p, q)].takeFirst();
        if (packet == NO_PACKET) {
            return NOTHING;
        }
        if (packet < FIRST_SYNC) {
            processes[q].learnMessage(viewOfSlot(packet), p, numberOfSlot(packet));
            return WAS_MESSAGE;
        }
        receiveSync(processes[q], p, packet - FIRST_SYNC);
        return WAS_SYNC;
    }

    public int step(int p) {
        if (!isProcess(p)) {
            return WRONG_PROCESS;
        }
        ProcessState stepping = processes[p];
        if (!stepping.blocked) {
            return deliverOne(stepping, ALL_LIMITS_FOUR);
        }
        if (stepping.pending == 0) {
            return NOTHING;
        }
        int common = sets[stepping.pending] & presentSet(p);
        if (!isReady(stepping, common)) {
            return NOTHING;
        }
        int companions = companionsAmong(stepping, common);
        int limits = limitsOf(stepping.pending, companions);
        if (deliverOne(stepping, limits) == WAS_MESSAGE) {
            return WAS_MESSAGE;
        }
        if (stepping.delivered != limits) {
            return NOTHING;
        }
        stepping.setEvent(WAS_VIEW, stepping.pending, sets[stepping.pending], companions);
        stepping.enterPending();
        return WAS_VIEW;
    }

    public int event(int p, int i) {
        if (!isProcess(p) || i < 0 || i > 3) {
            return 0;
        }
        return processes[p].event[i];
    }

    public int view(int p) {
        return isProcess(p) ? processes[p].view : WRONG_PROCESS;
    }

    public int members(int v) {
        return isFormed(v) ? sets[v] : 0;
    }

    public int start(int v, int p) {
        return isFormed(v) && isProcess(p) ? starts[startIndex(v, p)] : 0;
    }

    public boolean blocked(int p) {
        return isProcess(p) && processes[p].blocked;
    }

    public int pending(int p) {
        return isProcess(p) ? processes[p].pending : WRONG_PROCESS;
    }

    public int changes(int p) {
        return isProcess(p) ? processes[p].lastChange : WRONG_PROCESS;
    }

    public int sent(int p) {
        return isProcess(p) ? processes[p].sent : WRONG_PROCESS;
    }

    public int delivered(int p, int q) {
        if (!isProcess(p) || !isProcess(q)) {
            return WRONG_PROCESS;
        }
        return countOf(processes[p].delivered, q);
    }

    public int known(int p, int q) {
        if (!isProcess(p) || !isProcess(q)) {
            return WRONG_PROCESS;
        }
        return processes[p].messagesKnownOf(q);
    }

    public int waiting(int p, int q) {
        return isLine(p, q) ? lines[lineIndex(p, q)].length() : WRONG_PROCESS;
    }

    /** Whether each process of the set is open and the set lies within its latest change's set. */
    private boolean canForm(int set) {
        for (int p = 0; p < PROCESSES; p++) {
            if (has(set, p) && !(processes[p].open && (set & ~processes[p].changeSet) == 0)) {
                return false;
            }
        }
        return true;
    }

    private void putToOthers(int p, int set, int packet) {
        for (int q = 0; q < PROCESSES; q++) {
            if (q != p && has(set, q)) {
                lines[lineIndex(p, q)].put(packet);
            }
        }
    }

    private void receiveSync(ProcessState receiver, int sender, int change) {
        receiver.learnSync(sender, change);
        int cutView = processes[sender].cutViews[change];
        // The sender's view 0 is not the receiver's, though both have the number 0.
        if (cutView == 0) {
            return;
        }
        int cut = processes[sender].cuts[change];
        for (int r = 0; r < PROCESSES; r++) {
            for (int number = 1; number <= countOf(cut, r); number++) {
                receiver.learnMessage(cutView, r, number);
            }
        }
    }

    /** Delivers the deliverable message of the least sender, if there is one. */
    private int deliverOne(ProcessState receiver, int limits) {
        for (int q = 0; q < PROCESSES; q++) {
            if (isDeliverable(receiver, q, limits)) {
                int number = countOf(receiver.delivered, q) + 1;
                int payload = processes[q].payloads[slotOf(receiver.view, number)];
                receiver.delivered = withCount(receiver.delivered, q, number);
                receiver.setEvent(WAS_MESSAGE, q, number, payload);
                return WAS_MESSAGE;
            }
        }
        return NOTHING;
    }

    private boolean isDeliverable(ProcessState receiver, int q, int limits) {
        int before = countOf(receiver.delivered, q);
        if (before >= countOf(limits, q) || !receiver.knowsMessage(q, before + 1)) {
            return false;
        }
        int vector = processes[q].vectors[slotOf(receiver.view, before + 1)];
        for (int r = 0; r < PROCESSES; r++) {
            if (countOf(receiver.delivered, r) < countOf(vector, r)) {
                return false;
            }
        }
        return true;
    }

    /** Whether the process knows the sync with which each of the common ones starts. */
    private boolean isReady(ProcessState stepping, int common) {
        for (int q = 0; q < PROCESSES; q++) {
            if (has(common, q) && !stepping.knowsSync(q, starts[startIndex(stepping.pending, q)])) {
                return false;
            }
        }
        return true;
    }

    /** Those of the common ones that come to the pending view from the process's present view. */
    private int companionsAmong(ProcessState stepping, int common) {
        int companions = 0;
        for (int q = 0; q < PROCESSES; q++) {
            int change = starts[startIndex(stepping.pending, q)];
            if (has(common, q) && processes[q].cutViews[change] == stepping.view) {
                companions |= 1 << q;
            }
        }
        return companions;
    }

    private int limitsOf(int v, int companions) {
        int limits = 0;
        for (int q = 0; q < PROCESSES; q++) {
            if (has(companions, q)) {
                limits = greatestOfEach(limits, processes[q].cuts[starts[startIndex(v, q)]]);
            }
        }
        return limits;
    }

    private int presentSet(int p) {
        int present = processes[p].view;
        return present == 0 ? 1 << p : sets[present];
    }

    private boolean isFormed(int v) {
        return v >= 1 && v <= formed;
    }

    private static boolean isProcess(int p) {
        return p >= 0 && p < PROCESSES;
    }

    private static boolean isLine(int p, int q) {
        return isProcess(p) && isProcess(q) && p != q;
    }

    private static boolean isNonEmptySet(int set) {
        return set >= 1 && set <= GREATEST_SET;
    }

    private static boolean has(int set, int p) {
        return (set >> p & 1) == 1;
    }

    private static int lineIndex(int p, int q) {
        return p * PROCESSES + q;
    }

    private static int startIndex(int v, int p) {
        return v * PROCESSES + p;
    }

    private static int slotOf(int v, int number) {
        return v * MOST_SENT + number - 1;
    }

    private static int viewOfSlot(int slot) {
        return slot / MOST_SENT;
    }

    private static int numberOfSlot(int slot) {
        return slot % MOST_SENT + 1;
    }

    private static int countOf(int counts, int p) {
        return counts >> p * COUNT_BITS & COUNT_MASK;
    }

    private static int withCount(int counts, int p, int count) {
        int shift = p * COUNT_BITS;
        return counts & ~(COUNT_MASK << shift) | count << shift;
    }

    private static int greatestOfEach(int some, int others) {
        int greatest = 0;
        for (int r = 0; r < PROCESSES; r++) {
            greatest = withCount(greatest, r, Math.max(countOf(some, r), countOf(others, r)));
        }
        return greatest;
    }

    /** One process: its state, what it knows, and the messages and syncs that it made. */
    private static final class ProcessState {
        private int view;
        private int lastChange;
        private int changeSet;
        private boolean open;
        private boolean blocked;
        private int pending;
        private int greatestTold;
        private int sent;
        private int delivered;
        /** For each view and sender the numbers of the messages that are known, as bits. */
        private final int[] knownNumbers = new int[(MOST_VIEWS + 1) * PROCESSES];
        /** For each sender the changes whose syncs are known, as bits. */
        private final int[] knownChanges = new int[PROCESSES];
        private final int[] payloads = new int[SLOTS];
        private final int[] vectors = new int[SLOTS];
        private final int[] cutViews = new int[MOST_CHANGES + 1];
        private final int[] cuts = new int[MOST_CHANGES + 1];
        private final int[] event = new int[4];

        private void learnMessage(int v, int sender, int number) {
            knownNumbers[v * PROCESSES + sender] |= 1 << number;
        }

        private boolean knowsMessage(int sender, int number) {
            return (knownNumbers[view * PROCESSES + sender] >> number & 1) == 1;
        }

        private int messagesKnownOf(int sender) {
            return Integer.bitCount(knownNumbers[view * PROCESSES + sender]);
        }

        private void learnSync(int sender, int change) {
            knownChanges[sender] |= 1 << change;
        }

        private boolean knowsSync(int sender, int change) {
            return (knownChanges[sender] >> change & 1) == 1;
        }

        private void setEvent(int kind, int first, int second, int third) {
            event[0] = kind;
            event[1] = first;
            event[2] = second;
            event[3] = third;
        }

        private void enterPending() {
            view = pending;
            pending = 0;
            blocked = false;
            sent = 0;
            delivered = 0;
        }
    }

    /** The packets from one process to another; each is put in once, so no place is used again. */
    private static final class Line {
        private final int[] packets = new int[MOST_VIEWS * MOST_SENT + MOST_CHANGES];
        private int first;
        private int end;

        private void put(int packet) {
            if (end < packets.length) {
                packets[end] = packet;
                end++;
            }
        }

        private int takeFirst() {
            if (first >= end) {
                return NO_PACKET;
            }
            int packet = packets[first];
            first++;
            return packet;
        }

        private int length() {
            return end - first;
        }
    }
}
