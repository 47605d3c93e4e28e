import java.util.ArrayDeque;
import java.util.ArrayList;
import java.util.Arrays;
import java.util.HashSet;
import java.util.List;
import java.util.Queue;
import java.util.Set;

/**
 * The document once more, word for word and without regard to speed, to compare the program with.
 * Knowledge is sets of objects here, so that it shares no numbering of packets with the program.
 */
final class Model {
    private static final class Message {
        View view;
        int sender;
        int number;
        int payload;
        int[] vector;
    }

    private static final class Sync {
        int sender;
        int change;
        View view;
        int[] cut;
    }

    private static final class View {
        int number;
        Set<Integer> set = new HashSet<>();
        int[] start = new int[4];
        List<Message> messages = new ArrayList<>();
    }

    private static final class Node {
        View view;
        int change;
        int changeSet;
        boolean open;
        boolean blocked;
        View pending;
        Set<Integer> told = new HashSet<>();
        int sent;
        int[] delivered = new int[4];
        Set<Object> knows = new HashSet<>();
        int[] event = new int[4];
    }

    private final Node[] nodes = new Node[4];
    private final List<Queue<Object>> lines = new ArrayList<>();
    private final List<View> views = new ArrayList<>();

    Model() {
        for (int p = 0; p < 4; p++) {
            nodes[p] = new Node();
            nodes[p].view = new View();
            nodes[p].view.set.add(p);
        }
        for (int i = 0; i < 16; i++) {
            lines.add(new ArrayDeque<>());
        }
    }

    private static boolean wrong(int p) {
        return p < 0 || p > 3;
    }

    private static Set<Integer> setOf(int bits) {
        Set<Integer> set = new HashSet<>();
        for (int p = 0; p < 4; p++) {
            if (Checks.has(bits, p)) {
                set.add(p);
            }
        }
        return set;
    }

    private static int bitsOf(Set<Integer> set) {
        int bits = 0;
        for (int p : set) {
            bits += 1 << p;
        }
        return bits;
    }

    private View formed(int v) {
        for (View view : views) {
            if (view.number == v) {
                return view;
            }
        }
        return null;
    }

    int send(int p, int payload) {
        if (wrong(p)) {
            return -1;
        }
        Node node = nodes[p];
        if (node.blocked) {
            return -2;
        }
        if (node.sent == 4) {
            return -3;
        }
        node.sent++;
        Message message = new Message();
        message.view = node.view;
        message.sender = p;
        message.number = node.sent;
        message.payload = payload;
        message.vector = node.delivered.clone();
        node.view.messages.add(message);
        node.knows.add(message);
        for (int q : node.view.set) {
            if (q != p) {
                lines.get(4 * p + q).add(message);
            }
        }
        return message.number;
    }

    int change(int p, int set) {
        if (wrong(p)) {
            return -1;
        }
        if (set < 1 || set > 15 || !setOf(set).contains(p)) {
            return -2;
        }
        Node node = nodes[p];
        if (node.change == 15) {
            return -3;
        }
        node.change++;
        node.changeSet = set;
        node.blocked = true;
        node.pending = null;
        node.open = true;
        Sync sync = new Sync();
        sync.sender = p;
        sync.change = node.change;
        sync.view = node.view;
        sync.cut = node.delivered.clone();
        sync.cut[p] = node.sent;
        node.knows.add(sync);
        for (int q : setOf(set)) {
            if (q != p) {
                lines.get(4 * p + q).add(sync);
            }
        }
        return node.change;
    }

    int form(int set) {
        if (set < 1 || set > 15) {
            return -2;
        }
        if (views.size() == 15) {
            return -3;
        }
        for (int p : setOf(set)) {
            if (!nodes[p].open || !setOf(nodes[p].changeSet).containsAll(setOf(set))) {
                return -4;
            }
        }
        View view = new View();
        view.number = views.size() + 1;
        view.set = setOf(set);
        for (int p : view.set) {
            view.start[p] = nodes[p].change;
            nodes[p].open = false;
        }
        views.add(view);
        return view.number;
    }

    int tell(int p, int v) {
        if (wrong(p)) {
            return -1;
        }
        View view = formed(v);
        if (view == null || !view.set.contains(p)) {
            return -2;
        }
        for (int told : nodes[p].told) {
            if (told >= v) {
                return -3;
            }
        }
        if (view.start[p] != nodes[p].change) {
            return -4;
        }
        nodes[p].told.add(v);
        nodes[p].pending = view;
        return 0;
    }

    int carry(int p, int q) {
        if (wrong(p) || wrong(q) || p == q) {
            return -1;
        }
        Object packet = lines.get(4 * p + q).poll();
        if (packet == null) {
            return 0;
        }
        nodes[q].knows.add(packet);
        if (packet instanceof Message) {
            return 1;
        }
        Sync sync = (Sync) packet;
        if (sync.view.number != 0) {
            for (Message message : sync.view.messages) {
                if (message.number <= sync.cut[message.sender]) {
                    nodes[q].knows.add(message);
                }
            }
        }
        return 2;
    }

    int step(int p) {
        if (wrong(p)) {
            return -1;
        }
        Node node = nodes[p];
        int[] limits = {4, 4, 4, 4};
        Set<Integer> companions = new HashSet<>();
        if (node.blocked) {
            if (node.pending == null) {
                return 0;
            }
            Arrays.fill(limits, 0);
            Set<Integer> both = new HashSet<>(node.pending.set);
            both.retainAll(node.view.set);
            for (int q : both) {
                Sync sync = knownSync(node, q, node.pending.start[q]);
                if (sync == null) {
                    return 0;
                }
                if (sync.view == node.view) {
                    companions.add(q);
                    for (int r = 0; r < 4; r++) {
                        limits[r] = Math.max(limits[r], sync.cut[r]);
                    }
                }
            }
        }
        for (int q = 0; q < 4; q++) {
            Message message = deliverable(node, q, limits);
            if (message != null) {
                node.delivered[q]++;
                node.event = new int[] {1, q, message.number, message.payload};
                return 1;
            }
        }
        if (!node.blocked || !Arrays.equals(node.delivered, limits)) {
            return 0;
        }
        View view = node.pending;
        node.event = new int[] {2, view.number, bitsOf(view.set), bitsOf(companions)};
        node.view = view;
        node.blocked = false;
        node.pending = null;
        node.sent = 0;
        Arrays.fill(node.delivered, 0);
        return 2;
    }

    private static Sync knownSync(Node node, int q, int change) {
        for (Object packet : node.knows) {
            if (packet instanceof Sync sync && sync.sender == q && sync.change == change) {
                return sync;
            }
        }
        return null;
    }

    private static Message deliverable(Node node, int q, int[] limits) {
        for (Message message : node.view.messages) {
            if (message.sender != q || message.number != node.delivered[q] + 1) {
                continue;
            }
            boolean can = node.knows.contains(message) && node.delivered[q] < limits[q];
            for (int r = 0; r < 4; r++) {
                can = can && (r == q || node.delivered[r] >= message.vector[r]);
            }
            return can ? message : null;
        }
        return null;
    }

    int event(int p, int i) {
        return wrong(p) || i < 0 || i > 3 ? 0 : nodes[p].event[i];
    }

    int view(int p) {
        return wrong(p) ? -1 : nodes[p].view.number;
    }

    int members(int v) {
        return formed(v) == null ? 0 : bitsOf(formed(v).set);
    }

    int start(int v, int p) {
        return formed(v) == null || wrong(p) ? 0 : formed(v).start[p];
    }

    int blocked(int p) {
        return !wrong(p) && nodes[p].blocked ? 1 : 0;
    }

    int pending(int p) {
        return wrong(p) ? -1 : nodes[p].pending == null ? 0 : nodes[p].pending.number;
    }

    int changes(int p) {
        return wrong(p) ? -1 : nodes[p].change;
    }

    int sent(int p) {
        return wrong(p) ? -1 : nodes[p].sent;
    }

    int delivered(int p, int q) {
        return wrong(p) || wrong(q) ? -1 : nodes[p].delivered[q];
    }

    int known(int p, int q) {
        if (wrong(p) || wrong(q)) {
            return -1;
        }
        int count = 0;
        for (Message message : nodes[p].view.messages) {
            if (message.sender == q && nodes[p].knows.contains(message)) {
                count++;
            }
        }
        return count;
    }

    int waiting(int p, int q) {
        return wrong(p) || wrong(q) || p == q ? -1 : lines.get(4 * p + q).size();
    }
}
