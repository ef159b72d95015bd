import java.util.ArrayDeque;
import java.util.ArrayList;
import java.util.Comparator;
import java.util.Deque;
import java.util.List;
import java.util.TreeSet;

/**
 * The document's Terms once more, written with the library's collections and without any bound
 * on wires and rows, for ModelTest to hold against the program.
 */
final class Model {
    private record Message(int kind, int time, int clock) { }

    private record Ask(int time, int node) { }

    private static final Comparator<Ask> BEFORE =
            Comparator.comparingInt(Ask::time).thenComparingInt(Ask::node);

    private static final class Node {
        int clock;
        int state;
        int time;
        final TreeSet<Integer> votes = new TreeSet<>();
        final TreeSet<Integer> failures = new TreeSet<>();
        final TreeSet<Integer> inquiries = new TreeSet<>();
        Ask lent;
        boolean inquired;
        final TreeSet<Ask> row = new TreeSet<>(BEFORE);

        void emptySets() {
            votes.clear();
            failures.clear();
            inquiries.clear();
        }
    }

    private final int side;
    private final List<Node> nodes = new ArrayList<>();
    private final List<Deque<Message>> wires = new ArrayList<>();
    private int entered;

    Model(int k) {
        side = k < 1 ? 1 : k > 4 ? 4 : k;
        init();
    }

    int size() {
        return side * side;
    }

    void init() {
        nodes.clear();
        wires.clear();
        entered = 0;
        for (int i = 0; i < size(); i++) {
            nodes.add(new Node());
        }
        for (int i = 0; i < size() * size(); i++) {
            wires.add(new ArrayDeque<>());
        }
    }

    int request(int i) {
        if (none(i)) {
            return -1;
        }
        Node node = nodes.get(i);
        if (node.state != 0) {
            return 1;
        }
        node.clock++;
        node.time = node.clock;
        node.state = 1;
        node.emptySets();
        toQuorum(i, 1, node.time);
        return 0;
    }

    int deliver(int from, int to) {
        if (none(from) || none(to)) {
            return -1;
        }
        Message message = wire(from, to).pollFirst();
        if (message == null) {
            return 0;
        }
        Node node = nodes.get(to);
        node.clock = Math.max(node.clock, message.clock) + 1;
        Ask ask = new Ask(message.time, from);
        switch (message.kind) {
            case 1 -> asked(to, ask);
            case 3, 5 -> returned(to, ask, message.kind == 5);
            default -> {
                if (node.state != 0 && node.time == message.time) {
                    answered(to, from, message.kind);
                }
            }
        }
        return message.kind;
    }

    boolean enter(int i) {
        if (none(i) || nodes.get(i).state != 1 || !nodes.get(i).votes.containsAll(quorum(i))) {
            return false;
        }
        nodes.get(i).state = 2;
        entered++;
        return true;
    }

    int release(int i) {
        if (none(i)) {
            return -1;
        }
        Node node = nodes.get(i);
        if (node.state != 2) {
            return 1;
        }
        node.state = 0;
        node.emptySets();
        toQuorum(i, 3, node.time);
        return 0;
    }

    int holder() {
        for (int i = 0; i < size(); i++) {
            if (nodes.get(i).state == 2) {
                return i;
            }
        }
        return -1;
    }

    int votesOf(int i) {
        return none(i) ? -1 : nodes.get(i).votes.size();
    }

    int lockedFor(int i) {
        return none(i) || nodes.get(i).lent == null ? -1 : nodes.get(i).lent.node;
    }

    int settle(int most) {
        if (most < 1 || most > 500) {
            return -1;
        }
        int done = 0;
        while (done < most && settleOne()) {
            done++;
        }
        return done;
    }

    int waiting(int from, int to) {
        return none(from) || none(to) ? -1 : wire(from, to).size();
    }

    int look(int from, int to, int m, int what) {
        if (none(from) || none(to) || m < 0 || m >= wire(from, to).size()) {
            return -1;
        }
        Message message = new ArrayList<>(wire(from, to)).get(m);
        return switch (what) {
            case 0 -> message.kind;
            case 1 -> message.time;
            case 2 -> message.clock;
            default -> -1;
        };
    }

    int told(int i, int what) {
        if (none(i)) {
            return -1;
        }
        Node node = nodes.get(i);
        return switch (what) {
            case 0 -> node.state;
            case 1 -> node.clock;
            case 2 -> node.state == 0 ? 0 : node.time;
            case 3 -> bits(node.failures);
            case 4 -> bits(node.inquiries);
            case 5 -> bits(node.votes);
            case 6 -> node.inquired ? 1 : 0;
            case 7 -> node.row.size();
            default -> -1;
        };
    }

    int waits(int i, int m) {
        if (none(i) || m < 0 || m >= nodes.get(i).row.size()) {
            return -1;
        }
        return new ArrayList<>(nodes.get(i).row).get(m).node;
    }

    int entered() {
        return entered;
    }

    private void answered(int i, int from, int kind) {
        Node node = nodes.get(i);
        if (kind == 2) {
            node.votes.add(from);
            node.failures.remove(from);
        } else if (node.state == 1 && kind == 6) {
            node.failures.add(from);
            for (int j : new ArrayList<>(node.inquiries)) {
                if (node.votes.contains(j)) {
                    giveUp(i, j);
                }
            }
        } else if (node.state == 1 && kind == 4 && node.votes.contains(from)) {
            if (node.failures.isEmpty()) {
                node.inquiries.add(from);
            } else {
                giveUp(i, from);
            }
        }
    }

    private void giveUp(int i, int j) {
        Node node = nodes.get(i);
        put(i, j, 5, node.time);
        node.votes.remove(j);
        node.inquiries.remove(j);
        node.failures.add(j);
    }

    private void asked(int i, Ask ask) {
        Node node = nodes.get(i);
        if (node.lent == null) {
            lend(i, ask);
            return;
        }
        Ask first = node.row.isEmpty() ? null : node.row.first();
        node.row.add(ask);
        if (node.row.first() != ask || BEFORE.compare(ask, node.lent) >= 0) {
            put(i, ask.node, 6, ask.time);
            return;
        }
        if (first != null && BEFORE.compare(first, node.lent) < 0) {
            put(i, first.node, 6, first.time);
        }
        if (!node.inquired) {
            put(i, node.lent.node, 4, node.lent.time);
            node.inquired = true;
        }
    }

    private void returned(int i, Ask ask, boolean waitsOn) {
        Node node = nodes.get(i);
        if (!ask.equals(node.lent)) {
            return;
        }
        if (waitsOn) {
            node.row.add(ask);
        }
        node.lent = null;
        node.inquired = false;
        if (!node.row.isEmpty()) {
            lend(i, node.row.pollFirst());
        }
    }

    private void lend(int i, Ask ask) {
        nodes.get(i).lent = ask;
        nodes.get(i).inquired = false;
        put(i, ask.node, 2, ask.time);
    }

    private boolean settleOne() {
        for (int from = 0; from < size(); from++) {
            for (int to = 0; to < size(); to++) {
                if (!wire(from, to).isEmpty()) {
                    deliver(from, to);
                    return true;
                }
            }
        }
        return false;
    }

    private boolean none(int i) {
        return i < 0 || i >= size();
    }

    private List<Integer> quorum(int i) {
        List<Integer> members = new ArrayList<>();
        for (int j = 0; j < size(); j++) {
            if (j / side == i / side || j % side == i % side) {
                members.add(j);
            }
        }
        return members;
    }

    private void toQuorum(int i, int kind, int time) {
        for (int j : quorum(i)) {
            put(i, j, kind, time);
        }
    }

    private Deque<Message> wire(int from, int to) {
        return wires.get(from * size() + to);
    }

    private void put(int from, int to, int kind, int time) {
        wire(from, to).addLast(new Message(kind, time, nodes.get(from).clock));
    }

    private static int bits(TreeSet<Integer> set) {
        int bits = 0;
        for (int i : set) {
            bits |= 1 << i;
        }
        return bits;
    }
}
