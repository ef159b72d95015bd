/**
 * Mutual exclusion in a square of nodes: each asks its row and its column for their votes, and
 * every message lies on a wire of its own until it is told to be delivered.
 */
public final class QuorumLock {
    public static final int NONE = -1;

    private static final int MOST_SIDE = 4;
    private static final int MOST_SETTLED = 500;

    private static final int IDLE = 0;
    private static final int ASKING = 1;
    private static final int INSIDE = 2;

    private static final int REQUEST = 1;
    private static final int LOCKED = 2;
    private static final int RELEASE = 3;
    private static final int INQUIRE = 4;
    private static final int RELINQUISH = 5;
    private static final int FAILED = 6;

    private final int nodes;
    private final int[] quorums;
    private final int[] clocks;
    private final Asker[] askers;
    private final Voter[] voters;
    private final Wires wires;
    private int entries;

    public QuorumLock(int k) {
        int side = Math.min(Math.max(k, 1), MOST_SIDE);
        nodes = side * side;
        quorums = new int[nodes];
        clocks = new int[nodes];
        askers = new Asker[nodes];
        voters = new Voter[nodes];
        wires = new Wires(nodes);
        for (int node = 0; node < nodes; node++) {
            quorums[node] = quorumOf(node, side);
            askers[node] = new Asker();
            voters[node] = new Voter(2 * side - 1);
        }
        init();
    }

    public void init() {
        for (int node = 0; node < nodes; node++) {
            clocks[node] = 0;
            askers[node].becomeIdle();
            voters[node].forgetAll();
        }
        wires.emptyAll();
        entries = 0;
    }

    public int request(int node) {
        if (!isNode(node)) {
            return NONE;
        }
        Asker asker = askers[node];
        if (asker.state != IDLE) {
            return 1;
        }
        clocks[node]++;
        asker.becomeAsking(clocks[node]);
        sendToQuorum(node, REQUEST, asker.time);
        return 0;
    }

    public int deliver(int from, int to) {
        if (!isWire(from, to)) {
            return NONE;
        }
        return deliverOldest(from, to);
    }

    public boolean enter(int node) {
        if (!isNode(node)) {
            return false;
        }
        Asker asker = askers[node];
        if (asker.state != ASKING || (asker.votes & quorums[node]) != quorums[node]) {
            return false;
        }
        asker.state = INSIDE;
        entries++;
        return true;
    }

    public int release(int node) {
        if (!isNode(node)) {
            return NONE;
        }
        Asker asker = askers[node];
        if (asker.state != INSIDE) {
            return 1;
        }
        int time = asker.time;
        asker.becomeIdle();
        sendToQuorum(node, RELEASE, time);
        return 0;
    }

    public int holder() {
        for (int node = 0; node < nodes; node++) {
            if (askers[node].state == INSIDE) {
                return node;
            }
        }
        return NONE;
    }

    public int votesOf(int node) {
        return isNode(node) ? Integer.bitCount(askers[node].votes) : NONE;
    }

    public int lockedFor(int node) {
        return isNode(node) ? voters[node].lentTo : NONE;
    }

    public int settle(int most) {
        if (most < 1 || most > MOST_SETTLED) {
            return NONE;
        }
        for (int done = 0; done < most; done++) {
            int from = wires.leastFrom();
            int to = wires.leastTo(from);
            if (to == NONE) {
                return done;
            }
            deliverOldest(from, to);
        }
        return most;
    }

    public int waiting(int from, int to) {
        return isWire(from, to) ? wires.count(from, to) : NONE;
    }

    public int look(int from, int to, int m, int what) {
        return isWire(from, to) ? wires.part(from, to, m, what) : NONE;
    }

    public int told(int node, int what) {
        if (!isNode(node)) {
            return NONE;
        }
        Asker asker = askers[node];
        Voter voter = voters[node];
        switch (what) {
            case 0:
                return asker.state;
            case 1:
                return clocks[node];
            case 2:
                return asker.time;
            case 3:
                return asker.failures;
            case 4:
                return asker.inquiries;
            case 5:
                return asker.votes;
            case 6:
                return voter.inquired ? 1 : 0;
            case 7:
                return voter.row.length;
            default:
                return NONE;
        }
    }

    public int waits(int node, int m) {
        return isNode(node) ? voters[node].row.nodeAt(m) : NONE;
    }

    public int entered() {
        return entries;
    }

    private static int quorumOf(int node, int side) {
        int members = 0;
        for (int other = 0; other < side * side; other++) {
            if (other / side == node / side || other % side == node % side) {
                members |= 1 << other;
            }
        }
        return members;
    }

    private static boolean isBefore(int node, int time, int otherNode, int otherTime) {
        return time < otherTime || time == otherTime && node < otherNode;
    }

    private static boolean has(int set, int node) {
        return (set >> node & 1) == 1;
    }

    private boolean isNode(int node) {
        return node >= 0 && node < nodes;
    }

    private boolean isWire(int from, int to) {
        return isNode(from) && isNode(to);
    }

    private void send(int from, int to, int kind, int time) {
        wires.add(from, to, kind, time, clocks[from]);
    }

    private void sendToQuorum(int node, int kind, int time) {
        for (int to = 0; to < nodes; to++) {
            if (has(quorums[node], to)) {
                send(node, to, kind, time);
            }
        }
    }

    private int deliverOldest(int from, int to) {
        if (wires.count(from, to) == 0) {
            return 0;
        }
        int kind = wires.part(from, to, 0, Wires.KIND);
        int time = wires.part(from, to, 0, Wires.TIME);
        clocks[to] = Math.max(clocks[to], wires.part(from, to, 0, Wires.CLOCK)) + 1;
        // It leaves before it is done: what is done may put an answer on this very wire.
        wires.dropOldest(from, to);
        switch (kind) {
            case REQUEST:
                weighRequest(to, from, time);
                break;
            case LOCKED:
                hearLocked(to, from, time);
                break;
            case RELEASE:
                takeVoteBack(to, from, time, false);
                break;
            case INQUIRE:
                hearInquire(to, from, time);
                break;
            case RELINQUISH:
                takeVoteBack(to, from, time, true);
                break;
            default:
                hearFailed(to, from, time);
                break;
        }
        return kind;
    }

    private void hearLocked(int node, int from, int time) {
        Asker asker = askers[node];
        if (asker.state != IDLE && asker.time == time) {
            asker.gainVote(from);
        }
    }

    private void hearFailed(int node, int from, int time) {
        Asker asker = askers[node];
        if (!asker.isAsking(time)) {
            return;
        }
        asker.failures |= 1 << from;
        for (int other = 0; other < nodes; other++) {
            if (has(asker.votes & asker.inquiries, other)) {
                giveUp(node, other);
            }
        }
    }

    private void hearInquire(int node, int from, int time) {
        Asker asker = askers[node];
        if (!asker.isAsking(time) || !has(asker.votes, from)) {
            return;
        }
        if (asker.failures != 0) {
            giveUp(node, from);
        } else {
            asker.inquiries |= 1 << from;
        }
    }

    private void giveUp(int node, int other) {
        Asker asker = askers[node];
        send(node, other, RELINQUISH, asker.time);
        asker.loseVote(other);
    }

    private void weighRequest(int node, int from, int time) {
        Voter voter = voters[node];
        if (voter.lentTo == NONE) {
            lend(node, from, time);
            return;
        }
        boolean anotherPressed = voter.isPressed();
        boolean isFirst = voter.row.insert(from, time) == 0;
        if (isFirst && voter.isPressed()) {
            if (anotherPressed) {
                send(node, voter.row.nodeAt(1), FAILED, voter.row.timeAt(1));
            }
            inquireOnce(node);
        } else {
            send(node, from, FAILED, time);
        }
    }

    private void inquireOnce(int node) {
        Voter voter = voters[node];
        if (!voter.inquired) {
            send(node, voter.lentTo, INQUIRE, voter.lentTime);
            voter.inquired = true;
        }
    }

    private void takeVoteBack(int node, int from, int time, boolean stillWaits) {
        Voter voter = voters[node];
        if (voter.lentTo != from || voter.lentTime != time) {
            return;
        }
        if (stillWaits) {
            voter.row.insert(from, time);
        }
        voter.takeHome();
        if (voter.row.length > 0) {
            int nextNode = voter.row.nodeAt(0);
            int nextTime = voter.row.timeAt(0);
            voter.row.removeFirst();
            lend(node, nextNode, nextTime);
        }
    }

    private void lend(int node, int to, int time) {
        voters[node].lendTo(to, time);
        send(node, to, LOCKED, time);
    }

    /** The side of a node that asks; its sets of nodes are bits. */
    private static final class Asker {
        int state;
        int time;
        int votes;
        int failures;
        int inquiries;

        void becomeIdle() {
            state = IDLE;
            time = 0;
            forgetSets();
        }

        void becomeAsking(int newTime) {
            state = ASKING;
            time = newTime;
            forgetSets();
        }

        boolean isAsking(int askedTime) {
            return state == ASKING && time == askedTime;
        }

        void gainVote(int node) {
            votes |= 1 << node;
            failures &= ~(1 << node);
        }

        void loseVote(int node) {
            votes &= ~(1 << node);
            inquiries &= ~(1 << node);
            failures |= 1 << node;
        }

        private void forgetSets() {
            votes = 0;
            failures = 0;
            inquiries = 0;
        }
    }

    /** The side of a node that votes. */
    private static final class Voter {
        final Row row;
        int lentTo;
        int lentTime;
        boolean inquired;

        Voter(int quorumSize) {
            row = new Row(quorumSize);
        }

        void forgetAll() {
            takeHome();
            row.length = 0;
        }

        void takeHome() {
            lentTo = NONE;
            lentTime = 0;
            inquired = false;
        }

        void lendTo(int node, int time) {
            lentTo = node;
            lentTime = time;
            inquired = false;
        }

        /** Whether the first one that waits is before the one that has the vote. */
        boolean isPressed() {
            return row.length > 0 && isBefore(row.nodeAt(0), row.timeAt(0), lentTo, lentTime);
        }
    }

    /** The requests that wait for a vote, in their order. */
    private static final class Row {
        final int[] waitingNodes;
        final int[] waitingTimes;
        int length;

        // Room for a quorum is enough: only its nodes ask here, and a node's RELEASE comes on
        // the same wire before its next REQUEST, so each has one request here at most.
        Row(int quorumSize) {
            waitingNodes = new int[quorumSize];
            waitingTimes = new int[quorumSize];
        }

        int nodeAt(int m) {
            return m >= 0 && m < length ? waitingNodes[m] : NONE;
        }

        int timeAt(int m) {
            return m >= 0 && m < length ? waitingTimes[m] : NONE;
        }

        /** Answers the place that it got; NONE when there is no room. */
        int insert(int node, int time) {
            if (length >= waitingNodes.length) {
                return NONE;
            }
            int place = length;
            while (place > 0
                    && isBefore(node, time, waitingNodes[place - 1], waitingTimes[place - 1])) {
                waitingNodes[place] = waitingNodes[place - 1];
                waitingTimes[place] = waitingTimes[place - 1];
                place--;
            }
            waitingNodes[place] = node;
            waitingTimes[place] = time;
            length++;
            return place;
        }

        void removeFirst() {
            for (int place = 1; place < length; place++) {
                waitingNodes[place - 1] = waitingNodes[place];
                waitingTimes[place - 1] = waitingTimes[place];
            }
            length = Math.max(length - 1, 0);
        }
    }

    /** All wires, each a ring in one array that they share, so that no message is an object. */
    private static final class Wires {
        static final int KIND = 0;
        static final int TIME = 1;
        static final int CLOCK = 2;
        static final int PARTS = 3;

        // Six lie on a wire at most. Of one that asks: a RELEASE and the next REQUEST, for a
        // node comes inside only when all that it sent has been delivered. Of one that votes:
        // an INQUIRE about the request before, then FAILED, LOCKED and INQUIRE about this one,
        // for a request fails once at most and a vote is asked back once each time it is lent.
        static final int ROOM = 8;

        final int ends;
        final int[] parts;
        final int[] oldest;
        final int[] lying;
        final int[] lyingFrom;

        Wires(int nodes) {
            ends = nodes;
            parts = new int[nodes * nodes * ROOM * PARTS];
            oldest = new int[nodes * nodes];
            lying = new int[nodes * nodes];
            lyingFrom = new int[nodes];
        }

        void emptyAll() {
            for (int wire = 0; wire < lying.length; wire++) {
                oldest[wire] = 0;
                lying[wire] = 0;
            }
            for (int from = 0; from < ends; from++) {
                lyingFrom[from] = 0;
            }
        }

        int count(int from, int to) {
            return lying[wireOf(from, to)];
        }

        int part(int from, int to, int m, int what) {
            int wire = wireOf(from, to);
            if (m < 0 || m >= lying[wire] || what < 0 || what >= PARTS) {
                return NONE;
            }
            return parts[slotOf(wire, m) + what];
        }

        void add(int from, int to, int kind, int time, int clock) {
            int wire = wireOf(from, to);
            if (lying[wire] >= ROOM) {
                return;
            }
            int slot = slotOf(wire, lying[wire]);
            parts[slot + KIND] = kind;
            parts[slot + TIME] = time;
            parts[slot + CLOCK] = clock;
            lying[wire]++;
            lyingFrom[from]++;
        }

        void dropOldest(int from, int to) {
            int wire = wireOf(from, to);
            if (lying[wire] > 0) {
                oldest[wire] = (oldest[wire] + 1) % ROOM;
                lying[wire]--;
                lyingFrom[from]--;
            }
        }

        /** The least node from which a message lies on a wire; NONE when there is none. */
        int leastFrom() {
            for (int from = 0; from < ends; from++) {
                if (lyingFrom[from] > 0) {
                    return from;
                }
            }
            return NONE;
        }

        /** The least node to which one lies on a wire from this one; NONE when there is none. */
        int leastTo(int from) {
            if (from < 0 || from >= ends) {
                return NONE;
            }
            for (int to = 0; to < ends; to++) {
                if (count(from, to) > 0) {
                    return to;
                }
            }
            return NONE;
        }

        private int wireOf(int from, int to) {
            return from * ends + to;
        }

        private int slotOf(int wire, int m) {
            return (wire * ROOM + (oldest[wire] + m) % ROOM) * PARTS;
        }
    }
}
