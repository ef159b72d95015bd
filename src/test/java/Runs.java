/**
 * Runs of calls in the square of two that several tests begin with. The quorums there are
 * 0: 0 1 2, 1: 0 1 3, 2: 0 2 3, 3: 1 2 3.
 */
final class Runs {
    private Runs() { }

    /** A node with the votes of all of its quorum, and no message on any wire. */
    static QuorumLock hasAllVotes(int k, int node) {
        QuorumLock lock = new QuorumLock(k);
        lock.request(node);
        lock.settle(500);
        return lock;
    }

    static QuorumLock inside(int k, int node) {
        QuorumLock lock = hasAllVotes(k, node);
        lock.enter(node);
        return lock;
    }

    /**
     * Nothing is as at first: 2 is INSIDE with an inquiry, 1 and 3 are ASKING, 3 has a failure,
     * 0 has inquired, and requests wait in rows and on wires.
     */
    static void useIt(QuorumLock lock) {
        lock.request(2);
        lock.settle(500);
        lock.request(1);
        lock.deliver(1, 0);
        lock.deliver(0, 2);
        lock.enter(2);
        lock.request(3);
        lock.deliver(3, 2);
        lock.deliver(2, 3);
    }

    static QuorumLock used() {
        QuorumLock lock = new QuorumLock(2);
        useIt(lock);
        return lock;
    }

    /** 3 has the votes of 1 and 3, and is asked back that of 1; that of 2 is lent to 0. */
    static QuorumLock threeIsAskedBack() {
        QuorumLock lock = new QuorumLock(2);
        lock.request(3);
        lock.deliver(3, 1);
        lock.deliver(3, 3);
        lock.deliver(1, 3);
        lock.deliver(3, 3);
        lock.request(0);
        lock.deliver(0, 2);
        lock.deliver(3, 2);
        lock.deliver(0, 1);
        return lock;
    }

    /** Six messages lie from 0 to 1, the most that can; of the kinds 4 6 3 2 4 1. */
    static QuorumLock sixOnAWire() {
        QuorumLock lock = new QuorumLock(2);
        lock.request(0);
        lock.request(1);
        deliver(lock, new int[][] {{1, 0}, {1, 1}, {1, 3}, {3, 1}, {1, 1}, {0, 1}, {0, 1}});
        lock.enter(1);
        lock.deliver(0, 0);
        lock.release(1);
        deliver(lock, new int[][] {{1, 0}, {1, 1}, {1, 1}, {0, 0}, {1, 0}});
        lock.request(1);
        deliver(lock, new int[][] {{1, 0}, {0, 2}, {2, 0}});
        lock.enter(0);
        lock.release(0);
        lock.deliver(0, 0);
        lock.request(2);
        lock.deliver(2, 0);
        lock.request(0);
        return lock;
    }

    private static void deliver(QuorumLock lock, int[][] wires) {
        for (int[] wire : wires) {
            lock.deliver(wire[0], wire[1]);
        }
    }
}
