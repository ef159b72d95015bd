/** Promise 4: which message is delivered, what is answered, and whose clock goes on. */
public final class DeliverTest {
    private static final int NONE = QuorumLock.NONE;
    private static final Due DUE = new Due();

    public static void main(String[] args) {
        DUE.run(
                DeliverTest::thereIsNoSuchSender,
                DeliverTest::thereIsNoSuchReceiver,
                DeliverTest::thereIsNoMessage,
                DeliverTest::thereIsNoMessageAnyMore,
                DeliverTest::aNodeDeliversToItself,
                DeliverTest::theOldestComesFirst,
                DeliverTest::eachKindIsAnswered,
                DeliverTest::aWireGoesOnAndOn,
                DeliverTest::aFullWireIsDeliveredInOrder,
                DeliverTest::theOwnClockIsGreater,
                DeliverTest::theMessagesClockIsGreater,
                DeliverTest::theClocksAreTheSame,
                DeliverTest::whatIsLeftOutCountsAllTheSame,
                DeliverTest::theClockComesFirst);
    }

    private static void thereIsNoSuchSender() {
        DUE.promise(4, "NONE when there are no such nodes: from");
        for (int k = 1; k <= 4; k++) {
            QuorumLock lock = new QuorumLock(k);
            lock.request(0);
            for (int node : Due.noNodes(k)) {
                DUE.is("k = " + k + ": deliver(" + node + ", 0)", lock.deliver(node, 0), NONE);
                DUE.is("k = " + k + ": both", lock.deliver(node, node), NONE);
            }
            DUE.is("k = " + k + ": all lie there yet", lock.settle(500), 2 * (2 * k - 1));
        }
    }

    private static void thereIsNoSuchReceiver() {
        DUE.promise(4, "NONE when there are no such nodes: to");
        for (int k = 1; k <= 4; k++) {
            QuorumLock lock = new QuorumLock(k);
            lock.request(0);
            for (int node : Due.noNodes(k)) {
                DUE.is("k = " + k + ": deliver(0, " + node + ")", lock.deliver(0, node), NONE);
            }
            DUE.is("k = " + k + ": all lie there yet", lock.settle(500), 2 * (2 * k - 1));
        }
    }

    private static void thereIsNoMessage() {
        DUE.promise(4, "0 when there is none");
        QuorumLock lock = new QuorumLock(2);
        lock.request(0);
        String before = Due.all(lock);
        DUE.is("the other way", lock.deliver(1, 0), 0);
        DUE.is("to one that is not of its quorum", lock.deliver(0, 3), 0);
        DUE.is("to itself", lock.deliver(3, 3), 0);
        DUE.same("deliver", Due.all(lock), before);
    }

    private static void thereIsNoMessageAnyMore() {
        DUE.promise(4, "0 when there is none: all were delivered");
        QuorumLock lock = Runs.hasAllVotes(2, 0);
        String before = Due.all(lock);
        DUE.is("deliver(0, 1)", lock.deliver(0, 1), 0);
        DUE.is("deliver(1, 0)", lock.deliver(1, 0), 0);
        DUE.is("deliver(0, 0)", lock.deliver(0, 0), 0);
        DUE.same("deliver", Due.all(lock), before);
    }

    private static void aNodeDeliversToItself() {
        DUE.promise(4, "to another one (or itself)");
        QuorumLock lock = new QuorumLock(2);
        lock.request(3);
        DUE.deliveries(lock, new int[][] {{3, 3}, {3, 3}, {3, 3}}, 1, 2, 0);
        DUE.told(lock, "its own vote", 3, 1, 3, 1, 0, 0, 8);
        DUE.is("lockedFor(3)", lock.lockedFor(3), 3);
    }

    private static void theOldestComesFirst() {
        DUE.promise(4, "the oldest message is done: its kind");
        QuorumLock lock = Runs.inside(1, 0);
        lock.release(0);
        lock.request(0);
        DUE.is("two lie there", lock.waiting(0, 0), 2);
        DUE.deliveries(lock, new int[][] {{0, 0}, {0, 0}, {0, 0}, {0, 0}}, 3, 1, 2, 0);
        DUE.told(lock, "the second time", 0, 1, 7, 4, 0, 0, 1, 0, 0);
    }

    private static void eachKindIsAnswered() {
        DUE.promise(4, "its kind: 1 REQUEST, 2 LOCKED, 4 INQUIRE, 5 RELINQUISH, 6 FAILED");
        QuorumLock lock = Runs.threeIsAskedBack();
        int[][] wires = {{0, 0}, {0, 0}, {1, 3}, {2, 3}, {3, 1}, {1, 0}, {2, 0}};
        DUE.deliveries(lock, wires, 1, 2, 4, 6, 5, 2, 2);
        DUE.promise(4, "its kind: 3 RELEASE");
        DUE.is("enter(0)", lock.enter(0), true);
        lock.release(0);
        DUE.deliveries(lock, new int[][] {{0, 0}, {0, 1}, {0, 2}}, 3, 3, 3);
    }

    /** As many as 512 calls bring over one wire: a row of fixed room must wrap around. */
    private static void aWireGoesOnAndOn() {
        DUE.promise(4, "the oldest message, however many were delivered before it");
        QuorumLock lock = Runs.inside(1, 0);
        for (int round = 1; round <= 80; round++) {
            lock.release(0);
            lock.request(0);
            DUE.deliveries(lock, new int[][] {{0, 0}, {0, 0}, {0, 0}}, 3, 1, 2);
            DUE.is("round " + round + ": enter(0)", lock.enter(0), true);
        }
        DUE.told(lock, "the last round", 0, 2, 3 + 80 * 4, 320, 0, 0, 1, 0, 0);
    }

    private static void aFullWireIsDeliveredInOrder() {
        DUE.promise(4, "the oldest message of six, the most that can lie on a wire");
        QuorumLock lock = Runs.sixOnAWire();
        int[] wire = {0, 1};
        DUE.deliveries(lock, new int[][] {wire, wire, wire, wire, wire, wire, wire},
                4, 6, 3, 2, 4, 1, 0);
    }

    private static void theOwnClockIsGreater() {
        DUE.promise(4, "Terms: the greater one of its own and the message's, and 1 more: its own");
        QuorumLock lock = new QuorumLock(2);
        lock.request(0);
        lock.request(3);
        lock.deliver(0, 1);
        DUE.is("its own", lock.told(1, 1), 2);
        DUE.is("the message's", lock.look(3, 1, 0, 2), 1);
        lock.deliver(3, 1);
        DUE.is("1 more", lock.told(1, 1), 3);
    }

    private static void theMessagesClockIsGreater() {
        DUE.promise(4, "Terms: the greater one of its own and the message's, and 1 more: the message's");
        QuorumLock lock = new QuorumLock(2);
        lock.request(3);
        lock.deliver(3, 1);
        lock.request(1);
        DUE.is("its own", lock.told(0, 1), 0);
        DUE.is("the message's", lock.look(1, 0, 0, 2), 3);
        lock.deliver(1, 0);
        DUE.is("1 more", lock.told(0, 1), 4);
    }

    private static void theClocksAreTheSame() {
        DUE.promise(4, "Terms: the greater one of its own and the message's, and 1 more: the same");
        QuorumLock lock = new QuorumLock(2);
        lock.request(0);
        lock.request(1);
        DUE.is("its own", lock.told(1, 1), 1);
        DUE.is("the message's", lock.look(0, 1, 0, 2), 1);
        lock.deliver(0, 1);
        DUE.is("1 more", lock.told(1, 1), 2);
    }

    private static void whatIsLeftOutCountsAllTheSame() {
        DUE.promise(4, "Terms: are left out (their clock counts all the same)");
        QuorumLock lock = new QuorumLock(2);
        lock.request(2);
        lock.settle(500);
        lock.enter(2);
        lock.request(1);
        lock.deliver(1, 0);
        lock.release(2);
        int clock = lock.told(2, 1);
        DUE.is("INQUIRE when IDLE", lock.deliver(0, 2), 4);
        DUE.told(lock, "left out", 2, 0, clock + 1, 0, 0, 0, 0);
    }

    private static void theClockComesFirst() {
        DUE.promise(4, "Terms: then it is done, so that an answer bears the new clock");
        QuorumLock lock = new QuorumLock(2);
        lock.request(0);
        lock.request(3);
        lock.deliver(0, 1);
        DUE.lies(lock, "LOCKED", 1, 0, 2, 1, 2);
        lock.deliver(3, 1);
        DUE.lies(lock, "FAILED", 1, 3, 6, 1, 3);
    }
}
