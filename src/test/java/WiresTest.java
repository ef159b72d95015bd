/** Promises 11 and 12: how many messages lie on a wire, and what is to be seen of each. */
public final class WiresTest {
    private static final int NONE = QuorumLock.NONE;
    private static final Due DUE = new Due();

    public static void main(String[] args) {
        DUE.run(
                WiresTest::eachHasAWireToEach,
                WiresTest::messagesAreCounted,
                WiresTest::sixMessagesAreCounted,
                WiresTest::noWireFromThere,
                WiresTest::noWireToThere,
                WiresTest::messagesAreSeenInTheirOrder,
                WiresTest::sixMessagesAreSeen,
                WiresTest::messagesAreSeenAsAWireGoesOn,
                WiresTest::noSuchMessage,
                WiresTest::noSuchMessageAnyMore,
                WiresTest::nothingElseIsSeen,
                WiresTest::nothingIsSeenOfNoWire,
                WiresTest::lookingChangesNothing);
    }

    private static void eachHasAWireToEach() {
        DUE.promise(11, "Terms: from each node to each one (itself, too) goes a WIRE; empty it has 0");
        for (int k = 1; k <= 4; k++) {
            QuorumLock lock = new QuorumLock(k);
            for (int from = 0; from < k * k; from++) {
                for (int to = 0; to < k * k; to++) {
                    DUE.empty(lock, "k = " + k, from, to);
                }
            }
        }
    }

    private static void messagesAreCounted() {
        DUE.promise(11, "how many messages lie on a wire");
        QuorumLock lock = Runs.inside(2, 0);
        lock.release(0);
        DUE.is("RELEASE", lock.waiting(0, 2), 1);
        lock.request(0);
        DUE.is("and REQUEST", lock.waiting(0, 2), 2);
        DUE.is("the other way", lock.waiting(2, 0), 0);
        DUE.is("to itself", lock.waiting(0, 0), 2);
        lock.deliver(0, 2);
        DUE.is("one delivered", lock.waiting(0, 2), 1);
        DUE.is("elsewhere", lock.waiting(0, 1), 2);
        lock.deliver(0, 2);
        DUE.is("both delivered", lock.waiting(0, 2), 0);
    }

    private static void sixMessagesAreCounted() {
        DUE.promise(11, "how many messages lie on a wire: six, the most that can");
        QuorumLock lock = Runs.sixOnAWire();
        for (int left = 6; left > 0; left--) {
            DUE.is("waiting(0, 1)", lock.waiting(0, 1), left);
            lock.deliver(0, 1);
        }
        DUE.is("waiting(0, 1) at the end", lock.waiting(0, 1), 0);
    }

    private static void noWireFromThere() {
        DUE.promise(11, "NONE when there are no such nodes: from");
        for (int k = 1; k <= 4; k++) {
            QuorumLock lock = new QuorumLock(k);
            for (int node : Due.noNodes(k)) {
                DUE.is("k = " + k + ": waiting(" + node + ", 0)", lock.waiting(node, 0), NONE);
                DUE.is("k = " + k + ": both", lock.waiting(node, node), NONE);
            }
        }
    }

    private static void noWireToThere() {
        DUE.promise(11, "NONE when there are no such nodes: to");
        for (int k = 1; k <= 4; k++) {
            QuorumLock lock = new QuorumLock(k);
            for (int node : Due.noNodes(k)) {
                DUE.is("k = " + k + ": waiting(0, " + node + ")", lock.waiting(0, node), NONE);
            }
        }
    }

    private static void messagesAreSeenInTheirOrder() {
        DUE.promise(12, "what = 0 its kind, 1 its TIME, 2 the clock");
        QuorumLock lock = Runs.inside(2, 0);
        int clock = lock.told(0, 1);
        lock.release(0);
        lock.request(0);
        sees(lock, 0, 3, 1, clock);
        sees(lock, 1, 1, clock + 1, clock + 1);
        lock.deliver(0, 2);
        sees(lock, 0, 1, clock + 1, clock + 1);
    }

    private static void sees(QuorumLock lock, int m, int... want) {
        for (int what = 0; what < 3; what++) {
            DUE.is("look(0, 2, " + m + ", " + what + ")", lock.look(0, 2, m, what), want[what]);
        }
    }

    private static void sixMessagesAreSeen() {
        DUE.promise(12, "of message m there: of six, the most that can lie on a wire");
        QuorumLock lock = Runs.sixOnAWire();
        int clock = lock.told(0, 1);
        int[] kinds = {4, 6, 3, 2, 4, 1};
        int[] times = {1, 9, 1, 9, 9, clock};
        for (int m = 0; m < 6; m++) {
            DUE.is("kind of " + m, lock.look(0, 1, m, 0), kinds[m]);
            DUE.is("TIME of " + m, lock.look(0, 1, m, 1), times[m]);
        }
        DUE.is("clock of the last", lock.look(0, 1, 5, 2), clock);
        DUE.is("no seventh", lock.look(0, 1, 6, 0), NONE);
    }

    /** A row of fixed room wraps around: two messages lie across its end now and then. */
    private static void messagesAreSeenAsAWireGoesOn() {
        DUE.promise(12, "of message m there, however many were delivered before it");
        QuorumLock lock = Runs.inside(1, 0);
        for (int round = 1; round <= 40; round++) {
            int time = lock.told(0, 2);
            lock.release(0);
            lock.request(0);
            DUE.is("round " + round + ": RELEASE", lock.look(0, 0, 0, 0), 3);
            DUE.is("round " + round + ": its TIME", lock.look(0, 0, 0, 1), time);
            DUE.is("round " + round + ": REQUEST", lock.look(0, 0, 1, 0), 1);
            DUE.is("round " + round + ": its TIME", lock.look(0, 0, 1, 1), round * 4);
            DUE.is("round " + round + ": no third", lock.look(0, 0, 2, 0), NONE);
            lock.settle(500);
            lock.enter(0);
        }
    }

    private static void noSuchMessage() {
        DUE.promise(12, "NONE when there is none such");
        QuorumLock lock = new QuorumLock(2);
        DUE.is("an empty wire", lock.look(0, 1, 0, 0), NONE);
        lock.request(0);
        DUE.is("the one", lock.look(0, 1, 0, 0), 1);
        for (int m : new int[] {-1, 1, 2, 7, 8, Integer.MIN_VALUE, Integer.MAX_VALUE}) {
            for (int what = 0; what < 3; what++) {
                DUE.is("look(0, 1, " + m + ", " + what + ")", lock.look(0, 1, m, what), NONE);
            }
        }
        DUE.is("a wire out of the quorum", lock.look(0, 3, 0, 0), NONE);
    }

    private static void noSuchMessageAnyMore() {
        DUE.promise(12, "NONE when there is none such: all were delivered");
        QuorumLock lock = Runs.sixOnAWire();
        for (int left = 6; left > 0; left--) {
            DUE.is("behind the last of " + left, lock.look(0, 1, left, 0), NONE);
            DUE.is("the last of " + left, lock.look(0, 1, left - 1, 0), 1);
            lock.deliver(0, 1);
        }
        DUE.is("none left", lock.look(0, 1, 0, 0), NONE);
    }

    private static void nothingElseIsSeen() {
        DUE.promise(12, "NONE for others: what is not 0 .. 2");
        QuorumLock lock = Runs.sixOnAWire();
        for (int what : new int[] {-1, 3, 4, Integer.MIN_VALUE, Integer.MAX_VALUE}) {
            for (int m = 0; m < 6; m++) {
                DUE.is("look(0, 1, " + m + ", " + what + ")", lock.look(0, 1, m, what), NONE);
            }
        }
    }

    private static void nothingIsSeenOfNoWire() {
        DUE.promise(12, "NONE when there is none such: no such nodes");
        for (int k = 1; k <= 4; k++) {
            QuorumLock lock = new QuorumLock(k);
            lock.request(0);
            for (int node : Due.noNodes(k)) {
                DUE.is("k = " + k + ": look(" + node + ", 0, 0, 0)", lock.look(node, 0, 0, 0), NONE);
                DUE.is("k = " + k + ": look(0, " + node + ", 0, 0)", lock.look(0, node, 0, 0), NONE);
            }
        }
    }

    private static void lookingChangesNothing() {
        DUE.promise(12, "looking changes nothing");
        QuorumLock lock = Runs.used();
        DUE.same("once more", Due.all(lock), Due.all(lock));
    }
}
