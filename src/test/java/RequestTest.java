/** Promise 3: who asks, whom, at which time, and who may not. */
public final class RequestTest {
    private static final int NONE = QuorumLock.NONE;
    private static final Due DUE = new Due();

    public static void main(String[] args) {
        DUE.run(
                RequestTest::itGoesToRowAndColumnAlone,
                RequestTest::aQuorumOfOneIsItself,
                RequestTest::itIsRefusedWhenAsking,
                RequestTest::itIsRefusedWhenInside,
                RequestTest::itMayAskAgainWhenItHasLeft,
                RequestTest::thereIsNoneSuch,
                RequestTest::theFirstAndTheLastNodeAsk,
                RequestTest::clocksAreZeroAtFirst,
                RequestTest::theTimeIsOneMoreThanTheClock);
    }

    private static void itGoesToRowAndColumnAlone() {
        DUE.promise(3, "Terms: all nodes of its row or column (itself, too), 2 * k - 1 of them");
        for (int k = 1; k <= 4; k++) {
            for (int node = 0; node < k * k; node++) {
                QuorumLock lock = new QuorumLock(k);
                DUE.is("request(" + node + ")", lock.request(node), 0);
                DUE.told(lock, "request", node, 1, 1, 1, 0, 0, 0, 0, 0);
                int sent = 0;
                for (int to = 0; to < k * k; to++) {
                    if (to / k == node / k || to % k == node % k) {
                        DUE.lies(lock, "k = " + k, node, to, 1, 1, 1);
                        sent++;
                    } else {
                        DUE.empty(lock, "k = " + k, node, to);
                    }
                }
                DUE.is("size of a quorum", sent, 2 * k - 1);
            }
        }
    }

    private static void aQuorumOfOneIsItself() {
        DUE.promise(3, "Terms: a row or column (itself, too), when there is but itself");
        QuorumLock lock = new QuorumLock(1);
        DUE.is("request(0)", lock.request(0), 0);
        DUE.lies(lock, "to itself", 0, 0, 1, 1, 1);
        DUE.is("one message in all", lock.settle(1), 1);
        DUE.lies(lock, "and an answer", 0, 0, 2, 1, 2);
    }

    private static void itIsRefusedWhenAsking() {
        DUE.promise(3, "1 when it is not IDLE: ASKING");
        QuorumLock lock = new QuorumLock(2);
        lock.request(1);
        String before = Due.all(lock);
        DUE.is("request(1), nothing delivered", lock.request(1), 1);
        DUE.same("request(1)", Due.all(lock), before);
        lock.settle(500);
        DUE.is("request(1) with all votes", lock.request(1), 1);
    }

    private static void itIsRefusedWhenInside() {
        DUE.promise(3, "1 when it is not IDLE: INSIDE");
        QuorumLock lock = Runs.inside(2, 1);
        String before = Due.all(lock);
        DUE.is("request(1)", lock.request(1), 1);
        DUE.same("request(1)", Due.all(lock), before);
    }

    private static void itMayAskAgainWhenItHasLeft() {
        DUE.promise(3, "0: IDLE again, with its RELEASE on the wires as yet");
        QuorumLock lock = Runs.inside(2, 1);
        int clock = lock.told(1, 1);
        lock.release(1);
        DUE.is("request(1)", lock.request(1), 0);
        DUE.told(lock, "asks again", 1, 1, clock + 1, clock + 1, 0, 0, 0);
        DUE.is("RELEASE and REQUEST", lock.waiting(1, 0), 2);
        DUE.is("request(1) once more", lock.request(1), 1);
    }

    private static void thereIsNoneSuch() {
        DUE.promise(3, "NONE when there is none such");
        for (int k = 1; k <= 4; k++) {
            QuorumLock lock = new QuorumLock(k);
            for (int node : Due.noNodes(k)) {
                DUE.is("k = " + k + ": request(" + node + ")", lock.request(node), NONE);
            }
            DUE.is("k = " + k + ": nothing was sent", lock.settle(500), 0);
        }
        QuorumLock lock = Runs.used();
        String before = Due.all(lock);
        DUE.is("request(4)", lock.request(4), NONE);
        DUE.same("request(4)", Due.all(lock), before);
    }

    private static void theFirstAndTheLastNodeAsk() {
        DUE.promise(3, "a node asks: 0");
        for (int k = 1; k <= 4; k++) {
            DUE.is("k = " + k + ": the first", new QuorumLock(k).request(0), 0);
            DUE.is("k = " + k + ": the last", new QuorumLock(k).request(k * k - 1), 0);
        }
    }

    private static void clocksAreZeroAtFirst() {
        DUE.promise(3, "Terms: a CLOCK, 0 at first; it becomes 1 more, that is the TIME");
        QuorumLock lock = new QuorumLock(2);
        for (int node = 3; node >= 0; node--) {
            lock.request(node);
            DUE.told(lock, "each by its own clock", node, 1, 1, 1);
        }
    }

    private static void theTimeIsOneMoreThanTheClock() {
        DUE.promise(3, "Terms: its clock becomes 1 more, that is the TIME");
        QuorumLock lock = new QuorumLock(2);
        lock.request(3);
        lock.deliver(3, 1);
        DUE.told(lock, "before it asks", 1, 0, 2, 0);
        lock.request(1);
        DUE.told(lock, "when it asks", 1, 1, 3, 3);
        DUE.lies(lock, "when it asks", 1, 0, 1, 3, 3);
    }
}
