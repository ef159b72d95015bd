/** Promise 3: who asks, whom, at which time, and who may not. */
public final class RequestTest {
    private static final Due DUE = new Due();

    public static void main(String[] args) {
        itGoesToRowAndColumnAlone();
        itIsRefusedUnlessIdle();
        theTimeIsOneMoreThanTheClock();
        thereIsNoSuchNode();
        DUE.end();
    }

    private static void itGoesToRowAndColumnAlone() {
        for (int k = 1; k <= 4; k++) {
            for (int node = 0; node < k * k; node++) {
                QuorumLock lock = new QuorumLock(k);
                DUE.is("request(" + node + ")", lock.request(node), 0);
                DUE.told(lock, "request", node, 1, 1, 1, 0, 0, 0, 0, 0);
                int sent = 0;
                for (int to = 0; to < k * k; to++) {
                    if (to / k == node / k || to % k == node % k) {
                        DUE.lies(lock, "k = " + k, node, to, 1, 1, 1);
                        sent++;
                    } else {
                        DUE.empty(lock, "k = " + k, node, to);
                    }
                }
                DUE.is("size of a quorum", sent, 2 * k - 1);
            }
        }
    }

    private static void itIsRefusedUnlessIdle() {
        QuorumLock lock = new QuorumLock(2);
        lock.request(1);
        DUE.is("request when ASKING", lock.request(1), 1);
        DUE.told(lock, "refused when ASKING", 1, 1, 1, 1);
        DUE.is("a refused one sends nothing", lock.waiting(1, 1), 1);
        lock.settle(500);
        lock.enter(1);
        DUE.is("request when INSIDE", lock.request(1), 1);
        DUE.told(lock, "refused when INSIDE", 1, 2);
        DUE.empty(lock, "refused when INSIDE", 1, 0);
        lock.release(1);
        DUE.is("request when IDLE again", lock.request(1), 0);
    }

    private static void theTimeIsOneMoreThanTheClock() {
        QuorumLock lock = new QuorumLock(2);
        lock.request(3);
        lock.deliver(3, 1);
        DUE.told(lock, "before it asks", 1, 0, 2, 0);
        lock.request(1);
        DUE.told(lock, "when it asks", 1, 1, 3, 3);
        DUE.lies(lock, "when it asks", 1, 0, 1, 3, 3);
    }

    private static void thereIsNoSuchNode() {
        for (int k = 1; k <= 4; k++) {
            QuorumLock lock = new QuorumLock(k);
            for (int node : new int[] {-1, k * k, Integer.MIN_VALUE, Integer.MAX_VALUE}) {
                DUE.is("request(" + node + ")", lock.request(node), QuorumLock.NONE);
            }
        }
    }
}
