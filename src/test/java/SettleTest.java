/** Promise 10: which messages settle() delivers, how many, and what it refuses. */
public final class SettleTest {
    private static final int NONE = QuorumLock.NONE;
    private static final Due DUE = new Due();

    public static void main(String[] args) {
        mostIsOneToFiveHundred();
        theLeastWireComesFirst();
        answersAreDeliveredToo();
        itEndsAtMost();
        DUE.end();
    }

    private static void mostIsOneToFiveHundred() {
        QuorumLock lock = new QuorumLock(2);
        lock.request(0);
        for (int most : new int[] {0, -1, 501, Integer.MIN_VALUE, Integer.MAX_VALUE}) {
            DUE.is("settle(" + most + ")", lock.settle(most), NONE);
        }
        DUE.is("a refused one delivers nothing", lock.waiting(0, 0), 1);
        DUE.is("settle(1)", lock.settle(1), 1);
        DUE.is("settle(500)", lock.settle(500), 5);
        DUE.is("settle(500) with none", lock.settle(500), 0);
        DUE.is("settle(1) with none", lock.settle(1), 0);
    }

    private static void theLeastWireComesFirst() {
        QuorumLock lock = new QuorumLock(2);
        lock.request(3);
        lock.request(1);
        int[][] wires = {
            {1, 0}, {0, 1}, {1, 1}, {1, 1}, {1, 3}, {3, 1},
            {1, 3}, {3, 1}, {3, 2}, {2, 3}, {3, 3}, {3, 3}};
        for (int[] wire : wires) {
            int before = lock.waiting(wire[0], wire[1]);
            int clock = lock.told(wire[1], 1);
            DUE.is("one lies from " + wire[0] + " to " + wire[1], before > 0, true);
            DUE.is("settle(1)", lock.settle(1), 1);
            DUE.is("from " + wire[0] + " to " + wire[1], lock.told(wire[1], 1) > clock, true);
        }
        DUE.is("settle(1) with none", lock.settle(1), 0);
        DUE.told(lock, "settled", 1, 1, lock.told(1, 1), 1, 0, 0, 11);
        DUE.is("enter(1)", lock.enter(1), true);
    }

    private static void answersAreDeliveredToo() {
        QuorumLock lock = new QuorumLock(4);
        lock.request(9);
        DUE.is("seven requests and seven votes", lock.settle(500), 14);
        DUE.is("enter(9)", lock.enter(9), true);
        lock.release(9);
        DUE.is("seven releases", lock.settle(500), 7);
    }

    private static void itEndsAtMost() {
        QuorumLock whole = new QuorumLock(4);
        QuorumLock parts = new QuorumLock(4);
        for (int node = 15; node >= 0; node--) {
            whole.request(node);
            parts.request(node);
        }
        int all = whole.settle(500);
        DUE.is("more than a few", all > 100, true);
        DUE.is("fewer than 500", all < 500, true);
        DUE.is("settle(100)", parts.settle(100), 100);
        DUE.is("settle(" + (all - 101) + ")", parts.settle(all - 101), all - 101);
        DUE.is("the last one", parts.settle(2), 1);
        for (int node = 0; node < 16; node++) {
            for (int what = 0; what < 8; what++) {
                DUE.is("in parts: told(" + node + ", " + what + ")",
                        parts.told(node, what), whole.told(node, what));
            }
        }
    }
}
