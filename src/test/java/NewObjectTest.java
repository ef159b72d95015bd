/** Promise 1: the square of a new object. */
public final class NewObjectTest {
    private static final int NONE = QuorumLock.NONE;
    private static final Due DUE = new Due();

    public static void main(String[] args) {
        DUE.run(
                NewObjectTest::belowOneItIsOne,
                NewObjectTest::oneToFourAreTaken,
                NewObjectTest::aboveFourItIsFour,
                NewObjectTest::itIsAsInitMakesIt,
                NewObjectTest::nodesAreZeroToTheOneBeforeN);
    }

    private static void belowOneItIsOne() {
        DUE.promise(1, "below 1 it is 1");
        for (int k : new int[] {0, -1, -4, Integer.MIN_VALUE}) {
            hasSide(k, 1);
        }
    }

    private static void oneToFourAreTaken() {
        DUE.promise(1, "a square of k by k nodes");
        for (int k = 1; k <= 4; k++) {
            hasSide(k, k);
        }
    }

    private static void aboveFourItIsFour() {
        DUE.promise(1, "above 4 it is 4");
        for (int k : new int[] {5, 6, 16, 1 << 16, Integer.MAX_VALUE}) {
            hasSide(k, 4);
        }
    }

    /** So many nodes, and rows and columns of that length: seen by whom the last node asks. */
    private static void hasSide(int k, int side) {
        QuorumLock lock = new QuorumLock(k);
        int last = side * side - 1;
        String when = "k = " + k + ": ";
        DUE.is(when + "its last node", lock.votesOf(last), 0);
        DUE.is(when + "one behind it", lock.votesOf(last + 1), NONE);
        DUE.is(when + "the last one asks", lock.request(last), 0);
        for (int to = 0; to <= last; to++) {
            int sent = to / side == side - 1 || to % side == side - 1 ? 1 : 0;
            DUE.is(when + "waiting(" + last + ", " + to + ")", lock.waiting(last, to), sent);
        }
    }

    private static void itIsAsInitMakesIt() {
        DUE.promise(1, "as init() makes it");
        for (int k = 1; k <= 4; k++) {
            isFresh("k = " + k, new QuorumLock(k), k * k);
        }
        QuorumLock begun = new QuorumLock(2);
        begun.init();
        DUE.same("a new one", Due.all(new QuorumLock(2)), Due.all(begun));
    }

    private static void isFresh(String when, QuorumLock lock, int nodes) {
        DUE.is(when + ": holder()", lock.holder(), NONE);
        DUE.is(when + ": entered()", lock.entered(), 0);
        for (int node = 0; node < nodes; node++) {
            DUE.told(lock, when, node, 0, 0, 0, 0, 0, 0, 0, 0);
            DUE.is(when + ": lockedFor(" + node + ")", lock.lockedFor(node), NONE);
            DUE.is(when + ": waits(" + node + ", 0)", lock.waits(node, 0), NONE);
            for (int to = 0; to < nodes; to++) {
                DUE.empty(lock, when, node, to);
            }
        }
        DUE.is(when + ": settle(500)", lock.settle(500), 0);
    }

    private static void nodesAreZeroToTheOneBeforeN() {
        DUE.promise(1, "Terms: NODES are 0 .. n - 1");
        for (int k = 1; k <= 4; k++) {
            QuorumLock lock = new QuorumLock(k);
            for (int node = -1; node <= k * k; node++) {
                boolean is = node >= 0 && node < k * k;
                DUE.is("k = " + k + ": votesOf(" + node + ")", lock.votesOf(node), is ? 0 : NONE);
            }
        }
    }
}
