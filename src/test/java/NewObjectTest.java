/** Promises 1 and 2: the square of a new object, and what init() makes of a used one. */
public final class NewObjectTest {
    private static final Due DUE = new Due();

    public static void main(String[] args) {
        sidesAreKeptWithinOneAndFour();
        aNewObjectIsFresh();
        initMakesAUsedObjectFresh();
        DUE.end();
    }

    private static void sidesAreKeptWithinOneAndFour() {
        int[] sides = {Integer.MIN_VALUE, -1, 0, 1, 2, 3, 4, 5, Integer.MAX_VALUE};
        int[] nodes = {1, 1, 1, 1, 4, 9, 16, 16, 16};
        for (int i = 0; i < sides.length; i++) {
            QuorumLock lock = new QuorumLock(sides[i]);
            DUE.is("k = " + sides[i] + ": its last node", lock.votesOf(nodes[i] - 1), 0);
            DUE.is("k = " + sides[i] + ": one behind it", lock.votesOf(nodes[i]), QuorumLock.NONE);
        }
    }

    private static void aNewObjectIsFresh() {
        for (int k = 1; k <= 4; k++) {
            isFresh("new with k = " + k, new QuorumLock(k), k * k);
        }
    }

    private static void initMakesAUsedObjectFresh() {
        for (int k = 1; k <= 4; k++) {
            QuorumLock lock = new QuorumLock(k);
            int nodes = k * k;
            useIt(lock, nodes);
            lock.init();
            isFresh("init with k = " + k, lock, nodes);
            QuorumLock another = new QuorumLock(k);
            useIt(lock, nodes);
            useIt(another, nodes);
            sameAll("used again with k = " + k, lock, another, nodes);
        }
    }

    private static void useIt(QuorumLock lock, int nodes) {
        lock.request(nodes - 1);
        lock.settle(500);
        lock.enter(nodes - 1);
        for (int node = 0; node < nodes - 1; node++) {
            lock.request(node);
        }
        lock.settle(17);
    }

    private static void isFresh(String when, QuorumLock lock, int nodes) {
        DUE.is(when + ": holder()", lock.holder(), QuorumLock.NONE);
        DUE.is(when + ": entered()", lock.entered(), 0);
        for (int node = 0; node < nodes; node++) {
            DUE.told(lock, when, node, 0, 0, 0, 0, 0, 0, 0, 0);
            DUE.is(when + ": lockedFor(" + node + ")", lock.lockedFor(node), QuorumLock.NONE);
            DUE.is(when + ": waits(" + node + ", 0)", lock.waits(node, 0), QuorumLock.NONE);
            for (int to = 0; to < nodes; to++) {
                DUE.empty(lock, when, node, to);
            }
        }
        DUE.is(when + ": settle(500)", lock.settle(500), 0);
    }

    private static void sameAll(String when, QuorumLock lock, QuorumLock another, int nodes) {
        for (int node = 0; node < nodes; node++) {
            for (int what = 0; what < 8; what++) {
                DUE.is(when + ": told(" + node + ", " + what + ")",
                        lock.told(node, what), another.told(node, what));
            }
            for (int to = 0; to < nodes; to++) {
                DUE.is(when + ": waiting(" + node + ", " + to + ")",
                        lock.waiting(node, to), another.waiting(node, to));
            }
        }
    }
}
