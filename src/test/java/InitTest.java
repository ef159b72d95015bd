/** Promise 2: what init() makes of a used object. */
public final class InitTest {
    private static final int NONE = QuorumLock.NONE;
    private static final Due DUE = new Due();

    public static void main(String[] args) {
        DUE.run(
                InitTest::theUsedObjectIsUsed,
                InitTest::allNodesAreIdle,
                InitTest::allSetsAreEmpty,
                InitTest::allVotesAreAtHome,
                InitTest::allClocksAreZero,
                InitTest::allWiresAreEmpty,
                InitTest::aFullWireIsEmptyToo,
                InitTest::aNewObjectStaysAsItIs,
                InitTest::aUsedObjectIsAsANewOne,
                InitTest::theSquareStays);
    }

    /** The tests below would say nothing if there were nothing for init() to clear. */
    private static void theUsedObjectIsUsed() {
        DUE.promise(2, "before init()");
        QuorumLock lock = Runs.used();
        DUE.is("holder()", lock.holder(), 2);
        DUE.is("entered()", lock.entered(), 1);
        DUE.told(lock, "has inquired", 0, 0, lock.told(0, 1), 0, 0, 0, 0, 1, 1);
        DUE.told(lock, "asks", 1, 1, 1, 1, 0, 0, 0, 0, 0);
        DUE.told(lock, "inside", 2, 2, lock.told(2, 1), 1, 0, 1, 13, 0, 1);
        DUE.told(lock, "has a failure", 3, 1, lock.told(3, 1), lock.told(3, 2), 4, 0, 0, 0, 0);
        DUE.is("lockedFor(0)", lock.lockedFor(0), 2);
        DUE.is("waiting(1, 3)", lock.waiting(1, 3), 1);
    }

    private static QuorumLock begunAnew() {
        QuorumLock lock = Runs.used();
        lock.init();
        return lock;
    }

    private static void allNodesAreIdle() {
        DUE.promise(2, "all nodes are IDLE");
        QuorumLock lock = begunAnew();
        DUE.is("holder()", lock.holder(), NONE);
        for (int node = 0; node < 4; node++) {
            DUE.is("told(" + node + ", 0)", lock.told(node, 0), 0);
            DUE.is("told(" + node + ", 2)", lock.told(node, 2), 0);
            DUE.is("enter(" + node + ")", lock.enter(node), false);
            DUE.is("release(" + node + ")", lock.release(node), 1);
        }
        for (int node = 0; node < 4; node++) {
            DUE.is("request(" + node + ")", lock.request(node), 0);
        }
    }

    private static void allSetsAreEmpty() {
        DUE.promise(2, "Terms: sets of nodes, empty at first");
        QuorumLock lock = begunAnew();
        for (int node = 0; node < 4; node++) {
            DUE.is("votesOf(" + node + ")", lock.votesOf(node), 0);
            for (int what = 3; what <= 5; what++) {
                DUE.is("told(" + node + ", " + what + ")", lock.told(node, what), 0);
            }
        }
    }

    private static void allVotesAreAtHome() {
        DUE.promise(2, "all votes at home");
        QuorumLock lock = begunAnew();
        for (int node = 0; node < 4; node++) {
            DUE.is("lockedFor(" + node + ")", lock.lockedFor(node), NONE);
            DUE.is("told(" + node + ", 6)", lock.told(node, 6), 0);
            DUE.is("told(" + node + ", 7)", lock.told(node, 7), 0);
            DUE.is("waits(" + node + ", 0)", lock.waits(node, 0), NONE);
        }
        lock.request(3);
        DUE.is("all votes for one that asks", lock.settle(500), 6);
        DUE.is("enter(3)", lock.enter(3), true);
    }

    private static void allClocksAreZero() {
        DUE.promise(2, "all clocks 0");
        QuorumLock lock = begunAnew();
        for (int node = 0; node < 4; node++) {
            DUE.is("told(" + node + ", 1)", lock.told(node, 1), 0);
        }
        lock.request(2);
        DUE.is("the first TIME", lock.told(2, 2), 1);
    }

    private static void allWiresAreEmpty() {
        DUE.promise(2, "all wires empty");
        QuorumLock lock = begunAnew();
        for (int from = 0; from < 4; from++) {
            for (int to = 0; to < 4; to++) {
                DUE.empty(lock, "init", from, to);
                DUE.is("look(" + from + ", " + to + ", 0, 0)", lock.look(from, to, 0, 0), NONE);
                DUE.is("deliver(" + from + ", " + to + ")", lock.deliver(from, to), 0);
            }
        }
        DUE.is("settle(500)", lock.settle(500), 0);
    }

    private static void aFullWireIsEmptyToo() {
        DUE.promise(2, "all wires empty");
        QuorumLock lock = Runs.sixOnAWire();
        DUE.is("waiting(0, 1) before", lock.waiting(0, 1), 6);
        lock.init();
        DUE.empty(lock, "a full one", 0, 1);
        DUE.is("settle(500)", lock.settle(500), 0);
        lock.request(0);
        DUE.lies(lock, "used again", 0, 1, 1, 1, 1);
    }

    private static void aNewObjectStaysAsItIs() {
        DUE.promise(2, "init() of a new object, and once more");
        QuorumLock lock = new QuorumLock(2);
        String before = Due.all(lock);
        lock.init();
        lock.init();
        DUE.same("init()", Due.all(lock), before);
    }

    private static void aUsedObjectIsAsANewOne() {
        DUE.promise(2, "nothing of before is left");
        QuorumLock lock = begunAnew();
        DUE.same("init()", Due.all(lock), Due.all(new QuorumLock(2)));
        Runs.useIt(lock);
        DUE.same("the same calls again", Due.all(lock), Due.all(Runs.used()));
    }

    private static void theSquareStays() {
        DUE.promise(2, "the square stays");
        for (int k = 1; k <= 4; k++) {
            QuorumLock lock = new QuorumLock(k);
            lock.init();
            DUE.is("k = " + k + ": the last node", lock.request(k * k - 1), 0);
            DUE.is("k = " + k + ": one behind it", lock.request(k * k), NONE);
            DUE.is("k = " + k + ": requests and votes", lock.settle(500), 2 * (2 * k - 1));
        }
    }
}
