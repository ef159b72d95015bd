/** Promises 7 and 15: who is inside, and how often one came there. */
public final class InsideTest {
    private static final int NONE = QuorumLock.NONE;
    private static final Due DUE = new Due();

    public static void main(String[] args) {
        DUE.run(
                InsideTest::noneIsInside,
                InsideTest::theFirstAndTheLastNodeAreHolders,
                InsideTest::noneIsInsideAnyMore,
                InsideTest::noneHasEntered,
                InsideTest::eachEntranceCounts,
                InsideTest::aRefusedEntranceDoesNotCount,
                InsideTest::leavingDoesNotCount,
                InsideTest::initBeginsToCountAnew,
                InsideTest::allComeInsideOneAtATime);
    }

    private static void noneIsInside() {
        DUE.promise(7, "NONE when there is none");
        QuorumLock lock = new QuorumLock(2);
        DUE.is("all IDLE", lock.holder(), NONE);
        lock.request(0);
        DUE.is("one ASKING", lock.holder(), NONE);
        lock.settle(500);
        DUE.is("with all votes, not entered", lock.holder(), NONE);
    }

    private static void theFirstAndTheLastNodeAreHolders() {
        DUE.promise(7, "the node that is INSIDE");
        for (int k = 1; k <= 4; k++) {
            DUE.is("k = " + k + ": the first", Runs.inside(k, 0).holder(), 0);
            DUE.is("k = " + k + ": the last", Runs.inside(k, k * k - 1).holder(), k * k - 1);
        }
    }

    private static void noneIsInsideAnyMore() {
        DUE.promise(7, "NONE when there is none: it has left");
        QuorumLock lock = Runs.inside(2, 0);
        lock.release(0);
        DUE.is("RELEASE not delivered", lock.holder(), NONE);
        lock.settle(500);
        DUE.is("RELEASE delivered", lock.holder(), NONE);
    }

    private static void noneHasEntered() {
        DUE.promise(15, "how often nodes came INSIDE: never");
        QuorumLock lock = new QuorumLock(2);
        DUE.is("new", lock.entered(), 0);
        lock.request(0);
        lock.settle(500);
        DUE.is("with all votes, not entered", lock.entered(), 0);
    }

    private static void eachEntranceCounts() {
        DUE.promise(15, "how often nodes came INSIDE: the same one, too");
        QuorumLock lock = new QuorumLock(1);
        for (int times = 1; times <= 80; times++) {
            lock.request(0);
            lock.settle(500);
            lock.enter(0);
            DUE.is("entered()", lock.entered(), times);
            lock.release(0);
        }
    }

    private static void aRefusedEntranceDoesNotCount() {
        DUE.promise(15, "how often nodes came INSIDE: not how often they tried");
        QuorumLock lock = new QuorumLock(2);
        lock.enter(0);
        DUE.is("IDLE", lock.entered(), 0);
        lock.request(0);
        lock.enter(0);
        DUE.is("without votes", lock.entered(), 0);
        lock.enter(-1);
        lock.enter(4);
        DUE.is("no such nodes", lock.entered(), 0);
        lock.settle(500);
        lock.enter(0);
        lock.enter(0);
        DUE.is("INSIDE", lock.entered(), 1);
    }

    private static void leavingDoesNotCount() {
        DUE.promise(15, "how often nodes came INSIDE: they may have left");
        QuorumLock lock = Runs.inside(2, 0);
        lock.release(0);
        DUE.is("left", lock.entered(), 1);
        lock.settle(500);
        lock.request(3);
        lock.settle(500);
        lock.enter(3);
        DUE.is("another one", lock.entered(), 2);
    }

    private static void initBeginsToCountAnew() {
        DUE.promise(15, "since init()");
        QuorumLock lock = Runs.inside(2, 0);
        lock.init();
        DUE.is("init()", lock.entered(), 0);
        lock.request(1);
        lock.settle(500);
        lock.enter(1);
        DUE.is("one since", lock.entered(), 1);
    }

    private static void allComeInsideOneAtATime() {
        DUE.promise(7, "the node that is INSIDE: one at a time, and each of them at last");
        for (int k = 1; k <= 4; k++) {
            QuorumLock lock = new QuorumLock(k);
            int nodes = k * k;
            for (int node = nodes - 1; node >= 0; node--) {
                lock.request(node);
            }
            for (int turn = 0; turn < nodes; turn++) {
                lock.settle(500);
                int inside = 0;
                for (int node = 0; node < nodes; node++) {
                    if (lock.enter(node)) {
                        inside++;
                        DUE.is("holder", lock.holder(), node);
                    }
                }
                DUE.is("k = " + k + ", turn " + turn + ": came inside", inside, 1);
                DUE.is("k = " + k + ": entered", lock.entered(), turn + 1);
                lock.release(lock.holder());
            }
        }
    }
}
