/** Promises 5, 6, 7 and 15: coming inside, leaving, who is there, and how often one came. */
public final class EnterReleaseTest {
    private static final int NONE = QuorumLock.NONE;
    private static final Due DUE = new Due();

    public static void main(String[] args) {
        allVotesOfTheQuorumAreNeeded();
        onlyOneThatAsksComesInside();
        setsStayInside();
        aReleaseTellsTheQuorum();
        onlyOneInsideLeaves();
        thereAreNoSuchNodes();
        allComeInsideOneAtATime();
        DUE.end();
    }

    private static void allVotesOfTheQuorumAreNeeded() {
        QuorumLock lock = new QuorumLock(3);
        lock.request(4);
        int[] quorum = {1, 3, 4, 5, 7};
        for (int i = 0; i < quorum.length; i++) {
            DUE.is("enter with " + i + " votes", lock.enter(4), false);
            DUE.is("holder with " + i + " votes", lock.holder(), NONE);
            DUE.is("votesOf with " + i + " votes", lock.votesOf(4), i);
            lock.deliver(4, quorum[i]);
            lock.deliver(quorum[i], 4);
            DUE.is("a vote of " + quorum[i], lock.told(4, 5) >> quorum[i] & 1, 1);
        }
        DUE.is("enter with all", lock.enter(4), true);
        DUE.is("holder", lock.holder(), 4);
        DUE.is("votesOf", lock.votesOf(4), 5);
        DUE.is("entered", lock.entered(), 1);
        DUE.told(lock, "inside", 4, 2, lock.told(4, 1), 1, 0, 0, 186);
    }

    private static void onlyOneThatAsksComesInside() {
        QuorumLock lock = new QuorumLock(1);
        DUE.is("enter when idle", lock.enter(0), false);
        lock.request(0);
        lock.settle(2);
        DUE.is("enter", lock.enter(0), true);
        DUE.is("enter when inside", lock.enter(0), false);
        DUE.is("entered once", lock.entered(), 1);
        lock.release(0);
        DUE.is("enter when idle again", lock.enter(0), false);
        DUE.is("holder", lock.holder(), NONE);
    }

    private static void setsStayInside() {
        QuorumLock lock = new QuorumLock(2);
        lock.request(2);
        lock.settle(500);
        lock.request(1);
        lock.deliver(1, 0);
        lock.deliver(0, 2);
        DUE.is("an inquiry", lock.told(2, 4), 1);
        DUE.is("enter", lock.enter(2), true);
        DUE.told(lock, "inside", 2, 2, lock.told(2, 1), 1, 0, 1, 13);
        lock.release(2);
        DUE.told(lock, "left", 2, 0, lock.told(2, 1), 0, 0, 0, 0);
    }

    private static void aReleaseTellsTheQuorum() {
        QuorumLock lock = new QuorumLock(3);
        lock.request(5);
        lock.settle(500);
        lock.enter(5);
        int clock = lock.told(5, 1);
        DUE.is("release", lock.release(5), 0);
        DUE.told(lock, "left", 5, 0, clock, 0, 0, 0, 0, 0, 0);
        for (int to = 0; to < 9; to++) {
            if (to / 3 == 1 || to % 3 == 2) {
                DUE.lies(lock, "release", 5, to, 3, 1, clock);
            } else {
                DUE.empty(lock, "release", 5, to);
            }
        }
        DUE.is("holder", lock.holder(), NONE);
        DUE.is("the vote is lent as yet", lock.lockedFor(5), 5);
        DUE.is("entered stays", lock.entered(), 1);
    }

    private static void onlyOneInsideLeaves() {
        QuorumLock lock = new QuorumLock(2);
        DUE.is("release when idle", lock.release(0), 1);
        lock.request(0);
        lock.settle(500);
        DUE.is("release when asking", lock.release(0), 1);
        DUE.is("it asks as before", lock.told(0, 0), 1);
        DUE.empty(lock, "a refused one sends nothing", 0, 1);
        lock.enter(0);
        DUE.is("release of another", lock.release(1), 1);
        DUE.is("release when inside", lock.release(0), 0);
        DUE.is("release when idle again", lock.release(0), 1);
        DUE.is("it was told once", lock.waiting(0, 1), 1);
    }

    private static void thereAreNoSuchNodes() {
        for (int k = 1; k <= 4; k++) {
            QuorumLock lock = new QuorumLock(k);
            for (int node : new int[] {-1, k * k, Integer.MIN_VALUE, Integer.MAX_VALUE}) {
                DUE.is("enter(" + node + ")", lock.enter(node), false);
                DUE.is("release(" + node + ")", lock.release(node), NONE);
            }
            DUE.is("entered", lock.entered(), 0);
        }
    }

    private static void allComeInsideOneAtATime() {
        for (int k = 1; k <= 4; k++) {
            QuorumLock lock = new QuorumLock(k);
            int nodes = k * k;
            for (int node = nodes - 1; node >= 0; node--) {
                lock.request(node);
            }
            for (int turn = 0; turn < nodes; turn++) {
                lock.settle(500);
                int inside = 0;
                for (int node = 0; node < nodes; node++) {
                    if (lock.enter(node)) {
                        inside++;
                        DUE.is("holder", lock.holder(), node);
                    }
                }
                DUE.is("k = " + k + ", turn " + turn + ": came inside", inside, 1);
                DUE.is("k = " + k + ": entered", lock.entered(), turn + 1);
                lock.release(lock.holder());
            }
        }
    }
}
