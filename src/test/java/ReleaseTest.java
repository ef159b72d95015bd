/** Promise 6: who leaves, whom it tells, and who may not. */
public final class ReleaseTest {
    private static final int NONE = QuorumLock.NONE;
    private static final Due DUE = new Due();

    public static void main(String[] args) {
        DUE.run(
                ReleaseTest::itTellsTheQuorum,
                ReleaseTest::itsSetsAreEmpty,
                ReleaseTest::itIsRefusedWhenIdle,
                ReleaseTest::itIsRefusedWhenAsking,
                ReleaseTest::itIsRefusedWhenAnotherIsInside,
                ReleaseTest::itIsRefusedTheSecondTime,
                ReleaseTest::thereIsNoneSuch,
                ReleaseTest::theFirstAndTheLastNodeLeave);
    }

    private static void itTellsTheQuorum() {
        DUE.promise(6, "Terms: RELEASE goes to its quorum (with the TIME it had)");
        QuorumLock lock = Runs.inside(3, 5);
        int clock = lock.told(5, 1);
        DUE.is("release(5)", lock.release(5), 0);
        DUE.told(lock, "left", 5, 0, clock, 0, 0, 0, 0, 0, 0);
        for (int to = 0; to < 9; to++) {
            if (to / 3 == 1 || to % 3 == 2) {
                DUE.lies(lock, "release", 5, to, 3, 1, clock);
            } else {
                DUE.empty(lock, "release", 5, to);
            }
        }
        DUE.is("the vote is lent as yet", lock.lockedFor(5), 5);
    }

    private static void itsSetsAreEmpty() {
        DUE.promise(6, "Terms: it is IDLE, with empty sets");
        QuorumLock lock = Runs.used();
        DUE.told(lock, "inside", 2, 2, lock.told(2, 1), 1, 0, 1, 13);
        lock.release(2);
        DUE.told(lock, "left", 2, 0, lock.told(2, 1), 0, 0, 0, 0);
        DUE.is("votesOf(2)", lock.votesOf(2), 0);
    }

    private static void itIsRefusedWhenIdle() {
        DUE.promise(6, "1 when it is not INSIDE: IDLE");
        QuorumLock lock = new QuorumLock(2);
        String before = Due.all(lock);
        DUE.is("release(0)", lock.release(0), 1);
        DUE.same("release(0)", Due.all(lock), before);
    }

    private static void itIsRefusedWhenAsking() {
        DUE.promise(6, "1 when it is not INSIDE: ASKING, with all votes, too");
        QuorumLock lock = new QuorumLock(2);
        lock.request(0);
        DUE.is("release(0) without votes", lock.release(0), 1);
        lock.settle(500);
        String before = Due.all(lock);
        DUE.is("release(0) with all votes", lock.release(0), 1);
        DUE.same("release(0)", Due.all(lock), before);
    }

    private static void itIsRefusedWhenAnotherIsInside() {
        DUE.promise(6, "1 when it is not INSIDE: another one is");
        QuorumLock lock = Runs.used();
        String before = Due.all(lock);
        DUE.is("release(0), IDLE", lock.release(0), 1);
        DUE.is("release(1), ASKING", lock.release(1), 1);
        DUE.same("release", Due.all(lock), before);
        DUE.is("release(2), INSIDE", lock.release(2), 0);
    }

    private static void itIsRefusedTheSecondTime() {
        DUE.promise(6, "1 when it is not INSIDE: it has left");
        QuorumLock lock = Runs.inside(2, 0);
        DUE.is("release(0)", lock.release(0), 0);
        String before = Due.all(lock);
        DUE.is("release(0) again", lock.release(0), 1);
        DUE.same("release(0) again", Due.all(lock), before);
    }

    private static void thereIsNoneSuch() {
        DUE.promise(6, "NONE when there is none such");
        for (int k = 1; k <= 4; k++) {
            QuorumLock lock = Runs.inside(k, 0);
            for (int node : Due.noNodes(k)) {
                DUE.is("k = " + k + ": release(" + node + ")", lock.release(node), NONE);
            }
            DUE.is("k = " + k + ": holder()", lock.holder(), 0);
            DUE.is("k = " + k + ": nothing was sent", lock.settle(500), 0);
        }
    }

    private static void theFirstAndTheLastNodeLeave() {
        DUE.promise(6, "a node that is INSIDE leaves: 0");
        for (int k = 1; k <= 4; k++) {
            DUE.is("k = " + k + ": the first", Runs.inside(k, 0).release(0), 0);
            DUE.is("k = " + k + ": the last", Runs.inside(k, k * k - 1).release(k * k - 1), 0);
        }
    }
}
