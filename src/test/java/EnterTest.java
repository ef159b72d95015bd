/** Promise 5: who comes inside, and who may not. */
public final class EnterTest {
    private static final int NONE = QuorumLock.NONE;
    private static final Due DUE = new Due();

    public static void main(String[] args) {
        DUE.run(
                EnterTest::allVotesOfTheQuorumAreNeeded,
                EnterTest::noVoteMayBeWanting,
                EnterTest::oneVoteIsAllOfAQuorumOfOne,
                EnterTest::aVoteThatWasGivenUpIsWanting,
                EnterTest::itIsRefusedWhenIdle,
                EnterTest::itIsRefusedWhenInside,
                EnterTest::thereIsNoneSuch,
                EnterTest::setsStayInside);
    }

    private static void allVotesOfTheQuorumAreNeeded() {
        DUE.promise(5, "true, and it is INSIDE, when it has the votes of all of its quorum");
        QuorumLock lock = new QuorumLock(3);
        lock.request(4);
        int[] quorum = {1, 3, 4, 5, 7};
        for (int i = 0; i < quorum.length; i++) {
            DUE.is("enter with " + i + " votes", lock.enter(4), false);
            DUE.is("state with " + i + " votes", lock.told(4, 0), 1);
            lock.deliver(4, quorum[i]);
            lock.deliver(quorum[i], 4);
        }
        int clock = lock.told(4, 1);
        DUE.is("enter with all", lock.enter(4), true);
        DUE.told(lock, "inside", 4, 2, clock, 1, 0, 0, 186, 0, 0);
        DUE.is("it sends nothing", lock.settle(500), 0);
    }

    private static void noVoteMayBeWanting() {
        DUE.promise(5, "the votes of all of its quorum: each one but one");
        for (int k = 1; k <= 4; k++) {
            int node = k * k - 1;
            for (int wanting = 0; wanting <= node; wanting++) {
                if (wanting / k == node / k || wanting % k == node % k) {
                    QuorumLock lock = new QuorumLock(k);
                    lock.request(node);
                    getVotes(lock, node, wanting);
                    DUE.is("k = " + k + ": without " + wanting, lock.enter(node), false);
                    DUE.is("k = " + k + ": it asks yet", lock.told(node, 0), 1);
                    lock.settle(500);
                    DUE.is("k = " + k + ": with " + wanting, lock.enter(node), true);
                }
            }
        }
    }

    private static void getVotes(QuorumLock lock, int node, int wanting) {
        for (int voter = 0; voter <= node; voter++) {
            lock.deliver(node, voter);
            if (voter != wanting) {
                lock.deliver(voter, node);
            }
        }
    }

    private static void oneVoteIsAllOfAQuorumOfOne() {
        DUE.promise(5, "the votes of all of its quorum: of one node");
        QuorumLock lock = new QuorumLock(1);
        lock.request(0);
        DUE.is("enter(0) without", lock.enter(0), false);
        lock.deliver(0, 0);
        DUE.is("enter(0), LOCKED not delivered", lock.enter(0), false);
        lock.deliver(0, 0);
        DUE.is("enter(0)", lock.enter(0), true);
    }

    /** 3 had one vote after the other, but not both at once. */
    private static void aVoteThatWasGivenUpIsWanting() {
        DUE.promise(5, "has the votes of all of its quorum: a vote given up is none");
        QuorumLock lock = Runs.threeIsAskedBack();
        DUE.deliveries(lock, new int[][] {{2, 3}, {1, 3}, {3, 1}}, 6, 4, 5);
        lock.settle(500);
        DUE.is("votesOf(3)", lock.votesOf(3), 1);
        DUE.is("enter(3)", lock.enter(3), false);
        DUE.is("enter(0)", lock.enter(0), true);
        DUE.is("enter(3) with 0 inside", lock.enter(3), false);
    }

    private static void itIsRefusedWhenIdle() {
        DUE.promise(5, "true when a node is ASKING: not when it is IDLE");
        QuorumLock lock = new QuorumLock(2);
        String before = Due.all(lock);
        DUE.is("enter(0)", lock.enter(0), false);
        DUE.same("enter(0)", Due.all(lock), before);
        lock = Runs.inside(2, 0);
        lock.release(0);
        DUE.is("enter(0), IDLE again", lock.enter(0), false);
        DUE.is("told(0, 0)", lock.told(0, 0), 0);
    }

    private static void itIsRefusedWhenInside() {
        DUE.promise(5, "true when a node is ASKING: not when it is INSIDE");
        QuorumLock lock = Runs.inside(2, 0);
        String before = Due.all(lock);
        DUE.is("enter(0)", lock.enter(0), false);
        DUE.same("enter(0)", Due.all(lock), before);
    }

    private static void thereIsNoneSuch() {
        DUE.promise(5, "true when a node is ASKING: not when there is none such");
        for (int k = 1; k <= 4; k++) {
            QuorumLock lock = Runs.hasAllVotes(k, 0);
            for (int node : Due.noNodes(k)) {
                DUE.is("k = " + k + ": enter(" + node + ")", lock.enter(node), false);
            }
            DUE.is("k = " + k + ": holder()", lock.holder(), NONE);
            DUE.is("k = " + k + ": the last node", Runs.hasAllVotes(k, k * k - 1).enter(k * k - 1), true);
        }
    }

    private static void setsStayInside() {
        DUE.promise(5, "it is INSIDE, and its sets are as they were");
        QuorumLock lock = Runs.hasAllVotes(2, 2);
        lock.request(1);
        lock.deliver(1, 0);
        lock.deliver(0, 2);
        DUE.is("an inquiry", lock.told(2, 4), 1);
        DUE.is("enter(2)", lock.enter(2), true);
        DUE.told(lock, "inside", 2, 2, lock.told(2, 1), 1, 0, 1, 13);
    }
}
