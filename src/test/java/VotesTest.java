/** Promises 8 and 9: how many votes a node has, and to whom it has lent its own. */
public final class VotesTest {
    private static final int NONE = QuorumLock.NONE;
    private static final Due DUE = new Due();

    public static void main(String[] args) {
        DUE.run(
                VotesTest::votesAreCounted,
                VotesTest::allVotesAreCounted,
                VotesTest::aVoteGivenUpIsNotCounted,
                VotesTest::noneSuchHasVotes,
                VotesTest::theVoteIsLent,
                VotesTest::theVoteIsLentToTheFirstNodeAndTheLast,
                VotesTest::theVoteIsLentToNone,
                VotesTest::noneSuchLends);
    }

    private static void votesAreCounted() {
        DUE.promise(8, "how many votes a node has: none, some and all");
        QuorumLock lock = new QuorumLock(2);
        DUE.is("IDLE", lock.votesOf(3), 0);
        lock.request(3);
        DUE.is("none yet", lock.votesOf(3), 0);
        lock.settle(2);
        DUE.is("one", lock.votesOf(3), 1);
        lock.settle(500);
        DUE.is("all", lock.votesOf(3), 3);
        DUE.is("another has none", lock.votesOf(1), 0);
        lock.enter(3);
        DUE.is("INSIDE", lock.votesOf(3), 3);
        lock.release(3);
        DUE.is("left", lock.votesOf(3), 0);
    }

    private static void allVotesAreCounted() {
        DUE.promise(8, "how many votes a node has: 2 * k - 1 at most");
        for (int k = 1; k <= 4; k++) {
            for (int node = 0; node < k * k; node++) {
                DUE.is("k = " + k + ": votesOf(" + node + ")",
                        Runs.hasAllVotes(k, node).votesOf(node), 2 * k - 1);
            }
        }
    }

    private static void aVoteGivenUpIsNotCounted() {
        DUE.promise(8, "how many votes a node has: less one that it gives up");
        QuorumLock lock = Runs.threeIsAskedBack();
        DUE.is("two", lock.votesOf(3), 2);
        DUE.is("INQUIRE", lock.deliver(1, 3), 4);
        DUE.is("an inquiry is a vote yet", lock.votesOf(3), 2);
        DUE.is("FAILED", lock.deliver(2, 3), 6);
        DUE.is("given up", lock.votesOf(3), 1);
    }

    private static void noneSuchHasVotes() {
        DUE.promise(8, "NONE when there is none such");
        for (int k = 1; k <= 4; k++) {
            QuorumLock lock = Runs.hasAllVotes(k, 0);
            for (int node : Due.noNodes(k)) {
                DUE.is("k = " + k + ": votesOf(" + node + ")", lock.votesOf(node), NONE);
            }
        }
    }

    private static void theVoteIsLent() {
        DUE.promise(9, "to whom a node has lent its vote");
        QuorumLock lock = new QuorumLock(2);
        lock.request(3);
        DUE.is("not delivered", lock.lockedFor(1), NONE);
        lock.deliver(3, 1);
        DUE.is("lent", lock.lockedFor(1), 3);
        DUE.is("to itself, not yet", lock.lockedFor(3), NONE);
        lock.settle(500);
        DUE.is("to itself", lock.lockedFor(3), 3);
        lock.enter(3);
        lock.release(3);
        DUE.is("RELEASE not delivered", lock.lockedFor(1), 3);
    }

    private static void theVoteIsLentToTheFirstNodeAndTheLast() {
        DUE.promise(9, "to whom a node has lent its vote: 0 and n - 1");
        for (int k = 1; k <= 4; k++) {
            int last = k * k - 1;
            DUE.is("k = " + k + ": 0 to 0", Runs.hasAllVotes(k, 0).lockedFor(0), 0);
            DUE.is("k = " + k + ": the last to itself", Runs.hasAllVotes(k, last).lockedFor(last), last);
        }
    }

    private static void theVoteIsLentToNone() {
        DUE.promise(9, "NONE when to none");
        QuorumLock lock = new QuorumLock(2);
        DUE.is("new", lock.lockedFor(1), NONE);
        lock = Runs.inside(2, 3);
        DUE.is("not of its quorum", lock.lockedFor(0), NONE);
        lock.release(3);
        lock.settle(500);
        for (int node = 0; node < 4; node++) {
            DUE.is("at home again: lockedFor(" + node + ")", lock.lockedFor(node), NONE);
        }
    }

    private static void noneSuchLends() {
        DUE.promise(9, "NONE when there is none such");
        for (int k = 1; k <= 4; k++) {
            QuorumLock lock = Runs.hasAllVotes(k, 0);
            for (int node : Due.noNodes(k)) {
                DUE.is("k = " + k + ": lockedFor(" + node + ")", lock.lockedFor(node), NONE);
            }
        }
    }
}
