/**
 * Promise 4: what each kind of message does to the one that gets it. In the square of two the
 * quorums are 0: 0 1 2, 1: 0 1 3, 2: 0 2 3, 3: 1 2 3.
 */
public final class DeliverTest {
    private static final int NONE = QuorumLock.NONE;
    private static final Due DUE = new Due();

    public static void main(String[] args) {
        thereAreNoSuchNodes();
        theOldestComesFirst();
        clocksGoOnBeyondTheGreaterOne();
        aVoteAtHomeIsLent();
        aLaterRequestFails();
        anEarlierRequestInquires();
        anEarlierOneYetFailsTheOneBeforeIt();
        aFailureBearsTheTimeOfTheOneThatFails();
        anEarlierOneBehindTheFirstFails();
        anInquiryIsKeptUntilAFailure();
        anInquiryAfterAFailureIsGivenUpAtOnce();
        aVoteGivenUpGoesToTheFirstOfTheRow();
        aVoteIsGivenUpWhenAllOthersWait();
        inquiriesAreLeftOutInsideAndIdle();
        aReleaseLendsAnew();
        DUE.end();
    }

    private static void thereAreNoSuchNodes() {
        for (int k = 1; k <= 4; k++) {
            QuorumLock lock = new QuorumLock(k);
            lock.request(0);
            for (int node : new int[] {-1, k * k, Integer.MIN_VALUE, Integer.MAX_VALUE}) {
                DUE.is("deliver(" + node + ", 0)", lock.deliver(node, 0), NONE);
                DUE.is("deliver(0, " + node + ")", lock.deliver(0, node), NONE);
            }
        }
        QuorumLock lock = new QuorumLock(2);
        DUE.is("deliver on an empty wire", lock.deliver(0, 1), 0);
        DUE.is("deliver on a wire out of the quorum", lock.deliver(0, 3), 0);
        DUE.told(lock, "nothing delivered", 1, 0, 0);
    }

    private static void theOldestComesFirst() {
        QuorumLock lock = new QuorumLock(1);
        lock.request(0);
        DUE.is("the request", lock.deliver(0, 0), 1);
        DUE.is("the vote", lock.deliver(0, 0), 2);
        lock.enter(0);
        lock.release(0);
        lock.request(0);
        DUE.is("two lie there", lock.waiting(0, 0), 2);
        DUE.is("the release", lock.deliver(0, 0), 3);
        DUE.is("the next request", lock.deliver(0, 0), 1);
        DUE.is("the next vote", lock.deliver(0, 0), 2);
        DUE.is("no more", lock.deliver(0, 0), 0);
        DUE.told(lock, "the second time", 0, 1, 7, 4, 0, 0, 1, 0, 0);
    }

    private static void clocksGoOnBeyondTheGreaterOne() {
        QuorumLock lock = new QuorumLock(2);
        lock.request(0);
        lock.deliver(0, 0);
        lock.deliver(0, 0);
        DUE.told(lock, "its own is as great", 0, 1, 3);
        lock.deliver(0, 1);
        DUE.told(lock, "the message's is greater", 1, 0, 2);
        lock.request(3);
        lock.deliver(3, 1);
        DUE.told(lock, "its own is greater", 1, 0, 3);
        DUE.lies(lock, "the clock goes with it", 1, 3, 6, 1, 3);
    }

    private static void aVoteAtHomeIsLent() {
        QuorumLock lock = new QuorumLock(2);
        lock.request(0);
        DUE.is("REQUEST", lock.deliver(0, 2), 1);
        DUE.is("lockedFor(2)", lock.lockedFor(2), 0);
        DUE.told(lock, "lent", 2, 0, 2, 0, 0, 0, 0, 0, 0);
        DUE.lies(lock, "lent", 2, 0, 2, 1, 2);
        DUE.is("LOCKED", lock.deliver(2, 0), 2);
        DUE.told(lock, "a vote", 0, 1, 3, 1, 0, 0, 4, 0, 0);
    }

    private static void aLaterRequestFails() {
        QuorumLock lock = new QuorumLock(2);
        lock.request(0);
        lock.deliver(0, 1);
        lock.request(3);
        lock.deliver(3, 1);
        DUE.is("the vote stays", lock.lockedFor(1), 0);
        DUE.told(lock, "later", 1, 0, 3, 0, 0, 0, 0, 0, 1);
        DUE.is("it waits", lock.waits(1, 0), 3);
        DUE.lies(lock, "it fails", 1, 3, 6, 1, 3);
        DUE.is("the vote alone", lock.waiting(1, 0), 1);
        DUE.is("FAILED", lock.deliver(1, 3), 6);
        DUE.told(lock, "a failure", 3, 1, 4, 1, 2, 0, 0, 0, 0);
    }

    private static void anEarlierRequestInquires() {
        QuorumLock lock = new QuorumLock(2);
        lock.request(3);
        lock.deliver(3, 1);
        lock.request(0);
        lock.deliver(0, 1);
        DUE.is("the vote stays", lock.lockedFor(1), 3);
        DUE.told(lock, "earlier", 1, 0, 3, 0, 0, 0, 0, 1, 1);
        DUE.empty(lock, "it does not fail", 1, 0);
        DUE.is("LOCKED and INQUIRE", lock.waiting(1, 3), 2);
        DUE.is("INQUIRE", lock.look(1, 3, 1, 0), 4);
        DUE.is("of the TIME of the one that has the vote", lock.look(1, 3, 1, 1), 1);
    }

    /** Three ask node 1 of the square of four in the order told; 1 is in all their quorums. */
    private static QuorumLock threeAskOne(int first, int second, int third) {
        QuorumLock lock = new QuorumLock(4);
        lock.request(first);
        lock.request(second);
        lock.request(third);
        lock.deliver(first, 1);
        lock.deliver(second, 1);
        lock.deliver(third, 1);
        return lock;
    }

    private static void anEarlierOneYetFailsTheOneBeforeIt() {
        QuorumLock lock = threeAskOne(3, 2, 0);
        DUE.is("the vote stays", lock.lockedFor(1), 3);
        DUE.is("the earliest is the first", lock.waits(1, 0), 0);
        DUE.is("behind it the next", lock.waits(1, 1), 2);
        DUE.lies(lock, "it was the first and fails", 1, 2, 6, 1, 4);
        DUE.empty(lock, "the first does not", 1, 0);
        DUE.is("it inquires but once", lock.waiting(1, 3), 2);
        DUE.told(lock, "three", 1, 0, 4, 0, 0, 0, 0, 1, 2);

        lock = threeAskOne(2, 3, 0);
        DUE.lies(lock, "it failed when it came, not again", 1, 3, 6, 1, 3);
        DUE.is("and it inquires", lock.look(1, 2, 1, 0), 4);
    }

    private static void aFailureBearsTheTimeOfTheOneThatFails() {
        QuorumLock lock = new QuorumLock(4);
        lock.request(0);
        lock.deliver(0, 2);
        lock.deliver(0, 3);
        lock.request(2);
        lock.request(3);
        lock.deliver(3, 1);
        lock.deliver(2, 1);
        lock.deliver(0, 1);
        DUE.is("its TIME", lock.told(2, 2), 3);
        DUE.lies(lock, "the first fails", 1, 2, 6, 3, 6);
    }

    private static void anEarlierOneBehindTheFirstFails() {
        QuorumLock lock = threeAskOne(3, 0, 2);
        DUE.is("the first", lock.waits(1, 0), 0);
        DUE.is("the second", lock.waits(1, 1), 2);
        DUE.lies(lock, "before the vote, but not the first", 1, 2, 6, 1, 4);
        DUE.empty(lock, "the first does not fail", 1, 0);
        DUE.is("LOCKED and one INQUIRE", lock.waiting(1, 3), 2);

        lock = threeAskOne(5, 0, 2);
        lock.request(3);
        lock.deliver(3, 1);
        DUE.lies(lock, "a third one fails", 1, 3, 6, 1, 5);
        DUE.is("the second does not fail again", lock.waiting(1, 2), 1);
    }

    /** Node 3 has the votes of 1 and 3, and node 2's is lent to 0: so far it does not know. */
    private static QuorumLock threeIsAskedBack() {
        QuorumLock lock = new QuorumLock(2);
        lock.request(3);
        lock.deliver(3, 1);
        lock.deliver(3, 3);
        lock.deliver(1, 3);
        lock.deliver(3, 3);
        lock.request(0);
        lock.deliver(0, 2);
        lock.deliver(3, 2);
        lock.deliver(0, 1);
        return lock;
    }

    private static void anInquiryIsKeptUntilAFailure() {
        QuorumLock lock = threeIsAskedBack();
        DUE.told(lock, "two votes", 3, 1, 4, 1, 0, 0, 10, 0, 0);
        DUE.is("INQUIRE", lock.deliver(1, 3), 4);
        DUE.told(lock, "an inquiry", 3, 1, 5, 1, 0, 2, 10, 0, 0);
        DUE.empty(lock, "nothing given up", 3, 1);
        DUE.is("FAILED", lock.deliver(2, 3), 6);
        DUE.told(lock, "given up", 3, 1, 6, 1, 6, 0, 8, 0, 0);
        DUE.lies(lock, "given up", 3, 1, 5, 1, 6);
        DUE.empty(lock, "no inquiry, not given up", 3, 3);
    }

    private static void anInquiryAfterAFailureIsGivenUpAtOnce() {
        QuorumLock lock = threeIsAskedBack();
        DUE.is("FAILED", lock.deliver(2, 3), 6);
        DUE.told(lock, "a failure", 3, 1, 5, 1, 4, 0, 10, 0, 0);
        DUE.empty(lock, "no inquiry yet", 3, 1);
        DUE.is("INQUIRE", lock.deliver(1, 3), 4);
        DUE.told(lock, "given up", 3, 1, 6, 1, 6, 0, 8, 0, 0);
        DUE.lies(lock, "given up", 3, 1, 5, 1, 6);
    }

    private static void aVoteGivenUpGoesToTheFirstOfTheRow() {
        QuorumLock lock = threeIsAskedBack();
        lock.deliver(1, 3);
        lock.deliver(2, 3);
        DUE.told(lock, "before", 1, 0, 3, 0, 0, 0, 0, 1, 1);
        DUE.is("RELINQUISH", lock.deliver(3, 1), 5);
        DUE.is("lent to the first", lock.lockedFor(1), 0);
        DUE.told(lock, "not inquired", 1, 0, 7, 0, 0, 0, 0, 0, 1);
        DUE.is("the one that gave it up waits", lock.waits(1, 0), 3);
        DUE.lies(lock, "LOCKED", 1, 0, 2, 1, 7);
        DUE.empty(lock, "no word to the other", 1, 3);
        lock.settle(500);
        DUE.is("enter(0)", lock.enter(0), true);
        lock.release(0);
        lock.settle(500);
        DUE.told(lock, "failures are votes now", 3, 1, lock.told(3, 1), 1, 0, 0, 14);
        DUE.is("enter(3)", lock.enter(3), true);
    }

    private static void aVoteIsGivenUpWhenAllOthersWait() {
        QuorumLock lock = new QuorumLock(2);
        lock.request(2);
        lock.request(0);
        lock.request(1);
        int[][] wires = {{2, 0}, {0, 2}, {2, 2}, {2, 2}, {0, 0}, {1, 0}, {0, 2}, {0, 2}, {2, 0}};
        int[] kinds = {1, 1, 1, 6, 1, 1, 2, 4, 2};
        for (int i = 0; i < wires.length; i++) {
            DUE.is("kind " + i, lock.deliver(wires[i][0], wires[i][1]), kinds[i]);
        }
        DUE.is("lent to the last of them", lock.lockedFor(0), 2);
        DUE.is("RELINQUISH", lock.deliver(2, 0), 5);
        DUE.is("lent to the first of them", lock.lockedFor(0), 0);
        DUE.is("two wait", lock.told(0, 7), 2);
        DUE.is("the second of them", lock.waits(0, 0), 1);
        DUE.is("behind it the one that gave it up", lock.waits(0, 1), 2);
    }

    private static void inquiriesAreLeftOutInsideAndIdle() {
        QuorumLock lock = new QuorumLock(2);
        lock.request(2);
        lock.settle(500);
        DUE.is("enter(2)", lock.enter(2), true);
        int clock = lock.told(2, 1);
        lock.request(1);
        lock.deliver(1, 0);
        lock.deliver(1, 3);
        DUE.is("INQUIRE inside", lock.deliver(0, 2), 4);
        DUE.told(lock, "left out inside", 2, 2, clock + 1, 1, 0, 0, 13);
        DUE.empty(lock, "nothing given up", 2, 0);
        lock.release(2);
        DUE.is("INQUIRE when idle", lock.deliver(3, 2), 4);
        DUE.told(lock, "left out when idle", 2, 0, clock + 2, 0, 0, 0, 0);
        DUE.is("the release alone", lock.waiting(2, 3), 1);
    }

    private static void aReleaseLendsAnew() {
        QuorumLock lock = new QuorumLock(4);
        lock.request(0);
        lock.settle(500);
        lock.enter(0);
        lock.request(3);
        lock.request(2);
        lock.deliver(3, 1);
        lock.deliver(2, 1);
        lock.release(0);
        DUE.is("RELEASE", lock.deliver(0, 1), 3);
        DUE.is("lent to the first", lock.lockedFor(1), 2);
        DUE.is("the next waits", lock.waits(1, 0), 3);
        DUE.told(lock, "lent anew", 1, 0, lock.told(1, 1), 0, 0, 0, 0, 0, 1);
        DUE.is("FAILED and LOCKED", lock.waiting(1, 2), 2);
        DUE.is("LOCKED", lock.look(1, 2, 1, 0), 2);
        DUE.is("its TIME", lock.look(1, 2, 1, 1), lock.told(2, 2));
        DUE.is("RELEASE with an empty row", lock.deliver(0, 4), 3);
        DUE.is("at home", lock.lockedFor(4), NONE);
        DUE.empty(lock, "no word", 4, 0);
    }
}
