/** Promise 4, and the Terms of one that votes: REQUEST, RELINQUISH and RELEASE. */
public final class VoterTest {
    private static final int NONE = QuorumLock.NONE;
    private static final Due DUE = new Due();

    public static void main(String[] args) {
        DUE.run(
                VoterTest::aVoteAtHomeIsLent,
                VoterTest::aLaterRequestFails,
                VoterTest::anEarlierRequestInquires,
                VoterTest::aLesserTimeIsBeforeALesserNode,
                VoterTest::aGreaterTimeIsNotBeforeAGreaterNode,
                VoterTest::theFirstOfTheRowFails,
                VoterTest::theFirstOfTheRowFailsNotAgain,
                VoterTest::itInquiresButOnce,
                VoterTest::anEarlierOneBehindTheFirstFails,
                VoterTest::aFailureBearsTheTimeOfTheOneThatFails,
                VoterTest::aVoteGivenUpGoesToTheFirstOfTheRow,
                VoterTest::aVoteIsGivenUpWhenAllOthersWait,
                VoterTest::aReleaseGoesToTheFirstOfTheRow,
                VoterTest::aReleaseWithAnEmptyRowBringsTheVoteHome,
                VoterTest::aReleaseForgetsThatItInquired);
    }

    private static void aVoteAtHomeIsLent() {
        DUE.promise(4, "Terms: REQUEST: if its vote is not lent, it is lent to it");
        QuorumLock lock = new QuorumLock(2);
        lock.request(0);
        DUE.is("REQUEST", lock.deliver(0, 2), 1);
        DUE.is("lockedFor(2)", lock.lockedFor(2), 0);
        DUE.told(lock, "lent", 2, 0, 2, 0, 0, 0, 0, 0, 0);
        DUE.lies(lock, "LOCKED", 2, 0, 2, 1, 2);
    }

    private static void aLaterRequestFails() {
        DUE.promise(4, "Terms: the first one of the row, but not before the vote's: FAILED goes to it");
        QuorumLock lock = new QuorumLock(2);
        lock.request(0);
        lock.deliver(0, 1);
        lock.request(3);
        lock.deliver(3, 1);
        DUE.is("the vote stays", lock.lockedFor(1), 0);
        DUE.told(lock, "later", 1, 0, 3, 0, 0, 0, 0, 0, 1);
        DUE.is("it waits", lock.waits(1, 0), 3);
        DUE.lies(lock, "it fails", 1, 3, 6, 1, 3);
        DUE.lies(lock, "LOCKED alone", 1, 0, 2, 1, 2);
    }

    private static void anEarlierRequestInquires() {
        DUE.promise(4, "Terms: the first one of the row, of the same time and a lesser node: INQUIRE");
        QuorumLock lock = new QuorumLock(2);
        lock.request(3);
        lock.deliver(3, 1);
        lock.request(0);
        lock.deliver(0, 1);
        DUE.is("the vote stays", lock.lockedFor(1), 3);
        DUE.told(lock, "earlier", 1, 0, 3, 0, 0, 0, 0, 1, 1);
        DUE.empty(lock, "there was no first one, none fails", 1, 0);
        DUE.is("LOCKED and INQUIRE", lock.waiting(1, 3), 2);
        DUE.is("INQUIRE", lock.look(1, 3, 1, 0), 4);
        DUE.is("of the TIME of the one that has the vote", lock.look(1, 3, 1, 1), 1);
    }

    private static void aLesserTimeIsBeforeALesserNode() {
        DUE.promise(4, "Terms: BEFORE: the lesser time first, of a greater node, too");
        QuorumLock lock = new QuorumLock(2);
        lock.request(3);
        lock.request(2);
        lock.deliver(2, 0);
        lock.request(0);
        DUE.is("TIME of 0", lock.told(0, 2), 3);
        lock.deliver(0, 1);
        lock.deliver(3, 1);
        DUE.empty(lock, "3 does not fail", 1, 3);
        DUE.is("LOCKED and INQUIRE", lock.waiting(1, 0), 2);
        DUE.is("INQUIRE", lock.look(1, 0, 1, 0), 4);
        DUE.is("its TIME", lock.look(1, 0, 1, 1), 3);
    }

    private static void aGreaterTimeIsNotBeforeAGreaterNode() {
        DUE.promise(4, "Terms: BEFORE: a greater time is not before, of a lesser node, too");
        QuorumLock lock = new QuorumLock(2);
        lock.request(3);
        lock.request(2);
        lock.deliver(2, 0);
        lock.request(0);
        lock.deliver(3, 1);
        lock.deliver(0, 1);
        DUE.lies(lock, "0 fails", 1, 0, 6, 3, lock.told(1, 1));
        DUE.lies(lock, "LOCKED alone", 1, 3, 2, 1, 2);
        DUE.is("told(1, 6)", lock.told(1, 6), 0);
    }

    /** Three ask node 1 of the square of four in the order told; 1 is in all their quorums. */
    private static QuorumLock threeAskOne(int first, int second, int third) {
        QuorumLock lock = new QuorumLock(4);
        lock.request(first);
        lock.request(second);
        lock.request(third);
        lock.deliver(first, 1);
        lock.deliver(second, 1);
        lock.deliver(third, 1);
        return lock;
    }

    private static void theFirstOfTheRowFails() {
        DUE.promise(4, "Terms: FAILED goes to the one that was the first one of the row");
        QuorumLock lock = threeAskOne(3, 2, 0);
        DUE.is("the vote stays", lock.lockedFor(1), 3);
        DUE.is("the earliest is the first", lock.waits(1, 0), 0);
        DUE.is("behind it the next", lock.waits(1, 1), 2);
        DUE.lies(lock, "it was the first and fails", 1, 2, 6, 1, 4);
        DUE.empty(lock, "the first does not", 1, 0);
    }

    private static void theFirstOfTheRowFailsNotAgain() {
        DUE.promise(4, "Terms: if there was one and it was before the one that has the vote, too");
        QuorumLock lock = threeAskOne(2, 3, 0);
        DUE.lies(lock, "it failed when it came, not again", 1, 3, 6, 1, 3);
        DUE.empty(lock, "the first does not", 1, 0);
        DUE.is("LOCKED and INQUIRE", lock.waiting(1, 2), 2);
        DUE.is("INQUIRE", lock.look(1, 2, 1, 0), 4);
    }

    private static void itInquiresButOnce() {
        DUE.promise(4, "Terms: if it has not inquired since, INQUIRE goes");
        QuorumLock lock = threeAskOne(3, 2, 0);
        DUE.is("LOCKED and one INQUIRE", lock.waiting(1, 3), 2);
        DUE.told(lock, "it has inquired", 1, 0, 4, 0, 0, 0, 0, 1, 2);
    }

    private static void anEarlierOneBehindTheFirstFails() {
        DUE.promise(4, "Terms: otherwise FAILED goes to it: before the vote's, but not the first");
        QuorumLock lock = threeAskOne(3, 0, 2);
        DUE.is("the first", lock.waits(1, 0), 0);
        DUE.is("the second", lock.waits(1, 1), 2);
        DUE.lies(lock, "it fails", 1, 2, 6, 1, 4);
        DUE.empty(lock, "the first does not fail", 1, 0);
        DUE.is("LOCKED and one INQUIRE", lock.waiting(1, 3), 2);

        lock = threeAskOne(5, 0, 2);
        lock.request(3);
        lock.deliver(3, 1);
        DUE.lies(lock, "a third one fails", 1, 3, 6, 1, 5);
        DUE.is("the second does not fail again", lock.waiting(1, 2), 1);
    }

    private static void aFailureBearsTheTimeOfTheOneThatFails() {
        DUE.promise(4, "Terms: what goes about a request bears its TIME");
        QuorumLock lock = new QuorumLock(4);
        lock.request(0);
        lock.deliver(0, 2);
        lock.deliver(0, 3);
        lock.request(2);
        lock.request(3);
        lock.deliver(3, 1);
        lock.deliver(2, 1);
        lock.deliver(0, 1);
        DUE.is("its TIME", lock.told(2, 2), 3);
        DUE.lies(lock, "the first fails", 1, 2, 6, 3, 6);
    }

    private static void aVoteGivenUpGoesToTheFirstOfTheRow() {
        DUE.promise(4, "Terms: RELINQUISH: that request comes into the row; it has not inquired");
        QuorumLock lock = Runs.threeIsAskedBack();
        lock.deliver(1, 3);
        lock.deliver(2, 3);
        DUE.told(lock, "before", 1, 0, 3, 0, 0, 0, 0, 1, 1);
        DUE.is("RELINQUISH", lock.deliver(3, 1), 5);
        DUE.is("lent to the first", lock.lockedFor(1), 0);
        DUE.told(lock, "not inquired", 1, 0, 7, 0, 0, 0, 0, 0, 1);
        DUE.is("the one that gave it up waits", lock.waits(1, 0), 3);
        DUE.lies(lock, "LOCKED", 1, 0, 2, 1, 7);
        DUE.empty(lock, "no word to the other", 1, 3);
    }

    /** For a moment all of a quorum are in the row: it is as full as it can be. */
    private static void aVoteIsGivenUpWhenAllOthersWait() {
        DUE.promise(4, "Terms: RELINQUISH: that request comes into the row, a full one, too");
        QuorumLock lock = new QuorumLock(2);
        lock.request(2);
        lock.request(0);
        lock.request(1);
        int[][] wires = {{2, 0}, {0, 2}, {2, 2}, {2, 2}, {0, 0}, {1, 0}, {0, 2}, {0, 2}, {2, 0}};
        DUE.deliveries(lock, wires, 1, 1, 1, 6, 1, 1, 2, 4, 2);
        DUE.is("lent to the last of them", lock.lockedFor(0), 2);
        DUE.is("RELINQUISH", lock.deliver(2, 0), 5);
        DUE.is("lent to the first of them", lock.lockedFor(0), 0);
        DUE.is("two wait", lock.told(0, 7), 2);
        DUE.is("the second of them", lock.waits(0, 0), 1);
        DUE.is("behind it the one that gave it up", lock.waits(0, 1), 2);
    }

    private static void aReleaseGoesToTheFirstOfTheRow() {
        DUE.promise(4, "Terms: RELEASE: it is gone; the first one of the row leaves it, LOCKED goes there");
        QuorumLock lock = Runs.inside(4, 0);
        lock.request(3);
        lock.request(2);
        lock.deliver(3, 1);
        lock.deliver(2, 1);
        lock.release(0);
        DUE.is("RELEASE", lock.deliver(0, 1), 3);
        DUE.is("lent to the first", lock.lockedFor(1), 2);
        DUE.is("the next waits", lock.waits(1, 0), 3);
        DUE.told(lock, "lent anew", 1, 0, lock.told(1, 1), 0, 0, 0, 0, 0, 1);
        DUE.is("FAILED and LOCKED", lock.waiting(1, 2), 2);
        DUE.is("LOCKED", lock.look(1, 2, 1, 0), 2);
        DUE.is("its TIME", lock.look(1, 2, 1, 1), lock.told(2, 2));
    }

    private static void aReleaseWithAnEmptyRowBringsTheVoteHome() {
        DUE.promise(4, "Terms: RELEASE: the first one of the row, if there is one: none");
        QuorumLock lock = Runs.inside(2, 0);
        lock.release(0);
        DUE.is("RELEASE", lock.deliver(0, 1), 3);
        DUE.is("at home", lock.lockedFor(1), NONE);
        DUE.told(lock, "at home", 1, 0, lock.told(1, 1), 0, 0, 0, 0, 0, 0);
        for (int to = 0; to < 4; to++) {
            DUE.empty(lock, "no word", 1, to);
        }
        lock.request(3);
        lock.deliver(3, 1);
        DUE.is("lent to the next that asks", lock.lockedFor(1), 3);
    }

    private static void aReleaseForgetsThatItInquired() {
        DUE.promise(4, "Terms: RELEASE: it has not inquired, and may inquire of the next one");
        QuorumLock lock = new QuorumLock(2);
        lock.request(0);
        lock.request(2);
        int[][] twoGetsAllVotes = {{2, 2}, {2, 2}, {0, 2}, {2, 0}, {0, 2}, {2, 3}, {3, 2}, {2, 2}};
        DUE.deliveries(lock, twoGetsAllVotes, 1, 2, 1, 1, 2, 1, 2, 4);
        DUE.is("enter(2)", lock.enter(2), true);
        lock.request(1);
        lock.deliver(1, 0);
        DUE.is("it has inquired", lock.told(0, 6), 1);
        lock.release(2);
        DUE.is("RELEASE", lock.deliver(2, 0), 3);
        DUE.is("lent to the first", lock.lockedFor(0), 1);
        DUE.is("it has not inquired", lock.told(0, 6), 0);
        DUE.is("an earlier one yet", lock.deliver(0, 0), 1);
        DUE.is("it has inquired again", lock.told(0, 6), 1);
        DUE.is("REQUEST, LOCKED and INQUIRE", lock.waiting(0, 1), 3);
        DUE.is("INQUIRE", lock.look(0, 1, 2, 0), 4);
        DUE.is("its TIME", lock.look(0, 1, 2, 1), 1);
    }
}
