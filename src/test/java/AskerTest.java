/** Promise 4, and the Terms of one that asks: what LOCKED, FAILED and INQUIRE do to it. */
public final class AskerTest {
    private static final Due DUE = new Due();

    public static void main(String[] args) {
        DUE.run(
                AskerTest::lockedIsAVote,
                AskerTest::lockedIsNoFailureAnyMore,
                AskerTest::failedIsAFailure,
                AskerTest::failedGivesUpTheInquiries,
                AskerTest::failedGivesUpAllInquiries,
                AskerTest::failedKeepsWhatIsNoInquiry,
                AskerTest::anInquiryIsKeptWithoutAFailure,
                AskerTest::anInquiryIsGivenUpWithAFailure,
                AskerTest::aVoteGivenUpIsAFailure,
                AskerTest::inquireIsLeftOutWhenInside,
                AskerTest::inquireIsLeftOutWhenIdle,
                AskerTest::inquireOfAnotherTimeIsLeftOut,
                AskerTest::inquireOfAnotherTimeIsLeftOutWithAFailure);
    }

    private static void lockedIsAVote() {
        DUE.promise(4, "Terms: LOCKED of j: j is one of its votes");
        QuorumLock lock = new QuorumLock(2);
        lock.request(0);
        lock.deliver(0, 2);
        DUE.is("not before it is delivered", lock.told(0, 5), 0);
        DUE.is("LOCKED", lock.deliver(2, 0), 2);
        DUE.told(lock, "a vote", 0, 1, 3, 1, 0, 0, 4, 0, 0);
    }

    private static void lockedIsNoFailureAnyMore() {
        DUE.promise(4, "Terms: LOCKED of j: no failure any more");
        QuorumLock lock = Runs.inside(2, 0);
        lock.request(3);
        lock.deliver(3, 1);
        lock.deliver(1, 3);
        DUE.is("a failure", lock.told(3, 3), 2);
        lock.release(0);
        DUE.deliveries(lock, new int[][] {{0, 1}, {1, 3}}, 3, 2);
        DUE.told(lock, "a vote", 3, 1, lock.told(3, 1), lock.told(3, 2), 0, 0, 2);
    }

    private static void failedIsAFailure() {
        DUE.promise(4, "Terms: FAILED of j, when it is ASKING: j is a failure");
        QuorumLock lock = new QuorumLock(2);
        lock.request(0);
        lock.deliver(0, 1);
        lock.request(3);
        lock.deliver(3, 1);
        DUE.is("not before it is delivered", lock.told(3, 3), 0);
        DUE.is("FAILED", lock.deliver(1, 3), 6);
        DUE.told(lock, "a failure", 3, 1, 4, 1, 2, 0, 0, 0, 0);
    }

    private static void failedGivesUpTheInquiries() {
        DUE.promise(4, "Terms: then it GIVES UP each vote that is an inquiry: one");
        QuorumLock lock = Runs.threeIsAskedBack();
        DUE.deliveries(lock, new int[][] {{1, 3}, {2, 3}}, 4, 6);
        DUE.told(lock, "given up", 3, 1, 6, 1, 6, 0, 8, 0, 0);
        DUE.lies(lock, "RELINQUISH", 3, 1, 5, 1, 6);
    }

    private static void failedGivesUpAllInquiries() {
        DUE.promise(4, "Terms: then it GIVES UP each vote that is an inquiry: two");
        QuorumLock lock = new QuorumLock(2);
        lock.request(0);
        lock.request(2);
        lock.request(3);
        int[][] twoAskBack = {
            {3, 1}, {1, 3}, {3, 3}, {3, 3}, {2, 3}, {0, 2}, {3, 2}, {0, 1}, {3, 3}, {1, 3}};
        DUE.deliveries(lock, twoAskBack, 1, 2, 1, 2, 1, 1, 1, 1, 4, 4);
        DUE.told(lock, "two inquiries", 3, 1, lock.told(3, 1), 1, 0, 10, 10);
        DUE.is("FAILED", lock.deliver(2, 3), 6);
        int clock = lock.told(3, 1);
        DUE.told(lock, "both given up", 3, 1, clock, 1, 14, 0, 0);
        DUE.lies(lock, "the lesser", 3, 1, 5, 1, clock);
        DUE.lies(lock, "the greater", 3, 3, 5, 1, clock);
        DUE.empty(lock, "not to who failed it", 3, 2);
    }

    private static void failedKeepsWhatIsNoInquiry() {
        DUE.promise(4, "Terms: then it GIVES UP each vote that is an inquiry: none");
        QuorumLock lock = Runs.threeIsAskedBack();
        DUE.is("FAILED", lock.deliver(2, 3), 6);
        DUE.told(lock, "both votes kept", 3, 1, 5, 1, 4, 0, 10, 0, 0);
        DUE.empty(lock, "nothing given up", 3, 1);
        DUE.empty(lock, "nothing given up", 3, 3);
    }

    private static void anInquiryIsKeptWithoutAFailure() {
        DUE.promise(4, "Terms: INQUIRE of j: if it has no failure, j is an inquiry");
        QuorumLock lock = Runs.threeIsAskedBack();
        DUE.told(lock, "two votes", 3, 1, 4, 1, 0, 0, 10, 0, 0);
        DUE.is("INQUIRE", lock.deliver(1, 3), 4);
        DUE.told(lock, "an inquiry", 3, 1, 5, 1, 0, 2, 10, 0, 0);
        DUE.empty(lock, "nothing given up", 3, 1);
    }

    private static void anInquiryIsGivenUpWithAFailure() {
        DUE.promise(4, "Terms: INQUIRE of j: if it has a failure, it gives that vote up");
        QuorumLock lock = Runs.threeIsAskedBack();
        DUE.deliveries(lock, new int[][] {{2, 3}, {1, 3}}, 6, 4);
        DUE.told(lock, "that vote alone", 3, 1, 6, 1, 6, 0, 8, 0, 0);
        DUE.lies(lock, "RELINQUISH", 3, 1, 5, 1, 6);
        DUE.empty(lock, "no other", 3, 3);
    }

    private static void aVoteGivenUpIsAFailure() {
        DUE.promise(4, "Terms: TO GIVE UP j: j is no vote and no inquiry any more, but a failure");
        QuorumLock lock = Runs.threeIsAskedBack();
        lock.deliver(1, 3);
        lock.deliver(2, 3);
        DUE.is("a failure", lock.told(3, 3) >> 1 & 1, 1);
        DUE.is("no inquiry", lock.told(3, 4) >> 1 & 1, 0);
        DUE.is("no vote", lock.told(3, 5) >> 1 & 1, 0);
        lock.settle(500);
        DUE.is("enter(0)", lock.enter(0), true);
        lock.release(0);
        lock.settle(500);
        DUE.told(lock, "lent to it again", 3, 1, lock.told(3, 1), 1, 0, 0, 14);
        DUE.is("enter(3)", lock.enter(3), true);
    }

    /** 2 is INSIDE; 0 and 3 ask their votes back of it, because 1 asked before it. */
    private static QuorumLock insideAndAskedBack() {
        QuorumLock lock = Runs.inside(2, 2);
        lock.request(1);
        lock.deliver(1, 0);
        lock.deliver(1, 3);
        return lock;
    }

    private static void inquireIsLeftOutWhenInside() {
        DUE.promise(4, "Terms: INQUIRE of j, when it is ASKING: INSIDE it is left out");
        QuorumLock lock = insideAndAskedBack();
        int clock = lock.told(2, 1);
        DUE.is("INQUIRE", lock.deliver(0, 2), 4);
        DUE.told(lock, "left out", 2, 2, clock + 1, 1, 0, 0, 13);
        DUE.empty(lock, "nothing given up", 2, 0);
    }

    private static void inquireIsLeftOutWhenIdle() {
        DUE.promise(4, "Terms: messages to it that come when it is IDLE are left out");
        QuorumLock lock = insideAndAskedBack();
        lock.release(2);
        int clock = lock.told(2, 1);
        DUE.is("INQUIRE", lock.deliver(3, 2), 4);
        DUE.told(lock, "left out", 2, 0, clock + 1, 0, 0, 0, 0);
        DUE.lies(lock, "the release alone", 2, 3, 3, 1, clock);
    }

    private static void inquireOfAnotherTimeIsLeftOut() {
        DUE.promise(4, "Terms: messages to it that are of another TIME than its own are left out");
        QuorumLock lock = insideAndAskedBack();
        lock.release(2);
        lock.request(2);
        int clock = lock.told(2, 1);
        DUE.is("the TIME of before", lock.look(0, 2, 0, 1), 1);
        DUE.is("INQUIRE", lock.deliver(0, 2), 4);
        DUE.told(lock, "left out", 2, 1, clock + 1, clock, 0, 0, 0);
        DUE.is("RELEASE and REQUEST alone", lock.waiting(2, 0), 2);
    }

    private static void inquireOfAnotherTimeIsLeftOutWithAFailure() {
        DUE.promise(4, "Terms: of another TIME than its own are left out, with a failure, too");
        QuorumLock lock = insideAndAskedBack();
        lock.release(2);
        lock.request(2);
        int time = lock.told(2, 2);
        DUE.deliveries(lock, new int[][] {{2, 3}, {2, 3}, {3, 2}, {3, 2}}, 3, 1, 4, 6);
        DUE.told(lock, "a failure", 2, 1, lock.told(2, 1), time, 8, 0, 0);
        DUE.is("INQUIRE", lock.deliver(0, 2), 4);
        DUE.told(lock, "left out", 2, 1, lock.told(2, 1), time, 8, 0, 0);
        DUE.is("RELEASE and REQUEST alone", lock.waiting(2, 0), 2);
    }
}
