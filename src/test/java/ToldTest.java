/** Promises 13 and 14: what is told of a node, and who waits in its row. */
public final class ToldTest {
    private static final int NONE = QuorumLock.NONE;
    private static final Due DUE = new Due();

    public static void main(String[] args) {
        DUE.run(
                ToldTest::stateIsTold,
                ToldTest::clockIsTold,
                ToldTest::timeIsTold,
                ToldTest::failuresAreTold,
                ToldTest::inquiriesAreTold,
                ToldTest::votesAreTold,
                ToldTest::whetherItHasInquiredIsTold,
                ToldTest::rowsLengthIsTold,
                ToldTest::nothingIsToldOfNoneSuch,
                ToldTest::nothingElseIsTold,
                ToldTest::rowsAreInOrder,
                ToldTest::aFullRowIsInOrder,
                ToldTest::noSuchRequestWaits,
                ToldTest::noSuchNodesRow);
    }

    private static void stateIsTold() {
        DUE.promise(13, "what = 0 IDLE 0, ASKING 1, INSIDE 2");
        QuorumLock lock = new QuorumLock(2);
        DUE.is("IDLE", lock.told(0, 0), 0);
        lock.request(0);
        DUE.is("ASKING", lock.told(0, 0), 1);
        lock.settle(500);
        DUE.is("ASKING with all votes", lock.told(0, 0), 1);
        lock.enter(0);
        DUE.is("INSIDE", lock.told(0, 0), 2);
        lock.release(0);
        DUE.is("IDLE again", lock.told(0, 0), 0);
    }

    private static void clockIsTold() {
        DUE.promise(13, "1 its clock");
        QuorumLock lock = new QuorumLock(1);
        DUE.is("at first", lock.told(0, 1), 0);
        lock.request(0);
        DUE.is("it asks", lock.told(0, 1), 1);
        lock.settle(1);
        DUE.is("it gets a message", lock.told(0, 1), 2);
        lock.settle(1);
        lock.enter(0);
        lock.release(0);
        DUE.is("it comes and leaves", lock.told(0, 1), 3);
    }

    private static void timeIsTold() {
        DUE.promise(13, "2 the TIME of its request (0 when IDLE)");
        QuorumLock lock = new QuorumLock(2);
        DUE.is("IDLE", lock.told(0, 2), 0);
        lock.request(0);
        DUE.is("ASKING", lock.told(0, 2), 1);
        lock.settle(500);
        DUE.is("its clock went on", lock.told(0, 1) > 1, true);
        DUE.is("ASKING yet", lock.told(0, 2), 1);
        lock.enter(0);
        DUE.is("INSIDE", lock.told(0, 2), 1);
        lock.release(0);
        DUE.is("IDLE again", lock.told(0, 2), 0);
    }

    private static void failuresAreTold() {
        DUE.promise(13, "3 failures (as bits): the first and the last node");
        QuorumLock lock = Runs.inside(4, 3);
        lock.request(12);
        lock.settle(500);
        DUE.is("0 and 15 have lent theirs", lock.told(12, 3), 1 | 1 << 15);
        DUE.is("told(3, 3)", lock.told(3, 3), 0);
    }

    private static void inquiriesAreTold() {
        DUE.promise(13, "4 inquiries (as bits): the first and the last node");
        QuorumLock lock = Runs.hasAllVotes(4, 12);
        lock.request(3);
        DUE.deliveries(lock, new int[][] {{3, 0}, {3, 15}, {0, 12}, {15, 12}}, 1, 1, 4, 4);
        DUE.is("0 and 15 ask theirs back", lock.told(12, 4), 1 | 1 << 15);
        DUE.is("told(3, 4)", lock.told(3, 4), 0);
    }

    private static void votesAreTold() {
        DUE.promise(13, "5 votes (as bits): the first and the last node");
        for (int k = 1; k <= 4; k++) {
            for (int node = 0; node < k * k; node++) {
                int votes = 0;
                for (int voter = 0; voter < k * k; voter++) {
                    if (voter / k == node / k || voter % k == node % k) {
                        votes |= 1 << voter;
                    }
                }
                DUE.is("k = " + k + ": told(" + node + ", 5)",
                        Runs.hasAllVotes(k, node).told(node, 5), votes);
            }
        }
    }

    private static void whetherItHasInquiredIsTold() {
        DUE.promise(13, "6 whether it has inquired (1, 0)");
        QuorumLock lock = new QuorumLock(2);
        DUE.is("at first", lock.told(1, 6), 0);
        lock = Runs.threeIsAskedBack();
        DUE.is("has inquired", lock.told(1, 6), 1);
        DUE.is("has lent, not inquired", lock.told(2, 6), 0);
        DUE.deliveries(lock, new int[][] {{2, 3}, {1, 3}}, 6, 4);
        DUE.is("INQUIRE delivered", lock.told(1, 6), 1);
        DUE.is("RELINQUISH", lock.deliver(3, 1), 5);
        DUE.is("lent anew", lock.told(1, 6), 0);
    }

    private static void rowsLengthIsTold() {
        DUE.promise(13, "7 how many requests wait in its row: none to all but one of a quorum");
        QuorumLock lock = new QuorumLock(4);
        int[] quorum = {13, 9, 7, 6, 5, 4, 1};
        DUE.is("none asks", lock.told(5, 7), 0);
        for (int node : quorum) {
            lock.request(node);
        }
        for (int came = 0; came < quorum.length; came++) {
            lock.deliver(quorum[came], 5);
            DUE.is("one has the vote, " + came + " wait", lock.told(5, 7), came);
        }
        DUE.is("another node's row", lock.told(6, 7), 0);
    }

    private static void nothingIsToldOfNoneSuch() {
        DUE.promise(13, "NONE when there is none such");
        for (int k = 1; k <= 4; k++) {
            QuorumLock lock = Runs.inside(k, 0);
            for (int node : Due.noNodes(k)) {
                for (int what = 0; what < 8; what++) {
                    DUE.is("k = " + k + ": told(" + node + ", " + what + ")",
                            lock.told(node, what), NONE);
                }
            }
        }
    }

    private static void nothingElseIsTold() {
        DUE.promise(13, "NONE for others: what is not 0 .. 7");
        QuorumLock lock = Runs.used();
        for (int what : new int[] {-1, 8, 9, Integer.MIN_VALUE, Integer.MAX_VALUE}) {
            for (int node = 0; node < 4; node++) {
                DUE.is("told(" + node + ", " + what + ")", lock.told(node, what), NONE);
            }
        }
    }

    private static void rowsAreInOrder() {
        DUE.promise(14, "Terms: the lesser time first, of the same time those of the lesser node");
        QuorumLock lock = new QuorumLock(4);
        // Node 7 hears of another request first, so its own is of a later TIME than theirs.
        lock.request(3);
        lock.deliver(3, 7);
        for (int node : new int[] {7, 6, 1, 13, 9, 4}) {
            lock.request(node);
        }
        for (int node : new int[] {13, 7, 6, 1, 9, 4}) {
            lock.deliver(node, 5);
        }
        DUE.is("lockedFor(5)", lock.lockedFor(5), 13);
        isRow(lock, 5, 1, 4, 6, 9, 7);
        isRow(lock, 6);
    }

    private static void aFullRowIsInOrder() {
        DUE.promise(14, "the node of request m of a node's row: all but one of a quorum");
        int[][] orders = {{13, 9, 7, 6, 5, 4, 1}, {13, 1, 4, 5, 6, 7, 9}, {13, 6, 1, 9, 4, 7, 5}};
        for (int[] order : orders) {
            QuorumLock lock = new QuorumLock(4);
            for (int node : order) {
                lock.request(node);
            }
            for (int node : order) {
                lock.deliver(node, 5);
            }
            isRow(lock, 5, 1, 4, 5, 6, 7, 9);
        }
    }

    private static void isRow(QuorumLock lock, int node, int... row) {
        for (int m = 0; m < row.length; m++) {
            DUE.is("waits(" + node + ", " + m + ")", lock.waits(node, m), row[m]);
        }
        DUE.is("behind the last one", lock.waits(node, row.length), NONE);
        DUE.is("before the first one", lock.waits(node, -1), NONE);
    }

    private static void noSuchRequestWaits() {
        DUE.promise(14, "NONE when there is none such: no such request");
        QuorumLock lock = new QuorumLock(2);
        DUE.is("an empty row", lock.waits(0, 0), NONE);
        lock = Runs.used();
        DUE.is("the one", lock.waits(0, 0), 1);
        for (int m : new int[] {-1, 1, 2, 3, Integer.MIN_VALUE, Integer.MAX_VALUE}) {
            DUE.is("waits(0, " + m + ")", lock.waits(0, m), NONE);
        }
        lock.release(2);
        DUE.is("RELEASE", lock.deliver(2, 0), 3);
        DUE.is("it waits no more", lock.waits(0, 0), NONE);
    }

    private static void noSuchNodesRow() {
        DUE.promise(14, "NONE when there is none such: no such node");
        for (int k = 1; k <= 4; k++) {
            QuorumLock lock = new QuorumLock(k);
            for (int node = 0; node < k * k; node++) {
                lock.request(node);
            }
            lock.settle(500);
            for (int node : Due.noNodes(k)) {
                DUE.is("k = " + k + ": waits(" + node + ", 0)", lock.waits(node, 0), NONE);
            }
        }
    }
}
