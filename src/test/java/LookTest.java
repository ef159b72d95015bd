/** Promises 8, 9, 11, 12, 13 and 14: what is told of votes, wires, nodes and rows. */
public final class LookTest {
    private static final int NONE = QuorumLock.NONE;
    private static final Due DUE = new Due();

    public static void main(String[] args) {
        votesAreCounted();
        theVoteIsLentTo();
        messagesLieInTheirOrder();
        aWireHoldsSix();
        nodesTellOfBothSides();
        rowsAreInOrder();
        wrongNumbersAnswerNone();
        lookingChangesNothing();
        DUE.end();
    }

    private static void votesAreCounted() {
        QuorumLock lock = new QuorumLock(2);
        DUE.is("votesOf, idle", lock.votesOf(3), 0);
        lock.request(3);
        DUE.is("votesOf, none yet", lock.votesOf(3), 0);
        lock.settle(2);
        DUE.is("votesOf, one", lock.votesOf(3), 1);
        lock.settle(500);
        DUE.is("votesOf, all", lock.votesOf(3), 3);
        lock.enter(3);
        DUE.is("votesOf, inside", lock.votesOf(3), 3);
        lock.release(3);
        DUE.is("votesOf, left", lock.votesOf(3), 0);
    }

    private static void theVoteIsLentTo() {
        QuorumLock lock = new QuorumLock(2);
        DUE.is("lockedFor, at home", lock.lockedFor(1), NONE);
        lock.request(3);
        DUE.is("lockedFor, not delivered", lock.lockedFor(1), NONE);
        lock.deliver(3, 1);
        DUE.is("lockedFor, lent", lock.lockedFor(1), 3);
        lock.settle(500);
        lock.enter(3);
        lock.release(3);
        DUE.is("lockedFor, release not delivered", lock.lockedFor(1), 3);
        lock.settle(500);
        DUE.is("lockedFor, at home again", lock.lockedFor(1), NONE);
    }

    private static void messagesLieInTheirOrder() {
        QuorumLock lock = new QuorumLock(2);
        lock.request(0);
        lock.settle(500);
        lock.enter(0);
        int clock = lock.told(0, 1);
        lock.release(0);
        lock.request(0);
        DUE.is("waiting", lock.waiting(0, 2), 2);
        int[][] want = {{3, 1, clock}, {1, clock + 1, clock + 1}};
        for (int m = 0; m < 2; m++) {
            for (int what = 0; what < 3; what++) {
                DUE.is("look(0, 2, " + m + ", " + what + ")", lock.look(0, 2, m, what), want[m][what]);
            }
        }
        lock.deliver(0, 2);
        DUE.is("waiting, one delivered", lock.waiting(0, 2), 1);
        DUE.is("the second is the first now", lock.look(0, 2, 0, 0), 1);
        DUE.is("waiting the other way", lock.waiting(2, 0), 0);
        DUE.is("waiting elsewhere", lock.waiting(0, 1), 2);
    }

    /** The most that can lie on a wire: nothing of what 0 sends to 1 is delivered from a point on. */
    private static void aWireHoldsSix() {
        QuorumLock lock = new QuorumLock(2);
        lock.request(0);
        lock.request(1);
        int[][] oneGetsAllVotes = {{1, 0}, {1, 1}, {1, 3}, {3, 1}, {1, 1}, {0, 1}, {0, 1}};
        deliverAll(lock, oneGetsAllVotes);
        DUE.is("enter(1)", lock.enter(1), true);
        lock.deliver(0, 0);
        lock.release(1);
        int[][] zeroGetsTwoVotes = {{1, 0}, {1, 1}, {1, 1}, {0, 0}, {1, 0}};
        deliverAll(lock, zeroGetsTwoVotes);
        lock.request(1);
        int[][] zeroGetsTheThird = {{1, 0}, {0, 2}, {2, 0}};
        deliverAll(lock, zeroGetsTheThird);
        DUE.is("enter(0)", lock.enter(0), true);
        lock.release(0);
        lock.deliver(0, 0);
        lock.request(2);
        lock.deliver(2, 0);
        lock.request(0);

        int clock = lock.told(0, 1);
        int[] kinds = {4, 6, 3, 2, 4, 1};
        int[] times = {1, 9, 1, 9, 9, clock};
        DUE.is("six lie there", lock.waiting(0, 1), 6);
        for (int m = 0; m < 6; m++) {
            DUE.is("kind of " + m + " of six", lock.look(0, 1, m, 0), kinds[m]);
            DUE.is("TIME of " + m + " of six", lock.look(0, 1, m, 1), times[m]);
        }
        DUE.is("clock of the last", lock.look(0, 1, 5, 2), clock);
        for (int m = 0; m < 6; m++) {
            DUE.is("delivery " + m + " of six", lock.deliver(0, 1), kinds[m]);
        }
        DUE.empty(lock, "all six delivered", 0, 1);
    }

    private static void deliverAll(QuorumLock lock, int[][] wires) {
        for (int[] wire : wires) {
            DUE.is("one lies from " + wire[0] + " to " + wire[1],
                    lock.deliver(wire[0], wire[1]) > 0, true);
        }
    }

    private static void nodesTellOfBothSides() {
        QuorumLock lock = new QuorumLock(1);
        DUE.told(lock, "idle", 0, 0, 0, 0, 0, 0, 0, 0, 0, NONE);
        lock.request(0);
        DUE.told(lock, "asking", 0, 1, 1, 1, 0, 0, 0, 0, 0, NONE);
        lock.settle(2);
        lock.enter(0);
        DUE.told(lock, "inside", 0, 2, 3, 1, 0, 0, 1, 0, 0, NONE);
    }

    private static void rowsAreInOrder() {
        QuorumLock lock = new QuorumLock(4);
        // Node 7 hears of another request first, so its own is of a later TIME than theirs.
        lock.request(3);
        lock.deliver(3, 7);
        int[] asking = {7, 6, 1, 13, 9, 4};
        for (int node : asking) {
            lock.request(node);
        }
        lock.deliver(13, 5);
        lock.deliver(7, 5);
        lock.deliver(6, 5);
        lock.deliver(1, 5);
        lock.deliver(9, 5);
        lock.deliver(4, 5);
        DUE.is("lockedFor(5)", lock.lockedFor(5), 13);
        DUE.is("how many wait", lock.told(5, 7), 5);
        int[] row = {1, 4, 6, 9, 7};
        for (int m = 0; m < row.length; m++) {
            DUE.is("waits(5, " + m + ")", lock.waits(5, m), row[m]);
        }
        DUE.is("waits(5, 5)", lock.waits(5, 5), NONE);
        DUE.is("waits of another row", lock.waits(6, 0), NONE);
    }

    private static void wrongNumbersAnswerNone() {
        for (int k = 1; k <= 4; k++) {
            QuorumLock lock = new QuorumLock(k);
            lock.request(0);
            for (int node : new int[] {-1, k * k, Integer.MIN_VALUE, Integer.MAX_VALUE}) {
                DUE.is("votesOf(" + node + ")", lock.votesOf(node), NONE);
                DUE.is("lockedFor(" + node + ")", lock.lockedFor(node), NONE);
                DUE.is("waiting(" + node + ", 0)", lock.waiting(node, 0), NONE);
                DUE.is("waiting(0, " + node + ")", lock.waiting(0, node), NONE);
                DUE.is("look(" + node + ", 0, 0, 0)", lock.look(node, 0, 0, 0), NONE);
                DUE.is("look(0, " + node + ", 0, 0)", lock.look(0, node, 0, 0), NONE);
                DUE.is("told(" + node + ", 0)", lock.told(node, 0), NONE);
                DUE.is("waits(" + node + ", 0)", lock.waits(node, 0), NONE);
            }
            for (int number : new int[] {-1, 1, 8, Integer.MIN_VALUE, Integer.MAX_VALUE}) {
                DUE.is("look(0, 0, " + number + ", 0)", lock.look(0, 0, number, 0), NONE);
                DUE.is("waits(0, " + number + ")", lock.waits(0, number), NONE);
            }
            for (int what : new int[] {-1, 3, Integer.MIN_VALUE, Integer.MAX_VALUE}) {
                DUE.is("look(0, 0, 0, " + what + ")", lock.look(0, 0, 0, what), NONE);
            }
            for (int what : new int[] {-1, 8, Integer.MIN_VALUE, Integer.MAX_VALUE}) {
                DUE.is("told(0, " + what + ")", lock.told(0, what), NONE);
            }
        }
    }

    private static void lookingChangesNothing() {
        QuorumLock lock = new QuorumLock(2);
        lock.request(0);
        for (int again = 0; again < 2; again++) {
            DUE.lies(lock, "looked at", 0, 1, 1, 1, 1);
            DUE.told(lock, "looked at", 0, 1, 1, 1, 0, 0, 0, 0, 0);
            DUE.told(lock, "looked at", 1, 0, 0, 0, 0, 0, 0, 0, 0);
        }
    }
}
