/** Promise 10: which messages settle() delivers, how many, and what it refuses. */
public final class SettleTest {
    private static final int NONE = QuorumLock.NONE;
    private static final Due DUE = new Due();

    public static void main(String[] args) {
        DUE.run(
                SettleTest::mostIsTooSmall,
                SettleTest::mostIsTooLarge,
                SettleTest::mostIsOne,
                SettleTest::mostIsFiveHundred,
                SettleTest::thereAreNone,
                SettleTest::thereAreJustAsMany,
                SettleTest::itEndsAtMost,
                SettleTest::answersAreDeliveredToo,
                SettleTest::theLeastFromComesFirst,
                SettleTest::ofTheSameFromTheLeastToComesFirst,
                SettleTest::theLeastWireIsSoughtEachTime);
    }

    private static void mostIsTooSmall() {
        DUE.promise(10, "NONE when most is not 1 .. 500: below");
        isRefused(0, -1, -500, Integer.MIN_VALUE);
    }

    private static void mostIsTooLarge() {
        DUE.promise(10, "NONE when most is not 1 .. 500: above");
        isRefused(501, 502, 1000, Integer.MAX_VALUE);
    }

    private static void isRefused(int... mosts) {
        QuorumLock lock = Runs.used();
        String before = Due.all(lock);
        for (int most : mosts) {
            DUE.is("settle(" + most + ")", lock.settle(most), NONE);
        }
        DUE.same("refused", Due.all(lock), before);
        lock = new QuorumLock(2);
        for (int most : mosts) {
            DUE.is("settle(" + most + ") with none", lock.settle(most), NONE);
        }
    }

    private static void mostIsOne() {
        DUE.promise(10, "most is 1 .. 500: 1");
        QuorumLock lock = new QuorumLock(2);
        lock.request(0);
        for (int left = 6; left > 0; left--) {
            DUE.is("settle(1) of " + left, lock.settle(1), 1);
        }
        DUE.is("settle(1) with none", lock.settle(1), 0);
    }

    private static void mostIsFiveHundred() {
        DUE.promise(10, "most is 1 .. 500: 499 and 500");
        for (int most = 499; most <= 500; most++) {
            QuorumLock lock = new QuorumLock(2);
            lock.request(0);
            DUE.is("settle(" + most + ")", lock.settle(most), 6);
            DUE.is("settle(" + most + ") with none", lock.settle(most), 0);
        }
    }

    private static void thereAreNone() {
        DUE.promise(10, "as long as there are any: none");
        QuorumLock lock = Runs.inside(2, 0);
        String before = Due.all(lock);
        DUE.is("settle(1)", lock.settle(1), 0);
        DUE.is("settle(500)", lock.settle(500), 0);
        DUE.same("settle", Due.all(lock), before);
        DUE.is("a new one", new QuorumLock(1).settle(500), 0);
    }

    private static void thereAreJustAsMany() {
        DUE.promise(10, "most at most: how many, when there are as many, one less or one more");
        for (int most = 5; most <= 7; most++) {
            QuorumLock lock = new QuorumLock(2);
            lock.request(0);
            DUE.is("settle(" + most + ") of 6", lock.settle(most), Math.min(most, 6));
            DUE.is("the rest", lock.settle(500), 6 - Math.min(most, 6));
        }
    }

    private static void itEndsAtMost() {
        DUE.promise(10, "most at most: in parts as at once");
        QuorumLock whole = new QuorumLock(4);
        QuorumLock parts = new QuorumLock(4);
        for (int node = 15; node >= 0; node--) {
            whole.request(node);
            parts.request(node);
        }
        int all = whole.settle(500);
        DUE.is("more than a few", all > 100, true);
        DUE.is("fewer than 500", all < 500, true);
        DUE.is("settle(100)", parts.settle(100), 100);
        DUE.is("settle(" + (all - 101) + ")", parts.settle(all - 101), all - 101);
        DUE.is("the last one", parts.settle(2), 1);
        for (int node = 0; node < 16; node++) {
            for (int what = 0; what < 8; what++) {
                DUE.is("in parts: told(" + node + ", " + what + ")",
                        parts.told(node, what), whole.told(node, what));
            }
        }
    }

    private static void answersAreDeliveredToo() {
        DUE.promise(10, "as long as there are any: answers, too");
        QuorumLock lock = new QuorumLock(4);
        lock.request(9);
        DUE.is("seven requests and seven votes", lock.settle(500), 14);
        DUE.is("enter(9)", lock.enter(9), true);
        lock.release(9);
        DUE.is("seven releases", lock.settle(500), 7);
    }

    private static void theLeastFromComesFirst() {
        DUE.promise(10, "the wire with the least from");
        QuorumLock lock = new QuorumLock(2);
        lock.request(3);
        lock.request(2);
        lock.request(1);
        lock.settle(1);
        DUE.empty(lock, "from 1, though to 3 it is the greatest", 1, 0);
        int[][] others = {{1, 1}, {1, 3}, {2, 0}, {2, 2}, {2, 3}, {3, 1}, {3, 2}, {3, 3}};
        for (int[] wire : others) {
            DUE.is("waiting(" + wire[0] + ", " + wire[1] + ")", lock.waiting(wire[0], wire[1]), 1);
        }
        lock = new QuorumLock(2);
        lock.request(2);
        lock.deliver(2, 0);
        lock.deliver(2, 2);
        lock.request(1);
        lock.deliver(0, 2);
        lock.settle(1);
        DUE.empty(lock, "1 to 0 comes before 2 to 2", 1, 0);
        DUE.is("2 to 2 lies there yet", lock.waiting(2, 2), 1);
    }

    private static void ofTheSameFromTheLeastToComesFirst() {
        DUE.promise(10, "of the same the least to");
        QuorumLock lock = new QuorumLock(4);
        lock.request(0);
        // All answers come from greater nodes, but the one of 0 itself on its wire to itself.
        lock.settle(2);
        int[] quorum = {1, 2, 3, 4, 8, 12};
        for (int done = 0; done <= quorum.length; done++) {
            for (int i = 0; i < quorum.length; i++) {
                DUE.is("after " + done + ": waiting(0, " + quorum[i] + ")",
                        lock.waiting(0, quorum[i]), i < done ? 0 : 1);
            }
            DUE.is("settle(1)", lock.settle(1), 1);
        }
    }

    private static void theLeastWireIsSoughtEachTime() {
        DUE.promise(10, "the least wire that has one each time: an answer may come before the rest");
        QuorumLock lock = new QuorumLock(2);
        lock.request(3);
        lock.request(1);
        int[][] wires = {
            {1, 0}, {0, 1}, {1, 1}, {1, 1}, {1, 3}, {3, 1},
            {1, 3}, {3, 1}, {3, 2}, {2, 3}, {3, 3}, {3, 3}};
        for (int[] wire : wires) {
            int clock = lock.told(wire[1], 1);
            DUE.is("one lies from " + wire[0] + " to " + wire[1],
                    lock.waiting(wire[0], wire[1]) > 0, true);
            DUE.is("settle(1)", lock.settle(1), 1);
            DUE.is("from " + wire[0] + " to " + wire[1], lock.told(wire[1], 1) > clock, true);
        }
        DUE.is("settle(1) with none", lock.settle(1), 0);
        DUE.told(lock, "settled", 1, 1, lock.told(1, 1), 1, 0, 0, 11);
        DUE.is("enter(1)", lock.enter(1), true);
    }
}
