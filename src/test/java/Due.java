/**
 * Counts the answers that are not the ones that are due, and ends the test with what it counted.
 * Each test method first says the promise and the sentence of the document that it is about.
 */
final class Due {
    /** Numbers that are no node in any square; the node behind the last one is due beside them. */
    private static final int[] NO_NODES = {-1, 16, Integer.MIN_VALUE, Integer.MAX_VALUE};

    private String about = "";
    private int wrong;

    /** Runs all tests of a class; none is kept from running by another one that throws. */
    void run(Runnable... tests) {
        for (Runnable test : tests) {
            try {
                test.run();
            } catch (RuntimeException thrown) {
                wrong++;
                System.out.println(about + "a call threw " + thrown);
            }
        }
        end();
    }

    /** It goes in front of each wrong answer from here on. */
    void promise(int number, String sentence) {
        about = "promise " + number + " (" + sentence + "): ";
    }

    void is(String call, long got, long want) {
        if (got != want) {
            wrong++;
            System.out.println(about + call + " answered " + got + ", due is " + want);
        }
    }

    void is(String call, boolean got, boolean want) {
        is(call, got ? 1L : 0L, want ? 1L : 0L);
    }

    void same(String when, String got, String want) {
        if (!got.equals(want)) {
            wrong++;
            System.out.println(about + when + " tells\n  " + got + ", due is\n  " + want);
        }
    }

    /** What told() answers of a node, in its order. */
    void told(QuorumLock lock, String when, int node, int... want) {
        for (int what = 0; what < want.length; what++) {
            is(when + ": told(" + node + ", " + what + ")", lock.told(node, what), want[what]);
        }
    }

    /** The one message on a wire: its kind, TIME and clock. */
    void lies(QuorumLock lock, String when, int from, int to, int kind, int time, int clock) {
        String wire = when + ": wire " + from + " to " + to + " ";
        is(wire + "count", lock.waiting(from, to), 1);
        is(wire + "kind", lock.look(from, to, 0, 0), kind);
        is(wire + "TIME", lock.look(from, to, 0, 1), time);
        is(wire + "clock", lock.look(from, to, 0, 2), clock);
    }

    void empty(QuorumLock lock, String when, int from, int to) {
        is(when + ": waiting(" + from + ", " + to + ")", lock.waiting(from, to), 0);
    }

    /** Delivers on each of the wires, and wants the kinds, so that a run can't go astray unseen. */
    void deliveries(QuorumLock lock, int[][] wires, int... kinds) {
        is("wires and kinds of a run", wires.length, kinds.length);
        for (int i = 0; i < wires.length; i++) {
            is("deliver(" + wires[i][0] + ", " + wires[i][1] + ")",
                    lock.deliver(wires[i][0], wires[i][1]), kinds[i]);
        }
    }

    /** Numbers that are no node in a square of k by k. */
    static int[] noNodes(int k) {
        int[] numbers = NO_NODES.clone();
        numbers[1] = k * k;
        return numbers;
    }

    /**
     * All that the face tells. In a square of two that takes some hundred calls, of the 512 that
     * an object has; a greater square has too many wires.
     */
    static String all(QuorumLock lock) {
        StringBuilder text = new StringBuilder();
        text.append("holder ").append(lock.holder()).append(", entered ").append(lock.entered());
        for (int node = 0; node < 4; node++) {
            text.append("; node ").append(node).append(" told");
            for (int what = 0; what < 8; what++) {
                text.append(' ').append(lock.told(node, what));
            }
            text.append(", votes ").append(lock.votesOf(node));
            text.append(", lent to ").append(lock.lockedFor(node)).append(", row");
            for (int m = 0; m < lock.told(node, 7); m++) {
                text.append(' ').append(lock.waits(node, m));
            }
            for (int to = 0; to < 4; to++) {
                wire(text, lock, node, to);
            }
        }
        return text.toString();
    }

    private static void wire(StringBuilder text, QuorumLock lock, int from, int to) {
        int count = lock.waiting(from, to);
        if (count != 0) {
            text.append(", to ").append(to);
        }
        for (int m = 0; m < count; m++) {
            text.append(' ').append(lock.look(from, to, m, 0));
            text.append('/').append(lock.look(from, to, m, 1));
            text.append('/').append(lock.look(from, to, m, 2));
        }
    }

    void end() {
        if (wrong > 0) {
            System.exit(1);
        }
    }
}
