/** Counts the answers that are not the ones that are due, and ends the test with what it counted. */
final class Due {
    private int wrong;

    void is(String call, long got, long want) {
        if (got != want) {
            wrong++;
            System.out.println(call + " answered " + got + ", due is " + want);
        }
    }

    void is(String call, boolean got, boolean want) {
        is(call, got ? 1L : 0L, want ? 1L : 0L);
    }

    /** All that told() answers of a node, in its order. */
    void told(QuorumLock lock, String when, int node, int... want) {
        for (int what = 0; what < want.length; what++) {
            is(when + ": told(" + node + ", " + what + ")", lock.told(node, what), want[what]);
        }
    }

    /** The one message on a wire: its kind, TIME and clock. */
    void lies(QuorumLock lock, String when, int from, int to, int kind, int time, int clock) {
        String wire = when + ": wire " + from + " to " + to + " ";
        is(wire + "count", lock.waiting(from, to), 1);
        is(wire + "kind", lock.look(from, to, 0, 0), kind);
        is(wire + "TIME", lock.look(from, to, 0, 1), time);
        is(wire + "clock", lock.look(from, to, 0, 2), clock);
    }

    void empty(QuorumLock lock, String when, int from, int to) {
        is(when + ": waiting(" + from + ", " + to + ")", lock.waiting(from, to), 0);
    }

    void end() {
        if (wrong > 0) {
            System.exit(1);
        }
    }
}
