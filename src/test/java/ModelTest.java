import java.util.Random;

/**
 * All promises at once: runs of 512 calls by chance, with right and wrong numbers, on the program
 * and on the model. The seeds are written down, so that each run is the same every time.
 */
public final class ModelTest {
    private static final int RUNS = 2000;
    private static final int CALLS = 512;
    private static final Due DUE = new Due();

    private final Random random;
    private final QuorumLock lock;
    private final Model model;
    private final int size;
    private final int keenness;
    private final String run;

    private ModelTest(int seed) {
        random = new Random(seed);
        int k = seed % 7 == 0 ? random.nextInt(9) - 2 : 1 + seed % 4;
        lock = new QuorumLock(k);
        model = new Model(k);
        size = model.size();
        // Some runs hardly ever settle, so that wires and rows fill up.
        keenness = random.nextInt(4);
        run = "run " + seed + " with k = " + k + ", call ";
    }

    public static void main(String[] args) {
        int came = 0;
        for (int seed = 0; seed < RUNS; seed++) {
            ModelTest test = new ModelTest(seed);
            for (int call = 1; call <= CALLS; call++) {
                test.call(call);
            }
            came += test.model.entered();
        }
        DUE.is("runs in which nodes come inside", came > RUNS, true);
        DUE.end();
    }

    private void call(int number) {
        int chance = random.nextInt(100);
        if (chance < 50) {
            change(run + number + ": ", chance);
        } else {
            look(run + number + ": ", chance);
        }
    }

    private void change(String when, int chance) {
        int node = someNode();
        if (chance < 9) {
            DUE.is(when + "request(" + node + ")", lock.request(node), model.request(node));
        } else if (chance < 34) {
            int[] wire = someWire();
            DUE.is(when + "deliver(" + wire[0] + ", " + wire[1] + ")",
                    lock.deliver(wire[0], wire[1]), model.deliver(wire[0], wire[1]));
        } else if (chance < 40) {
            DUE.is(when + "enter(" + node + ")", lock.enter(node), model.enter(node));
        } else if (chance < 44) {
            int inside = random.nextInt(3) == 0 ? node : model.holder();
            DUE.is(when + "release(" + inside + ")", lock.release(inside), model.release(inside));
        } else if (chance < 49) {
            settle(when);
        } else if (random.nextInt(100) == 0) {
            lock.init();
            model.init();
        }
    }

    private void settle(String when) {
        int most = random.nextInt(6);
        if (random.nextInt(4) < keenness) {
            most = random.nextInt(510) - 4;
        }
        DUE.is(when + "settle(" + most + ")", lock.settle(most), model.settle(most));
    }

    private void look(String when, int chance) {
        int node = someNode();
        int number = random.nextInt(9) - 1;
        if (chance < 65) {
            DUE.is(when + "told(" + node + ", " + number + ")",
                    lock.told(node, number), model.told(node, number));
        } else if (chance < 80) {
            int[] wire = someWire();
            int m = random.nextInt(6) - 1;
            int what = random.nextInt(5) - 1;
            DUE.is(when + "look(" + wire[0] + ", " + wire[1] + ", " + m + ", " + what + ")",
                    lock.look(wire[0], wire[1], m, what), model.look(wire[0], wire[1], m, what));
        } else if (chance < 85) {
            int[] wire = someWire();
            DUE.is(when + "waiting(" + wire[0] + ", " + wire[1] + ")",
                    lock.waiting(wire[0], wire[1]), model.waiting(wire[0], wire[1]));
        } else if (chance < 90) {
            DUE.is(when + "waits(" + node + ", " + number + ")",
                    lock.waits(node, number), model.waits(node, number));
        } else if (chance < 94) {
            DUE.is(when + "lockedFor(" + node + ")", lock.lockedFor(node), model.lockedFor(node));
        } else if (chance < 97) {
            DUE.is(when + "votesOf(" + node + ")", lock.votesOf(node), model.votesOf(node));
        } else if (chance < 98) {
            DUE.is(when + "entered()", lock.entered(), model.entered());
        } else {
            DUE.is(when + "holder()", lock.holder(), model.holder());
        }
    }

    private int someNode() {
        return random.nextInt(30) == 0 ? random.nextInt(30) - 5 : random.nextInt(size);
    }

    /** Mostly one with messages on it: most wires are empty, and little would happen. */
    private int[] someWire() {
        int[] wire = {someNode(), someNode()};
        for (int again = 0; again < 8 && model.waiting(wire[0], wire[1]) < 1; again++) {
            wire[0] = someNode();
            wire[1] = someNode();
        }
        return wire;
    }
}
