/** All promises, to the last of an object's calls. */
public final class LastCallTest {
    private static final int CALLS = 512;
    private static final Due DUE = new Due();

    public static void main(String[] args) {
        DUE.run(
                LastCallTest::theLastCallsAnswerAsTheFirst,
                LastCallTest::aFullSquareGoesOnToTheLastCall);
    }

    /** 85 rounds of six calls, each of which brings the one clock on by four, and two more. */
    private static void theLastCallsAnswerAsTheFirst() {
        DUE.promise(15, "What it is: at most 512 calls, in a square of one");
        QuorumLock lock = new QuorumLock(1);
        for (int round = 1; round <= CALLS / 6; round++) {
            DUE.is("round " + round + ": request(0)", lock.request(0), 0);
            DUE.is("round " + round + ": REQUEST", lock.deliver(0, 0), 1);
            DUE.is("round " + round + ": LOCKED", lock.deliver(0, 0), 2);
            DUE.is("round " + round + ": enter(0)", lock.enter(0), true);
            DUE.is("round " + round + ": release(0)", lock.release(0), 0);
            DUE.is("round " + round + ": RELEASE", lock.deliver(0, 0), 3);
        }
        DUE.is("call 511: told(0, 1)", lock.told(0, 1), CALLS / 6 * 4);
        DUE.is("call 512: entered()", lock.entered(), CALLS / 6);
    }

    /** All of sixteen nodes ask, and each again as soon as it has left: 16 calls, then 124 rounds. */
    private static void aFullSquareGoesOnToTheLastCall() {
        DUE.promise(15, "What it is: at most 512 calls, in a full square");
        QuorumLock lock = new QuorumLock(4);
        Model model = new Model(4);
        for (int node = 0; node < 16; node++) {
            DUE.is("request(" + node + ")", lock.request(node), model.request(node));
        }
        for (int call = 17; call <= CALLS; call += 4) {
            String when = "call " + call + " and three more: ";
            DUE.is(when + "settle(500)", lock.settle(500), model.settle(500));
            int node = withAllVotes(model);
            DUE.is(when + "enter(" + node + ")", lock.enter(node), model.enter(node));
            DUE.is(when + "release(" + node + ")", lock.release(node), model.release(node));
            DUE.is(when + "request(" + node + ")", lock.request(node), model.request(node));
        }
        DUE.is("rounds in which one came inside", model.entered(), (CALLS - 16) / 4);
    }

    private static int withAllVotes(Model model) {
        for (int node = 0; node < model.size(); node++) {
            if (model.votesOf(node) == 7) {
                return node;
            }
        }
        return QuorumLock.NONE;
    }
}
