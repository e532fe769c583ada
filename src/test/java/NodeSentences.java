/** The description: nodes and disks; and the 512 calls of an object. */
final class NodeSentences extends Starts {
    private static final String D = "Description";

    @Says(in = "What it is", text = "An object is used for at most 512 calls after it has been made")
    static void the512thCallIsAnswered(Checks c) {
        Model m = new Model();
        m.setBarriers(false);
        for (int call = 2; call <= 511; call++) {
            m.prepare(call % 3, 7);
        }
        c.due("digest", after511Calls(c).digest(), m.digest());
        c.due("the last write", after511Calls(c).waiting(2, 509, 1), m.waiting(2, 509, 1));
        c.due("one write more", after511Calls(c).prepare(0, 7), 3);
        c.due("all writes", after511Calls(c).count(10), 1530);
        c.due("barrier", after511Calls(c).barrier(1), 510);
        c.due("crash", after511Calls(c).crash(0, MOST), 510);
    }

    private static FreshDisks after511Calls(Checks c) {
        FreshDisks x = new FreshDisks();
        x.setBarriers(false);
        int promises = 0;
        for (int call = 2; call <= 511; call++) {
            promises += x.prepare(call % 3, 7);
        }
        c.due("promises of 510 calls", promises, 1530);
        return x;
    }

    @Says(in = "What it is", text = "An object is used for at most 512 calls after it has been made")
    static void manyLoadsInALife(Checks c) {
        FreshDisks x = new FreshDisks();
        x.setBarriers(false);
        for (int load = 0; load < 8; load++) {
            type(x, "p0>012;p1>012;p2>012;p0>012;p1>012;p2>012;p0>012;p1>012;f0");
            c.due("load " + load, x.load(), 9);
        }
        c.due("writes of node 2", x.node(2, 5), 64);
        c.due("writes of node 0", x.node(0, 5), 0);
    }

    @Says(in = "What it is", text = "what later calls answer is free.")
    static void laterCallsEndWithoutAFault(Checks c) {
        FreshDisks x = made(7, 4, false);
        for (int i = 0; i < 700; i++) {
            x.prepare(i % 7, 127);
            x.accept(i % 7, i % 4, i % 10, 127);
        }
        c.isTrue("all writes that are told of can be asked for", x.waiting(6, x.node(6, 5) - 1, 1) > 0);
        for (int i = 0; i < 7; i++) {
            int node = i;
            c.isTrue("harmless", Checks.outcome(() -> x.harmless(node)) instanceof Long);
            c.isTrue("digest", Checks.outcome(x::digest) instanceof Long);
            c.isTrue("ifCrashed", Checks.outcome(() -> x.ifCrashed(node, 300, 3)) instanceof Long);
            c.isTrue("crash", Checks.outcome(() -> x.crash(node, node)) instanceof Long);
        }
    }

    @Says(in = D, text = "There are 3 to 7 nodes, numbered from 0")
    static void nodesAreNumberedFromZero(Checks c) {
        for (int nodes = 3; nodes <= 7; nodes++) {
            FreshDisks x = made(nodes, 1, true);
            int behind = nodes;
            c.due("number of nodes", x.count(0), nodes);
            c.due("the first", x.node(0, 8), 8);
            c.due("the last", x.node(nodes - 1, 8), 8 + nodes - 1);
            c.index("before the first", x, () -> x.node(-1, 0));
            c.index("behind the last", x, () -> x.node(behind, 0));
        }
    }

    @Says(in = D, text = "and 1 to 4 slots, numbered from 0.")
    static void slotsAreNumberedFromZero(Checks c) {
        for (int slots = 1; slots <= 4; slots++) {
            FreshDisks x = made(3, slots, true);
            int behind = slots;
            c.due("number of slots", x.count(1), slots);
            c.due("the first", x.slot(0, 0), -1);
            c.due("the last", x.slot(slots - 1, 0), -1);
            c.index("before the first", x, () -> x.slot(-1, 0));
            c.index("behind the last", x, () -> x.slot(behind, 0));
        }
    }

    @Says(in = D, text = "its number q is the number of nodes divided by 2, rounded down, plus 1.")
    static void quorumOfEachNumberOfNodes(Checks c) {
        for (int nodes = 3; nodes <= 7; nodes++) {
            c.due("q of " + nodes, made(nodes, 1, true).count(2), quorum(nodes));
        }
    }

    @Says(in = D, text = "A quorum is more than half of all nodes, at least")
    static void nodesThatAreDownCountForTheQuorum(Checks c) {
        FreshDisks x = made(6, 1, true);
        x.crash(4, 0);
        loseDisk(x, 5);
        c.due("q stays", x.count(2), 4);
        c.due("half of them", x.prepare(0, 7), 3);
        c.due("is no quorum", x.node(0, 7), -1);
        c.due("more than half", x.prepare(0, 15), 4);
        c.due("is one", x.node(0, 7), 16);
    }

    @Says(in = D, text = "A node is up or down; at first all are up.")
    static void allAreUpAtFirst(Checks c) {
        FreshDisks x = made(7, 1, true);
        c.row("node", i -> x.node(i, 0), 1, 1, 1, 1, 1, 1, 1);
        c.due("in all", x.count(4), 7);
        for (int i = 0; i < 7; i++) {
            x.crash(i, 0);
        }
        c.due("none is up", x.count(4), 0);
        c.row("node that crashed", i -> x.node(i, 0), 0, 0, 0, 0, 0, 0, 0);
    }

    @Says(in = D, text = "A node has joined, or not; at first all have joined.")
    static void allHaveJoinedAtFirst(Checks c) {
        FreshDisks x = made(7, 1, true);
        c.row("node", i -> x.node(i, 1), 1, 1, 1, 1, 1, 1, 1);
        c.due("in all", x.count(5), 7);
        for (int i = 0; i < 7; i++) {
            loseDisk(x, i);
        }
        c.due("none has joined", x.count(5), 0);
        c.row("node that was wiped", i -> x.node(i, 1), 0, 0, 0, 0, 0, 0, 0);
    }

    @Says(in = D, text = "It has an epoch, which is 0 at first.")
    static void epochAtFirst(Checks c) {
        FreshDisks x = made(7, 1, true);
        c.row("node", i -> x.node(i, 2), 0, 0, 0, 0, 0, 0, 0);
    }

    @Says(in = D, text = "The disk of a node has a promised ballot, 0 at first, and for each slot an accepted ballot, 0 at first")
    static void ballotsAtFirst(Checks c) {
        FreshDisks x = made(7, 4, false);
        for (int node = 0; node < 7; node++) {
            int it = node;
            c.due("promised on disk", x.node(node, 4), 0);
            c.due("promised in view", x.node(node, 3), 0);
            c.row("accepted on disk", slot -> x.accepted(it, slot, 2), 0, 0, 0, 0);
            c.row("accepted in view", slot -> x.accepted(it, slot, 0), 0, 0, 0, 0);
        }
    }

    @Says(in = D, text = "and an accepted value, which is NONE as long as the accepted ballot is 0.")
    static void valueIsNoneAsLongAsTheBallotIsZero(Checks c) {
        FreshDisks x = made(3, 2, true);
        c.row("at first", what -> x.accepted(2, 1, what), 0, -1, 0, -1);
        x.prepare(0, 7);
        c.row("with a promise", what -> x.accepted(2, 1, what), 0, -1, 0, -1);
        x.accept(0, 0, 0, 4);
        c.row("with the other slot accepted", what -> x.accepted(2, 1, what), 0, -1, 0, -1);
        x.setBarriers(false);
        x.accept(0, 1, 0, 4);
        c.row("with a write that waits", what -> x.accepted(2, 1, what), 8, 0, 0, -1);
        x.barrier(2);
        c.row("with value 0", what -> x.accepted(2, 1, what), 8, 0, 8, 0);
        x.crash(2, 0);
        x.wipe(2);
        c.row("wiped", what -> x.accepted(2, 1, what), 0, -1, 0, -1);
    }

    @Says(in = D, text = "A write of a node is a promise of a ballot (the promised ballot becomes it)")
    static void promiseLeavesWhatIsAccepted(Checks c) {
        FreshDisks x = made(3, 2, true);
        x.prepare(0, 7);
        x.accept(0, 1, 3, 7);
        x.prepare(0, 7);
        c.due("promised", x.node(1, 4), 16);
        c.row("slot 1 stays", what -> x.accepted(1, 1, what), 8, 3, 8, 3);
        c.row("slot 0 stays", what -> x.accepted(1, 0, what), 0, -1, 0, -1);
    }

    @Says(in = D, text = "or an acceptance of a slot, a ballot and a value (the promised ballot becomes the ballot, "
        + "the accepted ballot and value of the slot become these).")
    static void acceptanceWithoutAPromiseBefore(Checks c) {
        FreshDisks x = made(3, 4, true);
        x.prepare(1, 3);
        c.due("not promised", x.node(2, 4), 0);
        c.due("accepted", x.accept(1, 3, 5, 4), 1);
        c.due("the promised ballot becomes the ballot", x.node(2, 4), 9);
        c.row("the slot", what -> x.accepted(2, 3, what), 9, 5, 9, 5);
        c.row("the other slots stay", slot -> x.accepted(2, slot, 2), 0, 0, 0, 9);
    }

    @Says(in = D, text = "A node has waiting writes, which have not reached its disk yet, in the order in which they were made.")
    static void writesWaitInOrder(Checks c) {
        FreshDisks x = made(3, 2, false);
        c.due("none at first", x.node(0, 5), 0);
        x.prepare(2, 7);
        x.accept(2, 1, 4, 7);
        x.accept(2, 0, 5, 7);
        x.prepare(0, 7);
        c.due("how many", x.node(1, 5), 4);
        c.row("ballots", i -> x.waiting(1, i, 1), 10, 10, 10, 16);
        c.row("slots", i -> x.waiting(1, i, 0), -1, 1, 0, -1);
        c.row("values", i -> x.waiting(1, i, 2), -1, 4, 5, -1);
        c.due("not promised on the disk", x.node(1, 4), 0);
        c.due("not accepted on the disk", x.accepted(1, 1, 2), 0);
    }

    /** More than fit in the rows that a node has at first, so that each must be kept when they grow. */
    @Says(in = D, text = "A node has waiting writes, which have not reached its disk yet, in the order in which they were made.")
    static void manyWritesWaitInOrder(Checks c) {
        FreshDisks x = made(3, 2, false);
        for (int i = 0; i < 40; i++) {
            x.prepare(0, 7);
            x.accept(0, i % 2, i % 10, 6);
        }
        for (int i = 0; i < 40; i++) {
            c.due("promise", x.waiting(2, 2 * i, 0), -1);
            c.due("its ballot", x.waiting(2, 2 * i, 1), 8 * i + 8);
            c.due("its value", x.waiting(2, 2 * i, 2), -1);
            c.due("slot", x.waiting(2, 2 * i + 1, 0), i % 2);
            c.due("ballot", x.waiting(2, 2 * i + 1, 1), 8 * i + 8);
            c.due("value", x.waiting(2, 2 * i + 1, 2), i % 2);
        }
        c.due("the last is lost", x.crash(2, 1), 1);
        c.row("what was before it is kept", what -> x.accepted(2, 1, what), 304, 1, 304, 1);
    }

    @Says(in = D, text = "Its view is what its disk would be if all waiting writes were carried out.")
    static void viewWithNoneOneAndMoreWrites(Checks c) {
        FreshDisks x = made(3, 1, false);
        c.row("no write: promised in view and on disk", i -> x.node(1, 3 + i), 0, 0);
        x.prepare(0, 7);
        c.row("one write", i -> x.node(1, 3 + i), 8, 0);
        x.accept(0, 0, 7, 2);
        x.prepare(2, 7);
        c.row("three writes", i -> x.node(1, 3 + i), 10, 0);
        c.row("accepted by the second", what -> x.accepted(1, 0, what), 8, 7, 0, -1);
        x.barrier(1);
        c.row("all carried out", i -> x.node(1, 3 + i), 10, 10);
        c.row("accepted then", what -> x.accepted(1, 0, what), 8, 7, 8, 7);
    }

    @Says(in = D, text = "A barrier of a node carries out all of its waiting writes, in their order, so that none waits any more.")
    static void barrierCarriesOutInOrder(Checks c) {
        FreshDisks x = made(3, 1, false);
        x.prepare(0, 7);
        x.accept(0, 0, 1, 2);
        x.prepare(2, 5);
        x.accept(2, 0, 2, 2);
        c.due("writes", x.barrier(1), 3);
        c.due("none waits", x.node(1, 5), 0);
        c.due("promised by the last", x.node(1, 4), 10);
        c.row("accepted by the last", what -> x.accepted(1, 0, what), 10, 2, 10, 2);
        c.due("of other nodes they wait", x.node(0, 5), 2);
        c.due("again none", x.barrier(1), 0);
        c.row("nothing is carried out twice", what -> x.accepted(1, 0, what), 10, 2, 10, 2);
    }

    @Says(in = D, text = "A node that is up has seen a ballot, 0 at first")
    static void noBallotIsSeenAtFirst(Checks c) {
        FreshDisks x = made(7, 1, true);
        c.row("node", i -> x.node(i, 6), 0, 0, 0, 0, 0, 0, 0);
        x.prepare(0, 127);
        c.row("a promise tells nothing to the node that makes it", i -> x.node(i, 6), 8, 0, 0, 0, 0, 0, 0);
        x.accept(0, 0, 1, 127);
        c.row("nor does an acceptance", i -> x.node(i, 6), 8, 0, 0, 0, 0, 0, 0);
    }

    @Says(in = D, text = "whenever a ballot is told to it, as described below, and that is greater, it becomes the one it has seen.")
    static void smallerBallotsAreNotSeen(Checks c) {
        FreshDisks x = made(5, 1, true);
        x.prepare(4, 2);
        x.prepare(4, 2);
        x.prepare(3, 4);
        c.row("promised", i -> x.node(i, 3), 0, 20, 11);
        c.due("both refuse", x.prepare(0, 6), 0);
        c.due("a greater one told before a smaller one", x.node(0, 6), 20);
        x.begin(5, 1);
        x.prepare(4, 4);
        x.prepare(4, 4);
        x.prepare(3, 2);
        c.row("promised the other way round", i -> x.node(i, 3), 0, 11, 20);
        c.due("both refuse again", x.prepare(0, 6), 0);
        c.due("a smaller one told before a greater one", x.node(0, 6), 20);
        x.begin(5, 1);
        x.prepare(4, 16);
        x.prepare(0, 31);
        x.prepare(1, 2);
        c.row("seen, round", i -> x.node(0, 6 + i), 12, 8);
        c.due("9 is told by a refusal to accept", x.accept(0, 0, 1, 2), 0);
        c.due("less than it has seen", x.node(0, 6), 12);
    }

    @Says(in = D, text = "There is a switch for barriers, which is on or off.")
    static void switchOnAndOff(Checks c) {
        FreshDisks x = new FreshDisks();
        c.due("on", x.count(3), 1);
        x.setBarriers(true);
        c.due("on once more", x.count(3), 1);
        x.setBarriers(false);
        x.setBarriers(false);
        c.due("off twice", x.count(3), 0);
        x.prepare(0, 7);
        c.due("all wait", x.count(10), 3);
        x.setBarriers(true);
        c.due("turning it on is no barrier", x.count(10), 3);
    }

    @Says(in = D, text = "When it is on, each node that gets a message of prepare or accept makes a barrier directly before its answer")
    static void eachThatGetsAMessageMakesABarrier(Checks c) {
        FreshDisks x = made(3, 1, false);
        x.prepare(0, 7);
        x.setBarriers(true);
        c.due("prepare", x.prepare(2, 1), 1);
        c.row("only where it arrives", i -> x.node(i, 5), 0, 1, 1);
        c.due("on the disk", x.node(0, 4), 10);
        x.setBarriers(false);
        x.prepare(1, 2);
        x.prepare(1, 3);
        x.setBarriers(true);
        c.row("before accept", i -> x.node(i, 5), 1, 3, 1);
        c.due("accept", x.accept(1, 0, 6, 2), 1);
        c.row("again only where it arrives", i -> x.node(i, 5), 1, 0, 1);
    }

    @Says(in = D, text = "behind the write that it makes for it, if it makes one (so that none of its writes waits then)")
    static void barrierComesBehindTheWrite(Checks c) {
        FreshDisks x = made(3, 1, true);
        x.prepare(0, 7);
        c.due("none waits behind prepare", x.count(10), 0);
        c.row("promised on disks", i -> x.node(i, 4), 8, 8, 8);
        x.accept(0, 0, 3, 7);
        c.due("none waits behind accept", x.count(10), 0);
        c.row("accepted on disks", i -> x.accepted(i, 0, 3), 3, 3, 3);
        c.due("so none can be lost", x.crash(1, MOST), 0);
    }

    @Says(in = D, text = "also before it refuses.")
    static void barrierBeforePrepareIsRefused(Checks c) {
        FreshDisks x = made(3, 1, false);
        x.prepare(2, 2);
        x.setBarriers(true);
        c.due("refused", x.prepare(0, 2), 0);
        c.due("none waits", x.node(1, 5), 0);
        c.due("on the disk", x.node(1, 4), 10);
    }

    @Says(in = D, text = "also before it refuses.")
    static void barrierBeforeAcceptIsRefused(Checks c) {
        FreshDisks x = made(3, 1, false);
        x.prepare(0, 3);
        x.prepare(2, 2);
        x.setBarriers(true);
        c.due("refused", x.accept(0, 0, 1, 2), 0);
        c.due("none waits", x.node(1, 5), 0);
        c.due("on the disk", x.node(1, 4), 10);
        c.due("what did not get it waits", x.node(0, 5), 1);
    }

    @Says(in = D, text = "- `NONE = -1`: There is no such number.")
    static void none(Checks c) throws ReflectiveOperationException {
        // Read at run time: the compiler would write the number itself into this class.
        c.due("NONE", FreshDisks.class.getField("NONE").getInt(null), -1);
        FreshDisks x = made(3, 1, false);
        x.prepare(0, 7);
        c.row("where a number is missing", i -> new int[] {x.node(1, 7), x.accepted(0, 0, 1), x.waiting(0, 0, 0),
            x.waiting(0, 0, 2), x.slot(0, 0), x.slot(0, 1), x.roundValue(0, 0)}[i], -1, -1, -1, -1, -1, -1, -1);
    }
}
