import java.math.BigInteger;
import java.util.ArrayList;
import java.util.List;

/** Promises 15 to 26: what there is, and losses. */
final class QuestionSentences extends Starts {
    private static final int[] NO_NODES = {-1, 4, 5, 6, 7, LEAST, MOST};
    private static final int[] NO_SLOTS = {-1, 2, 3, 4, LEAST, MOST};
    private static final String COUNT = "- `what`: 0 for the number of nodes, 1 for the number of slots, 2 for q, "
        + "3 for 1 if barriers are on, else 0";

    // ---- promise 15

    @Says(in = "Promise 15", text = COUNT)
    static void countsOfTheLeastAndTheMost(Checks c) {
        c.row("the least", made(3, 1, true)::count, 3, 1, 2, 1, 3, 3, 0, 0, 0, 0, 0, 0);
        c.row("the most, no barriers", made(7, 4, false)::count, 7, 4, 4, 0, 7, 7, 0, 0, 0, 0, 0, 0);
    }

    @Says(in = "Promise 15", text = "4 for the number of nodes that are up, 5 for the number of nodes that have joined")
    static void countsOfNodesFromAllToNone(Checks c) {
        FreshDisks x = made(7, 1, true);
        for (int i = 0; i < 7; i++) {
            c.row("up, joined", what -> x.count(4 + what), 7 - i, 7 - i);
            x.crash(i, 0);
            c.row("one is down", what -> x.count(4 + what), 6 - i, 7 - i);
            x.wipe(i);
            c.row("one is wiped", what -> x.count(4 + what), 6 - i, 6 - i);
        }
        x.restart(0);
        c.row("one is up again", what -> x.count(4 + what), 1, 0);
    }

    @Says(in = "Promise 15", text = "6 for the number of decided slots, 7 for the number of slots in conflict")
    static void countsOfSlotsFromNoneToAll(Checks c) {
        FreshDisks x = made(3, 4, false);
        x.prepare(0, 7);
        for (int slot = 0; slot < 4; slot++) {
            c.row("decided, in conflict", i -> x.count(6 + i), slot, 0);
            x.accept(0, slot, 1, 1);
            c.row("too few accept", i -> x.count(6 + i), slot, 0);
            x.accept(0, slot, 1, 3);
        }
        loseAll(x, 0);
        loseAll(x, 1);
        x.prepare(1, 3);
        for (int slot = 0; slot < 4; slot++) {
            c.row("all decided, in conflict", i -> x.count(6 + i), 4, slot);
            x.accept(1, slot, 2, 3);
        }
        c.row("all in conflict", i -> x.count(6 + i), 4, 4);
    }

    @Says(in = "Promise 15", text = "8 for the number of messages that nodes got by prepare and accept, 9 for the number of those that were not refused")
    static void countsOfMessages(Checks c) {
        FreshDisks x = made(5, 1, true);
        x.crash(4, 0);
        x.prepare(0, 16);
        c.row("nobody got it", i -> x.count(8 + i), 0, 0);
        x.prepare(3, 8);
        c.row("one", i -> x.count(8 + i), 1, 1);
        x.prepare(1, 15);
        c.row("one of four refused", i -> x.count(8 + i), 5, 4);
        x.accept(1, 0, 2, 15);
        c.row("one of four refused to accept", i -> x.count(8 + i), 9, 7);
        x.crash(0, 0);
        x.wipe(0);
        x.restart(0);
        c.due("joined", x.rejoin(0, 14), 3);
        c.row("what is read is no message", i -> x.count(8 + i), 9, 7);
    }

    @Says(in = "Promise 15", text = "10 for the number of writes that wait on all nodes, 11 for the number of writes that were lost")
    static void countsOfWrites(Checks c) {
        FreshDisks x = made(3, 1, false);
        x.prepare(0, 7);
        x.accept(0, 0, 1, 6);
        c.row("waiting, lost", i -> x.count(10 + i), 5, 0);
        x.crash(0, 0);
        c.row("none of one lost", i -> x.count(10 + i), 4, 0);
        x.crash(1, 1);
        c.row("one of two lost", i -> x.count(10 + i), 2, 1);
        x.crash(2, 9);
        c.row("nine of two lost", i -> x.count(10 + i), 0, 3);
        x.wipe(1);
        c.row("what is wiped is not lost", i -> x.count(10 + i), 0, 3);
    }

    @Says(in = "Promise 15", text = "Throws `IllegalArgumentException` if what is not 0 to 11")
    static void countOfNothing(Checks c) {
        FreshDisks x = busy();
        for (int what : new int[] {-1, 12, 13, -12, LEAST, MOST}) {
            c.argument("what " + what, x, () -> x.count(what));
        }
        c.due("the last", x.count(11), 1);
    }

    // ---- promise 16

    @Says(in = "Promise 16", text = "- `what`: 0 for 1 if it is up, else 0; 1 for 1 if it has joined, else 0; 2 for its epoch, "
        + "3 for the promised ballot of its view, 4 for that of its disk, 5 for the number of its waiting writes, "
        + "6 for the ballot it has seen")
    static void propertiesOfEachKindOfNode(Checks c) {
        FreshDisks x = busy();
        c.row("with a round", what -> x.node(0, what), 1, 1, 0, 8, 0, 2, 8, 8, 16);
        c.row("without", what -> x.node(1, what), 1, 1, 0, 8, 0, 3, 0, -1, 9);
        c.row("down", what -> x.node(2, what), 0, 1, 0, 8, 8, 0, 0, -1, 10);
        c.row("not joined", what -> x.node(3, what), 1, 0, 1, 0, 0, 0, 0, -1, 11);
    }

    @Says(in = "Promise 16", text = "7 for the ballot of its open round, NONE if there is none")
    static void ballotOfTheRoundOrNone(Checks c) {
        FreshDisks x = made(3, 1, true);
        c.row("at first", i -> x.node(i, 7), -1, -1, -1);
        x.prepare(0, 7);
        c.row("one round", i -> x.node(i, 7), 8, -1, -1);
        x.prepare(1, 1);
        x.accept(0, 0, 1, 1);
        c.row("ended by a refusal", i -> x.node(i, 7), -1, -1, -1);
        x.prepare(2, 6);
        x.crash(2, 0);
        c.row("ended by a crash", i -> x.node(i, 7), -1, -1, -1);
    }

    @Says(in = "Promise 16", text = "8 for its next ballot")
    static void nextBallotOfNodesThatCannotPrepare(Checks c) {
        FreshDisks x = made(3, 1, true);
        x.prepare(1, 4);
        x.crash(2, 0);
        c.due("down, 9 promised", x.node(2, 8), 10);
        x.wipe(2);
        c.due("wiped", x.node(2, 8), 10);
        x.restart(2);
        x.prepare(1, 3);
        x.rejoin(2, 3);
        c.due("joined, 17 promised", x.node(2, 8), 18);
        c.due("asking takes no ballot", x.node(2, 8), 18);
    }

    @Says(in = "Promise 16", text = "Throws `IndexOutOfBoundsException` if the node does not exist")
    static void propertyOfNoNode(Checks c) {
        FreshDisks x = busy();
        for (int node : NO_NODES) {
            c.index("node " + node, x, () -> x.node(node, 0));
        }
        c.due("the last", x.node(3, 0), 1);
    }

    @Says(in = "Promise 16", text = "Throws `IllegalArgumentException` if what is not 0 to 8")
    static void propertyThatIsNone(Checks c) {
        FreshDisks x = busy();
        for (int what : new int[] {-1, 9, 10, LEAST, MOST}) {
            c.argument("what " + what, x, () -> x.node(0, what));
        }
        c.due("the last", x.node(0, 8), 16);
    }

    // ---- promise 17

    @Says(in = "Promise 17", text = "- `what`: 0 for the accepted ballot of its view, 1 for the value of its view, "
        + "2 for the accepted ballot of its disk, 3 for the value of its disk")
    static void acceptedInViewAndOnDisk(Checks c) {
        FreshDisks x = made(3, 2, false);
        x.prepare(0, 7);
        c.row("nothing", what -> x.accepted(2, 1, what), 0, -1, 0, -1);
        x.accept(0, 1, 9, 4);
        c.row("it waits", what -> x.accepted(2, 1, what), 8, 9, 0, -1);
        x.barrier(2);
        c.row("it is on the disk", what -> x.accepted(2, 1, what), 8, 9, 8, 9);
        x.prepare(1, 3);
        x.accept(1, 1, 0, 4);
        c.row("another waits", what -> x.accepted(2, 1, what), 9, 0, 8, 9);
        x.crash(2, 1);
        c.row("it is lost", what -> x.accepted(2, 1, what), 8, 9, 8, 9);
        c.row("the other slot", what -> x.accepted(2, 0, what), 0, -1, 0, -1);
    }

    @Says(in = "Promise 17", text = "Throws `IndexOutOfBoundsException` if the node or the slot does not exist")
    static void acceptedOfNoNodeOrSlot(Checks c) {
        FreshDisks x = busy();
        for (int node : NO_NODES) {
            c.index("node " + node, x, () -> x.accepted(node, 0, 0));
        }
        for (int slot : NO_SLOTS) {
            c.index("slot " + slot, x, () -> x.accepted(0, slot, 0));
        }
        c.due("the last of both", x.accepted(3, 1, 0), 0);
    }

    @Says(in = "Promise 17", text = "Throws `IllegalArgumentException` if what is not 0 to 3")
    static void acceptedThatIsNone(Checks c) {
        FreshDisks x = busy();
        for (int what : new int[] {-1, 4, 5, LEAST, MOST}) {
            c.argument("what " + what, x, () -> x.accepted(0, 0, what));
        }
        c.due("the last", x.accepted(0, 0, 3), -1);
    }

    // ---- promise 18

    @Says(in = "Promise 18", text = "- `index`: its index among the waiting writes of the node, from 0")
    static void waitingFromZero(Checks c) {
        FreshDisks x = made(3, 1, false);
        x.prepare(0, 2);
        x.prepare(2, 2);
        x.prepare(1, 2);
        c.row("ballots", i -> x.waiting(1, i, 1), 8, 10, 17);
        x.barrier(1);
        x.prepare(2, 2);
        c.due("behind a barrier from 0 again", x.waiting(1, 0, 1), 18);
    }

    @Says(in = "Promise 18", text = "- `what`: 0 for its slot, NONE for a promise; 1 for its ballot, 2 for its value, NONE for a promise")
    static void partsOfPromisesAndAcceptances(Checks c) {
        FreshDisks x = made(3, 4, false);
        x.prepare(2, 7);
        x.accept(2, 0, 0, 7);
        x.accept(2, 3, 9, 7);
        c.row("a promise", what -> x.waiting(1, 0, what), -1, 10, -1);
        c.row("the first slot and value", what -> x.waiting(1, 1, what), 0, 10, 0);
        c.row("the last slot and value", what -> x.waiting(1, 2, what), 3, 10, 9);
    }

    @Says(in = "Promise 18", text = "Throws `IndexOutOfBoundsException` if the node or the write does not exist")
    static void waitingOfNoNodeOrWrite(Checks c) {
        FreshDisks x = busy();
        for (int node : NO_NODES) {
            c.index("node " + node, x, () -> x.waiting(node, 0, 0));
        }
        for (int index : new int[] {-1, 2, 3, 7, 8, LEAST, MOST}) {
            c.index("index " + index, x, () -> x.waiting(0, index, 0));
        }
        c.due("the last", x.waiting(0, 1, 1), 8);
        c.index("of a node without writes", x, () -> x.waiting(2, 0, 0));
        x.barrier(0);
        c.index("carried out", x, () -> x.waiting(0, 0, 0));
        x.crash(1, 1);
        c.index("lost", x, () -> x.waiting(1, 0, 0));
    }

    @Says(in = "Promise 18", text = "Throws `IllegalArgumentException` if what is not 0 to 2")
    static void partThatIsNone(Checks c) {
        FreshDisks x = busy();
        for (int what : new int[] {-1, 3, 4, LEAST, MOST}) {
            c.argument("what " + what, x, () -> x.waiting(0, 1, what));
        }
        c.due("the last", x.waiting(0, 1, 2), 3);
    }

    // ---- promise 19

    @Says(in = "Promise 19", text = "0 for the ballot of its decision, 1 for the decided value (both NONE if it is not decided)")
    static void decisionOrNone(Checks c) {
        FreshDisks x = made(3, 1, true);
        c.row("at first", what -> x.slot(0, what), -1, -1);
        x.prepare(0, 7);
        x.accept(0, 0, 0, 1);
        c.row("accepted by too few", what -> x.slot(0, what), -1, -1);
        x.accept(0, 0, 0, 3);
        c.row("value 0", what -> x.slot(0, what), 8, 0);
    }

    @Says(in = "Promise 19", text = "2 for the number of decisions on it")
    static void numberOfDecisions(Checks c) {
        FreshDisks x = made(3, 2, true);
        x.prepare(0, 7);
        for (int i = 0; i < 50; i++) {
            c.due("decisions", x.slot(1, 2), i);
            x.accept(0, 1, 3, i % 2 == 0 ? 7 : 3);
        }
        c.due("of the other slot", x.slot(0, 2), 0);
    }

    @Says(in = "Promise 19", text = "3 for the number of nodes that hold it, 4 for the number of nodes that hold it on their disks")
    static void holdersFromNoneToAll(Checks c) {
        FreshDisks x = made(7, 1, false);
        x.prepare(0, 127);
        x.accept(0, 0, 1, 15);
        x.accept(0, 0, 1, 112);
        for (int i = 0; i < 7; i++) {
            c.row("by views, on disks", what -> x.slot(0, 3 + what), 7, i);
            x.barrier(i);
        }
        for (int i = 0; i < 7; i++) {
            c.row("by views, on disks", what -> x.slot(0, 3 + what), 7 - i, 7 - i);
            loseDisk(x, i);
        }
        c.row("none", what -> x.slot(0, 3 + what), 0, 0, 0);
    }

    @Says(in = "Promise 19", text = "5 for 1 if it is protected, else 0; 6 for 1 if it is in conflict, else 0")
    static void protectedOrInConflict(Checks c) {
        FreshDisks x = made(3, 1, true);
        x.prepare(0, 7);
        x.accept(0, 0, 1, 3);
        c.row("protected", what -> x.slot(0, 5 + what), 1, 0);
        loseDisk(x, 0);
        c.row("no more", what -> x.slot(0, 5 + what), 0, 0);
        c.row("in conflict", what -> inConflict(1).slot(0, 5 + what), 0, 1);
    }

    @Says(in = "Promise 19", text = "(2 to 6 are 0 if it is not decided)")
    static void slotThatIsNotDecided(Checks c) {
        FreshDisks x = made(3, 2, true);
        c.row("at first", what -> x.slot(1, what), -1, -1, 0, 0, 0, 0, 0);
        x.prepare(0, 7);
        x.accept(0, 1, 4, 1);
        x.accept(0, 1, 4, 2);
        x.accept(0, 1, 4, 4);
        c.row("accepted by all, one after the other", what -> x.slot(1, what), -1, -1, 0, 0, 0, 0, 0);
        x.accept(0, 0, 4, 7);
        c.row("the other is decided", what -> x.slot(1, what), -1, -1, 0, 0, 0, 0, 0);
    }

    @Says(in = "Promise 19", text = "Throws `IndexOutOfBoundsException` if the slot does not exist")
    static void propertyOfNoSlot(Checks c) {
        FreshDisks x = busy();
        for (int slot : NO_SLOTS) {
            c.index("slot " + slot, x, () -> x.slot(slot, 0));
        }
        c.due("the last", x.slot(1, 0), -1);
    }

    @Says(in = "Promise 19", text = "Throws `IllegalArgumentException` if what is not 0 to 6")
    static void propertyOfASlotThatIsNone(Checks c) {
        FreshDisks x = busy();
        for (int what : new int[] {-1, 7, 8, LEAST, MOST}) {
            c.argument("decided, what " + what, x, () -> x.slot(0, what));
            c.argument("not decided, what " + what, x, () -> x.slot(1, what));
        }
        c.due("the last", x.slot(0, 6), 0);
    }

    // ---- promise 20

    @Says(in = "Promise 20", text = "Returns the value; NONE if it is NONE.")
    static void roundValueOrNone(Checks c) {
        FreshDisks x = made(3, 4, true);
        x.prepare(1, 7);
        c.row("at first", slot -> x.roundValue(1, slot), -1, -1, -1, -1);
        x.accept(1, 0, 0, 1);
        x.accept(1, 3, 9, 1);
        c.row("least and greatest value", slot -> x.roundValue(1, slot), 0, -1, -1, 9);
    }

    @Says(in = "Promise 20", text = "Throws `IndexOutOfBoundsException` if the node or the slot does not exist")
    static void roundValueOfNoNodeOrSlot(Checks c) {
        FreshDisks x = busy();
        for (int node : NO_NODES) {
            c.index("node " + node, x, () -> x.roundValue(node, 0));
        }
        for (int slot : NO_SLOTS) {
            c.index("slot " + slot, x, () -> x.roundValue(0, slot));
        }
        c.due("the last slot", x.roundValue(0, 1), 6);
    }

    @Says(in = "Promise 20", text = "Throws `IllegalStateException` if the node has no open round")
    static void roundValueWithoutRound(Checks c) {
        FreshDisks x = made(3, 1, true);
        c.state("at first", x, () -> x.roundValue(0, 0));
        x.prepare(0, 1);
        c.state("too few promises", x, () -> x.roundValue(0, 0));
        x.prepare(0, 7);
        c.state("another node", x, () -> x.roundValue(2, 0));
        c.due("the node itself", x.roundValue(0, 0), -1);
        x.prepare(1, 1);
        x.accept(0, 0, 1, 7);
        c.state("ended by a refusal", x, () -> x.roundValue(0, 0));
        x.prepare(0, 7);
        x.crash(0, 0);
        c.state("down", x, () -> x.roundValue(0, 0));
        x.restart(0);
        c.state("ended by a crash", x, () -> x.roundValue(0, 0));
    }

    // ---- promise 21

    /** Three nodes, two slots; on node 1 wait a promise, slot 0 (decided), slot 1 (decided), and a promise. */
    private static FreshDisks withFourWrites() {
        FreshDisks x = made(3, 2, false);
        x.prepare(0, 7);
        x.accept(0, 0, 2, 7);
        x.accept(0, 1, 3, 3);
        x.prepare(2, 7);
        return x;
    }

    @Says(in = "Promise 21", text = "Nothing is changed.")
    static void ifCrashedChangesNothing(Checks c) {
        FreshDisks x = withFourWrites();
        for (int node = 0; node < 3; node++) {
            for (int lost = 0; lost <= 5; lost++) {
                x.ifCrashed(node, lost, 0);
                x.ifCrashed(node, MOST, 1);
            }
        }
        c.same("the state", x, withFourWrites());
        c.due("the node is up", x.node(1, 0), 1);
        c.due("its writes wait", x.barrier(1), 4);
        c.row("and are carried out", slot -> x.accepted(1, slot, 3), 2, 3);
    }

    @Says(in = "Promise 21", text = "- `lost`: how many of its last waiting writes would be lost, 0 or more (all, if there are fewer)")
    static void ifCrashedWithEachNumberOfLosses(Checks c) {
        FreshDisks x = withFourWrites();
        c.row("slot 0", lost -> x.ifCrashed(1, lost, 0), 3, 3, 3, 2, 2, 2);
        c.row("slot 1", lost -> x.ifCrashed(1, lost, 1), 2, 2, 1, 1, 1, 1);
        c.due("the most, slot 0", x.ifCrashed(1, MOST, 0), 2);
        c.due("the most, slot 1", x.ifCrashed(1, MOST, 1), 1);
        x.barrier(1);
        c.due("none waits", x.ifCrashed(1, MOST, 0), 3);
    }

    @Says(in = "Promise 21", text = "Returns the number of nodes that would hold it, by their views; 0 if the slot is not decided.")
    static void ifCrashedOfEachKindOfNode(Checks c) {
        FreshDisks x = busy();
        c.due("no loss", x.ifCrashed(0, 0, 0), 2);
        c.due("a holder", x.ifCrashed(0, 1, 0), 1);
        c.due("the others by their views", x.ifCrashed(1, 9, 0), 1);
        c.due("a node that is down", x.ifCrashed(2, 9, 0), 2);
        c.due("a node that has not joined", x.ifCrashed(3, 9, 0), 2);
        c.due("a slot that is not decided", x.ifCrashed(1, 0, 1), 0);
        FreshDisks y = made(3, 1, false);
        c.due("nothing at all", y.ifCrashed(0, 0, 0), 0);
        y.prepare(0, 7);
        y.accept(0, 0, 1, 7);
        y.crash(2, 0);
        c.due("one that is down holds it", y.ifCrashed(2, 9, 0), 3);
        c.due("and counts if another crashes", y.ifCrashed(1, 9, 0), 2);
    }

    /** A loss can also bring a holder back, if a later value hid the decided one. */
    @Says(in = "Promise 21", text = "Returns the number of nodes that would hold it, by their views")
    static void ifCrashedCanBringAHolderBack(Checks c) {
        FreshDisks x = made(3, 1, false);
        x.prepare(0, 7);
        x.accept(0, 0, 1, 6);
        loseAll(x, 1);
        x.prepare(1, 3);
        x.accept(1, 0, 5, 7);
        c.row("writes of node 2", i -> x.waiting(2, i, 2), -1, 1, 5);
        c.row("holders", lost -> x.ifCrashed(2, lost, 0), 0, 1, 0, 0);
    }

    @Says(in = "Promise 21", text = "Throws `IndexOutOfBoundsException` if the node or the slot does not exist")
    static void ifCrashedOfNoNodeOrSlot(Checks c) {
        FreshDisks x = busy();
        for (int node : NO_NODES) {
            c.index("node " + node, x, () -> x.ifCrashed(node, 0, 0));
        }
        for (int slot : NO_SLOTS) {
            c.index("slot " + slot, x, () -> x.ifCrashed(0, 0, slot));
        }
        c.due("the last of both", x.ifCrashed(3, 0, 1), 0);
    }

    @Says(in = "Promise 21", text = "Throws `IllegalArgumentException` if lost is less than 0")
    static void ifCrashedWithFewerThanNone(Checks c) {
        FreshDisks x = busy();
        c.argument("-1", x, () -> x.ifCrashed(0, -1, 0));
        c.argument("the least", x, () -> x.ifCrashed(0, LEAST, 0));
        c.argument("of a slot that is not decided", x, () -> x.ifCrashed(0, -1, 1));
        c.argument("of a node that is down", x, () -> x.ifCrashed(2, -1, 0));
        c.due("0", x.ifCrashed(0, 0, 0), 2);
    }

    // ---- promise 22

    @Says(in = "Promise 22", text = "Returns the greatest number, up to that of its waiting writes")
    static void harmlessUpToAllThatWait(Checks c) {
        FreshDisks x = made(5, 2, false);
        c.row("none waits", x::harmless, 0, 0, 0, 0, 0);
        x.prepare(0, 31);
        x.prepare(0, 15);
        c.row("nothing is decided", x::harmless, 2, 2, 2, 2, 1);
        x.accept(0, 0, 1, 15);
        c.row("four hold it, three are needed", x::harmless, 3, 3, 3, 3, 1);
        x.crash(3, 9);
        c.row("three hold it", x::harmless, 0, 0, 0, 0, 1);
        x.accept(0, 1, 1, 1);
        c.row("one may lose another slot's write", x::harmless, 1, 0, 0, 0, 1);
        x.barrier(0);
        c.row("one has it on its disk", x::harmless, 0, 0, 0, 0, 1);
    }

    @Says(in = "Promise 22", text = "for which each decided slot that is protected would stay protected.")
    static void harmlessForEachProtectedSlot(Checks c) {
        FreshDisks x = made(3, 4, false);
        x.prepare(0, 7);
        x.accept(0, 3, 1, 3);
        x.accept(0, 0, 1, 3);
        x.accept(0, 1, 1, 2);
        c.row("the writes for slots 3 and 0 are needed", x::harmless, 0, 1, 1);
        loseAll(x, 0);
        c.row("neither is protected", i -> x.slot(i == 0 ? 0 : 3, 5), 0, 0);
        c.row("no harm is left to do", x::harmless, 0, 4, 1);
        FreshDisks last = made(3, 4, false);
        last.prepare(0, 7);
        last.accept(0, 3, 1, 5);
        c.row("the last slot alone", last::harmless, 0, 1, 0);
        last.crash(2, 0);
        c.row("one that is down holds it", last::harmless, 0, 1, 0);
        FreshDisks even = made(4, 1, false);
        even.prepare(0, 15);
        even.accept(0, 0, 1, 7);
        c.row("three of four hold it, two are needed", even::harmless, 2, 2, 2, 1);
        even.crash(0, 1);
        c.row("two of four", even::harmless, 0, 0, 0, 1);
    }

    /** The greatest number counts, also where a smaller one would do harm. */
    @Says(in = "Promise 22", text = "Returns the greatest number")
    static void harmlessBeyondAHarmfulNumber(Checks c) {
        FreshDisks x = made(3, 1, false);
        x.prepare(0, 7);
        x.accept(0, 0, 1, 3);
        loseAll(x, 0);
        x.prepare(2, 5);
        x.accept(2, 0, 2, 2);
        x.prepare(0, 5);
        x.accept(0, 0, 1, 7);
        x.crash(2, 9);
        c.row("values of the writes of node 1", i -> x.waiting(1, i, 2), -1, 1, 2, 1);
        c.row("holders by losses", lost -> x.ifCrashed(1, lost, 0), 2, 1, 2, 1, 1);
        c.due("two are harmless, one is not", x.harmless(1), 2);
    }

    @Says(in = "Promise 22", text = "Throws `IndexOutOfBoundsException` if the node does not exist")
    static void harmlessOfNoNode(Checks c) {
        FreshDisks x = busy();
        for (int node : NO_NODES) {
            c.index("node " + node, x, () -> x.harmless(node));
        }
        c.due("down", x.harmless(2), 0);
        c.due("the last", x.harmless(3), 0);
    }

    // ---- promise 23

    @Says(in = "Promise 23", text = "Returns the least number of nodes")
    static void leastLossesForEachNumberOfNodes(Checks c) {
        int[] most = {2, 3, 3, 4, 4};
        for (int nodes = 3; nodes <= 7; nodes++) {
            FreshDisks x = made(nodes, 1, false);
            x.prepare(0, first(nodes));
            x.accept(0, 0, 1, first(nodes));
            c.due("all of " + nodes + " hold it, all writes wait", x.leastLosses(0), most[nodes - 3]);
            for (int wiped = 1; wiped <= most[nodes - 3]; wiped++) {
                loseDisk(x, nodes - wiped);
                c.due(wiped + " do not hold it", x.leastLosses(0), most[nodes - 3] - wiped);
            }
        }
    }

    @Says(in = "Promise 23", text = "0 if the slot is not protected now")
    static void leastLossesWithoutProtection(Checks c) {
        FreshDisks x = made(3, 1, false);
        x.prepare(0, 7);
        x.accept(0, 0, 1, 3);
        c.due("protected", x.leastLosses(0), 1);
        x.crash(0, 1);
        c.due("not protected", x.leastLosses(0), 0);
        x.crash(1, 1);
        c.due("nobody holds it", x.leastLosses(0), 0);
    }

    @Says(in = "Promise 23", text = "NONE if it would stay protected whichever nodes lose them.")
    static void leastLossesOfWhatIsOnEnoughDisks(Checks c) {
        int[] enough = {2, 2, 3, 3, 4};
        for (int nodes = 3; nodes <= 7; nodes++) {
            FreshDisks x = made(nodes, 1, false);
            x.prepare(0, first(nodes));
            x.accept(0, 0, 1, first(nodes));
            for (int onDisk = 1; onDisk <= nodes; onDisk++) {
                x.barrier(onDisk - 1);
                int due = onDisk >= enough[nodes - 3] ? -1 : quorum(nodes);
                c.due(onDisk + " of " + nodes + " on disks", x.leastLosses(0), due);
            }
        }
        FreshDisks down = made(3, 1, false);
        down.prepare(0, 7);
        down.accept(0, 0, 1, 7);
        down.crash(1, 0);
        c.due("on the disk of one that is down", down.leastLosses(0), 2);
        down.crash(2, 0);
        c.due("of two", down.leastLosses(0), -1);
        FreshDisks all = made(3, 1, true);
        all.prepare(0, 7);
        all.accept(0, 0, 1, 3);
        c.due("none waits", all.leastLosses(0), -1);
    }

    /** Nodes whose losses change nothing, or bring a holder back, are not among the fewest. */
    @Says(in = "Promise 23", text = "Returns the least number of nodes")
    static void leastLossesOfTheRightNodes(Checks c) {
        FreshDisks x = made(5, 1, false);
        x.prepare(0, 31);
        x.accept(0, 0, 1, 7);
        x.barrier(0);
        x.barrier(1);
        x.prepare(3, 31);
        c.row("all have writes that wait", i -> x.node(i, 5), 1, 1, 3, 2, 2);
        c.due("node 2 alone", x.leastLosses(0), 1);
        x.barrier(2);
        c.due("none", x.leastLosses(0), -1);
        for (int alone = 0; alone < 3; alone++) {
            FreshDisks y = made(3, 1, false);
            y.prepare(0, 7);
            y.accept(0, 0, 1, 7 - (1 << (alone + 1) % 3));
            y.barrier((alone + 2) % 3);
            c.due("node " + alone + " alone", y.leastLosses(0), 1);
        }
    }

    /** A loss that brings a holder back does not make up for one that takes a holder away. */
    @Says(in = "Promise 23", text = "Returns the least number of nodes")
    static void leastLossesWhereALossWouldHelp(Checks c) {
        FreshDisks x = made(3, 1, false);
        x.prepare(0, 7);
        x.accept(0, 0, 1, 6);
        x.barrier(2);
        loseAll(x, 1);
        x.prepare(1, 3);
        x.accept(1, 0, 5, 4);
        c.row("on node 2", what -> x.accepted(2, 0, what), 9, 5, 8, 1);
        c.due("not protected", x.leastLosses(0), 0);
        for (int i = 0; i < 2; i++) {
            loseAll(x, i);
        }
        x.prepare(0, 3);
        c.due("the decided value again", x.accept(0, 0, 1, 3), 2);
        c.row("values in view", i -> x.accepted(i, 0, 1), 1, 1, 5);
        c.due("protected by two", x.slot(0, 5), 1);
        c.due("one of them is enough", x.leastLosses(0), 1);
        x.barrier(0);
        x.barrier(1);
        c.due("both on disks", x.leastLosses(0), -1);
    }

    @Says(in = "Promise 23", text = "Throws `IndexOutOfBoundsException` if the slot does not exist")
    static void leastLossesOfNoSlot(Checks c) {
        FreshDisks x = busy();
        for (int slot : NO_SLOTS) {
            c.index("slot " + slot, x, () -> x.leastLosses(slot));
        }
    }

    @Says(in = "Promise 23", text = "Throws `IllegalStateException` if the slot is not decided")
    static void leastLossesWithoutDecision(Checks c) {
        FreshDisks x = made(3, 2, false);
        c.state("at first", x, () -> x.leastLosses(0));
        x.prepare(0, 7);
        x.accept(0, 1, 1, 1);
        c.state("accepted by too few", x, () -> x.leastLosses(1));
        x.accept(0, 1, 1, 3);
        c.due("decided", x.leastLosses(1), 1);
        c.state("the other", x, () -> x.leastLosses(0));
        x.begin(3, 2);
        c.state("begun anew", x, () -> x.leastLosses(1));
    }

    // ---- promise 24

    @Says(in = "Promise 24", text = "Returns float.floatToIntBits of the number of messages that were not refused, as a float, "
        + "divided by the number of messages that nodes got")
    static void answeredForEachShare(Checks c) {
        for (int refused = 0; refused <= 150; refused++) {
            for (int more = 0; more <= 40; more += 4) {
                FreshDisks x = made(3, 1, true);
                x.prepare(2, 2);
                for (int i = 0; i < refused; i++) {
                    x.prepare(0, 2);
                    loseAll(x, 0);
                }
                for (int i = 0; i < more; i++) {
                    x.prepare(2, 4);
                }
                float share = (float) (1 + more) / (float) (1 + more + refused);
                c.due(refused + " refused, " + more + " more not", x.answered(), Float.floatToIntBits(share));
            }
        }
    }

    @Says(in = "Promise 24", text = "of 1.0f if there were none.")
    static void answeredWithoutMessages(Checks c) {
        FreshDisks x = made(3, 1, true);
        c.due("none", x.answered(), 0x3f800000);
        x.crash(2, 0);
        x.prepare(0, 4);
        c.due("nobody got it", x.answered(), 0x3f800000);
        x.prepare(0, 2);
        c.due("one, not refused", x.answered(), 0x3f800000);
        x.prepare(1, 1);
        x.prepare(0, 2);
        x.begin(3, 1);
        c.due("begun anew", x.answered(), 0x3f800000);
    }

    // ---- promise 25

    @Says(in = "Promise 25", text = "the sum of these numbers, as a double, divided by the number of decided slots times the number of nodes")
    static void onDisksForEachShare(Checks c) {
        for (int nodes = 3; nodes <= 7; nodes++) {
            for (int slots = 1; slots <= 4; slots++) {
                FreshDisks x = made(nodes, 4, false);
                x.prepare(0, first(nodes));
                for (int slot = 0; slot < slots; slot++) {
                    x.accept(0, slot, 1, first(nodes));
                }
                c.due("none on disks", x.onDisks(), 0.0);
                for (int i = 1; i <= nodes; i++) {
                    x.barrier(i - 1);
                    c.due("on " + i + " of " + nodes, x.onDisks(), (double) (i * slots) / (slots * nodes));
                }
                c.due("all", x.onDisks(), 1.0);
            }
        }
    }

    @Says(in = "Promise 25", text = "Returns the mean, over all decided slots")
    static void onDisksOfDecidedSlotsOnly(Checks c) {
        FreshDisks x = made(7, 4, true);
        x.prepare(0, 127);
        x.accept(0, 0, 1, 127);
        x.accept(0, 1, 1, 7);
        c.due("one decided, by all", x.onDisks(), 1.0);
        x.accept(0, 2, 1, 15);
        c.due("two decided, by seven and four", x.onDisks(), 11.0 / 14.0);
        x.accept(0, 3, 1, 31);
        c.due("three decided", x.onDisks(), 16.0 / 21.0);
        x.accept(0, 1, 1, 120);
        c.due("all decided", x.onDisks(), 23.0 / 28.0);
    }

    @Says(in = "Promise 25", text = "0.0 if no slot is decided.")
    static void onDisksWithoutDecision(Checks c) {
        FreshDisks x = made(3, 1, true);
        c.due("at first", x.onDisks(), 0.0);
        x.prepare(0, 7);
        x.accept(0, 0, 1, 1);
        c.due("accepted by too few", x.onDisks(), 0.0);
        x.accept(0, 0, 1, 3);
        c.due("decided", x.onDisks(), 2.0 / 3.0);
        x.begin(3, 1);
        c.due("begun anew", x.onDisks(), 0.0);
    }

    // ---- promise 26

    @Says(in = "Promise 26", text = "The hash starts as 1997; each value x replaces the hash by 31 * hash + x, in long arithmetic with overflow.")
    static void digestWrapsAround(Checks c) {
        long[] values = {3, 1, 2, 1, 3, 3, 0, 0, 0, 0, 0, 0,
            1, 1, 0, 0, 0, 0, 0, -1, 8, 0, 0, -1, 0, -1,
            1, 1, 0, 0, 0, 0, 0, -1, 9, 0, 0, -1, 0, -1,
            1, 1, 0, 0, 0, 0, 0, -1, 10, 0, 0, -1, 0, -1,
            -1, -1, 0, 0, 0, 0, 0,
            0x3f800000, 0, 0};
        BigInteger hash = BigInteger.valueOf(1997);
        for (long value : values) {
            hash = hash.multiply(BigInteger.valueOf(31)).add(BigInteger.valueOf(value));
        }
        c.isTrue("it is too great for a long", hash.bitLength() > 63);
        c.due("a new object", new FreshDisks().digest(), hash.longValue());
    }

    @Says(in = "Promise 26", text = "The values are, in this order: count for 0 to 11; for each node its properties 0 to 8, harmless, "
        + "for each slot accepted for 0 to 3, for each of its waiting writes the parts 0 to 2")
    static void digestOfAllKindsOfStates(Checks c) {
        hashed(c, "a busy one", "f0;p", Starts::busy);
        hashed(c, "in conflict", "", () -> inConflict(4));
        hashed(c, "four writes", "", QuestionSentences::withFourWrites);
        hashed(c, "the same ballot twice", "", Starts::sameBallotTwice);
        hashed(c, "the most nodes and slots", "", QuestionSentences::greatest);
    }

    private static FreshDisks greatest() {
        FreshDisks x = made(7, 4, false);
        for (int i = 4; i < 7; i++) {
            x.prepare(i, 127);
            x.accept(i, i % 4, i, 127);
        }
        x.barrier(3);
        return x;
    }

    @Says(in = "Promise 26", text = "and, if it has an open round, the values of the round for all slots")
    static void digestWithAndWithoutRounds(Checks c) {
        String[] steps = {"f0", "p0>012", "a0s3=9>0", "p1>012", "p2>012", "a0s2=5>012"};
        int[] rounds = {0, 1, 1, 2, 3, 2};
        for (int i = 0; i < steps.length; i++) {
            int last = i;
            Start start = () -> {
                FreshDisks x = made(3, 4, true);
                for (int step = 0; step <= last; step++) {
                    type(x, steps[step]);
                    x.load();
                }
                return x;
            };
            hashed(c, "behind step " + i, "", start);
            FreshDisks x = start.make();
            int open = 0;
            for (int node = 0; node < 3; node++) {
                open += x.node(node, 7) == -1 ? 0 : 1;
            }
            c.due("rounds behind step " + i, open, rounds[i]);
        }
    }

    @Says(in = "Promise 26", text = "for each slot its properties 0 to 6; answered; Double.doubleToLongBits of onDisks")
    static void digestOfShares(Checks c) {
        for (int i = 0; i <= 7; i++) {
            int onDisks = i;
            hashed(c, i + " on disks", "", () -> {
                FreshDisks x = made(7, 3, false);
                x.prepare(0, 127);
                x.accept(0, 0, 1, 127);
                x.accept(0, 2, 2, 127);
                x.prepare(6, 1);
                x.prepare(5, 1);
                for (int node = 0; node < onDisks; node++) {
                    x.barrier(node);
                }
                return x;
            });
        }
    }

    @Says(in = "Promise 26", text = "the length of the input buffer and each of its character codes.")
    static void digestOfEmptyAndFullBuffer(Checks c) {
        StringBuilder text = new StringBuilder();
        for (int i = 0; i < 60; i++) {
            text.append((char) (i < 30 ? 32 + i : 126 - i));
        }
        for (int length = 0; length <= 60; length++) {
            String begun = text.substring(0, length);
            hashed(c, "length " + length, begun, () -> typed(3, 1, begun));
        }
    }

    private interface Start {
        FreshDisks make();
    }

    /** The hash is put together from what another object answers that was made in the same way. */
    private static void hashed(Checks c, String what, String text, Start start) {
        c.due(what, start.make().digest(), hash(start.make(), text));
    }

    /** The hash by what the object answers, with numbers of any size. */
    private static long hash(FreshDisks x, String text) {
        List<Long> values = new ArrayList<>();
        addAll(values, 12, x::count);
        int slots = x.count(1);
        int nodes = x.count(0);
        for (int node = 0; node < nodes; node++) {
            addNode(values, x, node, slots);
        }
        for (int i = 0; i < slots; i++) {
            int slot = i;
            addAll(values, 7, what -> x.slot(slot, what));
        }
        values.add((long) x.answered());
        values.add(Double.doubleToLongBits(x.onDisks()));
        values.add((long) text.length());
        addAll(values, text.length(), text::charAt);
        BigInteger hash = BigInteger.valueOf(1997);
        for (long value : values) {
            hash = hash.multiply(BigInteger.valueOf(31)).add(BigInteger.valueOf(value));
        }
        return hash.longValue();
    }

    private static void addNode(List<Long> values, FreshDisks x, int node, int slots) {
        addAll(values, 9, what -> x.node(node, what));
        values.add((long) x.harmless(node));
        for (int i = 0; i < slots; i++) {
            int slot = i;
            addAll(values, 4, what -> x.accepted(node, slot, what));
        }
        int writes = x.node(node, 5);
        for (int i = 0; i < writes; i++) {
            int index = i;
            addAll(values, 3, what -> x.waiting(node, index, what));
        }
        if (x.node(node, 7) != -1) {
            addAll(values, slots, slot -> x.roundValue(node, slot));
        }
    }

    private static void addAll(List<Long> values, int count, Checks.Ask ask) {
        for (int i = 0; i < count; i++) {
            values.add(ask.run(i));
        }
    }
}
