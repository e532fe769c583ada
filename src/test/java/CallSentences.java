/** Promises 1 to 14: the calls that change something. */
final class CallSentences extends Starts {
    private static final int[] NO_NODES = {-1, 5, 6, 7, 8, LEAST, MOST};

    private interface NodeCall {
        int run(int node);
    }

    /** Each number beside those of the five nodes is refused, the first and the last of them are not. */
    private static void nodesOfFive(Checks c, FreshDisks x, NodeCall call) {
        for (int node : NO_NODES) {
            c.index("node " + node, x, () -> call.run(node));
        }
        c.isTrue("node 0 exists", Checks.outcome(() -> call.run(0)) != IndexOutOfBoundsException.class);
        c.isTrue("node 4 exists", Checks.outcome(() -> call.run(4)) != IndexOutOfBoundsException.class);
    }

    // ---- promise 1

    @Says(in = "Promise 1", text = "Creates 3 nodes with 1 slot; barriers are on, and the buffer is empty.")
    static void newObject(Checks c) {
        FreshDisks x = new FreshDisks();
        c.row("count", x::count, 3, 1, 2, 1, 3, 3, 0, 0, 0, 0, 0, 0);
        c.due("the buffer", x.clearInput(), 0);
        c.index("a fourth node", x, () -> x.node(3, 0));
        c.index("a second slot", x, () -> x.slot(1, 0));
        c.same("as begun", x, made(3, 1, true));
        x.prepare(0, 7);
        c.due("barriers are made", x.count(10), 0);
    }

    // ---- promise 2

    @Says(in = "Promise 2", text = "Begins anew with nodes and slots as at first")
    static void beginsAnew(Checks c) {
        FreshDisks x = inConflict(4);
        x.prepare(0, 7);
        x.accept(0, 3, 3, 7);
        x.barrier(0);
        loseDisk(x, 2);
        x.crash(1, 0);
        x.begin(3, 4);
        c.same("as an object that has done nothing", x, made(3, 4, false));
        c.row("up, joined, epoch", i -> x.node(2, i), 1, 1, 0);
        x.prepare(0, 7);
        c.row("no value is found", slot -> x.roundValue(0, slot), -1, -1, -1, -1);
    }

    @Says(in = "Promise 2", text = "Begins anew with nodes and slots as at first")
    static void nodesAndSlotsThatWereGoneComeBackAsAtFirst(Checks c) {
        FreshDisks x = made(7, 4, true);
        x.prepare(6, 127);
        x.accept(6, 3, 5, 127);
        loseDisk(x, 5);
        x.crash(4, 0);
        x.begin(3, 1);
        x.begin(7, 4);
        c.same("as at first", x, made(7, 4, true));
    }

    @Says(in = "Promise 2", text = "nothing is decided, and all counts are 0.")
    static void beginForgetsCounts(Checks c) {
        FreshDisks x = inConflict(2);
        x.prepare(0, 1);
        x.prepare(2, 1);
        x.setBarriers(false);
        c.row("before: decided, conflicts, messages, not refused, waiting, lost",
            i -> x.count(6 + i), 1, 1, 12, 11, 7, 4);
        x.begin(3, 2);
        c.row("after", i -> x.count(6 + i), 0, 0, 0, 0, 0, 0);
        c.row("slot 0", what -> x.slot(0, what), -1, -1, 0, 0, 0, 0, 0);
        c.due("answered", x.answered(), Float.floatToIntBits(1.0f));
    }

    @Says(in = "Promise 2", text = "The switch and the buffer stay.")
    static void switchAndBufferStay(Checks c) {
        for (boolean on : new boolean[] {true, false}) {
            FreshDisks x = made(3, 1, on);
            type(x, "f0;f1");
            x.begin(7, 4);
            c.due("the switch", x.count(3), on ? 1 : 0);
            c.due("the buffer", x.load(), 2);
        }
    }

    @Says(in = "Promise 2", text = "- `nodes`: 3 to 7")
    static void threeToSevenNodes(Checks c) {
        for (int nodes = 3; nodes <= 7; nodes++) {
            FreshDisks x = new FreshDisks();
            x.begin(nodes, 1);
            c.due("nodes", x.count(0), nodes);
            c.due("all of them answer", x.prepare(nodes - 1, first(nodes)), nodes);
        }
    }

    @Says(in = "Promise 2", text = "- `slots`: 1 to 4")
    static void oneToFourSlots(Checks c) {
        for (int slots = 1; slots <= 4; slots++) {
            FreshDisks x = new FreshDisks();
            x.begin(3, slots);
            c.due("slots", x.count(1), slots);
            x.prepare(0, 7);
            c.due("the last is accepted", x.accept(0, slots - 1, 1, 7), 3);
        }
    }

    @Says(in = "Promise 2", text = "Returns the previous number of nodes.")
    static void beginReturnsThePreviousNumber(Checks c) {
        FreshDisks x = new FreshDisks();
        c.due("of a new object", x.begin(7, 4), 3);
        c.due("the most", x.begin(3, 1), 7);
        c.due("the least", x.begin(3, 4), 3);
        c.index("refused", x, () -> x.node(3, 0));
        c.argument("a refused call", x, () -> x.begin(8, 1));
        c.due("leaves it", x.begin(5, 1), 3);
        c.due("the last", x.begin(5, 1), 5);
    }

    @Says(in = "Promise 2", text = "Throws `IllegalArgumentException` if nodes or slots is out of range")
    static void beginOutOfRange(Checks c) {
        FreshDisks x = busy();
        for (int nodes : new int[] {2, 8, 1, 0, -1, -3, LEAST, MOST}) {
            c.argument("nodes " + nodes, x, () -> x.begin(nodes, 1));
        }
        for (int slots : new int[] {0, 5, -1, -4, 7, LEAST, MOST}) {
            c.argument("slots " + slots, x, () -> x.begin(3, slots));
        }
        c.argument("both", x, () -> x.begin(8, 0));
    }

    // ---- promise 3

    @Says(in = "Promise 3", text = "Returns 1 if they were on, else 0.")
    static void setBarriersReturnsWhatTheyWere(Checks c) {
        FreshDisks x = new FreshDisks();
        c.due("on at first, on again", x.setBarriers(true), 1);
        c.due("on, then off", x.setBarriers(false), 1);
        c.due("off, off again", x.setBarriers(false), 0);
        c.due("off, then on", x.setBarriers(true), 0);
        c.due("on", x.setBarriers(true), 1);
    }

    // ---- promise 4

    @Says(in = "Promise 4", text = "- `reached`: the set of the nodes that are reached, 1 to 2 to the power of the number of nodes, minus 1")
    static void prepareReachesFromOneNodeToAll(Checks c) {
        for (int nodes = 3; nodes <= 7; nodes++) {
            FreshDisks x = made(nodes, 1, true);
            int all = first(nodes);
            c.due("the least set", x.prepare(0, 1), 1);
            c.due("the greatest set", x.prepare(0, all), nodes);
            c.argument("one less than the least", x, () -> x.prepare(0, 0));
            c.argument("one more than the greatest", x, () -> x.prepare(0, all + 1));
        }
    }

    @Says(in = "Promise 4", text = "Returns the number of promises.")
    static void prepareReturnsPromises(Checks c) {
        FreshDisks x = made(5, 1, true);
        c.due("all", x.prepare(0, 31), 5);
        x.prepare(4, 16);
        c.due("one refuses", x.prepare(1, 31), 4);
        x.crash(3, 0);
        c.due("one refuses no more, one is down", x.prepare(1, 31), 4);
        c.due("none gets it", x.prepare(1, 8), 0);
        x.prepare(0, 1);
        c.due("the only one refuses", x.prepare(2, 1), 0);
    }

    @Says(in = "Promise 4", text = "Throws `IndexOutOfBoundsException` if the node does not exist")
    static void prepareWithoutNode(Checks c) {
        FreshDisks x = made(5, 1, true);
        nodesOfFive(c, x, node -> x.prepare(node, 1));
    }

    @Says(in = "Promise 4", text = "Throws `IllegalArgumentException` if reached is out of range")
    static void prepareOutOfRange(Checks c) {
        FreshDisks x = made(5, 1, true);
        x.prepare(0, 31);
        for (int reached : new int[] {0, 32, 33, 63, 64, -1, -31, LEAST, MOST}) {
            c.argument("reached " + reached, x, () -> x.prepare(0, reached));
        }
    }

    @Says(in = "Promise 4", text = "Throws `IllegalStateException` if the node is down, or has not joined")
    static void prepareWhenDownOrNotJoined(Checks c) {
        FreshDisks x = made(3, 1, true);
        x.crash(0, 0);
        c.state("down", x, () -> x.prepare(0, 7));
        x.restart(0);
        c.due("up again", x.prepare(0, 7), 3);
        x.crash(0, 0);
        x.wipe(0);
        c.state("down, not joined", x, () -> x.prepare(0, 7));
        x.restart(0);
        c.state("up, not joined", x, () -> x.prepare(0, 7));
        x.rejoin(0, 6);
        c.due("joined again", x.prepare(0, 7), 3);
    }

    // ---- promise 5

    @Says(in = "Promise 5", text = "- `value`: 0 to 9")
    static void acceptTakesValuesZeroToNine(Checks c) {
        for (int value = 0; value <= 9; value++) {
            FreshDisks x = made(3, 1, true);
            x.prepare(0, 7);
            c.due("accepted", x.accept(0, 0, value, 7), 3);
            c.due("the value", x.accepted(1, 0, 1), value);
        }
    }

    @Says(in = "Promise 5", text = "- `reached`: the set of the nodes that are reached, as for prepare")
    static void acceptReachesFromOneNodeToAll(Checks c) {
        for (int nodes = 3; nodes <= 7; nodes++) {
            FreshDisks x = made(nodes, 1, true);
            int all = first(nodes);
            x.prepare(0, all);
            c.due("the least set", x.accept(0, 0, 1, 1), 1);
            c.due("the greatest set", x.accept(0, 0, 1, all), nodes);
            c.argument("one less than the least", x, () -> x.accept(0, 0, 1, 0));
            c.argument("one more than the greatest", x, () -> x.accept(0, 0, 1, all + 1));
        }
    }

    @Says(in = "Promise 5", text = "Returns the number of nodes that accept.")
    static void acceptReturnsAcceptances(Checks c) {
        FreshDisks x = made(5, 1, true);
        x.prepare(0, 31);
        x.crash(3, 0);
        c.due("one is down", x.accept(0, 0, 1, 31), 4);
        c.due("none gets it", x.accept(0, 0, 1, 8), 0);
        x.prepare(4, 16);
        c.due("one refuses", x.accept(0, 0, 1, 31), 3);
        x.prepare(1, 7);
        x.prepare(2, 1);
        c.due("the only one refuses", x.accept(1, 0, 1, 1), 0);
    }

    @Says(in = "Promise 5", text = "Throws `IndexOutOfBoundsException` if the node or the slot does not exist")
    static void acceptWithoutNodeOrSlot(Checks c) {
        FreshDisks x = made(5, 2, true);
        x.prepare(0, 31);
        nodesOfFive(c, x, node -> x.accept(node, 0, 1, 1));
        for (int slot : new int[] {-1, 2, 3, 4, LEAST, MOST}) {
            c.index("slot " + slot, x, () -> x.accept(0, slot, 1, 1));
        }
        c.due("the last slot", x.accept(0, 1, 1, 1), 1);
    }

    @Says(in = "Promise 5", text = "Throws `IllegalArgumentException` if value or reached is out of range")
    static void acceptOutOfRange(Checks c) {
        FreshDisks x = made(5, 1, true);
        x.prepare(0, 31);
        for (int value : new int[] {-1, 10, 11, LEAST, MOST}) {
            c.argument("value " + value, x, () -> x.accept(0, 0, value, 1));
        }
        for (int reached : new int[] {0, 32, 63, 64, -1, -31, LEAST, MOST}) {
            c.argument("reached " + reached, x, () -> x.accept(0, 0, 1, reached));
        }
        c.due("the round has no value by that", x.roundValue(0, 0), -1);
    }

    @Says(in = "Promise 5", text = "Throws `IllegalStateException` if the node has no open round")
    static void acceptWithoutRound(Checks c) {
        FreshDisks x = made(3, 1, true);
        c.state("at first", x, () -> x.accept(0, 0, 1, 7));
        x.prepare(0, 1);
        c.state("too few promises", x, () -> x.accept(0, 0, 1, 7));
        x.prepare(0, 7);
        c.state("another node's round", x, () -> x.accept(1, 0, 1, 7));
        c.due("its own", x.accept(0, 0, 1, 7), 3);
        x.prepare(1, 7);
        c.due("refused by all", x.accept(0, 0, 1, 7), 0);
        c.state("ended by a refusal", x, () -> x.accept(0, 0, 1, 7));
        x.crash(1, 0);
        c.state("down", x, () -> x.accept(1, 0, 1, 7));
        x.restart(1);
        c.state("ended by a crash", x, () -> x.accept(1, 0, 1, 7));
    }

    // ---- promise 6

    @Says(in = "Promise 6", text = "Returns how many writes waited.")
    static void barrierReturnsWhatWaited(Checks c) {
        FreshDisks x = made(3, 1, false);
        c.due("none", x.barrier(0), 0);
        for (int i = 0; i < 100; i++) {
            x.prepare(0, 2);
        }
        c.due("a hundred", x.barrier(1), 100);
        c.due("then none", x.barrier(1), 0);
        x.prepare(0, 2);
        c.due("then one", x.barrier(1), 1);
        loseDisk(x, 1);
        c.due("of a node that has not joined", x.barrier(1), 0);
    }

    @Says(in = "Promise 6", text = "Throws `IndexOutOfBoundsException` if the node does not exist")
    static void barrierWithoutNode(Checks c) {
        FreshDisks x = made(5, 1, true);
        nodesOfFive(c, x, x::barrier);
    }

    @Says(in = "Promise 6", text = "Throws `IllegalStateException` if the node is down")
    static void barrierWhenDown(Checks c) {
        FreshDisks x = made(3, 1, false);
        x.crash(1, 0);
        c.state("down", x, () -> x.barrier(1));
        x.wipe(1);
        c.state("wiped", x, () -> x.barrier(1));
        x.restart(1);
        c.due("up again", x.barrier(1), 0);
    }

    // ---- promise 7

    @Says(in = "Promise 7", text = "- `lost`: how many writes are lost at most, 0 or more (all that wait, if there are fewer)")
    static void crashLosesFromNoneToAll(Checks c) {
        int[][] cases = {{0, 0}, {1, 1}, {2, 2}, {3, 3}, {4, 3}, {1000, 3}, {MOST, 3}};
        for (int[] it : cases) {
            FreshDisks x = made(3, 1, false);
            for (int i = 0; i < 3; i++) {
                x.prepare(0, 7);
            }
            c.due("lost by " + it[0], x.crash(1, it[0]), it[1]);
            c.due("promised", x.node(1, 4), 8 * (3 - it[1]));
        }
        FreshDisks none = made(3, 1, false);
        c.due("of none", none.crash(0, 0), 0);
        c.due("all of none", none.crash(1, 5), 0);
    }

    @Says(in = "Promise 7", text = "Returns how many were lost.")
    static void crashReturnsWhatWasLost(Checks c) {
        FreshDisks x = made(3, 1, false);
        x.prepare(0, 7);
        x.prepare(0, 6);
        c.due("the one that waits", x.crash(0, 2), 1);
        c.due("both", x.crash(1, 2), 2);
        c.due("none of two", x.crash(2, 0), 0);
        c.due("in all", x.count(11), 3);
    }

    @Says(in = "Promise 7", text = "Throws `IndexOutOfBoundsException` if the node does not exist")
    static void crashWithoutNode(Checks c) {
        FreshDisks x = made(5, 1, true);
        nodesOfFive(c, x, node -> x.crash(node, 0));
    }

    @Says(in = "Promise 7", text = "Throws `IllegalArgumentException` if lost is less than 0")
    static void crashWithFewerThanNone(Checks c) {
        FreshDisks x = busy();
        c.argument("-1", x, () -> x.crash(0, -1));
        c.argument("the least", x, () -> x.crash(0, LEAST));
        c.due("0", x.crash(0, 0), 0);
    }

    @Says(in = "Promise 7", text = "Throws `IllegalStateException` if the node is down")
    static void crashWhenDown(Checks c) {
        FreshDisks x = made(3, 1, true);
        x.crash(0, 0);
        c.state("down", x, () -> x.crash(0, 0));
        x.wipe(0);
        c.state("wiped", x, () -> x.crash(0, 0));
        x.restart(0);
        c.due("up, not joined", x.crash(0, 0), 0);
    }

    // ---- promise 8

    @Says(in = "Promise 8", text = "Returns in how many slots it had an accepted value on its disk.")
    static void wipeReturnsSlots(Checks c) {
        for (int slots = 0; slots <= 4; slots++) {
            FreshDisks x = made(3, 4, false);
            x.prepare(0, 7);
            for (int slot = 0; slot < slots; slot++) {
                x.accept(0, slot, 0, 7);
                x.accept(0, slot, 0, 7);
            }
            x.crash(1, 0);
            c.due("slots, also with value 0", x.wipe(1), slots);
            c.due("wiped again", x.wipe(1), 0);
            x.crash(2, MOST);
            c.due("all lost before", x.wipe(2), 0);
        }
    }

    @Says(in = "Promise 8", text = "Throws `IndexOutOfBoundsException` if the node does not exist")
    static void wipeWithoutNode(Checks c) {
        FreshDisks x = made(5, 1, true);
        nodesOfFive(c, x, x::wipe);
    }

    @Says(in = "Promise 8", text = "Throws `IllegalStateException` if the node is up")
    static void wipeWhenUp(Checks c) {
        FreshDisks x = busy();
        c.state("up", x, () -> x.wipe(0));
        c.state("up, not joined", x, () -> x.wipe(3));
        x.restart(2);
        c.state("up again", x, () -> x.wipe(2));
    }

    // ---- promise 9

    @Says(in = "Promise 9", text = "Returns its epoch then.")
    static void restartReturnsEpoch(Checks c) {
        FreshDisks x = made(3, 1, true);
        for (int epoch = 1; epoch <= 100; epoch++) {
            x.crash(1, 0);
            c.due("epoch", x.restart(1), epoch);
        }
        x.crash(0, 0);
        c.due("of another node", x.restart(0), 1);
    }

    @Says(in = "Promise 9", text = "Throws `IndexOutOfBoundsException` if the node does not exist")
    static void restartWithoutNode(Checks c) {
        FreshDisks x = made(5, 1, true);
        nodesOfFive(c, x, x::restart);
    }

    @Says(in = "Promise 9", text = "Throws `IllegalStateException` if the node is up")
    static void restartWhenUp(Checks c) {
        FreshDisks x = busy();
        c.state("up", x, () -> x.restart(0));
        c.state("up, not joined", x, () -> x.restart(3));
        x.restart(2);
        c.state("up again", x, () -> x.restart(2));
    }

    // ---- promise 10

    @Says(in = "Promise 10", text = "- `reached`: the set of the nodes that are reached, as for prepare (the node itself does not count)")
    static void rejoinReachesFromOneNodeToAll(Checks c) {
        for (int nodes = 3; nodes <= 7; nodes++) {
            FreshDisks x = made(nodes, 1, true);
            int all = first(nodes);
            loseDisk(x, 0);
            c.argument("one less than the least", x, () -> x.rejoin(0, 0));
            c.argument("one more than the greatest", x, () -> x.rejoin(0, all + 1));
            c.due("the least set is the node itself", x.rejoin(0, 1), 0);
            c.due("another node alone", x.rejoin(0, 2), 1);
            c.due("itself and another", x.rejoin(0, 3), 1);
            c.due("the greatest set", x.rejoin(0, all), nodes - 1);
        }
    }

    @Says(in = "Promise 10", text = "Returns from how many nodes it could read; it has joined if that is at least q.")
    static void rejoinReturnsNodesToReadFrom(Checks c) {
        for (int nodes = 3; nodes <= 7; nodes++) {
            for (int others = 1; others < nodes; others++) {
                FreshDisks x = made(nodes, 1, true);
                loseDisk(x, 0);
                c.due("others", x.rejoin(0, first(others + 1)), others);
                c.due(others + " of " + nodes, x.node(0, 1), others >= quorum(nodes) ? 1 : 0);
            }
        }
    }

    @Says(in = "Promise 10", text = "Throws `IndexOutOfBoundsException` if the node does not exist")
    static void rejoinWithoutNode(Checks c) {
        FreshDisks x = made(5, 1, true);
        loseDisk(x, 0);
        loseDisk(x, 4);
        nodesOfFive(c, x, node -> x.rejoin(node, 1));
    }

    @Says(in = "Promise 10", text = "Throws `IllegalArgumentException` if reached is out of range")
    static void rejoinOutOfRange(Checks c) {
        FreshDisks x = made(5, 1, true);
        loseDisk(x, 0);
        for (int reached : new int[] {0, 32, 33, 63, 64, -1, -31, LEAST, MOST}) {
            c.argument("reached " + reached, x, () -> x.rejoin(0, reached));
        }
        c.due("not joined", x.node(0, 1), 0);
    }

    @Says(in = "Promise 10", text = "Throws `IllegalStateException` if the node is down, or has joined")
    static void rejoinWhenDownOrJoined(Checks c) {
        FreshDisks x = made(3, 1, true);
        c.state("up, joined", x, () -> x.rejoin(0, 7));
        x.crash(0, 0);
        c.state("down, joined", x, () -> x.rejoin(0, 7));
        x.wipe(0);
        c.state("down, not joined", x, () -> x.rejoin(0, 7));
        x.restart(0);
        c.due("up, not joined", x.rejoin(0, 7), 2);
        c.state("joined again", x, () -> x.rejoin(0, 7));
    }

    // ---- promise 11

    @Says(in = "Promise 11", text = "Returns the new length of the buffer.")
    static void appendReturnsLength(Checks c) {
        FreshDisks x = new FreshDisks();
        for (int length = 1; length <= 60; length++) {
            c.due("length", x.append(length + 40), length);
        }
        x.clearInput();
        c.due("from the beginning", x.append('f'), 1);
        x.append('0');
        x.load();
        c.due("behind load", x.append('f'), 1);
    }

    @Says(in = "Promise 11", text = "Throws `IllegalArgumentException` if code is not 32 to 126")
    static void appendCodes(Checks c) {
        for (int code = -300; code <= 300; code++) {
            FreshDisks x = new FreshDisks();
            int it = code;
            if (code >= 32 && code <= 126) {
                c.due("code " + code, x.append(code), 1);
            } else {
                c.argument("code " + code, x, () -> x.append(it));
            }
        }
        FreshDisks x = new FreshDisks();
        for (int code : new int[] {LEAST, MOST, 65536 + 'f', 256 + 'f', LEAST + 'f'}) {
            c.argument("code " + code, x, () -> x.append(code));
        }
        c.due("nothing was appended", x.clearInput(), 0);
    }

    @Says(in = "Promise 11", text = "Throws `IllegalStateException` if the buffer has 60 characters")
    static void appendWhenFull(Checks c) {
        FreshDisks x = new FreshDisks();
        type(x, "f".repeat(59));
        c.due("the last that has room", x.append('0'), 60);
        c.state("one more", x, () -> x.append('0'));
        c.state("once more", x, () -> x.append(' '));
        x.clearInput();
        c.due("room again", x.append('0'), 1);
    }

    // ---- promise 12

    @Says(in = "Promise 12", text = "Clears the input buffer.")
    static void clearInputClears(Checks c) {
        FreshDisks x = typed(3, 1, "x");
        c.due("an error", x.firstError(), 0);
        x.clearInput();
        c.same("as if nothing had been typed", x, made(3, 1, true));
        type(x, "f0");
        c.due("nothing is left", x.load(), 1);
    }

    @Says(in = "Promise 12", text = "Returns the length that it had.")
    static void clearInputReturnsLength(Checks c) {
        FreshDisks x = new FreshDisks();
        c.due("empty", x.clearInput(), 0);
        x.append('f');
        c.due("one", x.clearInput(), 1);
        c.due("empty again", x.clearInput(), 0);
        type(x, "f".repeat(60));
        c.due("full", x.clearInput(), 60);
        c.due("empty again", x.clearInput(), 0);
    }

    // ---- promise 13

    @Says(in = "Promise 13", text = "Returns the index of the first character that is a syntax error")
    static void firstErrorAtEachIndex(Checks c) {
        String text = "f0;".repeat(20);
        for (int index = 0; index < 60; index++) {
            FreshDisks x = typed(3, 1, text.substring(0, index) + "?" + text.substring(index + 1));
            c.due("index", x.firstError(), index);
            FreshDisks last = typed(3, 1, text.substring(0, index) + "?");
            c.due("the last character", last.firstError(), index);
            FreshDisks two = typed(3, 1, text.substring(0, index) + "?".repeat(60 - index));
            c.due("the first of several", two.firstError(), index);
        }
    }

    @Says(in = "Promise 13", text = "the length of the buffer if there is none.")
    static void firstErrorIsTheLengthIfThereIsNone(Checks c) {
        String text = "f0;".repeat(20);
        for (int length = 0; length <= 60; length++) {
            FreshDisks x = typed(3, 1, text.substring(0, length));
            c.due("complete or not", x.firstError(), length);
            c.due("asked again", x.firstError(), length);
            c.due("the buffer stays", x.clearInput(), length);
        }
    }

    // ---- promise 14

    @Says(in = "Promise 14", text = "Carries out the events in the buffer, one after the other, and clears the buffer.")
    static void loadCarriesOutInOrder(Checks c) {
        FreshDisks x = made(3, 1, false);
        FreshDisks y = made(3, 1, false);
        type(x, "p0>012;a0s0=5>012;c0-1;r0;p1>02;c1-9;w1;r1;j1>012;f0;p1>12");
        c.due("all events", x.load(), 11);
        y.prepare(0, 7);
        y.accept(0, 0, 5, 7);
        y.crash(0, 1);
        y.restart(0);
        y.prepare(1, 5);
        y.crash(1, 9);
        y.wipe(1);
        y.restart(1);
        y.rejoin(1, 7);
        y.barrier(0);
        y.prepare(1, 6);
        c.same("as the calls, with an empty buffer", x, y);
        c.argument("the buffer is empty", x, x::load);
    }

    @Says(in = "Promise 14", text = "and clears the buffer.")
    static void loadClearsTheBufferEvenIfNothingIsCarriedOut(Checks c) {
        FreshDisks x = typed(3, 1, "r0;w0");
        c.due("nothing is carried out", x.load(), 0);
        c.due("the buffer is empty", x.clearInput(), 0);
        c.same("nothing is changed", x, made(3, 1, true));
    }

    @Says(in = "Promise 14", text = "Events for which prepare, accept, barrier, crash, wipe, restart or rejoin would throw an exception are left out.")
    static void loadLeavesOutWhatWouldThrow(Checks c) {
        String[] leftOut = {"p2>0123", "p3>0123", "a1s0=1>0", "a2s0=1>0", "f2", "c2-0", "w0", "w3", "r0", "r3",
            "j0>0123", "j2>0123"};
        for (String text : leftOut) {
            FreshDisks x = busy();
            x.clearInput();
            long before = x.digest();
            type(x, text);
            c.due(text, x.load(), 0);
            c.due(text + " changes nothing", x.digest(), before);
            type(x, text + ";c1-0;" + text);
            c.isTrue("the events around it are carried out", x.load() >= 1);
            c.due("node 1 is down", x.node(1, 0), 0);
        }
    }

    /** An event that could not be carried out first can be so behind others. */
    @Says(in = "Promise 14", text = "Events for which prepare, accept, barrier, crash, wipe, restart or rejoin would throw an exception are left out.")
    static void loadAsksAtTheTimeOfTheEvent(Checks c) {
        FreshDisks x = typed(3, 1, "r0;c0-0;r0;c0-0;c0-0;w0;p0>0;r0;p0>0;j0>0;j0>12;j0>12");
        c.due("carried out", x.load(), 7);
        c.row("up, joined, epoch", i -> x.node(0, i), 1, 1, 2);
    }

    @Says(in = "Promise 14", text = "Returns how many events were carried out.")
    static void loadReturnsEvents(Checks c) {
        for (int events = 1; events <= 20; events++) {
            FreshDisks x = typed(3, 1, "f0;".repeat(events - 1) + "f0");
            c.due("all", x.load(), events);
            FreshDisks y = typed(3, 1, "r0;".repeat(events - 1) + "f0");
            c.due("one", y.load(), 1);
            FreshDisks z = typed(3, 1, "r0;".repeat(events - 1) + "r0");
            c.due("none", z.load(), 0);
        }
        FreshDisks few = made(3, 1, true);
        few.crash(1, 0);
        loseDisk(few, 0);
        type(few, "j0>12;p2>1");
        c.due("without success, but carried out", few.load(), 2);
    }

    @Says(in = "Promise 14", text = "Throws `IllegalArgumentException` if the buffer is not a complete text")
    static void loadOfWhatIsNotComplete(Checks c) {
        String[] texts = {"", "f", "f0;", "f0;f", ";", "f0;;", "p0", "p0>", "a0", "a0s", "a0s0", "a0s0=", "a0s0=1", "a0s0=1>",
            "c0", "c0-", "j0", "j0>", "w", "r", "x", "f3", "p0>3", "p0>10", "a0s1=0>0", "f0 ", " f0", "f0;".repeat(20)};
        for (String text : texts) {
            FreshDisks x = typed(3, 1, text);
            c.argument("'" + text + "'", x, x::load);
            c.due("the buffer stays", x.clearInput(), text.length());
        }
    }
}
