/** The description: crashes, holders and exceptions. */
final class CrashSentences extends Starts {
    private static final String D = "Description";

    /** Three nodes, two slots, where three writes wait on each: a promise of 8, slot 0 with 2, slot 1 with 3. */
    private static FreshDisks withThreeWrites() {
        FreshDisks x = made(3, 2, false);
        x.prepare(0, 7);
        x.accept(0, 0, 2, 7);
        x.accept(0, 1, 3, 7);
        return x;
    }

    @Says(in = D, text = "When a node crashes, its last waiting writes are lost, as many as is told; the others are carried out on its disk.")
    static void lossOfNoneToAll(Checks c) {
        int[][] onDisk = {{8, 2, 3}, {8, 2, -1}, {8, -1, -1}, {0, -1, -1}, {0, -1, -1}};
        for (int lost = 0; lost <= 4; lost++) {
            FreshDisks x = withThreeWrites();
            c.due("lost of three by " + lost, x.crash(1, lost), Math.min(lost, 3));
            int[] due = onDisk[lost];
            c.row("on disk", i -> i == 0 ? x.node(1, 4) : x.accepted(1, i - 1, 3), due);
            c.row("in view", i -> i == 0 ? x.node(1, 3) : x.accepted(1, i - 1, 1), due);
            c.due("none waits", x.node(1, 5), 0);
            c.row("on other nodes they wait", i -> x.node(i, 5), 3, 0, 3);
        }
    }

    @Says(in = D, text = "When a node crashes, its last waiting writes are lost")
    static void whatIsOnTheDiskIsNotLost(Checks c) {
        FreshDisks x = withThreeWrites();
        x.barrier(1);
        x.prepare(2, 2);
        c.due("only the one that waits", x.crash(1, MOST), 1);
        c.due("promised", x.node(1, 4), 8);
        c.row("accepted", slot -> x.accepted(1, slot, 3), 2, 3);
    }

    @Says(in = D, text = "It is down then, its round ends, and the ballot it has seen becomes 0.")
    static void whatACrashEnds(Checks c) {
        FreshDisks x = made(3, 1, true);
        x.prepare(0, 7);
        c.row("before: up, joined, round, seen", i -> x.node(0, new int[] {0, 1, 7, 6}[i]), 1, 1, 8, 8);
        x.crash(0, 0);
        c.row("after: up, joined, round, seen", i -> x.node(0, new int[] {0, 1, 7, 6}[i]), 0, 1, -1, 0);
        x.restart(0);
        c.row("restarted: up, joined, round, seen", i -> x.node(0, new int[] {0, 1, 7, 6}[i]), 1, 1, -1, 0);
        c.state("the round is not taken up again", x, () -> x.accept(0, 0, 1, 7));
    }

    @Says(in = D, text = "A node that is down can be wiped: its disk becomes as at first, and it has not joined any more.")
    static void wipedDisk(Checks c) {
        FreshDisks x = made(3, 4, true);
        x.prepare(0, 7);
        for (int slot = 0; slot < 4; slot++) {
            x.accept(0, slot, slot, 7);
        }
        x.crash(1, 0);
        x.wipe(1);
        c.row("promised", i -> x.node(1, 3 + i), 0, 0);
        for (int what = 0; what < 4; what++) {
            int none = what % 2 == 0 ? 0 : -1;
            int part = what;
            c.row("accepted " + what, slot -> x.accepted(1, slot, part), none, none, none, none);
        }
        c.due("not joined", x.node(1, 1), 0);
        c.due("still down", x.node(1, 0), 0);
        x.restart(1);
        c.due("not joined when it is up again", x.node(1, 1), 0);
        c.due("others stay", x.accepted(2, 3, 3), 3);
        FreshDisks y = made(3, 1, true);
        y.crash(1, 0);
        y.restart(1);
        c.due("a crash alone leaves it joined", y.node(1, 1), 1);
    }

    @Says(in = D, text = "When a node is restarted, it is up again, and its epoch increases by 1.")
    static void epochsByRestart(Checks c) {
        FreshDisks x = made(3, 1, true);
        for (int epoch = 1; epoch <= 20; epoch++) {
            x.crash(2, 0);
            c.due("not by a crash", x.node(2, 2), epoch - 1);
            x.wipe(2);
            c.due("nor by a wipe", x.node(2, 2), epoch - 1);
            x.restart(2);
            c.due("by a restart", x.node(2, 2), epoch);
            c.due("up", x.node(2, 0), 1);
            x.rejoin(2, 3);
            c.due("nor when it joins", x.node(2, 2), epoch);
        }
        c.due("of this node alone", x.node(1, 2), 0);
    }

    @Says(in = D, text = "A node that is up and has not joined can join again: it reads from a set of other nodes, "
        + "those of them that are up and have joined.")
    static void readsFromOthersThatAreUpAndHaveJoined(Checks c) {
        FreshDisks x = made(7, 1, true);
        loseDisk(x, 0);
        c.due("not from itself", x.rejoin(0, 1), 0);
        c.due("not from itself among others", x.rejoin(0, 7), 2);
        x.crash(1, 0);
        c.due("not from one that is down", x.rejoin(0, 7), 1);
        loseDisk(x, 2);
        c.due("not from one that has not joined", x.rejoin(0, 7), 0);
        x.restart(1);
        x.crash(2, 0);
        c.due("nor if it is down as well", x.rejoin(0, 7), 1);
        c.due("from all that remain", x.rejoin(0, 127), 5);
        c.due("joined", x.node(0, 1), 1);
    }

    @Says(in = D, text = "If there are at least q of them, its disk gets the greatest promised ballot of their views")
    static void joinsWithAQuorumOfOthers(Checks c) {
        for (int nodes = 3; nodes <= 7; nodes++) {
            FreshDisks x = made(nodes, 1, false);
            int last = nodes - 1;
            int q = quorum(nodes);
            x.prepare(0, 2);
            x.prepare(1, 1);
            loseDisk(x, last);
            c.due("one too few", x.rejoin(last, first(q - 1)), q - 1);
            c.due("has not joined", x.node(last, 1), 0);
            c.due("just enough", x.rejoin(last, first(q)), q);
            c.due("has joined", x.node(last, 1), 1);
            c.row("promised 8 and 9 there", i -> x.node(i, 3), 9, 8);
            c.row("the greatest in its view, on its disk", i -> x.node(last, 3 + i), 9, 9);
            c.due("none waits", x.node(last, 5), 0);
        }
    }

    @Says(in = D, text = "and for each slot the accepted ballot and value of that view of them that has the greatest accepted ballot")
    static void joinsWithTheNewestValues(Checks c) {
        FreshDisks x = made(5, 3, false);
        x.prepare(1, 31);
        x.accept(1, 0, 5, 4);
        x.accept(1, 1, 6, 2);
        x.prepare(2, 25);
        x.accept(2, 0, 7, 2);
        x.accept(2, 1, 8, 4);
        loseDisk(x, 0);
        c.due("reads", x.rejoin(0, 30), 4);
        c.row("slot 0 from node 1", what -> x.accepted(0, 0, what), 10, 7, 10, 7);
        c.row("slot 1 from node 2", what -> x.accepted(0, 1, what), 10, 8, 10, 8);
        c.row("slot 2 from none", what -> x.accepted(0, 2, what), 0, -1, 0, -1);
    }

    @Says(in = D, text = "of several that of the lowest node (if that is 0, the slot stays as it is)")
    static void joinsWithTheLowestOfSeveral(Checks c) {
        FreshDisks x = sameBallotTwice();
        loseDisk(x, 0);
        c.due("reads from all others", x.rejoin(0, 30), 4);
        c.row("that of node 1", what -> x.accepted(0, 0, what), 8, 2, 8, 2);
        FreshDisks y = sameBallotTwice();
        loseDisk(y, 1);
        loseDisk(y, 2);
        c.due("reads from three", y.rejoin(2, 31), 3);
        c.row("that of node 3", what -> y.accepted(2, 0, what), 8, 1, 8, 1);
    }

    @Says(in = D, text = "(if that is 0, the slot stays as it is)")
    static void joinsWithNothingAccepted(Checks c) {
        FreshDisks x = made(3, 4, true);
        x.prepare(0, 7);
        x.accept(0, 2, 0, 3);
        loseDisk(x, 2);
        x.rejoin(2, 3);
        c.row("ballots", slot -> x.accepted(2, slot, 2), 0, 0, 8, 0);
        c.row("values", slot -> x.accepted(2, slot, 3), -1, -1, 0, -1);
        FreshDisks y = made(5, 1, true);
        y.prepare(0, 31);
        y.accept(0, 0, 6, 1);
        loseDisk(y, 4);
        y.prepare(0, 15);
        c.due("found by a round before", y.roundValue(0, 0), 6);
        c.due("read from others", y.rejoin(4, 14), 3);
        c.row("that have nothing", what -> y.accepted(4, 0, what), 0, -1, 0, -1);
    }

    @Says(in = D, text = "it has joined then, and each of these promised ballots is told to it.")
    static void promisedBallotsAreToldToTheOneThatJoins(Checks c) {
        FreshDisks x = made(5, 1, true);
        x.prepare(0, 2);
        x.prepare(4, 4);
        x.prepare(3, 8);
        loseDisk(x, 0);
        c.due("seen before", x.node(0, 6), 0);
        c.due("reads", x.rejoin(0, 14), 3);
        c.row("promised 8, 12 and 11 there", i -> x.node(1 + i, 3), 8, 12, 11);
        c.due("the greatest is seen", x.node(0, 6), 12);
        c.due("and the next is above it", x.node(0, 8), 16);
        c.due("it takes part again", x.prepare(0, 31), 5);
    }

    @Says(in = D, text = "If there are fewer, nothing is changed.")
    static void tooFewToReadFrom(Checks c) {
        for (int nodes = 3; nodes <= 7; nodes++) {
            FreshDisks x = made(nodes, 1, false);
            x.prepare(1, first(nodes));
            x.accept(1, 0, 3, first(nodes));
            loseDisk(x, 0);
            long before = x.digest();
            int fewer = first(quorum(nodes)) - 1;
            c.due("none", x.rejoin(0, 1), 0);
            c.due("one too few", x.rejoin(0, fewer), quorum(nodes) - 1);
            c.due("nothing is changed", x.digest(), before);
        }
    }

    @Says(in = D, text = "A node holds a decided slot if the accepted value of its view is the decided value, "
        + "and the accepted ballot of its view is at least that of the decision")
    static void holdersByBallot(Checks c) {
        FreshDisks x = made(7, 1, true);
        x.prepare(0, 127);
        x.accept(0, 0, 4, 1);
        x.prepare(1, 126);
        c.due("decided by four", x.accept(1, 0, 4, 30), 4);
        c.row("ballots", i -> x.accepted(i, 0, 0), 8, 9, 9, 9, 9, 0, 0);
        c.due("the same ballot holds it, one less does not", x.slot(0, 3), 4);
        x.prepare(2, 127);
        x.accept(2, 0, 4, 32);
        c.due("one more holds it", x.slot(0, 3), 5);
        x.accept(2, 0, 4, 1);
        c.due("so does the one that was too old", x.slot(0, 3), 6);
    }

    @Says(in = D, text = "A node holds a decided slot if the accepted value of its view is the decided value")
    static void otherValuesDoNotHold(Checks c) {
        FreshDisks x = inConflict(1);
        c.row("greater ballots, another value", i -> x.accepted(i, 0, 0), 9, 9, 9);
        c.due("none holds it", x.slot(0, 3), 0);
        FreshDisks y = sameBallotTwice();
        c.due("the ballot of the round", y.accept(0, 0, 2, 7), 3);
        c.row("decided", what -> y.slot(0, what), 8, 2);
        c.due("the same ballot with another value does not hold it", y.slot(0, 3), 3);
    }

    @Says(in = D, text = "it holds it on its disk if that is so for its disk.")
    static void holdersOnDisks(Checks c) {
        FreshDisks x = made(3, 1, false);
        x.prepare(0, 7);
        x.accept(0, 0, 1, 7);
        c.row("by views, on disks", i -> x.slot(0, 3 + i), 3, 0);
        x.barrier(2);
        c.row("one barrier", i -> x.slot(0, 3 + i), 3, 1);
        x.crash(1, 1);
        c.row("a loss", i -> x.slot(0, 3 + i), 2, 1);
        x.crash(0, 0);
        c.row("no loss", i -> x.slot(0, 3 + i), 2, 2);
        x.wipe(0);
        c.row("a wipe", i -> x.slot(0, 3 + i), 1, 1);
    }

    /** The view of a node may hold a slot no more that its disk holds still. */
    @Says(in = D, text = "it holds it on its disk if that is so for its disk.")
    static void heldOnTheDiskButNotInTheView(Checks c) {
        FreshDisks x = made(3, 1, false);
        x.prepare(0, 7);
        x.accept(0, 0, 1, 6);
        x.barrier(2);
        loseAll(x, 1);
        x.prepare(1, 3);
        c.due("another value", x.accept(1, 0, 5, 7), 3);
        c.row("on node 2", what -> x.accepted(2, 0, what), 9, 5, 8, 1);
        c.row("by views, on disks", i -> x.slot(0, 3 + i), 0, 1);
    }

    @Says(in = D, text = "All nodes count, also those that are down or have not joined.")
    static void nodesThatAreDownCount(Checks c) {
        FreshDisks x = made(3, 1, true);
        x.prepare(0, 7);
        x.accept(0, 0, 1, 7);
        for (int i = 0; i < 3; i++) {
            x.crash(i, 0);
            c.row("down, by views, on disks, protected", what -> x.slot(0, 3 + what), 3, 3, 1);
        }
        x.wipe(0);
        c.row("one does not hold it", what -> x.slot(0, 3 + what), 2, 2, 1);
        x.wipe(1);
        c.row("two that have not joined count as well", what -> x.slot(0, 3 + what), 1, 1, 0);
    }

    @Says(in = D, text = "A decided slot is protected if fewer than q nodes do not hold it.")
    static void protectedUpToAQuorumWithout(Checks c) {
        int[] needed = {2, 2, 3, 3, 4};
        for (int nodes = 3; nodes <= 7; nodes++) {
            FreshDisks x = made(nodes, 1, true);
            x.prepare(0, first(nodes));
            x.accept(0, 0, 1, first(nodes));
            for (int holders = nodes; holders >= 0; holders--) {
                c.due("holders", x.slot(0, 3), holders);
                c.due(holders + " of " + nodes, x.slot(0, 5), holders >= needed[nodes - 3] ? 1 : 0);
                if (holders > 0) {
                    x.crash(holders - 1, 0);
                    x.wipe(holders - 1);
                }
            }
        }
    }

    @Says(in = D, text = "(Then each quorum contains a node that holds it.)")
    static void eachQuorumHasAHolder(Checks c) {
        for (int nodes = 3; nodes <= 7; nodes++) {
            for (int wiped = 0; wiped < 1 << nodes; wiped++) {
                FreshDisks x = made(nodes, 1, true);
                x.prepare(0, first(nodes));
                x.accept(0, 0, 1, first(nodes));
                for (int i = 0; i < nodes; i++) {
                    if ((wiped >> i & 1) == 1) {
                        loseDisk(x, i);
                    }
                }
                boolean all = true;
                for (int set = 1; set < 1 << nodes; set++) {
                    all &= Integer.bitCount(set) < quorum(nodes) || (set & ~wiped) != 0;
                }
                c.due(nodes + " nodes, wiped are " + wiped, x.slot(0, 5), all ? 1 : 0);
            }
        }
    }

    @Says(in = D, text = "A call that throws an exception changes nothing.")
    static void refusedCallsChangeNothing(Checks c) {
        FreshDisks x = busy();
        FreshDisks same = busy();
        Checks.Call[] refused = {
            () -> x.begin(2, 1), () -> x.begin(5, 5), () -> x.prepare(4, 1), () -> x.prepare(0, 0),
            () -> x.prepare(2, 15), () -> x.prepare(3, 15), () -> x.accept(0, 2, 1, 1), () -> x.accept(0, 1, 10, 1),
            () -> x.accept(0, 1, 1, 16), () -> x.accept(1, 1, 1, 15), () -> x.barrier(4), () -> x.barrier(2),
            () -> x.crash(4, 0), () -> x.crash(0, -1), () -> x.crash(2, 1), () -> x.wipe(4), () -> x.wipe(0),
            () -> x.restart(4), () -> x.restart(0), () -> x.rejoin(4, 1), () -> x.rejoin(3, 16),
            () -> x.rejoin(2, 15), () -> x.rejoin(0, 15), () -> x.append(31), () -> x.load(), () -> x.count(12),
            () -> x.node(4, 0), () -> x.node(0, 9), () -> x.accepted(0, 2, 0), () -> x.accepted(0, 0, 4),
            () -> x.waiting(0, 2, 0), () -> x.waiting(0, 0, 3), () -> x.slot(2, 0), () -> x.slot(0, 7),
            () -> x.roundValue(0, 2), () -> x.roundValue(1, 0), () -> x.ifCrashed(4, 0, 0),
            () -> x.ifCrashed(0, -1, 0), () -> x.harmless(4), () -> x.leastLosses(2), () -> x.leastLosses(1)};
        for (int i = 0; i < refused.length; i++) {
            c.isTrue("call " + i + " throws", Checks.outcome(refused[i]) instanceof Class);
            c.same("call " + i + " changes nothing", x, same);
        }
        c.due("the round goes on", x.accept(0, 1, 2, 15), same.accept(0, 1, 2, 15));
        c.due("with its value", x.accepted(0, 1, 1), 6);
        c.due("the buffer goes on", x.append('1'), 5);
    }

    @Says(in = D, text = "A call that throws an exception changes nothing.")
    static void refusedLoadCarriesOutNoEvent(Checks c) {
        String[] texts = {"c0-0;", "c0-0;x", "c0-0;p1>", "c0-0;f3", "c0-0;p1>10"};
        for (String text : texts) {
            FreshDisks x = typed(3, 1, text);
            c.argument(text, x, x::load);
            c.due("node 0 is up", x.node(0, 0), 1);
            c.due("the buffer stays", x.clearInput(), text.length());
        }
    }

    @Says(in = D, text = "If several exceptions apply, the one that is named first in the throws clause is thrown.")
    static void firstNamedExceptionOfSeveral(Checks c) {
        FreshDisks x = busy();
        c.index("prepare: no node, wrong set", x, () -> x.prepare(4, 0));
        c.argument("prepare: wrong set, down", x, () -> x.prepare(2, 16));
        c.argument("prepare: wrong set, not joined", x, () -> x.prepare(3, 0));
        c.index("accept: no node, wrong value", x, () -> x.accept(-1, 0, 10, 1));
        c.index("accept: no slot, wrong value", x, () -> x.accept(0, 2, -1, 1));
        c.index("accept: no slot, wrong set", x, () -> x.accept(0, -1, 1, 0));
        c.index("accept: no slot, no round", x, () -> x.accept(1, 2, 1, 1));
        c.argument("accept: wrong value, no round", x, () -> x.accept(1, 0, 10, 1));
        c.argument("accept: wrong set, no round", x, () -> x.accept(1, 0, 1, 16));
        c.argument("accept: wrong value, down", x, () -> x.accept(2, 0, -1, 1));
        c.index("crash: no node, wrong number", x, () -> x.crash(4, -1));
        c.argument("crash: wrong number, down", x, () -> x.crash(2, -1));
        c.index("rejoin: no node, wrong set", x, () -> x.rejoin(4, 0));
        c.argument("rejoin: wrong set, joined", x, () -> x.rejoin(0, 0));
        c.argument("rejoin: wrong set, down", x, () -> x.rejoin(2, 16));
        c.index("node: no node, wrong property", x, () -> x.node(4, 9));
        c.index("accepted: no node, wrong part", x, () -> x.accepted(4, 0, 4));
        c.index("accepted: no slot, wrong part", x, () -> x.accepted(0, 2, -1));
        c.index("waiting: no node, wrong part", x, () -> x.waiting(4, 0, 3));
        c.index("waiting: no write, wrong part", x, () -> x.waiting(2, 0, 3));
        c.index("slot: no slot, wrong property", x, () -> x.slot(2, 7));
        c.index("roundValue: no slot, no round", x, () -> x.roundValue(1, 2));
        c.index("ifCrashed: no node, wrong number", x, () -> x.ifCrashed(4, -1, 0));
        c.index("ifCrashed: no slot, wrong number", x, () -> x.ifCrashed(0, -1, 2));
        type(x, "x".repeat(56));
        c.argument("append: wrong code, full", x, () -> x.append(127));
    }

    /** All numbers around the edges, in all places at once: as the second writing of the document answers. */
    @Says(in = D, text = "If several exceptions apply, the one that is named first in the throws clause is thrown.")
    static void allEdgesInAllPlaces(Checks c) {
        int[] edges = {LEAST, -1, 0, 1, 2, 3, 4, 7, 8, 9, 12, 15, 16, MOST};
        for (int i : edges) {
            for (int j : edges) {
                FreshDisks x = busy();
                Model m = busyModel();
                c.same("count " + i, () -> x.count(i), () -> m.count(i));
                c.same("harmless " + i, () -> x.harmless(i), () -> m.harmless(i));
                c.same("leastLosses " + i, () -> x.leastLosses(i), () -> m.leastLosses(i));
                c.same("node " + i + " " + j, () -> x.node(i, j), () -> m.node(i, j));
                c.same("slot " + i + " " + j, () -> x.slot(i, j), () -> m.slot(i, j));
                c.same("roundValue " + i + " " + j, () -> x.roundValue(i, j), () -> m.roundValue(i, j));
                for (int k : edges) {
                    String arguments = " " + i + " " + j + " " + k;
                    c.same("accepted" + arguments, () -> x.accepted(i, j, k), () -> m.accepted(i, j, k));
                    c.same("waiting" + arguments, () -> x.waiting(i, j, k), () -> m.waiting(i, j, k));
                    c.same("ifCrashed" + arguments, () -> x.ifCrashed(i, j, k), () -> m.ifCrashed(i, j, k));
                }
                c.due("nothing is changed", x.digest(), m.digest());
            }
        }
    }

    /** The same for the calls that change something, each on objects of its own. */
    @Says(in = D, text = "If several exceptions apply, the one that is named first in the throws clause is thrown.")
    static void allEdgesInAllPlacesOfChanges(Checks c) {
        int[] edges = {LEAST, -1, 0, 1, 2, 3, 4, 5, 9, 10, 15, 16, MOST};
        for (int i : edges) {
            changed(c, "append " + i, x -> x.append(i), m -> m.append(i));
            changed(c, "barrier " + i, x -> x.barrier(i), m -> m.barrier(i));
            changed(c, "wipe " + i, x -> x.wipe(i), m -> m.wipe(i));
            changed(c, "restart " + i, x -> x.restart(i), m -> m.restart(i));
            for (int j : edges) {
                changed(c, "begin " + i + " " + j, x -> x.begin(i, j), m -> m.begin(i, j));
                changed(c, "prepare " + i + " " + j, x -> x.prepare(i, j), m -> m.prepare(i, j));
                changed(c, "crash " + i + " " + j, x -> x.crash(i, j), m -> m.crash(i, j));
                changed(c, "rejoin " + i + " " + j, x -> x.rejoin(i, j), m -> m.rejoin(i, j));
                for (int k : edges) {
                    changed(c, "accept " + i + " 1 " + j + " " + k, x -> x.accept(i, 1, j, k), m -> m.accept(i, 1, j, k));
                    changed(c, "accept 0 " + i + " " + j + " " + k, x -> x.accept(0, i, j, k), m -> m.accept(0, i, j, k));
                }
            }
        }
    }

    private interface Change<T> {
        long run(T on);
    }

    private static void changed(Checks c, String what, Change<FreshDisks> ours, Change<Model> due) {
        FreshDisks x = busy();
        Model m = busyModel();
        c.same(what, () -> ours.run(x), () -> due.run(m));
        c.due(what + ": the state then", x.digest(), m.digest());
    }

    private static Model busyModel() {
        Model m = new Model();
        m.setBarriers(false);
        m.begin(4, 2);
        m.prepare(0, 15);
        m.accept(0, 0, 3, 15);
        m.accept(0, 1, 6, 2);
        m.crash(2, 1);
        m.crash(3, 0);
        m.wipe(3);
        m.restart(3);
        "f0;p".chars().forEach(m::append);
        return m;
    }
}
