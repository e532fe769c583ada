/** The description: ballots and rounds. */
final class RoundSentences extends Starts {
    private static final String D = "Description";

    @Says(in = D, text = "The next ballot of a node is the least number 8 * k + (number of the node), k at least 1")
    static void firstBallots(Checks c) {
        FreshDisks x = made(7, 1, true);
        c.row("node", i -> x.node(i, 8), 8, 9, 10, 11, 12, 13, 14);
    }

    @Says(in = D, text = "that is greater than the ballot it has seen")
    static void nextBallotIsAboveTheSeenOne(Checks c) {
        FreshDisks x = made(7, 1, true);
        x.prepare(6, 1);
        c.row("its own was seen, not promised", what -> x.node(6, what == 0 ? 6 : 3), 14, 0);
        c.due("next above the same", x.node(6, 8), 22);
        FreshDisks y = made(7, 1, true);
        y.prepare(1, 4);
        y.prepare(0, 4);
        c.due("9 is told to node 0", y.node(0, 6), 9);
        c.due("least above it", y.node(0, 8), 16);
        FreshDisks z = made(7, 1, true);
        z.prepare(2, 1);
        z.prepare(2, 1);
        z.prepare(3, 1);
        c.due("18 is told to node 3", z.node(3, 6), 18);
        c.due("which is one below its next", z.node(3, 8), 19);
    }

    @Says(in = D, text = "and than the promised ballot of its view.")
    static void nextBallotIsAboveThePromisedOne(Checks c) {
        FreshDisks x = made(7, 1, false);
        x.prepare(0, 2);
        c.due("one below: 8 for node 1", x.node(1, 8), 9);
        x.prepare(6, 16);
        c.due("14 for node 4", x.node(4, 8), 20);
        c.due("only in the view", x.node(4, 4), 0);
        x.prepare(2, 4);
        x.crash(2, 0);
        x.restart(2);
        c.row("the same: seen, promised, next", what -> x.node(2, new int[] {6, 3, 8}[what]), 0, 10, 18);
        x.prepare(3, 8);
        x.crash(3, 1);
        x.restart(3);
        c.row("lost: seen, promised, next", what -> x.node(3, new int[] {6, 3, 8}[what]), 0, 0, 11);
    }

    @Says(in = D, text = "A message reaches a set of nodes, given as the sum of 2 to the power of their numbers")
    static void eachSetOfNodes(Checks c) {
        for (int set = 1; set <= 127; set++) {
            FreshDisks x = made(7, 1, true);
            c.due("promises", x.prepare(0, set), Integer.bitCount(set));
            int reached = set;
            for (int i = 0; i < 7; i++) {
                c.due("node " + i + " of " + set, x.node(i, 3), (reached >> i & 1) * 8);
            }
        }
    }

    @Says(in = D, text = "the nodes of it that are up and have joined get it")
    static void nodesThatGetNothing(Checks c) {
        FreshDisks x = made(5, 1, true);
        x.prepare(0, 31);
        x.crash(3, 0);
        loseDisk(x, 4);
        int before = x.count(8);
        c.due("prepare", x.prepare(1, 31), 3);
        c.due("messages", x.count(8) - before, 3);
        c.row("promised", i -> x.node(i, 3), 9, 9, 9, 8, 0);
        c.due("accept", x.accept(1, 0, 2, 31), 3);
        c.due("messages", x.count(8) - before, 6);
        c.row("accepted", i -> x.accepted(i, 0, 0), 9, 9, 9, 0, 0);
        c.due("those alone", x.prepare(1, 24), 0);
        c.due("no message", x.count(8) - before, 6);
    }

    @Says(in = D, text = "(possibly also the node that sends it)")
    static void senderInTheSetOrNot(Checks c) {
        FreshDisks x = made(3, 1, true);
        c.due("without itself", x.prepare(2, 3), 2);
        c.due("its view", x.node(2, 3), 0);
        c.due("its round", x.node(2, 7), 10);
        c.due("accepted by the others", x.accept(2, 0, 1, 3), 2);
        c.due("not by itself", x.accepted(2, 0, 0), 0);
        c.due("accepted by itself alone", x.accept(2, 0, 1, 4), 1);
        c.due("and written", x.accepted(2, 0, 0), 10);
        c.due("prepare for itself alone", x.prepare(2, 4), 1);
        c.due("is promised", x.node(2, 3), 18);
    }

    @Says(in = D, text = "Prepare: A node that is up and has joined sends its next ballot b, which is told to itself.")
    static void ballotIsToldEvenIfNobodyGetsIt(Checks c) {
        FreshDisks x = made(3, 1, true);
        x.crash(2, 0);
        c.due("nobody gets it", x.prepare(1, 4), 0);
        c.due("no message", x.count(8), 0);
        c.due("it has seen its ballot", x.node(1, 6), 9);
        c.due("and takes the next", x.node(1, 8), 17);
    }

    @Says(in = D, text = "Each node that gets it answers with a promise if b is greater than the promised ballot of its view: "
        + "it makes the write")
    static void promiseForAGreaterBallotOnly(Checks c) {
        FreshDisks x = made(3, 1, false);
        x.prepare(0, 6);
        c.due("one greater", x.prepare(1, 4), 1);
        c.due("written", x.node(2, 3), 9);
        FreshDisks same = made(3, 1, false);
        same.prepare(0, 7);
        loseAll(same, 0);
        c.due("its ballot again", same.node(0, 8), 8);
        c.due("the same", same.prepare(0, 6), 0);
        c.due("not written", same.node(1, 5), 1);
        FreshDisks less = made(3, 1, false);
        less.prepare(1, 4);
        c.due("one less", less.prepare(0, 4), 0);
        c.due("not written", less.node(2, 5), 1);
    }

    @Says(in = D, text = "and answers with the accepted ballots and values of its view.")
    static void answersWithTheView(Checks c) {
        FreshDisks x = made(3, 2, false);
        x.prepare(0, 7);
        x.accept(0, 0, 3, 4);
        x.barrier(2);
        x.accept(0, 1, 4, 4);
        c.due("one on the disk, one waits", x.node(2, 5), 1);
        x.prepare(1, 6);
        c.row("both are answered", slot -> x.roundValue(1, slot), 3, 4);
    }

    @Says(in = D, text = "Otherwise it refuses, and the promised ballot of its view is told to the sender.")
    static void prepareRefused(Checks c) {
        FreshDisks x = made(3, 1, false);
        x.prepare(2, 2);
        x.barrier(1);
        x.prepare(2, 2);
        c.row("promised in view, on disk", i -> x.node(1, 3 + i), 18, 10);
        c.due("refused", x.prepare(0, 2), 0);
        c.due("the one of the view is told", x.node(0, 6), 18);
        c.due("a message", x.count(8), 3);
        c.due("that was refused", x.count(9), 2);
        c.due("the refuser has seen nothing", x.node(1, 6), 0);
    }

    @Says(in = D, text = "Otherwise it refuses, and the promised ballot of its view is told to the sender.")
    static void acceptRefused(Checks c) {
        FreshDisks x = made(3, 1, false);
        x.prepare(0, 3);
        x.prepare(2, 2);
        x.barrier(1);
        x.prepare(2, 2);
        c.due("refused", x.accept(0, 0, 5, 2), 0);
        c.due("the one of the view is told", x.node(0, 6), 18);
        c.due("nothing is written", x.accepted(1, 0, 0), 0);
        c.due("a message", x.count(8), 5);
        c.due("that was refused", x.count(9), 4);
    }

    @Says(in = D, text = "If there are at least q promises, the node has an open round with the ballot b")
    static void roundNeedsPromisesOfAQuorum(Checks c) {
        for (int nodes = 3; nodes <= 7; nodes++) {
            FreshDisks x = made(nodes, 1, true);
            int q = quorum(nodes);
            int last = nodes - 1;
            c.due("one too few", x.prepare(last, first(q - 1)), q - 1);
            c.due("no round", x.node(last, 7), -1);
            c.due("just enough", x.prepare(last, first(q)), q);
            c.due("a round", x.node(last, 7), 16 + last);
            c.due("all", x.prepare(last, first(nodes)), nodes);
            c.due("a round again", x.node(last, 7), 24 + last);
        }
    }

    @Says(in = D, text = "If there are at least q promises, the node has an open round with the ballot b")
    static void refusalsAreNoPromises(Checks c) {
        FreshDisks x = made(5, 1, true);
        x.prepare(4, 4);
        c.due("two promise, one refuses", x.prepare(0, 7), 2);
        c.due("no round", x.node(0, 7), -1);
        x.begin(5, 1);
        x.prepare(4, 4);
        c.due("three promise, one refuses", x.prepare(0, 15), 3);
        c.due("a round", x.node(0, 7), 8);
        c.due("though it has seen more", x.node(0, 6), 12);
    }

    @Says(in = D, text = "for each slot, the value of the round is the accepted value with the greatest accepted ballot in all promises")
    static void greatestAcceptedBallotInThePromises(Checks c) {
        int[][] orders = {{0, 1, 2}, {2, 1, 0}, {1, 2, 0}};
        for (int[] order : orders) {
            FreshDisks x = made(7, 2, true);
            for (int i = 0; i < 3; i++) {
                x.prepare(3 + i, 120);
                x.accept(3 + i, 1, 5 + i, 1 << order[i]);
            }
            x.prepare(6, 127);
            c.row("value of the newest", slot -> x.roundValue(6, slot), -1, 7);
        }
    }

    @Says(in = D, text = "in all promises")
    static void valuesOfRefusersDoNotCount(Checks c) {
        FreshDisks x = made(5, 1, true);
        x.prepare(4, 31);
        x.accept(4, 0, 7, 16);
        x.prepare(4, 16);
        c.due("node 4 refuses", x.prepare(0, 31), 4);
        c.due("the round", x.node(0, 7), 16);
        c.due("its value", x.roundValue(0, 0), -1);
    }

    @Says(in = D, text = "in all promises")
    static void valuesOfNodesThatAreNotReachedDoNotCount(Checks c) {
        FreshDisks x = made(3, 1, true);
        x.prepare(0, 7);
        x.accept(0, 0, 7, 1);
        x.prepare(2, 6);
        c.due("without node 0", x.roundValue(2, 0), -1);
        x.prepare(2, 5);
        c.due("with node 0", x.roundValue(2, 0), 7);
        x.prepare(0, 6);
        c.due("node 0 itself without its own", x.roundValue(0, 0), -1);
    }

    @Says(in = D, text = "of several that of the lowest node (NONE if all of these ballots are 0).")
    static void lowestOfSeveralWithTheSameBallot(Checks c) {
        FreshDisks x = sameBallotTwice();
        c.row("the same ballot", i -> x.accepted(i, 0, 0), 0, 8, 8, 8, 8);
        c.row("two values", i -> x.accepted(i, 0, 1), -1, 2, 2, 1, 1);
        x.prepare(0, 31);
        c.due("that of node 1", x.roundValue(0, 0), 2);
        x.prepare(0, 29);
        c.due("that of node 2", x.roundValue(0, 0), 2);
        x.prepare(0, 25);
        c.due("that of node 3", x.roundValue(0, 0), 1);
    }

    @Says(in = D, text = "(NONE if all of these ballots are 0)")
    static void noneIfNothingIsAccepted(Checks c) {
        FreshDisks x = made(7, 4, true);
        x.prepare(0, 127);
        c.row("nothing is accepted", slot -> x.roundValue(0, slot), -1, -1, -1, -1);
        x.accept(0, 3, 0, 64);
        x.prepare(0, 127);
        c.row("value 0 is", slot -> x.roundValue(0, slot), -1, -1, -1, 0);
    }

    @Says(in = D, text = "A node has one open round at most; to prepare ends the one that it has.")
    static void prepareEndsTheRound(Checks c) {
        FreshDisks x = made(3, 2, true);
        x.prepare(0, 7);
        c.due("one promise", x.prepare(0, 1), 1);
        c.due("no round is left", x.node(0, 7), -1);
        c.state("to accept", x, () -> x.accept(0, 0, 1, 7));
        x.prepare(0, 7);
        x.crash(2, 0);
        x.accept(0, 0, 6, 4);
        c.due("a value that nobody has", x.roundValue(0, 0), 6);
        x.prepare(0, 3);
        c.due("ends with its round", x.roundValue(0, 0), -1);
        c.due("nobody gets it", x.prepare(0, 4), 0);
        c.due("that ends it too", x.node(0, 7), -1);
    }

    @Says(in = D, text = "A node has one open round at most")
    static void roundsOfOthersStay(Checks c) {
        FreshDisks x = made(3, 1, true);
        x.prepare(0, 7);
        x.prepare(1, 7);
        x.prepare(2, 7);
        c.row("three rounds", i -> x.node(i, 7), 8, 9, 10);
    }

    @Says(in = D, text = "Accept: A node with an open round with the ballot b sends a slot and a value.")
    static void acceptIsSentWithTheBallotOfTheRound(Checks c) {
        FreshDisks x = made(5, 1, true);
        x.prepare(4, 16);
        x.prepare(0, 31);
        c.row("it has seen more than its round", i -> x.node(0, 6 + i), 12, 8);
        x.accept(0, 0, 1, 3);
        c.due("the ballot of the round is sent", x.accepted(1, 0, 0), 8);
        c.due("once more", x.accept(0, 0, 1, 12), 2);
        c.due("with the same ballot", x.accepted(3, 0, 0), 8);
    }

    @Says(in = D, text = "If the value of the round for the slot is NONE, it becomes the value that is given")
    static void givenValueBecomesTheRounds(Checks c) {
        FreshDisks x = made(3, 2, true);
        x.prepare(0, 7);
        x.crash(2, 0);
        c.due("nobody gets it", x.accept(0, 1, 0, 4), 0);
        c.row("the value of the round", slot -> x.roundValue(0, slot), -1, 0);
        x.accept(0, 1, 9, 1);
        c.row("0 is not NONE", slot -> x.roundValue(0, slot), -1, 0);
        x.accept(0, 0, 9, 1);
        c.row("the other slot", slot -> x.roundValue(0, slot), 9, 0);
    }

    @Says(in = D, text = "the value of the round is sent.")
    static void valueOfTheRoundIsSent(Checks c) {
        FreshDisks x = made(3, 1, true);
        x.prepare(0, 7);
        x.accept(0, 0, 0, 1);
        x.accept(0, 0, 9, 2);
        c.due("value 0 of the first message", x.accepted(1, 0, 1), 0);
        x.prepare(2, 7);
        x.accept(2, 0, 9, 4);
        c.due("value 0 that was found", x.accepted(2, 0, 1), 0);
        c.due("with the new ballot", x.accepted(2, 0, 0), 10);
    }

    @Says(in = D, text = "Each node that gets it accepts if b is at least the promised ballot of its view: it makes the write.")
    static void acceptanceFromTheSameBallotOn(Checks c) {
        FreshDisks x = made(5, 1, false);
        x.prepare(0, 8);
        x.prepare(1, 7);
        x.prepare(2, 16);
        c.row("promised", i -> x.node(i, 3), 9, 9, 9, 8, 10);
        c.due("the same ballot", x.accept(1, 0, 4, 1), 1);
        c.due("is written", x.accepted(0, 0, 0), 9);
        c.due("one less was promised", x.accept(1, 0, 4, 8), 1);
        c.due("is written too", x.accepted(3, 0, 0), 9);
        c.due("one more was promised", x.accept(1, 0, 4, 16), 0);
        c.due("is not written", x.accepted(4, 0, 0), 0);
        FreshDisks y = made(3, 1, false);
        y.prepare(0, 7);
        y.prepare(1, 4);
        c.due("more was promised in the view alone", y.accept(0, 0, 4, 4), 0);
        c.due("not on the disk", y.node(2, 4), 0);
    }

    @Says(in = D, text = "If at least q nodes accept, that is a decision on the slot.")
    static void decisionNeedsAQuorum(Checks c) {
        for (int nodes = 3; nodes <= 7; nodes++) {
            FreshDisks x = made(nodes, 4, true);
            int q = quorum(nodes);
            x.prepare(0, first(nodes));
            c.due("one too few", x.accept(0, 3, 2, first(q - 1)), q - 1);
            c.due("no decision", x.slot(3, 2), 0);
            c.due("the others: too few as well", x.accept(0, 3, 2, first(nodes) - first(nodes - q + 1)), q - 1);
            c.due("messages do not add up", x.slot(3, 2), 0);
            c.due("just enough", x.accept(0, 3, 2, first(q)), q);
            c.due("a decision", x.slot(3, 2), 1);
            c.due("all", x.accept(0, 3, 2, first(nodes)), nodes);
            c.due("another decision", x.slot(3, 2), 2);
            c.row("of this slot alone", slot -> x.slot(slot, 2), 0, 0, 0, 2);
        }
    }

    @Says(in = D, text = "Its first decision makes the slot decided, with this ballot and value")
    static void firstDecisionStays(Checks c) {
        FreshDisks x = made(3, 1, true);
        x.prepare(0, 7);
        x.accept(0, 0, 6, 7);
        c.row("ballot, value, decisions", what -> x.slot(0, what), 8, 6, 1);
        x.prepare(1, 7);
        x.accept(1, 0, 7, 7);
        c.row("after a second", what -> x.slot(0, what), 8, 6, 2);
        FreshDisks y = inConflict(1);
        c.row("after another value", what -> y.slot(0, what), 8, 4, 2);
    }

    @Says(in = D, text = "if a later decision on it has another value, the slot is in conflict.")
    static void conflictByAnotherValueOnly(Checks c) {
        FreshDisks x = made(3, 1, true);
        x.prepare(0, 7);
        x.accept(0, 0, 6, 7);
        c.due("one decision", x.slot(0, 6), 0);
        x.prepare(1, 7);
        x.accept(1, 0, 7, 7);
        c.due("two of the same value", x.slot(0, 6), 0);
        FreshDisks y = inConflict(1);
        c.due("two of different values", y.slot(0, 6), 1);
        for (int i = 0; i < 3; i++) {
            loseAll(y, i);
        }
        y.prepare(0, 7);
        c.due("the first value once more", y.accept(0, 0, 4, 7), 3);
        c.row("three decisions", what -> y.slot(0, what), 8, 4, 3);
        c.due("the conflict stays", y.slot(0, 6), 1);
    }

    /** Another value that too few accept is no decision, so it is no conflict. */
    @Says(in = D, text = "if a later decision on it has another value, the slot is in conflict.")
    static void noConflictWithoutADecision(Checks c) {
        FreshDisks x = made(3, 1, false);
        x.prepare(0, 7);
        x.accept(0, 0, 4, 3);
        loseAll(x, 0);
        loseAll(x, 1);
        x.prepare(1, 3);
        c.due("too few", x.accept(1, 0, 5, 4), 1);
        c.due("another value", x.accepted(2, 0, 1), 5);
        c.due("no conflict", x.slot(0, 6), 0);
    }

    @Says(in = D, text = "If a node refuses, the round ends behind this message")
    static void oneRefusalEndsTheRound(Checks c) {
        for (int refuser = 0; refuser < 5; refuser++) {
            FreshDisks x = made(5, 1, true);
            int sender = refuser == 2 ? 1 : 2;
            x.prepare(sender, 31);
            c.due("nobody has refused", x.accept(sender, 0, 3, 1 << sender), 1);
            c.due("the round goes on", x.node(sender, 7), 8 + sender);
            x.prepare(4, 1 << refuser);
            x.accept(sender, 0, 3, 31);
            c.due("ended by node " + refuser, x.node(sender, 7), -1);
        }
    }

    @Says(in = D, text = "(the nodes after it get it all the same)")
    static void nodesAfterTheRefuserGetTheMessage(Checks c) {
        FreshDisks x = made(5, 1, true);
        x.prepare(1, 31);
        x.prepare(2, 1);
        int before = x.count(8);
        c.due("all but node 0", x.accept(1, 0, 3, 31), 4);
        c.due("messages", x.count(8) - before, 5);
        c.row("accepted", i -> x.accepted(i, 0, 0), 0, 9, 9, 9, 9);
        c.due("a decision", x.slot(0, 2), 1);
        c.due("the round has ended", x.node(1, 7), -1);
    }

    /** The sender itself may be the one that refuses. */
    @Says(in = D, text = "If a node refuses, the round ends behind this message")
    static void senderRefusesItself(Checks c) {
        FreshDisks x = made(3, 1, true);
        x.prepare(0, 7);
        x.prepare(1, 1);
        c.due("its own refusal", x.accept(0, 0, 2, 1), 0);
        c.due("ends the round", x.node(0, 7), -1);
        c.due("and tells it the ballot", x.node(0, 6), 9);
    }
}
