/** One method for each promise of the document: ordinary inputs, edges and wrong inputs. */
public final class PromiseTest {
    private static final Checks CHECKS = new Checks();
    private static final int LEAST = Integer.MIN_VALUE;
    private static final int MOST = Integer.MAX_VALUE;

    public static void main(String[] args) {
        newObject();
        begin();
        beginForgetsAll();
        setBarriers();
        prepare();
        prepareTellsBallots();
        prepareTakesNewestValue();
        accept();
        acceptRefused();
        acceptConflict();
        barrier();
        crash();
        wipe();
        restart();
        rejoin();
        append();
        clearInput();
        firstError();
        load();
        loadEachEvent();
        count();
        node();
        accepted();
        waiting();
        slot();
        roundValue();
        ifCrashed();
        harmless();
        harmlessWithGap();
        leastLosses();
        answered();
        onDisks();
        digest();
        fullLife();
        CHECKS.end();
    }

    private static void due(String what, long got, long want) {
        CHECKS.due(what, got, want);
    }

    private static FreshDisks made(int nodes, int slots, boolean barriers) {
        FreshDisks x = new FreshDisks();
        x.setBarriers(barriers);
        x.begin(nodes, slots);
        return x;
    }

    private static void type(FreshDisks x, String text) {
        for (int i = 0; i < text.length(); i++) {
            x.append(text.charAt(i));
        }
    }

    private static void newObject() {
        FreshDisks x = new FreshDisks();
        int[] counts = {3, 1, 2, 1, 3, 3, 0, 0, 0, 0, 0, 0};
        for (int i = 0; i < counts.length; i++) {
            due("1: count " + i, x.count(i), counts[i]);
        }
        due("1: buffer", x.clearInput(), 0);
        due("1: NONE", FreshDisks.NONE, -1);
        for (int i = 0; i < 3; i++) {
            int[] properties = {1, 1, 0, 0, 0, 0, 0, -1, 8 + i};
            for (int what = 0; what < properties.length; what++) {
                due("1: node " + i + " " + what, x.node(i, what), properties[what]);
            }
            due("1: accepted ballot", x.accepted(i, 0, 0), 0);
            due("1: accepted value", x.accepted(i, 0, 1), -1);
            due("1: ballot on disk", x.accepted(i, 0, 2), 0);
            due("1: value on disk", x.accepted(i, 0, 3), -1);
        }
    }

    private static void begin() {
        FreshDisks x = new FreshDisks();
        due("2: begin 7 4", x.begin(7, 4), 3);
        due("2: nodes", x.count(0), 7);
        due("2: slots", x.count(1), 4);
        x.setBarriers(false);
        x.prepare(6, 127);
        x.accept(6, 3, 5, 127);
        x.crash(0, 1);
        x.wipe(0);
        x.append('p');
        due("2: begin again", x.begin(3, 1), 7);
        int[] counts = {3, 1, 2, 0, 3, 3, 0, 0, 0, 0, 0, 0};
        for (int i = 0; i < counts.length; i++) {
            due("2: count " + i, x.count(i), counts[i]);
        }
        due("2: the buffer stays", x.clearInput(), 1);
        due("2: begin 7 4 again", x.begin(7, 4), 3);
        due("2: the slot is forgotten", x.accepted(6, 3, 0), 0);
        due("2: no round is left", x.node(6, 7), -1);
        due("2: no ballot is seen", x.node(6, 6), 0);
        due("2: the node has joined", x.node(0, 1), 1);
        due("2: nothing is decided", x.slot(3, 0), -1);
        due("2: no decisions", x.slot(3, 2), 0);
        FreshDisks same = made(7, 4, false);
        due("2: as a new one", x.digest(), same.digest());
        int[][] wrong = {{2, 1}, {8, 1}, {3, 0}, {3, 5}, {LEAST, 1}, {3, LEAST}, {MOST, MOST}, {0, 0}, {-1, 2}};
        for (int[] w : wrong) {
            CHECKS.argument("2: begin " + w[0] + " " + w[1], x, () -> x.begin(w[0], w[1]));
        }
    }

    private static void beginForgetsAll() {
        FreshDisks x = inConflict(1);
        x.prepare(0, 7);
        x.accept(0, 0, 8, 7);
        for (int i = 0; i < 3; i++) {
            x.crash(i, 0);
            x.restart(i);
        }
        due("2: decided on disks", x.slot(0, 4), 3);
        due("2: begin the same again", x.begin(3, 2), 3);
        due("2: nothing is left of it", x.digest(), made(3, 2, false).digest());
        due("2: epoch", x.node(0, 2), 0);
        due("2: disk", x.node(0, 4), 0);
        due("2: conflict", x.slot(1, 6), 0);
        due("2: decision", x.slot(0, 1), -1);
        x.prepare(0, 7);
        due("2: nor for a round", x.roundValue(0, 0), -1);
    }

    private static void setBarriers() {
        FreshDisks x = new FreshDisks();
        due("3: on to on", x.setBarriers(true), 1);
        due("3: on to off", x.setBarriers(false), 1);
        due("3: off to off", x.setBarriers(false), 0);
        x.prepare(0, 7);
        due("3: writes wait", x.count(10), 3);
        due("3: off to on", x.setBarriers(true), 0);
        due("3: they go on waiting", x.count(10), 3);
        x.prepare(1, 2);
        due("3: a message brings a barrier", x.node(1, 5), 0);
        due("3: others go on waiting", x.count(10), 2);
        x.begin(4, 2);
        due("3: begin leaves the switch", x.count(3), 1);
    }

    private static void prepare() {
        FreshDisks x = made(5, 2, false);
        due("4: all promise", x.prepare(2, 31), 5);
        due("4: round", x.node(2, 7), 10);
        due("4: told to itself", x.node(2, 6), 10);
        due("4: promised in view", x.node(4, 3), 10);
        due("4: not on disk", x.node(4, 4), 0);
        due("4: messages", x.count(8), 5);
        due("4: without itself", x.prepare(2, 1), 1);
        due("4: the old round has ended", x.node(2, 7), -1);
        due("4: its own view is as before", x.node(2, 3), 10);
        due("4: it has seen its ballot", x.node(2, 6), 18);
        due("4: next ballot", x.node(2, 8), 26);
        due("4: exactly q", x.prepare(2, 7), 3);
        due("4: makes a round", x.node(2, 7), 26);
        x.crash(4, 0);
        due("4: down nodes get nothing", x.prepare(0, 24), 1);
        due("4: messages then", x.count(8), 10);
        FreshDisks w = made(3, 1, true);
        w.crash(0, 0);
        w.wipe(0);
        w.restart(0);
        due("4: unjoined nodes get nothing", w.prepare(1, 7), 2);
        CHECKS.state("4: unjoined", w, () -> w.prepare(0, 7));
        CHECKS.state("4: down", x, () -> x.prepare(4, 31));
        CHECKS.index("4: node 5", x, () -> x.prepare(5, 0));
        CHECKS.index("4: node -1", x, () -> x.prepare(-1, 0));
        CHECKS.index("4: node most", x, () -> x.prepare(MOST, 1));
        CHECKS.argument("4: reached 0", x, () -> x.prepare(4, 0));
        CHECKS.argument("4: reached 32", x, () -> x.prepare(0, 32));
        CHECKS.argument("4: reached -1", x, () -> x.prepare(0, -1));
        CHECKS.argument("4: reached most", x, () -> x.prepare(0, MOST));
        CHECKS.argument("4: reached least", x, () -> x.prepare(0, LEAST));
    }

    private static void prepareTellsBallots() {
        FreshDisks x = made(3, 1, true);
        due("4: high ballot", x.prepare(2, 4), 1);
        due("4: refused", x.prepare(0, 4), 0);
        due("4: ballot told by the refusal", x.node(0, 6), 10);
        due("4: next is above it", x.node(0, 8), 16);
        due("4: refused messages", x.count(9), 1);
        due("4: got messages", x.count(8), 2);
        due("4: equal is refused", equalBallotPromises(), 0);
        FreshDisks y = made(3, 1, false);
        y.prepare(0, 6);
        y.setBarriers(true);
        due("4: refusal", y.prepare(0, 1), 1);
        y.crash(0, 0);
        y.restart(0);
        FreshDisks z = made(3, 1, false);
        z.prepare(2, 2);
        z.setBarriers(true);
        due("4: refused with a barrier", z.prepare(0, 2), 0);
        due("4: the barrier came before it", z.node(1, 5), 0);
        due("4: on disk", z.node(1, 4), 10);
    }

    private static int equalBallotPromises() {
        FreshDisks x = made(3, 1, false);
        x.prepare(0, 7);
        x.crash(0, 1);
        x.restart(0);
        return x.prepare(0, 6);
    }

    private static void prepareTakesNewestValue() {
        FreshDisks x = made(5, 2, true);
        x.prepare(0, 7);
        x.accept(0, 0, 3, 1);
        x.prepare(1, 30);
        x.accept(1, 0, 4, 16);
        due("4: both promise", x.prepare(2, 31), 5);
        due("4: greatest ballot's value", x.roundValue(2, 0), 4);
        due("4: other slot", x.roundValue(2, 1), -1);
        // The same ballot with two values: the promise was lost, and the ballot used again.
        FreshDisks y = made(3, 1, false);
        y.prepare(0, 7);
        y.accept(0, 0, 1, 4);
        y.crash(0, 9);
        y.crash(1, 9);
        y.restart(0);
        y.restart(1);
        due("4: used again", y.prepare(0, 3), 2);
        y.accept(0, 0, 2, 3);
        due("4: two values with a ballot", y.accepted(1, 0, 0), y.accepted(2, 0, 0));
        y.prepare(1, 7);
        due("4: that of the lowest", y.roundValue(1, 0), 2);
        y.prepare(2, 6);
        due("4: that of the lowest here", y.roundValue(2, 0), 2);
    }

    private static void accept() {
        FreshDisks x = made(5, 2, true);
        x.prepare(3, 31);
        due("5: exactly q", x.accept(3, 1, 9, 7), 3);
        due("5: decided with ballot", x.slot(1, 0), 11);
        due("5: decided value", x.slot(1, 1), 9);
        due("5: other slot", x.slot(0, 0), -1);
        due("5: promised becomes the ballot", x.node(0, 3), 11);
        due("5: the round's value stays", x.accept(3, 1, 2, 24), 2);
        due("5: and is what was sent", x.accepted(4, 1, 1), 9);
        due("5: fewer than q are no decision", x.slot(1, 2), 1);
        due("5: value 0", x.accept(3, 0, 0, 16), 1);
        due("5: value 0 accepted", x.accepted(4, 0, 1), 0);
        due("5: not decided", x.slot(0, 1), -1);
        x.crash(0, 0);
        x.crash(1, 0);
        due("5: down nodes get nothing", x.accept(3, 0, 0, 3), 0);
        due("5: and the round goes on", x.node(3, 7), 11);
        FreshDisks late = made(3, 1, false);
        late.prepare(0, 3);
        due("5: without a promise before", late.accept(0, 0, 5, 4), 1);
        due("5: is promised too", late.node(2, 3), 8);
        CHECKS.index("5: node", x, () -> x.accept(5, 0, 0, 1));
        CHECKS.index("5: node -1", x, () -> x.accept(-1, 0, 0, 1));
        CHECKS.index("5: slot", x, () -> x.accept(3, 2, 10, 0));
        CHECKS.index("5: slot -1", x, () -> x.accept(2, -1, 0, 1));
        CHECKS.argument("5: value 10", x, () -> x.accept(3, 0, 10, 1));
        CHECKS.argument("5: value -1", x, () -> x.accept(2, 0, -1, 1));
        CHECKS.argument("5: reached 0", x, () -> x.accept(2, 0, 1, 0));
        CHECKS.argument("5: reached 32", x, () -> x.accept(3, 0, 1, 32));
        CHECKS.state("5: no round", x, () -> x.accept(2, 0, 1, 1));
        CHECKS.state("5: down", x, () -> x.accept(0, 0, 1, 1));
    }

    private static void acceptRefused() {
        FreshDisks x = made(5, 1, false);
        x.prepare(0, 31);
        x.prepare(1, 1);
        x.setBarriers(true);
        due("5: one refuses", x.accept(0, 0, 6, 31), 4);
        due("5: the round has ended", x.node(0, 7), -1);
        due("5: it is a decision all the same", x.slot(0, 1), 6);
        due("5: the ballot is told", x.node(0, 6), 9);
        due("5: the barrier is made all the same", x.node(0, 5), 0);
        due("5: on the disk", x.node(0, 4), 9);
        due("5: not accepted there", x.accepted(0, 0, 0), 0);
        due("5: accepted behind it", x.accepted(4, 0, 0), 8);
        due("5: got", x.count(8), 11);
        due("5: not refused", x.count(9), 10);
        CHECKS.state("5: ended", x, () -> x.accept(0, 0, 6, 31));
    }

    private static FreshDisks inConflict(int slot) {
        FreshDisks x = made(3, 2, false);
        x.prepare(0, 7);
        x.accept(0, slot, 4, 3);
        x.crash(0, 9);
        x.crash(1, 9);
        x.restart(0);
        x.restart(1);
        x.prepare(1, 3);
        due("5: later decision", x.accept(1, slot, 5, 7), 3);
        return x;
    }

    private static void acceptConflict() {
        FreshDisks x = inConflict(1);
        due("5: the first decision stays", x.slot(1, 1), 4);
        due("5: its ballot too", x.slot(1, 0), 8);
        due("5: two decisions", x.slot(1, 2), 2);
        due("5: conflict", x.slot(1, 6), 1);
        due("5: one slot in conflict", x.count(7), 1);
        due("5: slot 0 in conflict", inConflict(0).slot(0, 6), 1);
        due("5: which is one", inConflict(0).count(7), 1);
        FreshDisks y = made(3, 1, true);
        y.prepare(0, 7);
        y.accept(0, 0, 4, 7);
        y.accept(0, 0, 5, 7);
        due("5: the same value is no conflict", y.slot(0, 6), 0);
        due("5: but a decision", y.slot(0, 2), 2);
    }

    private static void barrier() {
        FreshDisks x = made(3, 1, false);
        x.prepare(0, 7);
        x.accept(0, 0, 2, 7);
        due("6: two waited", x.barrier(1), 2);
        due("6: none waits", x.barrier(1), 0);
        due("6: promised on disk", x.node(1, 4), 8);
        due("6: ballot on disk", x.accepted(1, 0, 2), 8);
        due("6: value on disk", x.accepted(1, 0, 3), 2);
        due("6: view is as before", x.accepted(1, 0, 1), 2);
        due("6: the others wait", x.count(10), 4);
        x.crash(2, 0);
        CHECKS.state("6: down", x, () -> x.barrier(2));
        CHECKS.index("6: node 3", x, () -> x.barrier(3));
        CHECKS.index("6: node -1", x, () -> x.barrier(-1));
        x.wipe(2);
        x.restart(2);
        due("6: unjoined", x.barrier(2), 0);
    }

    private static void crash() {
        FreshDisks x = made(3, 2, false);
        x.prepare(0, 7);
        x.accept(0, 0, 2, 7);
        x.accept(0, 1, 3, 7);
        due("7: one is lost", x.crash(0, 1), 1);
        due("7: the first are on disk", x.accepted(0, 0, 3), 2);
        due("7: the last is not", x.accepted(0, 1, 3), -1);
        due("7: nor in the view", x.accepted(0, 1, 1), -1);
        due("7: none waits", x.node(0, 5), 0);
        due("7: down", x.node(0, 0), 0);
        due("7: still joined", x.node(0, 1), 1);
        due("7: round ended", x.node(0, 7), -1);
        due("7: seen", x.node(0, 6), 0);
        due("7: all if fewer", x.crash(1, MOST), 3);
        due("7: nothing on disk", x.node(1, 4), 0);
        due("7: nothing in view", x.node(1, 3), 0);
        due("7: none is lost", x.crash(2, 0), 0);
        due("7: all on disk", x.accepted(2, 1, 3), 3);
        due("7: lost in all", x.count(11), 4);
        due("7: up", x.count(4), 0);
        CHECKS.state("7: down twice", x, () -> x.crash(0, 0));
        CHECKS.argument("7: lost -1", x, () -> x.crash(0, -1));
        CHECKS.argument("7: lost least", x, () -> x.crash(0, LEAST));
        CHECKS.index("7: node 3", x, () -> x.crash(3, -1));
        CHECKS.index("7: node -1", x, () -> x.crash(-1, 0));
    }

    private static void wipe() {
        FreshDisks x = made(3, 4, true);
        x.prepare(0, 7);
        x.accept(0, 0, 0, 7);
        x.accept(0, 3, 9, 7);
        CHECKS.state("8: up", x, () -> x.wipe(1));
        x.crash(1, 0);
        due("8: two slots", x.wipe(1), 2);
        due("8: not joined", x.node(1, 1), 0);
        due("8: joined in all", x.count(5), 2);
        due("8: promised", x.node(1, 4), 0);
        due("8: promised in view", x.node(1, 3), 0);
        due("8: value", x.accepted(1, 3, 3), -1);
        due("8: ballot in view", x.accepted(1, 3, 0), 0);
        due("8: again", x.wipe(1), 0);
        CHECKS.index("8: node 3", x, () -> x.wipe(3));
        CHECKS.index("8: node -1", x, () -> x.wipe(-1));
    }

    private static void restart() {
        FreshDisks x = made(3, 1, true);
        x.prepare(0, 7);
        CHECKS.state("9: up", x, () -> x.restart(1));
        x.crash(1, 0);
        due("9: epoch", x.restart(1), 1);
        due("9: up", x.node(1, 0), 1);
        due("9: promised is on disk", x.node(1, 3), 8);
        due("9: seen", x.node(1, 6), 0);
        due("9: next ballot", x.node(1, 8), 9);
        x.crash(1, 0);
        due("9: epoch again", x.restart(1), 2);
        due("9: epoch property", x.node(1, 2), 2);
        due("9: others", x.node(0, 2), 0);
        CHECKS.index("9: node 3", x, () -> x.restart(3));
        CHECKS.index("9: node -1", x, () -> x.restart(-1));
    }

    private static void rejoin() {
        FreshDisks x = made(5, 3, false);
        x.prepare(0, 31);
        x.accept(0, 0, 4, 14);
        x.prepare(4, 30);
        x.accept(4, 1, 7, 4);
        x.crash(0, 0);
        x.wipe(0);
        CHECKS.state("10: down", x, () -> x.rejoin(0, 30));
        x.restart(0);
        long before = x.digest();
        due("10: too few", x.rejoin(0, 13), 2);
        due("10: changes nothing", x.digest(), before);
        due("10: enough", x.rejoin(0, 15), 3);
        due("10: joined", x.node(0, 1), 1);
        due("10: promised", x.node(0, 4), 12);
        due("10: in view", x.node(0, 3), 12);
        due("10: seen", x.node(0, 6), 12);
        due("10: none waits", x.node(0, 5), 0);
        due("10: slot 0 ballot", x.accepted(0, 0, 2), 8);
        due("10: slot 0 value", x.accepted(0, 0, 3), 4);
        due("10: slot 1 ballot", x.accepted(0, 1, 0), 12);
        due("10: slot 1 value", x.accepted(0, 1, 1), 7);
        due("10: slot 2", x.accepted(0, 2, 1), -1);
        due("10: messages do not count it", x.count(8), 13);
        CHECKS.state("10: joined already", x, () -> x.rejoin(0, 30));
        CHECKS.argument("10: reached 0", x, () -> x.rejoin(0, 0));
        CHECKS.argument("10: reached 32", x, () -> x.rejoin(0, 32));
        CHECKS.argument("10: reached -1", x, () -> x.rejoin(0, -1));
        CHECKS.index("10: node 5", x, () -> x.rejoin(5, 0));
        CHECKS.index("10: node -1", x, () -> x.rejoin(-1, 1));
        rejoinReadsLowest();
    }

    private static void rejoinReadsLowest() {
        FreshDisks x = made(5, 1, false);
        x.prepare(0, 31);
        x.accept(0, 0, 1, 24);
        x.crash(0, 9);
        x.crash(1, 9);
        x.crash(2, 9);
        x.restart(0);
        x.restart(1);
        x.restart(2);
        due("10: ballot again", x.prepare(0, 7), 3);
        x.accept(0, 0, 2, 6);
        due("10: two values with one ballot", x.accepted(1, 0, 0), x.accepted(3, 0, 0));
        x.crash(4, 0);
        x.wipe(4);
        x.restart(4);
        due("10: reads", x.rejoin(4, 15), 4);
        due("10: value of the lowest", x.accepted(4, 0, 1), 2);
        x.crash(4, 0);
        x.wipe(4);
        x.restart(4);
        x.crash(1, 0);
        due("10: not from those that are down", x.rejoin(4, 14), 2);
        // What a round found before must not show in what is read now.
        FreshDisks y = made(5, 1, false);
        y.prepare(0, 31);
        y.accept(0, 0, 6, 1);
        y.crash(4, 0);
        y.wipe(4);
        y.restart(4);
        y.prepare(0, 15);
        due("10: found by the round", y.roundValue(0, 0), 6);
        due("10: read from the others", y.rejoin(4, 14), 3);
        due("10: which have no value", y.accepted(4, 0, 1), -1);
        due("10: nor a ballot", y.accepted(4, 0, 0), 0);
    }

    private static void append() {
        FreshDisks x = new FreshDisks();
        CHECKS.argument("11: 31", x, () -> x.append(31));
        CHECKS.argument("11: 127", x, () -> x.append(127));
        CHECKS.argument("11: least", x, () -> x.append(LEAST));
        due("11: 32", x.append(32), 1);
        due("11: 126", x.append(126), 2);
        for (int i = 3; i <= 60; i++) {
            due("11: length", x.append('x'), i);
        }
        CHECKS.state("11: full", x, () -> x.append('x'));
        CHECKS.argument("11: full and wrong", x, () -> x.append(0));
        due("11: length", x.clearInput(), 60);
    }

    private static void clearInput() {
        FreshDisks x = new FreshDisks();
        due("12: empty", x.clearInput(), 0);
        type(x, "p0>0");
        due("12: four", x.clearInput(), 4);
        due("12: then empty", x.clearInput(), 0);
        due("12: first again", x.append('a'), 1);
    }

    private static void error(FreshDisks x, String text, int want) {
        x.clearInput();
        type(x, text);
        due("13: " + text, x.firstError(), want);
        due("13: the buffer stays", x.clearInput(), text.length());
    }

    private static void firstError() {
        FreshDisks x = made(4, 2, true);
        String[] right = {"", "p", "p0", "p0>", "p0>3", "p0>0123", "p0>13;", "a3s1=9>02", "a3s1=0>", "f3", "f3;", "c0-9",
            "c0-0;c", "w1;r1;j1>023", "j", "a0s"};
        for (String text : right) {
            error(x, text, text.length());
        }
        error(x, "x", 0);
        error(x, " p", 0);
        error(x, ";", 0);
        error(x, "P", 0);
        error(x, "p4", 1);
        error(x, "p0>4", 3);
        error(x, "p0>;", 3);
        error(x, "p0>33", 4);
        error(x, "p0>320", 4);
        error(x, "p0>021", 5);
        error(x, "p0>0,", 4);
        error(x, "p0-1", 2);
        error(x, "p0;", 2);
        error(x, "j0s", 2);
        error(x, "a0>", 2);
        error(x, "a0s2", 3);
        error(x, "a0s1>", 4);
        error(x, "a0s1=:", 5);
        error(x, "a0s1=/", 5);
        error(x, "a0s1=5;", 6);
        error(x, "a0s1=55", 6);
        error(x, "f00", 2);
        error(x, "f0>", 2);
        error(x, "w0-", 2);
        error(x, "c0>", 2);
        error(x, "c0-;", 3);
        error(x, "c0-:", 3);
        error(x, "c0-/", 3);
        error(x, "c0-10", 4);
        error(x, "f0;;", 3);
        error(x, "f0;p1>2;q", 8);
        type(x, "p3>3");
        x.begin(3, 1);
        due("13: node 3 is gone", x.firstError(), 1);
    }

    private static void incomplete(FreshDisks x, String text) {
        x.clearInput();
        type(x, text);
        CHECKS.argument("14: " + text, x, () -> x.load());
        due("14: the buffer stays", x.clearInput(), text.length());
    }

    private static void load() {
        FreshDisks x = made(3, 1, false);
        String[] wrong = {"", "p", "p0", "p0>", "f0;", "x", "f0;x", "a0s0=1", "c0-", "p0>0;p0>3", "f0 "};
        for (String text : wrong) {
            incomplete(x, text);
        }
        type(x, "p0>012;a0s0=5>012;c2-1;f2;w0;r1;j1>012;p2>0;c1-0;w1;r1;j1>02");
        due("14: carried out", x.load(), 7);
        due("14: buffer is clear", x.clearInput(), 0);
        due("14: decided", x.slot(0, 1), 5);
        due("14: lost", x.count(11), 1);
        due("14: not joined", x.node(1, 1), 0);
        due("14: too few to read from", x.node(1, 0), 1);
        type(x, "r2;j1>02");
        due("14: both", x.load(), 2);
        due("14: joined", x.node(1, 1), 1);
        due("14: from node 0", x.accepted(1, 0, 3), 5);
    }

    /** Each event in the text does what its call does. */
    private static void loadEachEvent() {
        FreshDisks x = made(5, 3, false);
        FreshDisks y = made(5, 3, false);
        type(x, "p4>01234;a4s2=7>123;a4s0=0>04;f3;c1-1;c2-9;r1;w2;r2");
        due("14: nine events", x.load(), 9);
        y.prepare(4, 31);
        y.accept(4, 2, 7, 14);
        y.accept(4, 0, 0, 17);
        y.barrier(3);
        y.crash(1, 1);
        y.crash(2, 9);
        y.restart(1);
        y.wipe(2);
        y.restart(2);
        due("14: as the calls", x.digest(), y.digest());
        type(x, "j2>0134;p2>01234;a2s2=1>234");
        due("14: three events", x.load(), 3);
        y.rejoin(2, 27);
        y.prepare(2, 31);
        y.accept(2, 2, 1, 28);
        due("14: as the calls again", x.digest(), y.digest());
        type(x, "r0;w0;a0s0=1>0;j0>1;f0");
        due("14: what would throw is left out", x.load(), 1);
        type(x, "c0-0;r0;" + "f0;".repeat(15) + "r0;f0");
        due("14: all but the second restart", x.load(), 18);
        type(x, "p0>0;p0>0;" + "f0;".repeat(16) + "f0");
        due("14: sixty characters", x.load(), 19);
    }

    private static void count() {
        FreshDisks x = made(7, 4, false);
        due("15: q of 7", x.count(2), 4);
        x.prepare(0, 127);
        x.accept(0, 0, 1, 127);
        x.accept(0, 1, 1, 15);
        x.prepare(1, 64);
        x.accept(0, 2, 1, 96);
        x.crash(3, 2);
        x.crash(4, 0);
        x.wipe(4);
        int[] counts = {7, 4, 4, 0, 5, 6, 2, 0, 21, 20, 15, 2};
        for (int i = 0; i < counts.length; i++) {
            due("15: count " + i, x.count(i), counts[i]);
        }
        x.begin(4, 1);
        due("15: q of 4", x.count(2), 3);
        x.begin(5, 1);
        due("15: q of 5", x.count(2), 3);
        x.begin(6, 1);
        due("15: q of 6", x.count(2), 4);
        x.setBarriers(true);
        due("15: barriers on", x.count(3), 1);
        due("15: conflict", inConflict(1).count(7), 1);
        CHECKS.argument("15: 12", x, () -> x.count(12));
        CHECKS.argument("15: -1", x, () -> x.count(-1));
        CHECKS.argument("15: most", x, () -> x.count(MOST));
    }

    private static void node() {
        FreshDisks x = made(5, 1, false);
        x.prepare(3, 31);
        x.barrier(1);
        x.prepare(1, 2);
        x.accept(3, 0, 1, 1);
        int[] second = {1, 1, 0, 17, 11, 1, 17, -1, 25};
        int[] fourth = {1, 1, 0, 11, 0, 1, 11, 11, 19};
        for (int what = 0; what < 9; what++) {
            due("16: node 1 " + what, x.node(1, what), second[what]);
            due("16: node 3 " + what, x.node(3, what), fourth[what]);
        }
        x.crash(1, 0);
        x.wipe(1);
        x.restart(1);
        int[] wiped = {1, 0, 1, 0, 0, 0, 0, -1, 9};
        for (int what = 0; what < 9; what++) {
            due("16: wiped node " + what, x.node(1, what), wiped[what]);
        }
        due("16: next above another's ballot", x.node(4, 8), 12);
        due("16: next above its own", x.node(0, 8), 16);
        CHECKS.argument("16: 9", x, () -> x.node(0, 9));
        CHECKS.argument("16: -1", x, () -> x.node(0, -1));
        CHECKS.index("16: node 5", x, () -> x.node(5, 9));
        CHECKS.index("16: node -1", x, () -> x.node(-1, 0));
    }

    private static void accepted() {
        FreshDisks x = made(3, 2, false);
        x.prepare(2, 7);
        x.accept(2, 1, 6, 1);
        x.barrier(0);
        x.prepare(0, 7);
        x.accept(0, 1, 3, 7);
        int[] parts = {16, 6, 10, 6};
        for (int what = 0; what < 4; what++) {
            due("17: node 0 " + what, x.accepted(0, 1, what), parts[what]);
        }
        due("17: nothing on disk", x.accepted(1, 1, 3), -1);
        due("17: ballot of nothing", x.accepted(1, 1, 2), 0);
        due("17: other slot", x.accepted(0, 0, 1), -1);
        CHECKS.argument("17: 4", x, () -> x.accepted(0, 0, 4));
        CHECKS.argument("17: -1", x, () -> x.accepted(0, 0, -1));
        CHECKS.index("17: node", x, () -> x.accepted(3, 0, 4));
        CHECKS.index("17: node -1", x, () -> x.accepted(-1, 0, 0));
        CHECKS.index("17: slot", x, () -> x.accepted(0, 2, 4));
        CHECKS.index("17: slot -1", x, () -> x.accepted(0, -1, 0));
    }

    private static void waiting() {
        FreshDisks x = made(3, 2, false);
        x.prepare(1, 7);
        x.accept(1, 1, 0, 7);
        x.accept(1, 0, 8, 4);
        int[][] writes = {{-1, 9, -1}, {1, 9, 0}, {0, 9, 8}};
        for (int i = 0; i < 3; i++) {
            for (int what = 0; what < 3; what++) {
                due("18: write " + i + " " + what, x.waiting(2, i, what), writes[i][what]);
            }
        }
        CHECKS.index("18: index 3", x, () -> x.waiting(2, 3, 0));
        CHECKS.index("18: index 2 of two", x, () -> x.waiting(1, 2, 3));
        CHECKS.index("18: index -1", x, () -> x.waiting(2, -1, 0));
        CHECKS.index("18: node 3", x, () -> x.waiting(3, 0, 0));
        CHECKS.index("18: node -1", x, () -> x.waiting(-1, 0, 3));
        CHECKS.argument("18: 3", x, () -> x.waiting(2, 0, 3));
        CHECKS.argument("18: -1", x, () -> x.waiting(2, 0, -1));
        x.barrier(2);
        CHECKS.index("18: none", x, () -> x.waiting(2, 0, 0));
    }

    private static void slot() {
        FreshDisks x = made(5, 2, false);
        int[] first = {-1, -1, 0, 0, 0, 0, 0};
        for (int what = 0; what < 7; what++) {
            due("19: not decided " + what, x.slot(1, what), first[what]);
        }
        x.prepare(0, 31);
        x.accept(0, 1, 3, 3);
        due("19: no holders before the decision", x.slot(1, 3), 0);
        x.accept(0, 1, 3, 7);
        x.barrier(2);
        int[] decided = {8, 3, 1, 3, 1, 1, 0};
        for (int what = 0; what < 7; what++) {
            due("19: decided " + what, x.slot(1, what), decided[what]);
        }
        x.crash(1, 1);
        due("19: still held", x.slot(1, 3), 3);
        x.restart(1);
        x.crash(0, 2);
        due("19: lost", x.slot(1, 3), 2);
        due("19: not protected", x.slot(1, 5), 0);
        x.crash(2, 0);
        due("19: down nodes count", x.slot(1, 4), 2);
        due("19: conflict", inConflict(1).slot(1, 6), 1);
        CHECKS.argument("19: 7", x, () -> x.slot(0, 7));
        CHECKS.argument("19: -1", x, () -> x.slot(0, -1));
        CHECKS.index("19: slot 2", x, () -> x.slot(2, 7));
        CHECKS.index("19: slot -1", x, () -> x.slot(-1, 0));
        slotHolders();
    }

    private static void slotHolders() {
        FreshDisks even = made(4, 1, true);
        even.prepare(0, 15);
        even.accept(0, 0, 1, 7);
        due("19: q of 4 hold it", even.slot(0, 5), 1);
        even.crash(0, 0);
        even.wipe(0);
        due("19: two of 4 are enough", even.slot(0, 5), 1);
        even.crash(1, 0);
        even.wipe(1);
        due("19: one of 4 is not", even.slot(0, 5), 0);
        // An older ballot with the decided value does not hold it; a newer one does.
        FreshDisks x = made(5, 1, true);
        x.prepare(0, 31);
        x.accept(0, 0, 4, 1);
        x.prepare(1, 31);
        x.accept(1, 0, 4, 14);
        due("19: an older ballot does not hold", x.slot(0, 3), 3);
        x.prepare(2, 31);
        x.accept(2, 0, 4, 16);
        due("19: a newer ballot does", x.slot(0, 3), 4);
        due("19: another value does not", inConflict(1).slot(1, 3), 0);
    }

    private static void roundValue() {
        FreshDisks x = made(3, 2, true);
        CHECKS.state("20: no round", x, () -> x.roundValue(0, 0));
        x.prepare(0, 7);
        due("20: NONE", x.roundValue(0, 1), -1);
        x.accept(0, 1, 5, 1);
        due("20: given", x.roundValue(0, 1), 5);
        due("20: other slot", x.roundValue(0, 0), -1);
        x.prepare(1, 7);
        due("20: found", x.roundValue(1, 1), 5);
        due("20: two rounds at once", x.roundValue(0, 1), 5);
        x.prepare(2, 6);
        due("20: without node 0", x.roundValue(2, 1), -1);
        x.crash(2, 0);
        CHECKS.state("20: down", x, () -> x.roundValue(2, 0));
        CHECKS.index("20: node 3", x, () -> x.roundValue(3, 0));
        CHECKS.index("20: node -1", x, () -> x.roundValue(-1, 0));
        CHECKS.index("20: slot 2", x, () -> x.roundValue(2, 2));
        CHECKS.index("20: slot -1", x, () -> x.roundValue(0, -1));
    }

    private static void ifCrashed() {
        FreshDisks x = made(3, 2, false);
        x.prepare(0, 7);
        due("21: not decided", x.ifCrashed(0, 1, 0), 0);
        x.accept(0, 0, 2, 7);
        x.accept(0, 1, 2, 1);
        long before = x.digest();
        due("21: none lost", x.ifCrashed(0, 0, 0), 3);
        due("21: another slot's write lost", x.ifCrashed(0, 1, 0), 3);
        due("21: its write lost", x.ifCrashed(0, 2, 0), 2);
        due("21: all", x.ifCrashed(0, MOST, 0), 2);
        due("21: last of node 1", x.ifCrashed(1, 1, 0), 2);
        due("21: nothing is changed", x.digest(), before);
        x.crash(1, 0);
        due("21: a node that is down", x.ifCrashed(1, 5, 0), 3);
        CHECKS.index("21: node 3", x, () -> x.ifCrashed(3, -1, 0));
        CHECKS.index("21: node -1", x, () -> x.ifCrashed(-1, 0, 0));
        CHECKS.index("21: slot 2", x, () -> x.ifCrashed(0, -1, 2));
        CHECKS.index("21: slot -1", x, () -> x.ifCrashed(0, 0, -1));
        CHECKS.argument("21: lost -1", x, () -> x.ifCrashed(0, -1, 0));
        CHECKS.argument("21: lost least", x, () -> x.ifCrashed(0, LEAST, 0));
    }

    private static void harmless() {
        FreshDisks x = made(5, 2, false);
        x.prepare(0, 31);
        due("22: nothing is decided", x.harmless(0), 1);
        x.accept(0, 0, 2, 7);
        x.accept(0, 1, 3, 8);
        due("22: needed", x.harmless(0), 0);
        due("22: not a holder", x.harmless(3), 2);
        due("22: none wait but a promise", x.harmless(4), 1);
        x.accept(0, 1, 3, 1);
        due("22: up to the needed write", x.harmless(0), 1);
        x.accept(0, 0, 2, 8);
        due("22: no longer needed", x.harmless(0), 3);
        x.barrier(0);
        due("22: none wait", x.harmless(0), 0);
        x.crash(1, 9);
        x.crash(2, 9);
        due("22: not protected, so no harm", x.harmless(3), x.node(3, 5));
        due("22: down", x.harmless(1), 0);
        CHECKS.index("22: node 5", x, () -> x.harmless(5));
        CHECKS.index("22: node -1", x, () -> x.harmless(-1));
    }

    /** A node takes the decided value, another one, and the decided one again. */
    private static void harmlessWithGap() {
        FreshDisks x = made(3, 1, false);
        x.prepare(0, 7);
        x.accept(0, 0, 1, 3);
        x.crash(0, 9);
        x.restart(0);
        due("22: round without the holder", x.prepare(2, 5), 2);
        x.accept(2, 0, 2, 2);
        due("22: another value", x.accepted(1, 0, 1), 2);
        due("22: not protected", x.slot(0, 5), 0);
        x.prepare(0, 5);
        x.accept(0, 0, 1, 7);
        due("22: the decided value again", x.slot(0, 3), 3);
        x.crash(2, 9);
        due("22: needed again", x.slot(0, 3), 2);
        int size = x.node(1, 5);
        int greatest = 0;
        for (int lost = 0; lost <= size; lost++) {
            greatest = x.ifCrashed(1, lost, 0) == 2 ? lost : greatest;
        }
        due("22: one loss does harm", x.ifCrashed(1, 1, 0), 1);
        CHECKS.isTrue("22: a greater one does not", greatest > 1);
        due("22: the greatest number", x.harmless(1), greatest);
    }

    private static void leastLosses() {
        FreshDisks x = made(5, 2, false);
        x.prepare(0, 31);
        x.accept(0, 0, 1, 31);
        due("23: five hold", x.leastLosses(0), 3);
        x.barrier(0);
        due("23: one on disk", x.leastLosses(0), 3);
        x.barrier(1);
        x.barrier(2);
        due("23: three on disk", x.leastLosses(0), -1);
        x.crash(0, 0);
        x.wipe(0);
        due("23: a holder less", x.leastLosses(0), 2);
        x.crash(1, 0);
        x.wipe(1);
        due("23: two holders less", x.leastLosses(0), 1);
        x.crash(2, 0);
        x.wipe(2);
        due("23: not protected", x.leastLosses(0), 0);
        FreshDisks y = made(3, 1, false);
        y.prepare(0, 7);
        y.accept(0, 0, 1, 3);
        y.barrier(1);
        due("23: node 0 alone", y.leastLosses(0), 1);
        FreshDisks z = made(7, 4, false);
        z.prepare(6, 127);
        z.accept(6, 3, 1, 120);
        due("23: q of seven", z.leastLosses(3), 1);
        z.accept(6, 3, 1, 7);
        due("23: all seven", z.leastLosses(3), 4);
        CHECKS.state("23: not decided", x, () -> x.leastLosses(1));
        CHECKS.index("23: slot 2", x, () -> x.leastLosses(2));
        CHECKS.index("23: slot -1", x, () -> x.leastLosses(-1));
    }

    private static void answered() {
        FreshDisks x = made(3, 1, true);
        due("24: none", x.answered(), Float.floatToIntBits(1.0f));
        x.prepare(2, 4);
        due("24: all", x.answered(), Float.floatToIntBits(1.0f));
        x.prepare(0, 4);
        due("24: half", x.answered(), Float.floatToIntBits(0.5f));
        x.prepare(1, 4);
        due("24: a third", x.answered(), Float.floatToIntBits(1.0f / 3.0f));
        x.begin(7, 1);
        due("24: begun anew", x.answered(), Float.floatToIntBits(1.0f));
        x.setBarriers(false);
        x.prepare(0, 126);
        x.crash(0, 0);
        x.restart(0);
        x.prepare(0, 126);
        due("24: six of twelve", x.answered(), Float.floatToIntBits(0.5f));
    }

    private static void onDisks() {
        FreshDisks x = made(7, 3, false);
        CHECKS.due("25: nothing is decided", x.onDisks(), 0.0);
        x.prepare(0, 127);
        x.accept(0, 0, 1, 127);
        CHECKS.due("25: nothing on disks", x.onDisks(), 0.0);
        x.barrier(3);
        CHECKS.due("25: one of seven", x.onDisks(), 1.0 / 7.0);
        x.accept(0, 2, 1, 127);
        CHECKS.due("25: one of fourteen", x.onDisks(), 1.0 / 14.0);
        x.barrier(0);
        x.barrier(3);
        CHECKS.due("25: four of fourteen", x.onDisks(), 4.0 / 14.0);
        for (int i = 0; i < 7; i++) {
            x.barrier(i);
        }
        CHECKS.due("25: all", x.onDisks(), 1.0);
    }

    private static void digest() {
        due("26: at first", made(4, 2, false).digest(), digestByCalls(made(4, 2, false), ""));
        due("26: later", laterOn().digest(), digestByCalls(laterOn(), "p0>"));
        FreshDisks x = laterOn();
        FreshDisks y = laterOn();
        x.crash(2, 1);
        y.crash(2, 1);
        due("26: after a crash", x.digest(), digestByCalls(y, "p0>"));
        due("26: twice the same", x.digest(), x.digest());
        x.setBarriers(true);
        CHECKS.isTrue("26: with barriers", x.digest() != laterOn().digest());
    }

    private static FreshDisks laterOn() {
        FreshDisks x = made(4, 2, false);
        x.prepare(1, 15);
        x.accept(1, 0, 4, 7);
        x.barrier(0);
        x.prepare(0, 8);
        x.prepare(3, 8);
        type(x, "p0>");
        return x;
    }

    private static long digestByCalls(FreshDisks x, String text) {
        long h = 1997;
        for (int i = 0; i < 12; i++) {
            h = 31 * h + x.count(i);
        }
        for (int n = 0; n < x.count(0); n++) {
            for (int i = 0; i < 9; i++) {
                h = 31 * h + x.node(n, i);
            }
            h = 31 * h + x.harmless(n);
            for (int s = 0; s < x.count(1); s++) {
                for (int i = 0; i < 4; i++) {
                    h = 31 * h + x.accepted(n, s, i);
                }
            }
            for (int w = 0; w < x.node(n, 5); w++) {
                for (int i = 0; i < 3; i++) {
                    h = 31 * h + x.waiting(n, w, i);
                }
            }
            for (int s = 0; s < x.count(1) && x.node(n, 7) != -1; s++) {
                h = 31 * h + x.roundValue(n, s);
            }
        }
        for (int s = 0; s < x.count(1); s++) {
            for (int i = 0; i < 7; i++) {
                h = 31 * h + x.slot(s, i);
            }
        }
        h = 31 * h + x.answered();
        h = 31 * h + Double.doubleToLongBits(x.onDisks());
        h = 31 * h + text.length();
        for (int i = 0; i < text.length(); i++) {
            h = 31 * h + text.charAt(i);
        }
        return h;
    }

    /** 512 calls that all write on all nodes, and some more, of which only the end is asked. */
    private static void fullLife() {
        FreshDisks x = new FreshDisks();
        x.begin(7, 4);
        x.setBarriers(false);
        for (int i = 0; i < 509; i++) {
            due("life: all promise", x.prepare(i % 7, 127), 7);
        }
        due("life: all wait", x.count(10), 7 * 509);
        for (int i = 0; i < 600; i++) {
            x.prepare(i % 7, 127);
        }
        x.digest();
    }
}
