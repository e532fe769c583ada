/** Objects in the states that tests begin with; the classes of tests extend it to have its methods. */
abstract class Starts {
    static final int LEAST = Integer.MIN_VALUE;
    static final int MOST = Integer.MAX_VALUE;

    static FreshDisks made(int nodes, int slots, boolean barriers) {
        FreshDisks x = new FreshDisks();
        x.setBarriers(barriers);
        x.begin(nodes, slots);
        return x;
    }

    /** The set of the first nodes, as many as is told. */
    static int first(int nodes) {
        return (1 << nodes) - 1;
    }

    static int quorum(int nodes) {
        return new int[] {2, 3, 3, 4, 4}[nodes - 3];
    }

    static void type(FreshDisks x, String text) {
        for (int i = 0; i < text.length(); i++) {
            x.append(text.charAt(i));
        }
    }

    static FreshDisks typed(int nodes, int slots, String text) {
        FreshDisks x = made(nodes, slots, true);
        type(x, text);
        return x;
    }

    /** Crashes a node that loses all that waits, and starts it again. */
    static void loseAll(FreshDisks x, int node) {
        x.crash(node, MOST);
        x.restart(node);
    }

    /** A node that is up, and has lost its disk. */
    static void loseDisk(FreshDisks x, int node) {
        x.crash(node, 0);
        x.wipe(node);
        x.restart(node);
    }

    /** Three nodes without barriers; slot 0 decided with ballot 8 and value 4, then with ballot 9 and value 5. */
    static FreshDisks inConflict(int slots) {
        FreshDisks x = made(3, slots, false);
        x.prepare(0, 7);
        x.accept(0, 0, 4, 3);
        loseAll(x, 0);
        loseAll(x, 1);
        x.prepare(1, 3);
        x.accept(1, 0, 5, 7);
        return x;
    }

    /**
     * Five nodes without barriers, where nodes 1 and 2 have accepted value 2 and nodes 3 and 4 value 1,
     * all with ballot 8: the first three nodes lost what they had promised, so that node 0 used its ballot again.
     */
    static FreshDisks sameBallotTwice() {
        FreshDisks x = made(5, 1, false);
        x.prepare(0, 31);
        x.accept(0, 0, 1, 24);
        loseAll(x, 0);
        loseAll(x, 1);
        loseAll(x, 2);
        x.prepare(0, 7);
        x.accept(0, 0, 2, 6);
        return x;
    }

    /**
     * Four nodes, two slots, no barriers: node 0 with an open round (8), slot 0 decided, writes that wait on nodes
     * 0 and 1, node 2 down, node 3 up but not joined, and a buffer with an event and a half.
     */
    static FreshDisks busy() {
        FreshDisks x = made(4, 2, false);
        x.prepare(0, 15);
        x.accept(0, 0, 3, 15);
        x.accept(0, 1, 6, 2);
        x.crash(2, 1);
        loseDisk(x, 3);
        type(x, "f0;p");
        return x;
    }
}
