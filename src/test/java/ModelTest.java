import java.util.Random;

/** Draws runs of calls from fixed seeds; the class must answer each call as the model does. */
public final class ModelTest {
    private static final int RUNS = 1200;
    private static final int MAKING_CALLS = 70;
    private static final int NARROW_RUNS = 600;
    private static final int NARROW_CALLS = 40;
    private static final int LONG_RUNS = 6;
    private static final int LONG_CALLS = 260;
    private static final Checks CHECKS = new Checks();

    private final FreshDisks x = new FreshDisks();
    private final Model m = new Model();
    private final Random random;
    private final String run;
    private static int conflicts = 0;
    private static int gaps = 0;
    private static int rejoins = 0;

    private ModelTest(long seed) {
        random = new Random(seed);
        run = "seed " + seed;
    }

    public static void main(String[] args) {
        for (int seed = 0; seed < RUNS; seed++) {
            new ModelTest(seed).live(MAKING_CALLS);
        }
        for (int seed = 0; seed < LONG_RUNS; seed++) {
            new ModelTest(1000000 + seed).live(LONG_CALLS);
        }
        for (int seed = 0; seed < NARROW_RUNS; seed++) {
            new ModelTest(2000000 + seed).liveNarrow();
        }
        System.out.println(conflicts + " conflicts, " + gaps + " greater losses without harm, " + rejoins + " joined again");
        CHECKS.isTrue("runs reach conflicts", conflicts > 20);
        CHECKS.isTrue("runs reach losses that are harmless only if great", gaps > 5);
        CHECKS.isTrue("runs reach nodes that join again", rejoins > 20);
        CHECKS.end();
    }

    private void live(int calls) {
        if (random.nextInt(8) != 0) {
            same("setBarriers", () -> x.setBarriers(false), () -> m.setBarriers(false));
        }
        int nodes = 3 + random.nextInt(random.nextInt(5) + 1);
        int slots = 1 + random.nextInt(4);
        same("begin", () -> x.begin(nodes, slots), () -> m.begin(nodes, slots));
        for (int i = 0; i < calls; i++) {
            change();
            same("digest", () -> x.digest(), () -> m.digest());
            ask();
        }
        conflicts += x.count(7);
    }

    /** Few nodes, one slot, and losses again and again. */
    private void liveNarrow() {
        same("setBarriers", () -> x.setBarriers(false), () -> m.setBarriers(false));
        takeBack(random.nextInt(3), 1 + random.nextInt(2));
        for (int i = 0; i < NARROW_CALLS; i++) {
            narrowChange();
        }
        conflicts += x.count(7);
    }

    /** The second node gets a value, another one, and the first one again; chance alone hardly ever does it. */
    private void takeBack(int first, int step) {
        int second = (first + step) % 3;
        int third = 3 - first - second;
        int withoutSecond = 7 - (1 << second);
        narrowPrepare(first, 7);
        narrowAccept(first, 1, 7 - (1 << third));
        lose(first, 99);
        narrowPrepare(third, withoutSecond);
        narrowAccept(third, 2, 1 << second);
        narrowPrepare(first, withoutSecond);
        narrowAccept(first, 1, 7);
        lose(third, 99);
    }

    private void narrowChange() {
        int node = random.nextInt(3);
        switch (random.nextInt(8)) {
            case 0, 1, 2 -> narrowPrepare(node, 1 + random.nextInt(7));
            case 3, 4, 5, 6 -> acceptFromRound(0, random.nextInt(2), 1 + random.nextInt(7));
            default -> loseAndRestart(random.nextInt(3) == 0 ? random.nextInt(6) : 99);
        }
        same("digest", () -> x.digest(), () -> m.digest());
        ask();
    }

    private void narrowPrepare(int node, int reached) {
        same("prepare " + node + " " + reached, () -> x.prepare(node, reached), () -> m.prepare(node, reached));
        noise();
    }

    private void narrowAccept(int node, int value, int reached) {
        same("accept " + node + " " + reached, () -> x.accept(node, 0, value, reached),
            () -> m.accept(node, 0, value, reached));
        noise();
    }

    private void noise() {
        same("digest", () -> x.digest(), () -> m.digest());
        ask();
        if (random.nextInt(12) == 0) {
            narrowChange();
        }
    }

    private void same(String what, Checks.Call ours, Checks.Call due) {
        Object got = Checks.outcome(ours);
        Object want = Checks.outcome(due);
        CHECKS.due(run + ": " + what + " answered " + got + ", the model " + want, got.equals(want) ? 1 : 0, 1);
    }

    private int nodeNumber() {
        return random.nextInt(40) == 0 ? wild() : random.nextInt(x.count(0));
    }

    private int slotNumber() {
        return random.nextInt(40) == 0 ? wild() : random.nextInt(x.count(1));
    }

    private int wild() {
        int[] some = {-1, Integer.MIN_VALUE, Integer.MAX_VALUE, x.count(0), x.count(1), 31, 32, 64, -8};
        return some[random.nextInt(some.length)];
    }

    private int reached() {
        int all = (1 << x.count(0)) - 1;
        int choice = random.nextInt(40);
        if (choice == 0) {
            return wild();
        }
        if (choice == 1) {
            return random.nextBoolean() ? 0 : all + 1;
        }
        return choice < 20 ? all & random.nextInt(1 << 7) | random.nextInt(1 << 7) & all : 1 + random.nextInt(all);
    }

    private void change() {
        int node = nodeNumber();
        int slot = slotNumber();
        int reached = reached();
        int value = random.nextInt(40) == 0 ? wild() : random.nextInt(3);
        int lost = random.nextInt(40) == 0 ? wild() : random.nextInt(6);
        switch (random.nextInt(32)) {
            case 0, 1, 2, 3, 4 -> same("prepare " + node + " " + reached, () -> x.prepare(node, reached),
                () -> m.prepare(node, reached));
            case 5, 6, 7, 8, 9 -> acceptFromRound(slot, value, reached);
            case 10 -> same("accept " + node, () -> x.accept(node, slot, value, reached),
                () -> m.accept(node, slot, value, reached));
            case 11 -> same("barrier " + node, () -> x.barrier(node), () -> m.barrier(node));
            case 12, 13 -> same("crash " + node + " " + lost, () -> x.crash(node, lost), () -> m.crash(node, lost));
            case 14 -> same("wipe " + node, () -> x.wipe(node), () -> m.wipe(node));
            case 15, 16, 17, 18 -> restartOne(node);
            case 19, 20 -> rejoinOne(node, reached);
            case 21 -> rare();
            case 22, 23, 24 -> typeAndLoad();
            default -> loseAndRestart(lost);
        }
    }

    private void acceptFromRound(int slot, int value, int reached) {
        int node = random.nextInt(x.count(0));
        for (int i = 0; i < x.count(0) && x.node(node, 7) == -1; i++) {
            node = (node + 1) % x.count(0);
        }
        int sender = node;
        same("accept " + sender + " " + slot + " " + value + " " + reached, () -> x.accept(sender, slot, value, reached),
            () -> m.accept(sender, slot, value, reached));
    }

    /** Losses of nodes that come back at once are what leads to conflicts. */
    private void loseAndRestart(int lost) {
        for (int i = random.nextInt(2); i >= 0; i--) {
            lose(random.nextInt(x.count(0)), lost);
        }
    }

    private void lose(int node, int lost) {
        same("crash " + node + " " + lost, () -> x.crash(node, lost), () -> m.crash(node, lost));
        same("restart " + node, () -> x.restart(node), () -> m.restart(node));
    }

    private void restartOne(int first) {
        int node = first;
        for (int i = 0; i < x.count(0) && node >= 0 && node < x.count(0) && x.node(node, 0) == 1; i++) {
            node = (node + 1) % x.count(0);
        }
        int down = node;
        same("restart " + down, () -> x.restart(down), () -> m.restart(down));
    }

    private void rejoinOne(int first, int reached) {
        int node = first;
        for (int i = 0; i < x.count(0) && node >= 0 && node < x.count(0) && x.node(node, 1) == 1; i++) {
            node = (node + 1) % x.count(0);
        }
        int out = node;
        int before = x.count(5);
        same("rejoin " + out + " " + reached, () -> x.rejoin(out, reached), () -> m.rejoin(out, reached));
        rejoins += x.count(5) - before;
    }

    private void rare() {
        boolean on = random.nextInt(3) == 0;
        switch (random.nextInt(6)) {
            case 0, 1 -> same("setBarriers", () -> x.setBarriers(on), () -> m.setBarriers(on));
            case 2 -> {
                int nodes = 2 + random.nextInt(7);
                int slots = random.nextInt(6);
                same("begin " + nodes + " " + slots, () -> x.begin(nodes, slots), () -> m.begin(nodes, slots));
            }
            case 3 -> same("clearInput", () -> x.clearInput(), () -> m.clearInput());
            default -> {
                int code = random.nextInt(140) - 5;
                same("append " + code, () -> x.append(code), () -> m.append(code));
            }
        }
    }

    private void typeAndLoad() {
        if (random.nextInt(3) != 0) {
            same("clearInput", () -> x.clearInput(), () -> m.clearInput());
        }
        StringBuilder text = new StringBuilder();
        for (int i = random.nextInt(5); i >= 0; i--) {
            text.append(event()).append(i > 0 ? ";" : "");
        }
        if (random.nextInt(3) == 0) {
            String signs = "pafcwrj;>=-s0123456789 xS:";
            text.setCharAt(random.nextInt(text.length()), signs.charAt(random.nextInt(signs.length())));
        }
        if (random.nextInt(4) == 0) {
            text.setLength(random.nextInt(text.length()));
        }
        for (int i = 0; i < text.length(); i++) {
            int code = text.charAt(i);
            same("append " + code, () -> x.append(code), () -> m.append(code));
        }
        same("firstError of " + text, () -> x.firstError(), () -> m.firstError());
        same("load of " + text, () -> x.load(), () -> m.load());
    }

    private String event() {
        int node = random.nextInt(x.count(0));
        StringBuilder reached = new StringBuilder(">");
        int set = 1 + random.nextInt((1 << x.count(0)) - 1);
        for (int i = 0; i < x.count(0); i++) {
            reached.append((set & 1 << i) != 0 ? "" + i : "");
        }
        return switch (random.nextInt(9)) {
            case 0, 1 -> "p" + node + reached;
            case 2, 3 -> "a" + node + "s" + random.nextInt(x.count(1)) + "=" + random.nextInt(10) + reached;
            case 4 -> "f" + node;
            case 5 -> "c" + node + "-" + random.nextInt(10);
            case 6 -> "w" + node;
            case 7 -> "r" + node;
            default -> "j" + node + reached;
        };
    }

    private void ask() {
        int node = nodeNumber();
        int slot = slotNumber();
        int what = random.nextInt(16) - 2;
        int lost = random.nextInt(12) - 1;
        same("count " + what, () -> x.count(what), () -> m.count(what));
        same("node " + node + " " + what, () -> x.node(node, what), () -> m.node(node, what));
        same("accepted " + node + " " + slot + " " + what, () -> x.accepted(node, slot, what),
            () -> m.accepted(node, slot, what));
        same("waiting " + node + " " + lost + " " + what, () -> x.waiting(node, lost, what), () -> m.waiting(node, lost, what));
        same("slot " + slot + " " + what, () -> x.slot(slot, what), () -> m.slot(slot, what));
        same("roundValue " + node + " " + slot, () -> x.roundValue(node, slot), () -> m.roundValue(node, slot));
        same("ifCrashed " + node + " " + lost + " " + slot, () -> x.ifCrashed(node, lost, slot),
            () -> m.ifCrashed(node, lost, slot));
        same("harmless " + node, () -> x.harmless(node), () -> m.harmless(node));
        same("leastLosses " + slot, () -> x.leastLosses(slot), () -> m.leastLosses(slot));
        same("answered", () -> x.answered(), () -> m.answered());
        same("onDisks", () -> Double.doubleToLongBits(x.onDisks()), () -> Double.doubleToLongBits(m.onDisks()));
        countGaps();
    }

    /** Counts where a loss does harm though a greater one does not. */
    private void countGaps() {
        for (int node = 0; node < x.count(0); node++) {
            int harmless = x.harmless(node);
            for (int slot = 0; slot < x.count(1) && x.slot(slot, 5) == 1; slot++) {
                for (int lost = 1; lost < harmless; lost++) {
                    gaps += x.count(0) - x.ifCrashed(node, lost, slot) >= x.count(2) ? 1 : 0;
                }
            }
        }
    }
}
