import java.util.ArrayList;
import java.util.List;
import java.util.regex.Matcher;
import java.util.regex.Pattern;

/**
 * The document written a second time, in its plainest form: views are always made anew from
 * the disk and all waiting writes, losses are tried out one by one, texts are matched by a
 * regular expression.
 */
final class Model {
    private record Write(int slot, int ballot, int value) { }

    private static final class State {
        int promised = 0;
        int[] ballot = new int[4];
        int[] value = {-1, -1, -1, -1};

        State copy() {
            State c = new State();
            c.promised = promised;
            c.ballot = ballot.clone();
            c.value = value.clone();
            return c;
        }

        void carryOut(Write w) {
            promised = w.ballot;
            if (w.slot != -1) {
                ballot[w.slot] = w.ballot;
                value[w.slot] = w.value;
            }
        }
    }

    private static final class N {
        boolean up = true;
        boolean joined = true;
        int epoch = 0;
        int seen = 0;
        State disk = new State();
        List<Write> waiting = new ArrayList<>();
        int round = -1;
        int[] values = {-1, -1, -1, -1};

        State after(int kept) {
            State s = disk.copy();
            for (int i = 0; i < kept; i++) {
                s.carryOut(waiting.get(i));
            }
            return s;
        }

        State view() {
            return after(waiting.size());
        }

        void barrier() {
            disk = view();
            waiting.clear();
        }
    }

    private int n = 3;
    private int slots = 1;
    private boolean on = true;
    private StringBuilder buffer = new StringBuilder();
    private List<N> nodes;
    private List<List<int[]>> decisions;
    private int got;
    private int agreed;
    private int lostAll;

    Model() {
        fresh();
    }

    private void fresh() {
        nodes = new ArrayList<>();
        for (int i = 0; i < n; i++) {
            nodes.add(new N());
        }
        decisions = new ArrayList<>();
        for (int i = 0; i < slots; i++) {
            decisions.add(new ArrayList<>());
        }
        got = 0;
        agreed = 0;
        lostAll = 0;
    }

    int begin(int newNodes, int newSlots) {
        argument(newNodes >= 3 && newNodes <= 7 && newSlots >= 1 && newSlots <= 4);
        int old = n;
        n = newNodes;
        slots = newSlots;
        fresh();
        return old;
    }

    int setBarriers(boolean is) {
        int old = on ? 1 : 0;
        on = is;
        return old;
    }

    private int q() {
        return n / 2 + 1;
    }

    private static void index(boolean right) {
        if (!right) {
            throw new IndexOutOfBoundsException();
        }
    }

    private static void argument(boolean right) {
        if (!right) {
            throw new IllegalArgumentException();
        }
    }

    private static void state(boolean right) {
        if (!right) {
            throw new IllegalStateException();
        }
    }

    private void nodeIndex(int i) {
        index(i >= 0 && i < n);
    }

    private void slotIndex(int i) {
        index(i >= 0 && i < slots);
    }

    private void reachedRange(int r) {
        argument(r >= 1 && r <= Math.pow(2, n) - 1);
    }

    private List<Integer> getters(int reached) {
        List<Integer> all = new ArrayList<>();
        for (int i = 0; i < n; i++) {
            if ((reached & 1 << i) != 0 && nodes.get(i).up && nodes.get(i).joined) {
                all.add(i);
            }
        }
        return all;
    }

    private int next(int node) {
        N it = nodes.get(node);
        for (int k = 1; ; k++) {
            int b = 8 * k + node;
            if (b > it.seen && b > it.view().promised) {
                return b;
            }
        }
    }

    int prepare(int node, int reached) {
        nodeIndex(node);
        reachedRange(reached);
        N from = nodes.get(node);
        state(from.up && from.joined);
        int b = next(node);
        from.seen = Math.max(from.seen, b);
        from.round = -1;
        List<State> promises = new ArrayList<>();
        for (int i : getters(reached)) {
            N to = nodes.get(i);
            got++;
            if (b > to.view().promised) {
                agreed++;
                to.waiting.add(new Write(-1, b, -1));
                promises.add(to.view());
            } else {
                from.seen = Math.max(from.seen, to.view().promised);
            }
            if (on) {
                to.barrier();
            }
        }
        if (promises.size() >= q()) {
            from.round = b;
            for (int s = 0; s < slots; s++) {
                from.values[s] = newest(promises, s).value[s];
            }
        }
        return promises.size();
    }

    /** Of several with the greatest ballot the first, as they are in the order of the nodes. */
    private static State newest(List<State> states, int slot) {
        int greatest = 0;
        for (State s : states) {
            greatest = Math.max(greatest, s.ballot[slot]);
        }
        for (State s : states) {
            if (s.ballot[slot] == greatest) {
                return s;
            }
        }
        throw new AssertionError();
    }

    int accept(int node, int slot, int value, int reached) {
        nodeIndex(node);
        slotIndex(slot);
        argument(value >= 0 && value <= 9);
        reachedRange(reached);
        N from = nodes.get(node);
        state(from.round != -1);
        int b = from.round;
        if (from.values[slot] == -1) {
            from.values[slot] = value;
        }
        int sent = from.values[slot];
        int accepts = 0;
        for (int i : getters(reached)) {
            N to = nodes.get(i);
            got++;
            if (b >= to.view().promised) {
                agreed++;
                accepts++;
                to.waiting.add(new Write(slot, b, sent));
            } else {
                from.seen = Math.max(from.seen, to.view().promised);
                from.round = -1;
            }
            if (on) {
                to.barrier();
            }
        }
        if (accepts >= q()) {
            decisions.get(slot).add(new int[] {b, sent});
        }
        return accepts;
    }

    int barrier(int node) {
        nodeIndex(node);
        N it = nodes.get(node);
        state(it.up);
        int w = it.waiting.size();
        it.barrier();
        return w;
    }

    int crash(int node, int lost) {
        nodeIndex(node);
        argument(lost >= 0);
        N it = nodes.get(node);
        state(it.up);
        int gone = Math.min(lost, it.waiting.size());
        it.disk = it.after(it.waiting.size() - gone);
        it.waiting.clear();
        it.up = false;
        it.round = -1;
        it.seen = 0;
        lostAll += gone;
        return gone;
    }

    int wipe(int node) {
        nodeIndex(node);
        N it = nodes.get(node);
        state(!it.up);
        int had = 0;
        for (int s = 0; s < slots; s++) {
            had += it.disk.value[s] != -1 ? 1 : 0;
        }
        it.disk = new State();
        it.joined = false;
        return had;
    }

    int restart(int node) {
        nodeIndex(node);
        N it = nodes.get(node);
        state(!it.up);
        it.up = true;
        return ++it.epoch;
    }

    int rejoin(int node, int reached) {
        nodeIndex(node);
        reachedRange(reached);
        N it = nodes.get(node);
        state(it.up && !it.joined);
        List<State> read = new ArrayList<>();
        for (int i : getters(reached)) {
            if (i != node) {
                read.add(nodes.get(i).view());
            }
        }
        if (read.size() >= q()) {
            int most = 0;
            for (State s : read) {
                most = Math.max(most, s.promised);
                it.seen = Math.max(it.seen, s.promised);
            }
            it.disk.promised = most;
            for (int s = 0; s < slots; s++) {
                State best = newest(read, s);
                if (best.ballot[s] > 0) {
                    it.disk.ballot[s] = best.ballot[s];
                    it.disk.value[s] = best.value[s];
                }
            }
            it.joined = true;
        }
        return read.size();
    }

    int append(int code) {
        argument(code >= 32 && code <= 126);
        state(buffer.length() < 60);
        buffer.append((char) code);
        return buffer.length();
    }

    int clearInput() {
        int old = buffer.length();
        buffer.setLength(0);
        return old;
    }

    private Pattern pattern() {
        StringBuilder sets = new StringBuilder();
        for (int set = 1; set < 1 << n; set++) {
            sets.append(set == 1 ? "" : "|");
            for (int i = 0; i < n; i++) {
                sets.append((set & 1 << i) != 0 ? "" + i : "");
            }
        }
        String node = "[0-" + (n - 1) + "]";
        String event = "(?:[pj]" + node + ">(?:" + sets + ")|a" + node + "s[0-" + (slots - 1) + "]=[0-9]>(?:" + sets
            + ")|[fwr]" + node + "|c" + node + "-[0-9])";
        return Pattern.compile(event + "(?:;" + event + ")*");
    }

    int firstError() {
        Pattern p = pattern();
        for (int i = 1; i <= buffer.length(); i++) {
            Matcher m = p.matcher(buffer.substring(0, i));
            if (!m.matches() && !m.hitEnd()) {
                return i - 1;
            }
        }
        return buffer.length();
    }

    int load() {
        argument(pattern().matcher(buffer).matches());
        int done = 0;
        for (String event : buffer.toString().split(";")) {
            try {
                carryOut(event);
                done++;
            } catch (IndexOutOfBoundsException | IllegalArgumentException | IllegalStateException e) {
                continue;
            }
        }
        buffer.setLength(0);
        return done;
    }

    private void carryOut(String event) {
        int node = event.charAt(1) - '0';
        int reached = 0;
        for (char c : event.substring(event.indexOf('>') + 1).toCharArray()) {
            reached |= event.indexOf('>') < 0 ? 0 : 1 << (c - '0');
        }
        switch (event.charAt(0)) {
            case 'p' -> prepare(node, reached);
            case 'a' -> accept(node, event.charAt(3) - '0', event.charAt(5) - '0', reached);
            case 'f' -> barrier(node);
            case 'c' -> crash(node, event.charAt(3) - '0');
            case 'w' -> wipe(node);
            case 'r' -> restart(node);
            case 'j' -> rejoin(node, reached);
            default -> throw new AssertionError(event);
        }
    }

    private boolean conflict(int slot) {
        for (int[] d : decisions.get(slot)) {
            if (d[1] != decisions.get(slot).get(0)[1]) {
                return true;
            }
        }
        return false;
    }

    private boolean decided(int slot) {
        return !decisions.get(slot).isEmpty();
    }

    int count(int what) {
        argument(what >= 0 && what <= 11);
        int up = 0;
        int joined = 0;
        int waits = 0;
        int decided = 0;
        int conflicts = 0;
        for (N it : nodes) {
            up += it.up ? 1 : 0;
            joined += it.joined ? 1 : 0;
            waits += it.waiting.size();
        }
        for (int s = 0; s < slots; s++) {
            decided += decided(s) ? 1 : 0;
            conflicts += conflict(s) ? 1 : 0;
        }
        return new int[] {n, slots, q(), on ? 1 : 0, up, joined, decided, conflicts, got, agreed, waits, lostAll}[what];
    }

    int node(int node, int what) {
        nodeIndex(node);
        argument(what >= 0 && what <= 8);
        N it = nodes.get(node);
        return new int[] {it.up ? 1 : 0, it.joined ? 1 : 0, it.epoch, it.view().promised, it.disk.promised,
            it.waiting.size(), it.seen, it.round, next(node)}[what];
    }

    int accepted(int node, int slot, int what) {
        nodeIndex(node);
        slotIndex(slot);
        argument(what >= 0 && what <= 3);
        State view = nodes.get(node).view();
        State disk = nodes.get(node).disk;
        return new int[] {view.ballot[slot], view.value[slot], disk.ballot[slot], disk.value[slot]}[what];
    }

    int waiting(int node, int i, int what) {
        nodeIndex(node);
        index(i >= 0 && i < nodes.get(node).waiting.size());
        argument(what >= 0 && what <= 2);
        Write w = nodes.get(node).waiting.get(i);
        return new int[] {w.slot, w.ballot, w.value}[what];
    }

    private boolean holds(State s, int slot) {
        return decided(slot) && s.value[slot] == decisions.get(slot).get(0)[1]
            && s.ballot[slot] >= decisions.get(slot).get(0)[0];
    }

    private int holding(List<State> states, int slot) {
        int holders = 0;
        for (State s : states) {
            holders += holds(s, slot) ? 1 : 0;
        }
        return holders;
    }

    private boolean isProtected(List<State> states, int slot) {
        return decided(slot) && n - holding(states, slot) < q();
    }

    private List<State> views() {
        List<State> all = new ArrayList<>();
        nodes.forEach(it -> all.add(it.view()));
        return all;
    }

    private List<State> disks() {
        List<State> all = new ArrayList<>();
        nodes.forEach(it -> all.add(it.disk));
        return all;
    }

    int slot(int slot, int what) {
        slotIndex(slot);
        argument(what >= 0 && what <= 6);
        if (!decided(slot)) {
            return what < 2 ? -1 : 0;
        }
        List<int[]> d = decisions.get(slot);
        return new int[] {d.get(0)[0], d.get(0)[1], d.size(), holding(views(), slot), holding(disks(), slot),
            isProtected(views(), slot) ? 1 : 0, conflict(slot) ? 1 : 0}[what];
    }

    int roundValue(int node, int slot) {
        nodeIndex(node);
        slotIndex(slot);
        state(nodes.get(node).round != -1);
        return nodes.get(node).values[slot];
    }

    private List<State> viewsAfter(int node, int lost) {
        List<State> all = views();
        N it = nodes.get(node);
        all.set(node, it.after(Math.max(0, it.waiting.size() - lost)));
        return all;
    }

    int ifCrashed(int node, int lost, int slot) {
        nodeIndex(node);
        slotIndex(slot);
        argument(lost >= 0);
        return holding(viewsAfter(node, lost), slot);
    }

    int harmless(int node) {
        nodeIndex(node);
        int greatest = 0;
        for (int lost = 0; lost <= nodes.get(node).waiting.size(); lost++) {
            boolean harm = false;
            for (int s = 0; s < slots; s++) {
                harm |= isProtected(views(), s) && !isProtected(viewsAfter(node, lost), s);
            }
            greatest = harm ? greatest : lost;
        }
        return greatest;
    }

    int leastLosses(int slot) {
        slotIndex(slot);
        state(decided(slot));
        int least = -1;
        for (int set = 0; set < 1 << n; set++) {
            List<State> all = new ArrayList<>();
            for (int i = 0; i < n; i++) {
                all.add((set & 1 << i) != 0 ? nodes.get(i).disk : nodes.get(i).view());
            }
            if (!isProtected(all, slot) && (least == -1 || Integer.bitCount(set) < least)) {
                least = Integer.bitCount(set);
            }
        }
        return least;
    }

    int answered() {
        return Float.floatToIntBits(got == 0 ? 1.0f : (float) agreed / got);
    }

    double onDisks() {
        int sum = 0;
        for (int s = 0; s < slots; s++) {
            sum += slot(s, 4);
        }
        return count(6) == 0 ? 0.0 : (double) sum / (count(6) * n);
    }

    long digest() {
        List<Long> all = new ArrayList<>();
        for (int i = 0; i <= 11; i++) {
            all.add((long) count(i));
        }
        for (int i = 0; i < n; i++) {
            addNode(all, i);
        }
        for (int s = 0; s < slots; s++) {
            for (int i = 0; i <= 6; i++) {
                all.add((long) slot(s, i));
            }
        }
        all.add((long) answered());
        all.add(Double.doubleToLongBits(onDisks()));
        all.add((long) buffer.length());
        buffer.chars().forEach(c -> all.add((long) c));
        long hash = 1997;
        for (long x : all) {
            hash = 31 * hash + x;
        }
        return hash;
    }

    private void addNode(List<Long> all, int node) {
        for (int i = 0; i <= 8; i++) {
            all.add((long) node(node, i));
        }
        all.add((long) harmless(node));
        for (int s = 0; s < slots; s++) {
            for (int i = 0; i <= 3; i++) {
                all.add((long) accepted(node, s, i));
            }
        }
        for (Write w : nodes.get(node).waiting) {
            all.add((long) w.slot);
            all.add((long) w.ballot);
            all.add((long) w.value);
        }
        for (int s = 0; s < slots && nodes.get(node).round != -1; s++) {
            all.add((long) roundValue(node, s));
        }
    }
}
