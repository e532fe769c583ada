import java.util.Arrays;

/**
 * Agreement among nodes whose disks lose their last writes.
 * README.md says how to use it; the words used here are those of the document.
 */
public final class FreshDisks {
    public static final int NONE = -1;

    private static final int LEAST_NODES = 3;
    private static final int MOST_NODES = 7;
    private static final int LEAST_SLOTS = 1;
    private static final int MOST_SLOTS = 4;
    private static final int BALLOT_STEP = 8;
    private static final int GREATEST_VALUE = 9;
    private static final int INPUT_LIMIT = 60;
    private static final int FIRST_CODE = 32;
    private static final int LAST_CODE = 126;
    private static final int COUNTS = 12;
    private static final int NODE_PROPERTIES = 9;
    private static final int ACCEPTED_PARTS = 4;
    private static final int WRITE_PARTS = 3;
    private static final int SLOT_PROPERTIES = 7;
    // A write of a node takes a call of its own, or five characters at least that were appended
    // for it, and an object lives for 512 calls.
    private static final int WAITING_LIMIT = 512;
    private static final int WAITING_AT_FIRST = 8;

    private final Node[] nodes = new Node[MOST_NODES];
    private final Decision[] decisions = new Decision[MOST_SLOTS];
    private final Disk scratch = new Disk();
    private final EventReader reader = new EventReader();
    private final int[] input = new int[INPUT_LIMIT];
    private int inputLength;
    private int nodeCount;
    private int slotCount;
    private boolean barriersOn;
    private int messages;
    private int notRefused;
    private int lostWrites;

    public FreshDisks() {
        for (int i = 0; i < MOST_NODES; i++) {
            nodes[i] = new Node(i);
        }
        for (int i = 0; i < MOST_SLOTS; i++) {
            decisions[i] = new Decision();
        }
        nodeCount = LEAST_NODES;
        slotCount = LEAST_SLOTS;
        barriersOn = true;
    }

    public int begin(int nodes, int slots) throws IllegalArgumentException {
        if (nodes < LEAST_NODES || nodes > MOST_NODES) {
            throw new IllegalArgumentException("nodes is not 3 to 7");
        }
        if (slots < LEAST_SLOTS || slots > MOST_SLOTS) {
            throw new IllegalArgumentException("slots is not 1 to 4");
        }
        int previous = nodeCount;
        nodeCount = nodes;
        slotCount = slots;
        forgetAll();
        return previous;
    }

    public int setBarriers(boolean on) {
        int previous = asNumber(barriersOn);
        barriersOn = on;
        return previous;
    }

    public int prepare(int node, int reached)
            throws IndexOutOfBoundsException, IllegalArgumentException, IllegalStateException {
        requireNode(node);
        requireReached(reached);
        if (!nodes[node].takesPart()) {
            throw new IllegalStateException("the node is down, or has not joined");
        }
        return sendPrepare(nodes[node], reached);
    }

    public int accept(int node, int slot, int value, int reached)
            throws IndexOutOfBoundsException, IllegalArgumentException, IllegalStateException {
        requireNode(node);
        requireSlot(slot);
        if (value < 0 || value > GREATEST_VALUE) {
            throw new IllegalArgumentException("value is not 0 to 9");
        }
        requireReached(reached);
        requireRound(node);
        return sendAccept(nodes[node], slot, value, reached);
    }

    public int barrier(int node) throws IndexOutOfBoundsException, IllegalStateException {
        requireNode(node);
        requireUp(node);
        return nodes[node].carryOutAll();
    }

    public int crash(int node, int lost)
            throws IndexOutOfBoundsException, IllegalArgumentException, IllegalStateException {
        requireNode(node);
        requireLost(lost);
        requireUp(node);
        return bringDown(nodes[node], lost);
    }

    public int wipe(int node) throws IndexOutOfBoundsException, IllegalStateException {
        requireNode(node);
        requireDown(node);
        return nodes[node].loseDisk();
    }

    public int restart(int node) throws IndexOutOfBoundsException, IllegalStateException {
        requireNode(node);
        requireDown(node);
        return nodes[node].bringUp();
    }

    public int rejoin(int node, int reached)
            throws IndexOutOfBoundsException, IllegalArgumentException, IllegalStateException {
        requireNode(node);
        requireReached(reached);
        if (!nodes[node].canRejoin()) {
            throw new IllegalStateException("the node is down, or has joined");
        }
        return readFromOthers(nodes[node], reached);
    }

    public int append(int code) throws IllegalArgumentException, IllegalStateException {
        if (code < FIRST_CODE || code > LAST_CODE) {
            throw new IllegalArgumentException("code is not 32 to 126");
        }
        if (inputLength >= INPUT_LIMIT) {
            throw new IllegalStateException("the buffer is full");
        }
        input[inputLength] = code;
        inputLength++;
        return inputLength;
    }

    public int clearInput() {
        int previous = inputLength;
        inputLength = 0;
        return previous;
    }

    public int firstError() {
        return readUpToError();
    }

    public int load() throws IllegalArgumentException {
        if (readUpToError() < inputLength || !reader.isComplete()) {
            throw new IllegalArgumentException("the buffer is not a complete text");
        }
        int carriedOut = 0;
        reader.reset();
        for (int i = 0; i < inputLength; i++) {
            reader.takes(input[i], nodeCount, slotCount);
            if (i + 1 == inputLength || input[i + 1] == ';') {
                carriedOut += asNumber(carriesOutEvent());
            }
        }
        inputLength = 0;
        return carriedOut;
    }

    public int count(int what) throws IllegalArgumentException {
        switch (what) {
            case 0: return nodeCount;
            case 1: return slotCount;
            case 2: return quorum();
            case 3: return asNumber(barriersOn);
            case 4: return nodesUp();
            case 5: return nodesJoined();
            case 6: return decidedSlots();
            case 7: return slotsInConflict();
            case 8: return messages;
            case 9: return notRefused;
            case 10: return writesWaiting();
            case 11: return lostWrites;
            default: throw new IllegalArgumentException("what is not 0 to 11");
        }
    }

    public int node(int node, int what) throws IndexOutOfBoundsException, IllegalArgumentException {
        requireNode(node);
        Node it = nodes[node];
        switch (what) {
            case 0: return asNumber(it.up);
            case 1: return asNumber(it.joined);
            case 2: return it.epoch;
            case 3: return it.view.promised;
            case 4: return it.disk.promised;
            case 5: return it.writes.size;
            case 6: return it.seen;
            case 7: return it.roundBallot;
            case 8: return it.nextBallot();
            default: throw new IllegalArgumentException("what is not 0 to 8");
        }
    }

    public int accepted(int node, int slot, int what)
            throws IndexOutOfBoundsException, IllegalArgumentException {
        requireNode(node);
        requireSlot(slot);
        Node it = nodes[node];
        switch (what) {
            case 0: return it.view.ballots[slot];
            case 1: return it.view.values[slot];
            case 2: return it.disk.ballots[slot];
            case 3: return it.disk.values[slot];
            default: throw new IllegalArgumentException("what is not 0 to 3");
        }
    }

    public int waiting(int node, int index, int what)
            throws IndexOutOfBoundsException, IllegalArgumentException {
        requireNode(node);
        Writes writes = nodes[node].writes;
        if (index < 0 || index >= writes.size) {
            throw new IndexOutOfBoundsException("the write does not exist");
        }
        switch (what) {
            case 0: return writes.slots[index];
            case 1: return writes.ballots[index];
            case 2: return writes.values[index];
            default: throw new IllegalArgumentException("what is not 0 to 2");
        }
    }

    public int slot(int slot, int what) throws IndexOutOfBoundsException, IllegalArgumentException {
        requireSlot(slot);
        Decision decision = decisions[slot];
        switch (what) {
            case 0: return decision.ballot;
            case 1: return decision.value;
            case 2: return decision.times;
            case 3: return holders(slot);
            case 4: return diskHolders(slot);
            case 5: return asNumber(isProtectedNow(slot));
            case 6: return asNumber(decision.conflict);
            default: throw new IllegalArgumentException("what is not 0 to 6");
        }
    }

    public int roundValue(int node, int slot)
            throws IndexOutOfBoundsException, IllegalStateException {
        requireNode(node);
        requireSlot(slot);
        requireRound(node);
        return nodes[node].roundValues[slot];
    }

    public int ifCrashed(int node, int lost, int slot)
            throws IndexOutOfBoundsException, IllegalArgumentException {
        requireNode(node);
        requireSlot(slot);
        requireLost(lost);
        return holdersAfterLoss(nodes[node], lost, slot);
    }

    public int harmless(int node) throws IndexOutOfBoundsException {
        requireNode(node);
        return mostHarmlessLosses(nodes[node]);
    }

    public int leastLosses(int slot) throws IndexOutOfBoundsException, IllegalStateException {
        requireSlot(slot);
        if (!decisions[slot].isMade()) {
            throw new IllegalStateException("the slot is not decided");
        }
        return fewestLosers(slot);
    }

    public int answered() {
        return bitsOfFloat(shareAnswered());
    }

    public double onDisks() {
        int decided = decidedSlots();
        if (decided <= 0 || nodeCount <= 0) {
            return 0.0;
        }
        int sum = 0;
        for (int i = 0; i < slotCount; i++) {
            sum += diskHolders(i);
        }
        return (double) sum / (double) (decided * nodeCount);
    }

    public long digest() {
        long hash = 1997L;
        for (int what = 0; what < COUNTS; what++) {
            hash = 31L * hash + count(what);
        }
        for (int i = 0; i < nodeCount; i++) {
            hash = hashOfNode(hash, i);
        }
        for (int i = 0; i < slotCount; i++) {
            for (int what = 0; what < SLOT_PROPERTIES; what++) {
                hash = 31L * hash + slot(i, what);
            }
        }
        hash = 31L * hash + answered();
        hash = 31L * hash + bitsOfDouble(onDisks());
        hash = 31L * hash + inputLength;
        for (int i = 0; i < inputLength; i++) {
            hash = 31L * hash + input[i];
        }
        return hash;
    }

    // ---- what the calls ask for before they change anything

    private boolean isNode(int node) {
        return node >= 0 && node < nodeCount;
    }

    private boolean isSlot(int slot) {
        return slot >= 0 && slot < slotCount;
    }

    private void requireNode(int node) {
        if (!isNode(node)) {
            throw new IndexOutOfBoundsException("the node does not exist");
        }
    }

    private void requireSlot(int slot) {
        if (!isSlot(slot)) {
            throw new IndexOutOfBoundsException("the slot does not exist");
        }
    }

    private void requireReached(int reached) {
        if (reached < 1 || reached >= 1 << nodeCount) {
            throw new IllegalArgumentException("reached is out of range");
        }
    }

    private static void requireLost(int lost) {
        if (lost < 0) {
            throw new IllegalArgumentException("lost is less than 0");
        }
    }

    private void requireUp(int node) {
        if (!nodes[node].up) {
            throw new IllegalStateException("the node is down");
        }
    }

    private void requireDown(int node) {
        if (nodes[node].up) {
            throw new IllegalStateException("the node is up");
        }
    }

    private void requireRound(int node) {
        if (!nodes[node].hasRound()) {
            throw new IllegalStateException("the node has no open round");
        }
    }

    // ---- ballots and rounds

    private void forgetAll() {
        for (int i = 0; i < MOST_NODES; i++) {
            nodes[i].reset();
        }
        for (int i = 0; i < MOST_SLOTS; i++) {
            decisions[i].reset();
        }
        messages = 0;
        notRefused = 0;
        lostWrites = 0;
    }

    private int quorum() {
        return nodeCount / 2 + 1;
    }

    private static boolean isIn(int set, int node) {
        return (set >> node & 1) == 1;
    }

    private boolean gets(int node, int reached) {
        return isIn(reached, node) && nodes[node].takesPart();
    }

    private int sendPrepare(Node sender, int reached) {
        int ballot = sender.nextBallot();
        sender.roundBallot = NONE;
        sender.tell(ballot);
        scratch.reset();
        int promises = 0;
        for (int i = 0; i < nodeCount; i++) {
            if (gets(i, reached) && agrees(nodes[i], sender, NONE, ballot, NONE)) {
                scratch.takeNewer(nodes[i].view);
                promises++;
            }
        }
        if (promises >= quorum()) {
            sender.openRound(ballot, scratch.values);
        }
        return promises;
    }

    private int sendAccept(Node sender, int slot, int value, int reached) {
        int ballot = sender.roundBallot;
        if (sender.roundValues[slot] == NONE) {
            sender.roundValues[slot] = value;
        }
        int sent = sender.roundValues[slot];
        int received = 0;
        int acceptances = 0;
        for (int i = 0; i < nodeCount; i++) {
            if (gets(i, reached)) {
                received++;
                acceptances += asNumber(agrees(nodes[i], sender, slot, ballot, sent));
            }
        }
        if (acceptances >= quorum()) {
            decisions[slot].decide(ballot, sent);
        }
        if (acceptances < received) {
            sender.roundBallot = NONE;
        }
        return acceptances;
    }

    // Both messages are answered alike but for the write; as among writes, NONE is the slot of a promise.
    private boolean agrees(Node receiver, Node sender, int slot, int ballot, int value) {
        int promised = receiver.view.promised;
        // What was promised can be accepted, but not promised once more.
        boolean agreed = slot == NONE ? ballot > promised : ballot >= promised;
        messages++;
        if (agreed) {
            notRefused++;
            receiver.write(slot, ballot, value);
        } else {
            sender.tell(promised);
        }
        if (barriersOn) {
            receiver.carryOutAll();
        }
        return agreed;
    }

    // ---- crashes

    private int bringDown(Node node, int lost) {
        int lostNow = node.fall(lost);
        lostWrites += lostNow;
        return lostNow;
    }

    private int readFromOthers(Node node, int reached) {
        scratch.reset();
        int readable = 0;
        for (int i = 0; i < nodeCount; i++) {
            // The node itself has not joined, so it never reads from itself.
            if (gets(i, reached)) {
                scratch.takeNewer(nodes[i].view);
                scratch.promised = Math.max(scratch.promised, nodes[i].view.promised);
                readable++;
            }
        }
        if (readable >= quorum()) {
            node.join(scratch);
        }
        return readable;
    }

    // ---- input

    private int readUpToError() {
        reader.reset();
        for (int i = 0; i < inputLength; i++) {
            if (!reader.takes(input[i], nodeCount, slotCount)) {
                return i;
            }
        }
        return inputLength;
    }

    private boolean carriesOutEvent() {
        if (!isNode(reader.node) || !isPossible(nodes[reader.node])) {
            return false;
        }
        Node node = nodes[reader.node];
        switch (reader.letter) {
            case 'p': sendPrepare(node, reader.reached); break;
            case 'a': sendAccept(node, reader.slot, reader.value, reader.reached); break;
            case 'f': node.carryOutAll(); break;
            case 'c': bringDown(node, reader.lost); break;
            case 'w': node.loseDisk(); break;
            case 'r': node.bringUp(); break;
            default: readFromOthers(node, reader.reached); break;
        }
        return true;
    }

    // An event has to be left out where its call would throw.
    private boolean isPossible(Node node) {
        switch (reader.letter) {
            case 'p': return node.takesPart();
            case 'a': return isSlot(reader.slot) && node.hasRound();
            case 'f':
            case 'c': return node.up;
            case 'w':
            case 'r': return !node.up;
            default: return node.canRejoin();
        }
    }

    // ---- what there is

    private static int asNumber(boolean is) {
        return is ? 1 : 0;
    }

    private int nodesUp() {
        int found = 0;
        for (int i = 0; i < nodeCount; i++) {
            found += asNumber(nodes[i].up);
        }
        return found;
    }

    private int nodesJoined() {
        int found = 0;
        for (int i = 0; i < nodeCount; i++) {
            found += asNumber(nodes[i].joined);
        }
        return found;
    }

    private int writesWaiting() {
        int found = 0;
        for (int i = 0; i < nodeCount; i++) {
            found += nodes[i].writes.size;
        }
        return found;
    }

    private int decidedSlots() {
        int found = 0;
        for (int i = 0; i < slotCount; i++) {
            found += asNumber(decisions[i].isMade());
        }
        return found;
    }

    private int slotsInConflict() {
        int found = 0;
        for (int i = 0; i < slotCount; i++) {
            found += asNumber(decisions[i].conflict);
        }
        return found;
    }

    private int holders(int slot) {
        int found = 0;
        for (int i = 0; i < nodeCount; i++) {
            found += asNumber(holds(nodes[i].view, slot));
        }
        return found;
    }

    private int diskHolders(int slot) {
        int found = 0;
        for (int i = 0; i < nodeCount; i++) {
            found += asNumber(holds(nodes[i].disk, slot));
        }
        return found;
    }

    private boolean holds(Disk disk, int slot) {
        return decisions[slot].isHeldBy(disk.ballots[slot], disk.values[slot]);
    }

    private boolean isProtectedNow(int slot) {
        return decisions[slot].isMade() && areEnough(holders(slot));
    }

    private boolean areEnough(int holding) {
        return nodeCount - holding < quorum();
    }

    // ---- losses

    private int holdersAfterLoss(Node node, int lost, int slot) {
        scratch.copyFrom(node.disk);
        node.writes.carryOutOn(scratch, node.writes.keptOf(lost));
        return holders(slot) - asNumber(holds(node.view, slot)) + asNumber(holds(scratch, slot));
    }

    // More losses mean fewer writes kept, so the first count of kept writes that does
    // no harm gives the answer; a greater loss can be harmless where a smaller is not.
    private int mostHarmlessLosses(Node node) {
        int needed = slotsThatNeed(node);
        Writes writes = node.writes;
        scratch.copyFrom(node.disk);
        for (int kept = 0; kept < writes.size; kept++) {
            if (holdsAll(scratch, needed)) {
                return writes.size - kept;
            }
            scratch.carryOut(writes.slots[kept], writes.ballots[kept], writes.values[kept]);
        }
        return 0;
    }

    // Losses of one node do harm alone to the slots that are protected only as long as it holds them.
    private int slotsThatNeed(Node node) {
        int needed = 0;
        for (int i = 0; i < slotCount; i++) {
            int holding = holders(i);
            if (holds(node.view, i) && areEnough(holding) && !areEnough(holding - 1)) {
                needed |= 1 << i;
            }
        }
        return needed;
    }

    private boolean holdsAll(Disk disk, int set) {
        for (int i = 0; i < slotCount; i++) {
            if (isIn(set, i) && !holds(disk, i)) {
                return false;
            }
        }
        return true;
    }

    private int fewestLosers(int slot) {
        int losers = 0;
        for (int i = 0; i < nodeCount; i++) {
            losers += asNumber(holds(nodes[i].view, slot) && !holds(nodes[i].disk, slot));
        }
        int holding = holders(slot);
        for (int taken = 0; taken <= losers; taken++) {
            if (!areEnough(holding - taken)) {
                return taken;
            }
        }
        return NONE;
    }

    // ---- numbers and their bits

    private float shareAnswered() {
        if (messages <= 0) {
            return 1.0f;
        }
        return (float) notRefused / (float) messages;
    }

    private long hashOfNode(long before, int node) {
        long hash = before;
        for (int what = 0; what < NODE_PROPERTIES; what++) {
            hash = 31L * hash + node(node, what);
        }
        hash = 31L * hash + mostHarmlessLosses(nodes[node]);
        for (int i = 0; i < slotCount; i++) {
            for (int what = 0; what < ACCEPTED_PARTS; what++) {
                hash = 31L * hash + accepted(node, i, what);
            }
        }
        for (int i = 0; i < nodes[node].writes.size; i++) {
            for (int what = 0; what < WRITE_PARTS; what++) {
                hash = 31L * hash + waiting(node, i, what);
            }
        }
        if (nodes[node].hasRound()) {
            for (int i = 0; i < slotCount; i++) {
                hash = 31L * hash + roundValue(node, i);
            }
        }
        return hash;
    }

    // The two below put together what floatToIntBits and doubleToLongBits answer, which
    // LANGUAGE.md leaves out; they serve shares alone, which are 0 to 1 and never subnormal.

    private static int bitsOfFloat(float share) {
        if (!(share > 0.0f)) {
            return 0;
        }
        float mantissa = share;
        int exponent = 127;
        while (mantissa < 1.0f && exponent > 1) {
            mantissa = mantissa * 2.0f;
            exponent--;
        }
        return (exponent << 23) + (int) ((mantissa - 1.0f) * 8388608.0f);
    }

    private static long bitsOfDouble(double share) {
        if (!(share > 0.0)) {
            return 0L;
        }
        double mantissa = share;
        long exponent = 1023L;
        while (mantissa < 1.0 && exponent > 1L) {
            mantissa = mantissa * 2.0;
            exponent--;
        }
        return (exponent << 52) + (long) ((mantissa - 1.0) * 4503599627370496.0);
    }

    /** What a disk holds, or would hold: a promised ballot, and what is accepted in each slot. */
    private static final class Disk {
        int promised;
        final int[] ballots = new int[MOST_SLOTS];
        final int[] values = new int[MOST_SLOTS];

        Disk() {
            Arrays.fill(values, NONE);
        }

        void reset() {
            promised = 0;
            Arrays.fill(ballots, 0);
            Arrays.fill(values, NONE);
        }

        void copyFrom(Disk other) {
            promised = other.promised;
            System.arraycopy(other.ballots, 0, ballots, 0, MOST_SLOTS);
            System.arraycopy(other.values, 0, values, 0, MOST_SLOTS);
        }

        void carryOut(int slot, int ballot, int value) {
            promised = ballot;
            // A promise has NONE for its slot.
            if (slot >= 0 && slot < MOST_SLOTS) {
                ballots[slot] = ballot;
                values[slot] = value;
            }
        }

        // Only a greater ballot takes the place, so that of several the lowest node's stays.
        void takeNewer(Disk other) {
            for (int i = 0; i < MOST_SLOTS; i++) {
                if (other.ballots[i] > ballots[i]) {
                    ballots[i] = other.ballots[i];
                    values[i] = other.values[i];
                }
            }
        }

        int acceptedSlots() {
            int found = 0;
            for (int i = 0; i < MOST_SLOTS; i++) {
                found += asNumber(values[i] != NONE);
            }
            return found;
        }
    }

    /** Writes that have not reached a disk, in the order in which they were made. */
    private static final class Writes {
        int[] slots = new int[WAITING_AT_FIRST];
        int[] ballots = new int[WAITING_AT_FIRST];
        int[] values = new int[WAITING_AT_FIRST];
        int size;

        void add(int slot, int ballot, int value) {
            // Only an object older than its 512 calls has so many; its answers are free.
            if (size >= WAITING_LIMIT) {
                return;
            }
            if (size >= slots.length) {
                grow();
            }
            slots[size] = slot;
            ballots[size] = ballot;
            values[size] = value;
            size++;
        }

        private void grow() {
            int length = slots.length * 2;
            slots = Arrays.copyOf(slots, length);
            ballots = Arrays.copyOf(ballots, length);
            values = Arrays.copyOf(values, length);
        }

        int keptOf(int lost) {
            return size - Math.min(lost, size);
        }

        void carryOutOn(Disk disk, int kept) {
            for (int i = 0; i < kept && i < size; i++) {
                disk.carryOut(slots[i], ballots[i], values[i]);
            }
        }
    }

    private static final class Node {
        final int number;
        final Disk disk = new Disk();
        final Disk view = new Disk();
        final Writes writes = new Writes();
        final int[] roundValues = new int[MOST_SLOTS];
        boolean up = true;
        boolean joined = true;
        int epoch;
        int seen;
        int roundBallot = NONE;

        Node(int number) {
            this.number = number;
        }

        void reset() {
            disk.reset();
            view.reset();
            writes.size = 0;
            up = true;
            joined = true;
            epoch = 0;
            seen = 0;
            roundBallot = NONE;
        }

        boolean takesPart() {
            return up && joined;
        }

        boolean canRejoin() {
            return up && !joined;
        }

        boolean hasRound() {
            return roundBallot != NONE;
        }

        int nextBallot() {
            int passed = Math.max(seen, view.promised);
            int step = Math.floorDiv(passed - number, BALLOT_STEP) + 1;
            return BALLOT_STEP * Math.max(step, 1) + number;
        }

        void tell(int ballot) {
            seen = Math.max(seen, ballot);
        }

        void openRound(int ballot, int[] values) {
            roundBallot = ballot;
            System.arraycopy(values, 0, roundValues, 0, MOST_SLOTS);
        }

        void write(int slot, int ballot, int value) {
            writes.add(slot, ballot, value);
            view.carryOut(slot, ballot, value);
        }

        // The view stays: it is what the disk becomes.
        int carryOutAll() {
            int waited = writes.size;
            writes.carryOutOn(disk, waited);
            writes.size = 0;
            return waited;
        }

        int fall(int lost) {
            int waited = writes.size;
            int kept = writes.keptOf(lost);
            writes.carryOutOn(disk, kept);
            writes.size = 0;
            view.copyFrom(disk);
            up = false;
            roundBallot = NONE;
            seen = 0;
            return waited - kept;
        }

        int loseDisk() {
            int had = disk.acceptedSlots();
            disk.reset();
            view.reset();
            joined = false;
            return had;
        }

        int bringUp() {
            up = true;
            epoch++;
            return epoch;
        }

        // Its disk is as at first since it was wiped, so what was read is all that it holds.
        void join(Disk read) {
            disk.copyFrom(read);
            view.copyFrom(read);
            joined = true;
            tell(read.promised);
        }
    }

    /** The first decision on a slot, and what later ones showed. */
    private static final class Decision {
        int ballot = NONE;
        int value = NONE;
        int times;
        boolean conflict;

        void reset() {
            ballot = NONE;
            value = NONE;
            times = 0;
            conflict = false;
        }

        boolean isMade() {
            return times > 0;
        }

        void decide(int newBallot, int newValue) {
            if (!isMade()) {
                ballot = newBallot;
                value = newValue;
            } else if (newValue != value) {
                conflict = true;
            }
            times++;
        }

        boolean isHeldBy(int acceptedBallot, int acceptedValue) {
            return times > 0 && acceptedValue == value && acceptedBallot >= ballot;
        }
    }

    /** Reads events character by character, and keeps the parts of the one it reads. */
    private static final class EventReader {
        private static final int AT_LETTER = 0;
        private static final int AT_NODE = 1;
        private static final int AT_SLOT_SIGN = 2;
        private static final int AT_SLOT = 3;
        private static final int AT_VALUE_SIGN = 4;
        private static final int AT_VALUE = 5;
        private static final int AT_REACHED_SIGN = 6;
        private static final int AT_FIRST_REACHED = 7;
        private static final int AT_NEXT_REACHED = 8;
        private static final int AT_LOST_SIGN = 9;
        private static final int AT_LOST = 10;
        private static final int AT_END = 11;
        private static final int DIGITS = 10;

        int letter;
        int node;
        int slot;
        int value;
        int reached;
        int lost;
        private int place;

        void reset() {
            place = AT_LETTER;
        }

        boolean isComplete() {
            return place == AT_END || place == AT_NEXT_REACHED;
        }

        boolean takes(int code, int nodeCount, int slotCount) {
            switch (place) {
                case AT_LETTER:
                    return takesLetter(code);
                case AT_NODE:
                    node = digit(code, nodeCount);
                    return goesOn(node != NONE, placeBehindNode());
                case AT_SLOT_SIGN:
                    return goesOn(code == 's', AT_SLOT);
                case AT_SLOT:
                    slot = digit(code, slotCount);
                    return goesOn(slot != NONE, AT_VALUE_SIGN);
                case AT_VALUE_SIGN:
                    return goesOn(code == '=', AT_VALUE);
                case AT_VALUE:
                    value = digit(code, DIGITS);
                    return goesOn(value != NONE, AT_REACHED_SIGN);
                case AT_REACHED_SIGN:
                    return goesOn(code == '>', AT_FIRST_REACHED);
                case AT_FIRST_REACHED:
                    return takesReached(digit(code, nodeCount));
                case AT_NEXT_REACHED:
                    return goesOn(code == ';', AT_LETTER) || takesReached(digit(code, nodeCount));
                case AT_LOST_SIGN:
                    return goesOn(code == '-', AT_LOST);
                case AT_LOST:
                    lost = digit(code, DIGITS);
                    return goesOn(lost != NONE, AT_END);
                default:
                    return goesOn(code == ';', AT_LETTER);
            }
        }

        private static int digit(int code, int bound) {
            int number = code - '0';
            return number >= 0 && number < bound ? number : NONE;
        }

        private boolean goesOn(boolean allowed, int next) {
            if (allowed) {
                place = next;
            }
            return allowed;
        }

        private boolean takesLetter(int code) {
            letter = code;
            reached = 0;
            return goesOn(isLetter(code), AT_NODE);
        }

        private static boolean isLetter(int code) {
            switch (code) {
                case 'p':
                case 'a':
                case 'f':
                case 'c':
                case 'w':
                case 'r':
                case 'j': return true;
                default: return false;
            }
        }

        private int placeBehindNode() {
            switch (letter) {
                case 'p':
                case 'j': return AT_REACHED_SIGN;
                case 'a': return AT_SLOT_SIGN;
                case 'c': return AT_LOST_SIGN;
                default: return AT_END;
            }
        }

        // A set whose numbers are all less than this one has no bit at its place or above.
        private boolean takesReached(int number) {
            if (number == NONE || reached >> number != 0) {
                return false;
            }
            reached |= 1 << number;
            place = AT_NEXT_REACHED;
            return true;
        }
    }
}
