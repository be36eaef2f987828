/**
 * A network of meters that hand their readings to a collector hop by hop, slot by slot.
 * What each call does is told in the document, promise by promise.
 */
public final class MeterNetwork {
    public static final int NONE = -1;

    private static final int NODES = 10;
    private static final int COLLECTOR = 0;
    private static final int MAX_DEPTH = 9;
    private static final int MAX_READINGS = 60;
    private static final int STORE_LIMIT = 6;
    private static final int MAX_VALUE = 999;
    private static final int MAX_JUMP = 100;
    private static final int MAX_FAULTS = 9;
    private static final int FIRST_PATIENCE = 2;
    private static final int MAX_PATIENCE = 5;
    private static final int SLOTS_PER_ROUND = 10;
    private static final int MAX_SLOTS = 100;
    private static final int MAX_SLOTS_TO_COLLECT = 400;
    private static final int MAX_SAVED = 6;
    private static final int MAX_TEXT = 80;
    private static final int FIRST_SIGN = 32;
    private static final int LAST_SIGN = 126;
    private static final char NO_SIGN = 0;
    private static final int TIME = 3;
    private static final int STAMP = 4;

    private final State state = new State();
    /** What would happen is tried out here, so that the queries leave the state alone. */
    private final State trial = new State();
    private final History history = new History();
    private final TextBuffer text = new TextBuffer();

    public MeterNetwork() {
    }

    // ---- nodes and links

    public int link(int a, int b, boolean on) throws IndexOutOfBoundsException, IllegalArgumentException {
        checkNode(a);
        checkNode(b);
        if (a == b) {
            throw new IllegalArgumentException("both nodes are the same");
        }
        history.save(state);
        state.setLink(a, b, on);
        return state.linkCount();
    }

    public int power(int node, boolean on) throws IndexOutOfBoundsException {
        checkNode(node);
        history.save(state);
        state.setPower(node, on);
        return state.onCount();
    }

    public int jump(int meter, int slots) throws IndexOutOfBoundsException, IllegalArgumentException {
        checkMeter(meter);
        checkRange(slots, -MAX_JUMP, MAX_JUMP);
        history.save(state);
        state.offsets[meter] += slots;
        return state.offsets[meter];
    }

    public int setFaults(int meter, int count) throws IndexOutOfBoundsException, IllegalArgumentException {
        checkMeter(meter);
        checkRange(count, 0, MAX_FAULTS);
        history.save(state);
        int previous = state.faultsLeft[meter];
        state.faultsLeft[meter] = count;
        return previous;
    }

    public int setPatience(int rounds) throws IllegalArgumentException {
        checkRange(rounds, 1, MAX_PATIENCE);
        history.save(state);
        int previous = state.patience;
        state.patience = rounds;
        return previous;
    }

    // ---- readings, slots

    public int take(int meter, int value)
            throws IndexOutOfBoundsException, IllegalArgumentException, IllegalStateException {
        checkMeter(meter);
        checkRange(value, 0, MAX_VALUE);
        if (!state.canTake(meter)) {
            throw new IllegalStateException("no room for another reading");
        }
        history.save(state);
        return state.takeReading(meter, value);
    }

    public int run(int slots) throws IllegalArgumentException {
        checkRange(slots, 1, MAX_SLOTS);
        history.save(state);
        return state.runSlots(slots);
    }

    // ---- texts

    public int appendText(int character) throws IllegalArgumentException, IllegalStateException {
        checkRange(character, FIRST_SIGN, LAST_SIGN);
        if (text.isFull()) {
            throw new IllegalStateException("the text is full");
        }
        text.append((char) character);
        return text.length;
    }

    public int clearText() {
        int before = text.length;
        text.length = 0;
        return before;
    }

    public int errorPosition() {
        return text.findError();
    }

    public int runText() throws IllegalStateException {
        if (text.findError() != NONE) {
            throw new IllegalStateException("the text is not valid");
        }
        history.save(state);
        text.position = 0;
        int executed = 0;
        while (executed < MAX_TEXT && text.readCommand() && executeCommand()) {
            executed++;
            if (!text.readSign(';')) {
                return executed;
            }
        }
        return executed;
    }

    /** Executes the command that was read last; false if its method would throw. */
    private boolean executeCommand() {
        switch (text.kind) {
            case '+':
                state.setLink(text.first, text.second, true);
                return true;
            case '-':
                state.setLink(text.first, text.second, false);
                return true;
            case '!':
                state.setPower(text.first, !state.isOn(text.first));
                return true;
            case 't':
                if (!state.canTake(text.first)) {
                    return false;
                }
                state.takeReading(text.first, text.number);
                return true;
            default:
                state.runSlots(text.number);
                return true;
        }
    }

    // ---- undo

    public int undo() throws IllegalStateException {
        State newest = history.newest();
        if (newest == null) {
            throw new IllegalStateException("there is no saved state");
        }
        state.copyFrom(newest);
        history.removeNewest();
        return history.size;
    }

    // ---- queries about nodes

    public boolean isConnected(int a, int b) throws IndexOutOfBoundsException {
        checkNode(a);
        checkNode(b);
        return state.areConnected(a, b);
    }

    public int parent(int node) throws IndexOutOfBoundsException {
        checkNode(node);
        return state.parents[node];
    }

    public int depth(int node) throws IndexOutOfBoundsException {
        checkNode(node);
        return state.depths[node];
    }

    public int clock(int node) throws IndexOutOfBoundsException {
        checkNode(node);
        return state.now + state.offsets[node];
    }

    public int silence(int meter) throws IndexOutOfBoundsException {
        checkMeter(meter);
        return state.parents[meter] == NONE ? NONE : state.now - state.lastHeard[meter];
    }

    public int faults(int meter) throws IndexOutOfBoundsException {
        checkMeter(meter);
        return state.faultsLeft[meter];
    }

    public int hops(int node) throws IndexOutOfBoundsException {
        checkNode(node);
        return state.hopsToCollector(node);
    }

    // ---- queries about readings

    public int stored(int meter) throws IndexOutOfBoundsException {
        checkMeter(meter);
        return state.readings.sizeOf(meter);
    }

    public int storedReading(int meter, int index, int part)
            throws IndexOutOfBoundsException, IllegalArgumentException {
        checkMeter(meter);
        checkIndex(index);
        checkRange(part, 0, STAMP);
        return state.readings.partOf(meter, index, part);
    }

    public int collected() {
        return state.readings.sizeOf(COLLECTOR);
    }

    public int collectedReading(int index, int part) throws IndexOutOfBoundsException, IllegalArgumentException {
        checkIndex(index);
        checkRange(part, 0, STAMP);
        return state.readings.partOf(COLLECTOR, index, part);
    }

    public int copies(int meter, int number) throws IndexOutOfBoundsException {
        checkMeter(meter);
        int id = state.readings.findId(meter, number);
        return id == NONE ? NONE : state.readings.storesWith(id);
    }

    public int missing() {
        return state.readings.missingCount();
    }

    public int wrongStamps() {
        return state.readings.wrongStampCount();
    }

    // ---- queries about what would happen

    public int slotsToCollect() {
        trial.copyFrom(state);
        for (int slots = 0; slots <= MAX_SLOTS_TO_COLLECT; slots++) {
            if (trial.readings.missingCount() == 0) {
                return slots;
            }
            trial.runSlots(1);
        }
        return NONE;
    }

    public int ifRun(int slots) throws IllegalArgumentException {
        checkRange(slots, 1, MAX_SLOTS);
        trial.copyFrom(state);
        return trial.runSlots(slots);
    }

    // ---- counts

    public int time() {
        return state.now;
    }

    public int count(int what) throws IllegalArgumentException {
        switch (what) {
            case 0:
                return state.readings.taken;
            case 1:
                return state.sent;
            case 2:
                return state.duplicates;
            case 3:
                return state.refused;
            case 4:
                return state.lostAcknowledgements;
            case 5:
                return state.droppedParents;
            default:
                throw new IllegalArgumentException("there is no such count");
        }
    }

    public double joined() {
        return (double) state.joinedCount() / 9.0;
    }

    public int savedStates() {
        return history.size;
    }

    public int textLength() {
        return text.length;
    }

    // ---- checks of arguments

    private static boolean isNode(int node) {
        return node >= 0 && node < NODES;
    }

    private static void checkNode(int node) {
        if (!isNode(node)) {
            throw new IndexOutOfBoundsException("there is no such node");
        }
    }

    private static void checkMeter(int meter) {
        if (!isNode(meter) || meter == COLLECTOR) {
            throw new IndexOutOfBoundsException("there is no such meter");
        }
    }

    private static void checkIndex(int index) {
        if (index < 0) {
            throw new IndexOutOfBoundsException("the index is negative");
        }
    }

    private static void checkRange(int value, int least, int most) {
        if (value < least || value > most) {
            throw new IllegalArgumentException("the value is out of range");
        }
    }

    // ---- rows

    private static void copyRow(int[] from, int[] to) {
        System.arraycopy(from, 0, to, 0, Math.min(from.length, to.length));
    }

    private static void copyRow(boolean[] from, boolean[] to) {
        System.arraycopy(from, 0, to, 0, Math.min(from.length, to.length));
    }

    /** All that undo() brings back: sections 1 to 5 of the document, and the counts. */
    private static final class State {
        /** The link of a and b stands twice, at a * NODES + b and at b * NODES + a. */
        private final boolean[] linked = new boolean[NODES * NODES];
        private final boolean[] on = new boolean[NODES];
        private final int[] parents = new int[NODES];
        private final int[] depths = new int[NODES];
        private final int[] lastHeard = new int[NODES];
        private final int[] offsets = new int[NODES];
        private final int[] faultsLeft = new int[NODES];
        private final Readings readings = new Readings();
        private int now;
        private int patience = FIRST_PATIENCE;
        private int sent;
        private int duplicates;
        private int refused;
        private int lostAcknowledgements;
        private int droppedParents;

        private State() {
            for (int node = 0; node < NODES; node++) {
                on[node] = true;
                parents[node] = NONE;
                depths[node] = node == COLLECTOR ? 0 : NONE;
            }
        }

        private void copyFrom(State other) {
            copyRow(other.linked, linked);
            copyRow(other.on, on);
            copyRow(other.parents, parents);
            copyRow(other.depths, depths);
            copyRow(other.lastHeard, lastHeard);
            copyRow(other.offsets, offsets);
            copyRow(other.faultsLeft, faultsLeft);
            readings.copyFrom(other.readings);
            now = other.now;
            patience = other.patience;
            sent = other.sent;
            duplicates = other.duplicates;
            refused = other.refused;
            lostAcknowledgements = other.lostAcknowledgements;
            droppedParents = other.droppedParents;
        }

        // -- nodes and links

        private void setLink(int a, int b, boolean isLinked) {
            if (isNode(a) && isNode(b)) {
                linked[a * NODES + b] = isLinked;
                linked[b * NODES + a] = isLinked;
            }
        }

        private int linkCount() {
            int ends = 0;
            for (int i = 0; i < linked.length; i++) {
                ends += linked[i] ? 1 : 0;
            }
            return ends / 2;
        }

        private boolean isOn(int node) {
            return isNode(node) && on[node];
        }

        private void setPower(int node, boolean isOn) {
            if (isNode(node)) {
                on[node] = isOn;
            }
        }

        private int onCount() {
            int nodes = 0;
            for (int node = 0; node < NODES; node++) {
                nodes += on[node] ? 1 : 0;
            }
            return nodes;
        }

        private boolean areConnected(int a, int b) {
            return isOn(a) && isOn(b) && linked[a * NODES + b];
        }

        private int hopsToCollector(int node) {
            int reached = on[COLLECTOR] ? 1 << COLLECTOR : 0;
            for (int hop = 0; hop < NODES; hop++) {
                if ((reached & 1 << node) != 0) {
                    return hop;
                }
                reached |= neighboursOf(reached);
            }
            return NONE;
        }

        /** The nodes, one bit for each, that are connected with one of the nodes given so. */
        private int neighboursOf(int nodes) {
            int neighbours = 0;
            for (int a = 0; a < NODES; a++) {
                for (int b = 0; b < NODES; b++) {
                    if ((nodes & 1 << a) != 0 && areConnected(a, b)) {
                        neighbours |= 1 << b;
                    }
                }
            }
            return neighbours;
        }

        private int joinedCount() {
            int meters = 0;
            for (int node = 0; node < NODES; node++) {
                meters += parents[node] == NONE ? 0 : 1;
            }
            return meters;
        }

        // -- taking readings

        private boolean canTake(int meter) {
            return readings.taken < MAX_READINGS && !readings.isFull(meter);
        }

        private int takeReading(int meter, int value) {
            if (!isNode(meter)) {
                return NONE;
            }
            return readings.takeAt(meter, value, now, now + offsets[meter]);
        }

        // -- slots

        /** Returns the number of readings that are collected in these slots. */
        private int runSlots(int slots) {
            int before = readings.sizeOf(COLLECTOR);
            for (int slot = 0; slot < slots; slot++) {
                int node = Math.floorMod(now, NODES);
                if (on[node]) {
                    losePatience(node);
                    beHeard(node);
                    send(node);
                }
                now++;
            }
            return readings.sizeOf(COLLECTOR) - before;
        }

        private void losePatience(int n) {
            if (parents[n] != NONE && now - lastHeard[n] > SLOTS_PER_ROUND * patience) {
                dropParent(n);
            }
        }

        private void beHeard(int n) {
            for (int m = 0; m < NODES; m++) {
                if (m != COLLECTOR && areConnected(m, n)) {
                    hear(m, n);
                }
            }
        }

        private void hear(int m, int n) {
            boolean leads = depths[n] != NONE && depths[n] < MAX_DEPTH;
            boolean isParent = parents[m] == n;
            if (isParent && !leads) {
                dropParent(m);
            } else if (isParent || leads && isBetterParent(m, n)) {
                parents[m] = n;
                depths[m] = depths[n] + 1;
                lastHeard[m] = now;
                readings.shiftStamps(m, offsets[n] - offsets[m]);
                offsets[m] = offsets[n];
            }
        }

        private boolean isBetterParent(int m, int n) {
            return parents[n] != m && (parents[m] == NONE || depths[m] > depths[n] + 1);
        }

        private void dropParent(int m) {
            parents[m] = NONE;
            depths[m] = NONE;
            droppedParents++;
        }

        private void send(int n) {
            int p = parents[n];
            if (!areConnected(n, p) || readings.sizeOf(n) == 0) {
                return;
            }
            sent++;
            if (!isAccepted(n, p)) {
                refused++;
            } else if (faultsLeft[n] > 0) {
                faultsLeft[n]--;
                lostAcknowledgements++;
            } else {
                readings.removeFirst(n);
            }
        }

        /** Hands the first reading of n to p; false if p refuses it. */
        private boolean isAccepted(int n, int p) {
            int id = readings.idAt(n, 0);
            if (readings.holds(p, id)) {
                duplicates++;
                return true;
            }
            if (!isNode(p) || readings.isFull(p)) {
                return false;
            }
            readings.put(p, id, readings.stampAt(n, 0) + offsets[p] - offsets[n]);
            return true;
        }
    }

    /**
     * The readings that were taken, each with an id in the order of taking, and the nodes' lists
     * of them: the store of each meter, and for the collector the collected readings.
     * A reading's stamp belongs to the list, as each copy of a reading has its own.
     */
    private static final class Readings {
        private static final int ROW = MAX_READINGS;

        private final int[] meters = new int[MAX_READINGS];
        private final int[] numbers = new int[MAX_READINGS];
        private final int[] values = new int[MAX_READINGS];
        private final int[] times = new int[MAX_READINGS];
        private int taken;
        private final int[] sizes = new int[NODES];
        /** The list of a node begins at the cell node * ROW. */
        private final int[] ids = new int[NODES * ROW];
        private final int[] stamps = new int[NODES * ROW];

        private Readings() {
        }

        private void copyFrom(Readings other) {
            copyRow(other.meters, meters);
            copyRow(other.numbers, numbers);
            copyRow(other.values, values);
            copyRow(other.times, times);
            taken = other.taken;
            copyRow(other.sizes, sizes);
            copyRow(other.ids, ids);
            copyRow(other.stamps, stamps);
        }

        // -- the readings

        private int takeAt(int meter, int value, int time, int stamp) {
            int id = taken;
            if (id < 0 || id >= MAX_READINGS) {
                return NONE;
            }
            int number = takenAt(meter);
            meters[id] = meter;
            numbers[id] = number;
            values[id] = value;
            times[id] = time;
            taken++;
            put(meter, id, stamp);
            return number;
        }

        private int takenAt(int meter) {
            int readings = 0;
            for (int id = 0; id < MAX_READINGS && id < taken; id++) {
                readings += meters[id] == meter ? 1 : 0;
            }
            return readings;
        }

        private int findId(int meter, int number) {
            for (int id = 0; id < MAX_READINGS && id < taken; id++) {
                if (meters[id] == meter && numbers[id] == number) {
                    return id;
                }
            }
            return NONE;
        }

        private int missingCount() {
            return taken - sizeOf(COLLECTOR);
        }

        // -- the lists

        /** The length of a node's list, never above what its row has; 0 for what is no node. */
        private int sizeOf(int node) {
            boolean isThere = node >= 0 && node < NODES;
            return isThere ? Math.min(sizes[node], ROW) : 0;
        }

        private boolean isFull(int node) {
            return sizeOf(node) >= (node == COLLECTOR ? MAX_READINGS : STORE_LIMIT);
        }

        private int idAt(int node, int index) {
            boolean isThere = index >= 0 && index < sizeOf(node);
            return isThere ? ids[node * ROW + index] : NONE;
        }

        private int stampAt(int node, int index) {
            boolean isThere = index >= 0 && index < sizeOf(node);
            return isThere ? stamps[node * ROW + index] : NONE;
        }

        private int partOf(int node, int index, int part) {
            int id = idAt(node, index);
            if (id < 0 || id >= MAX_READINGS) {
                return NONE;
            }
            switch (part) {
                case 0:
                    return meters[id];
                case 1:
                    return numbers[id];
                case 2:
                    return values[id];
                case TIME:
                    return times[id];
                default:
                    return stampAt(node, index);
            }
        }

        private boolean holds(int node, int id) {
            for (int index = 0; index < sizeOf(node); index++) {
                if (ids[node * ROW + index] == id) {
                    return true;
                }
            }
            return false;
        }

        private int storesWith(int id) {
            int stores = 0;
            for (int node = 0; node < NODES; node++) {
                stores += node != COLLECTOR && holds(node, id) ? 1 : 0;
            }
            return stores;
        }

        private int wrongStampCount() {
            int wrong = 0;
            for (int index = 0; index < sizeOf(COLLECTOR); index++) {
                wrong += partOf(COLLECTOR, index, STAMP) == partOf(COLLECTOR, index, TIME) ? 0 : 1;
            }
            return wrong;
        }

        private void put(int node, int id, int stamp) {
            int index = sizeOf(node);
            if (isNode(node) && index < ROW) {
                ids[node * ROW + index] = id;
                stamps[node * ROW + index] = stamp;
                sizes[node] = index + 1;
            }
        }

        private void removeFirst(int node) {
            int size = sizeOf(node);
            if (size == 0) {
                return;
            }
            for (int index = 1; index < size; index++) {
                int cell = node * ROW + index;
                ids[cell - 1] = ids[cell];
                stamps[cell - 1] = stamps[cell];
            }
            sizes[node] = size - 1;
        }

        private void shiftStamps(int node, int amount) {
            for (int index = 0; index < sizeOf(node); index++) {
                stamps[node * ROW + index] += amount;
            }
        }
    }

    /** The saved states, in a ring whose states are made once and used again. */
    private static final class History {
        private final State[] ring = new State[MAX_SAVED];
        private int oldest;
        private int size;

        private History() {
        }

        private void save(State state) {
            int place = Math.floorMod(oldest + size, MAX_SAVED);
            State copy = ring[place];
            if (copy == null) {
                copy = new State();
                ring[place] = copy;
            }
            copy.copyFrom(state);
            if (size < MAX_SAVED) {
                size++;
            } else {
                oldest = Math.floorMod(oldest + 1, MAX_SAVED);
            }
        }

        /** The state that was saved last; null if there is none. */
        private State newest() {
            return size == 0 ? null : ring[Math.floorMod(oldest + size - 1, MAX_SAVED)];
        }

        private void removeNewest() {
            if (size > 0) {
                size--;
            }
        }
    }

    /** The text buffer, and a reader that goes through it command by command. */
    private static final class TextBuffer {
        private final char[] signs = new char[MAX_TEXT];
        private int length;
        /** Where the reader stands; where reading fails, this is the error position. */
        private int position;
        /** The command that was read last: its first sign, its nodes or its meter, and its number. */
        private char kind;
        private int first;
        private int second;
        private int number;

        private TextBuffer() {
        }

        private boolean isFull() {
            return length >= MAX_TEXT;
        }

        private void append(char sign) {
            if (length >= 0 && length < signs.length) {
                signs[length] = sign;
                length++;
            }
        }

        private int findError() {
            position = 0;
            for (int commands = 0; commands <= MAX_TEXT; commands++) {
                if (!readCommand()) {
                    return position;
                }
                if (position >= length) {
                    return NONE;
                }
                if (!readSign(';')) {
                    return position;
                }
            }
            return position;
        }

        private boolean readCommand() {
            kind = signHere();
            switch (kind) {
                case '+':
                case '-':
                    position++;
                    return readFirst(0) && readSecond();
                case '!':
                    position++;
                    return readFirst(0);
                case 't':
                    position++;
                    return readFirst(1) && readSign(',') && readNumber(0, MAX_VALUE);
                case 'r':
                    position++;
                    return readNumber(1, MAX_SLOTS);
                default:
                    return false;
            }
        }

        private boolean readSign(char sign) {
            if (signHere() != sign) {
                return false;
            }
            position++;
            return true;
        }

        private boolean readFirst(int least) {
            int digit = digitHere();
            if (digit < least) {
                return false;
            }
            first = digit;
            position++;
            return true;
        }

        private boolean readSecond() {
            int digit = digitHere();
            if (digit == NONE || digit == first) {
                return false;
            }
            second = digit;
            position++;
            return true;
        }

        /** Reads a number; least is 0 or 1, so that the first digit alone tells whether it is too small. */
        private boolean readNumber(int least, int most) {
            number = digitHere();
            if (number < least) {
                return false;
            }
            position++;
            for (int digits = 1; digits < MAX_TEXT && digitHere() != NONE; digits++) {
                int longer = number * 10 + digitHere();
                if (number == 0 || longer > most) {
                    return false;
                }
                number = longer;
                position++;
            }
            return true;
        }

        /** The sign at which the reader stands; behind the end a sign that no text holds. */
        private char signHere() {
            boolean isInside = position >= 0 && position < length && position < signs.length;
            return isInside ? signs[position] : NO_SIGN;
        }

        private int digitHere() {
            char sign = signHere();
            return sign >= '0' && sign <= '9' ? sign - '0' : NONE;
        }
    }
}
