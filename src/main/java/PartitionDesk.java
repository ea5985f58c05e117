/**
 * Partitions of a small machine that can touch one another only by the ports
 * that a table names. The numbered promises are in the document DOC.md.
 *
 * All rows are made with the object and used again, so that no call makes
 * anything that has to be kept.
 */
public final class PartitionDesk {
    private static final int PARTITIONS = 4;
    private static final int WORDS = 64;
    private static final int LONGEST_REGION = 32;
    private static final int MOST_WINDOWS = 8;
    private static final int LONGEST_WINDOW = 9;
    private static final int MOST_PORTS = 6;
    private static final int DEEPEST_PORT = 4;
    private static final int INSTRUCTIONS = 16;
    private static final int MOST_INPUTS = 8;
    private static final int KEPT_OUTPUTS = 16;
    private static final int MOST_TICKS_A_RUN = 200;
    private static final int OLDEST_TOLD = 99;

    private static final int REGISTERS = 4;
    /** The register in which an instruction tells how it went. */
    private static final int TELLING = 3;

    private static final int REFUSED = -1;

    private static final int GOOD = 0;
    private static final int NOBODY_TAKES_PART = 1;
    private static final int REGIONS_OVERLAP = 2;
    private static final int WINDOWS_DO_NOT_FIT = 3;
    private static final int PORT_LEADS_NOWHERE = 4;

    private static final int NO_FAULT = 0;
    private static final int FAULT_WORD = 1;
    private static final int FAULT_PORT = 2;
    private static final int FAULT_OP = 3;
    private static final int FAULT_PLACE = 4;
    private static final int FAULTS = 4;

    private static final int STOP = 0;
    private static final int RESTART = 1;
    private static final int SKIP = 2;

    private static final int OP_NOTHING = 0;
    private static final int OP_SET = 1;
    private static final int OP_ADD = 2;
    private static final int OP_SUBTRACT = 3;
    private static final int OP_XOR = 4;
    private static final int OP_LOAD = 5;
    private static final int OP_STORE = 6;
    private static final int OP_JUMP = 7;
    private static final int OP_JUMP_NOT_ZERO = 8;
    private static final int OP_SEND = 9;
    private static final int OP_RECEIVE = 10;
    private static final int OP_INPUT = 11;
    private static final int OP_OUTPUT = 12;
    private static final int OP_WAIT = 13;
    private static final int OP_STOP = 14;

    private final int[] memory;
    private final Partition[] partitions;
    private final Port[] ports;
    private final Frame frame;
    private int portCount;
    private boolean started;

    public PartitionDesk() {
        memory = new int[WORDS];
        partitions = new Partition[PARTITIONS];
        for (int i = 0; i < PARTITIONS; i++) {
            partitions[i] = new Partition();
        }
        ports = new Port[MOST_PORTS];
        for (int i = 0; i < MOST_PORTS; i++) {
            ports[i] = new Port();
        }
        frame = new Frame();
        portCount = 0;
        started = false;
    }

    public boolean region(int partition, int from, int size) {
        if (!isPartition(partition) || size < 1 || size > LONGEST_REGION) {
            return false;
        }
        // Not from + size: that could wrap around.
        if (from < 0 || from > WORDS - size) {
            return false;
        }
        partitions[partition].from = from;
        partitions[partition].size = size;
        started = false;
        return true;
    }

    public boolean window(int partition, int ticks) {
        if (!isPartition(partition) || ticks < 1 || ticks > LONGEST_WINDOW || frame.isFull()) {
            return false;
        }
        frame.append(partition, ticks);
        started = false;
        return true;
    }

    public int port(int from, int to, int depth) {
        if (!isPartition(from) || !isPartition(to) || from == to) {
            return REFUSED;
        }
        if (depth < 0 || depth > DEEPEST_PORT || portCount >= MOST_PORTS) {
            return REFUSED;
        }
        int number = portCount;
        ports[number].from = from;
        ports[number].to = to;
        ports[number].depth = depth;
        portCount++;
        started = false;
        return number;
    }

    public boolean action(int partition, int fault, int action) {
        if (!isPartition(partition) || fault < 1 || fault > FAULTS || action < STOP || action > SKIP) {
            return false;
        }
        partitions[partition].actions[fault - 1] = action;
        started = false;
        return true;
    }

    public boolean code(int partition, int i, int op, int a, int b) {
        if (!isPartition(partition) || i < 0 || i >= INSTRUCTIONS) {
            return false;
        }
        partitions[partition].ops[i] = op;
        partitions[partition].firsts[i] = a;
        partitions[partition].seconds[i] = b;
        started = false;
        return true;
    }

    public int start() {
        int verdict = checkTable();
        if (verdict == GOOD) {
            beginAnew();
        }
        return verdict;
    }

    public int input(int partition, int v) {
        if (!isPartition(partition)) {
            return REFUSED;
        }
        ValueQueue inputs = partitions[partition].inputs;
        return inputs.put(v, MOST_INPUTS) ? inputs.count : REFUSED;
    }

    public int run(int n) {
        if (!started || n < 0 || n > MOST_TICKS_A_RUN) {
            return REFUSED;
        }
        int done = 0;
        for (int i = 0; i < n; i++) {
            if (passTick()) {
                done++;
            }
        }
        return done;
    }

    public int output(int partition, int i) {
        return isPartition(partition) ? partitions[partition].outputAt(i) : 0;
    }

    public int about(int partition, int w) {
        return isPartition(partition) ? partitions[partition].tell(w) : REFUSED;
    }

    public int word(int i) {
        return i >= 0 && i < WORDS ? memory[i] : 0;
    }

    public int waiting(int port) {
        return isPort(port) ? ports[port].values.count : REFUSED;
    }

    public int clock(int what) {
        return started ? frame.tell(what) : REFUSED;
    }

    private static boolean isPartition(int number) {
        return number >= 0 && number < PARTITIONS;
    }

    private boolean isPort(int number) {
        return number >= 0 && number < portCount;
    }

    private int checkTable() {
        if (!somebodyTakesPart()) {
            return NOBODY_TAKES_PART;
        }
        if (someRegionsOverlap()) {
            return REGIONS_OVERLAP;
        }
        if (!windowsFit()) {
            return WINDOWS_DO_NOT_FIT;
        }
        return portsFit() ? GOOD : PORT_LEADS_NOWHERE;
    }

    private boolean somebodyTakesPart() {
        for (int i = 0; i < PARTITIONS; i++) {
            if (partitions[i].takesPart()) {
                return true;
            }
        }
        return false;
    }

    private boolean someRegionsOverlap() {
        for (int i = 0; i < PARTITIONS; i++) {
            for (int j = i + 1; j < PARTITIONS; j++) {
                if (partitions[i].overlaps(partitions[j])) {
                    return true;
                }
            }
        }
        return false;
    }

    private boolean windowsFit() {
        for (int i = 0; i < PARTITIONS; i++) {
            if (partitions[i].takesPart() != frame.hasWindowOf(i)) {
                return false;
            }
        }
        return true;
    }

    private boolean portsFit() {
        for (int i = 0; i < portCount; i++) {
            if (!partitions[ports[i].from].takesPart() || !partitions[ports[i].to].takesPart()) {
                return false;
            }
        }
        return true;
    }

    private void beginAnew() {
        for (int i = 0; i < WORDS; i++) {
            memory[i] = 0;
        }
        for (int i = 0; i < PARTITIONS; i++) {
            partitions[i].beginAnew();
        }
        for (int i = 0; i < portCount; i++) {
            ports[i].values.clear();
        }
        frame.beginAnew();
        started = true;
    }

    /** One tick goes by; true if an instruction was done in it. */
    private boolean passTick() {
        int number = frame.partitionAtHand();
        boolean acts = partitions[number].running && !frame.waited;
        if (acts) {
            doInstruction(number);
        }
        frame.endTick();
        return acts;
    }

    private void doInstruction(int number) {
        Partition p = partitions[number];
        int place = p.place;
        if (place < 0 || place >= INSTRUCTIONS) {
            answerFault(number, FAULT_PLACE);
            return;
        }
        // Faults are looked for first, so that nothing of a faulty instruction is done.
        int fault = faultAhead(number, p.ops[place], p.firsts[place], p.seconds[place]);
        if (fault != NO_FAULT) {
            answerFault(number, fault);
            return;
        }
        carryOut(p, p.ops[place], p.firsts[place], p.seconds[place]);
    }

    private int faultAhead(int number, int op, int a, int b) {
        switch (op) {
            case OP_LOAD:
            case OP_STORE:
                return partitions[number].hasWord(b) ? NO_FAULT : FAULT_WORD;
            case OP_SEND:
                return isPort(a) && ports[a].from == number ? NO_FAULT : FAULT_PORT;
            case OP_RECEIVE:
                return isPort(a) && ports[a].to == number ? NO_FAULT : FAULT_PORT;
            default:
                return op < OP_NOTHING || op > OP_STOP ? FAULT_OP : NO_FAULT;
        }
    }

    /** An instruction that is known not to fault. */
    private void carryOut(Partition p, int op, int a, int b) {
        // A jump sets the place again.
        p.place++;
        if (op <= OP_STORE) {
            compute(p, op, a, b);
        } else if (op <= OP_JUMP_NOT_ZERO) {
            jump(p, op, a, b);
        } else {
            communicate(p, op, a, b);
        }
    }

    private void compute(Partition p, int op, int a, int b) {
        int x = registerNamed(a);
        int y = registerNamed(b);
        int[] r = p.registers;
        switch (op) {
            case OP_SET:
                r[x] = b;
                break;
            case OP_ADD:
                r[x] = r[x] + r[y];
                break;
            case OP_SUBTRACT:
                r[x] = r[x] - r[y];
                break;
            case OP_XOR:
                r[x] = r[x] ^ r[y];
                break;
            case OP_LOAD:
                r[x] = memory[p.from + r[y]];
                break;
            case OP_STORE:
                memory[p.from + r[y]] = r[x];
                break;
            default:
                break;
        }
    }

    private static void jump(Partition p, int op, int a, int b) {
        if (op == OP_JUMP || p.registers[registerNamed(a)] != 0) {
            p.place = b;
        }
    }

    private void communicate(Partition p, int op, int a, int b) {
        int x = registerNamed(a);
        int y = registerNamed(b);
        switch (op) {
            case OP_SEND:
                ports[a].send(p.registers, y, frame.passed);
                break;
            case OP_RECEIVE:
                ports[a].receive(p.registers, y, frame.passed);
                break;
            case OP_INPUT:
                p.takeInput(x);
                break;
            case OP_OUTPUT:
                p.putOut(p.registers[x]);
                break;
            case OP_WAIT:
                frame.waited = true;
                break;
            case OP_STOP:
                p.running = false;
                break;
            default:
                break;
        }
    }

    /** The numbers of an instruction may be negative; a register's number is not. */
    private static int registerNamed(int number) {
        return Math.floorMod(number, REGISTERS);
    }

    private void answerFault(int number, int fault) {
        Partition p = partitions[number];
        p.faults++;
        switch (p.actions[fault - 1]) {
            case RESTART:
                restart(number);
                break;
            case SKIP:
                p.place = fault == FAULT_PLACE ? 0 : p.place + 1;
                break;
            default:
                p.running = false;
                break;
        }
    }

    private void restart(int number) {
        Partition p = partitions[number];
        p.clearRegistersAndPlace();
        for (int i = 0; i < p.size; i++) {
            memory[p.from + i] = 0;
        }
        for (int i = 0; i < portCount; i++) {
            if (ports[i].to == number) {
                ports[i].values.clear();
            }
        }
    }

    /** Up to a number of values, first in, first out. */
    private static final class ValueQueue {
        final int[] values;
        int first;
        int count;

        ValueQueue(int room) {
            values = new int[room];
            first = 0;
            count = 0;
        }

        /** False, and nothing changes, if limit values are there already. */
        boolean put(int value, int limit) {
            if (count >= limit || count >= values.length) {
                return false;
            }
            int end = first + count;
            values[end < values.length ? end : end - values.length] = value;
            count++;
            return true;
        }

        /** The first value, which stays; 0 if there is none. */
        int peek() {
            return count > 0 ? values[first] : 0;
        }

        /** The first value, which is taken out; 0 if there is none. */
        int take() {
            if (count == 0) {
                return 0;
            }
            int value = values[first];
            first = first + 1 < values.length ? first + 1 : 0;
            count--;
            return value;
        }

        void clear() {
            first = 0;
            count = 0;
        }
    }

    /** Depth 0 is a sampling port: its value is the only one of its queue. */
    private static final class Port {
        int from;
        int to;
        int depth;
        final ValueQueue values;
        int writtenAt;

        Port() {
            values = new ValueQueue(DEEPEST_PORT);
        }

        boolean isSampling() {
            return depth == 0;
        }

        void send(int[] registers, int y, int now) {
            if (isSampling()) {
                values.clear();
                values.put(registers[y], 1);
                writtenAt = now;
                return;
            }
            registers[TELLING] = values.put(registers[y], depth) ? 1 : 0;
        }

        void receive(int[] registers, int y, int now) {
            if (values.count == 0) {
                registers[TELLING] = isSampling() ? -1 : 0;
            } else if (isSampling()) {
                registers[y] = values.peek();
                registers[TELLING] = Math.min(now - writtenAt, OLDEST_TOLD);
            } else {
                registers[y] = values.take();
                registers[TELLING] = 1;
            }
        }
    }

    /** The windows, and how far they have been gone through. */
    private static final class Frame {
        final int[] owners;
        final int[] lengths;
        int windows;
        int atHand;
        int over;
        int passed;
        /** Whether the partition has waited in the window at hand. */
        boolean waited;

        Frame() {
            owners = new int[MOST_WINDOWS];
            lengths = new int[MOST_WINDOWS];
        }

        boolean isFull() {
            return windows >= MOST_WINDOWS;
        }

        void append(int owner, int length) {
            owners[windows] = owner;
            lengths[windows] = length;
            windows++;
        }

        boolean hasWindowOf(int partition) {
            for (int i = 0; i < windows; i++) {
                if (owners[i] == partition) {
                    return true;
                }
            }
            return false;
        }

        void beginAnew() {
            atHand = 0;
            over = 0;
            passed = 0;
            waited = false;
        }

        int partitionAtHand() {
            return owners[atHand];
        }

        void endTick() {
            passed++;
            over++;
            if (over >= lengths[atHand]) {
                atHand = atHand + 1 < windows ? atHand + 1 : 0;
                over = 0;
                waited = false;
            }
        }

        int tell(int what) {
            switch (what) {
                case 0:
                    return atHand;
                case 1:
                    return over;
                case 2:
                    return passed;
                default:
                    return REFUSED;
            }
        }
    }

    /** It takes part if it has a region, that is, if size is not 0. */
    private static final class Partition {
        int from;
        int size;
        final int[] ops;
        final int[] firsts;
        final int[] seconds;
        final int[] actions;
        final int[] registers;
        int place;
        boolean running;
        int faults;
        final ValueQueue inputs;
        final int[] outputs;
        int outputCount;

        Partition() {
            ops = new int[INSTRUCTIONS];
            firsts = new int[INSTRUCTIONS];
            seconds = new int[INSTRUCTIONS];
            actions = new int[FAULTS];
            registers = new int[REGISTERS];
            inputs = new ValueQueue(MOST_INPUTS);
            outputs = new int[KEPT_OUTPUTS];
        }

        boolean takesPart() {
            return size > 0;
        }

        boolean overlaps(Partition other) {
            return takesPart() && other.takesPart()
                    && from < other.from + other.size && other.from < from + size;
        }

        void beginAnew() {
            clearRegistersAndPlace();
            running = takesPart();
            faults = 0;
        }

        void clearRegistersAndPlace() {
            for (int i = 0; i < REGISTERS; i++) {
                registers[i] = 0;
            }
            place = 0;
        }

        /** Whether the register that b names holds the number of a word of the region. */
        boolean hasWord(int b) {
            int i = registers[registerNamed(b)];
            return i >= 0 && i < size;
        }

        void takeInput(int x) {
            boolean there = inputs.count > 0;
            registers[x] = inputs.take();
            registers[TELLING] = there ? 1 : 0;
        }

        void putOut(int value) {
            if (outputCount < KEPT_OUTPUTS) {
                outputs[outputCount] = value;
            }
            outputCount++;
        }

        int outputAt(int i) {
            return i >= 0 && i < KEPT_OUTPUTS && i < outputCount ? outputs[i] : 0;
        }

        int tell(int w) {
            switch (w) {
                case 0:
                case 1:
                case 2:
                case 3:
                    return registers[w];
                case 4:
                    return place;
                case 5:
                    return running ? 1 : 0;
                case 6:
                    return faults;
                case 7:
                    return outputCount;
                case 8:
                    return inputs.count;
                default:
                    return REFUSED;
            }
        }
    }
}
