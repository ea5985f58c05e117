/** Desks that several tests begin with, and what can be seen of one. */
final class Desks {
    static final int NOTHING = 0;
    static final int SET = 1;
    static final int ADD = 2;
    static final int SUBTRACT = 3;
    static final int XOR = 4;
    static final int LOAD = 5;
    static final int STORE = 6;
    static final int JUMP = 7;
    static final int JUMP_NOT_ZERO = 8;
    static final int SEND = 9;
    static final int RECEIVE = 10;
    static final int INPUT = 11;
    static final int OUTPUT = 12;
    static final int WAIT = 13;
    static final int END = 14;

    static final int STOP = 0;
    static final int RESTART = 1;
    static final int SKIP = 2;

    private Desks() {
    }

    /** Partition 0 alone, with the words 4 .. 11 and a window of 9 ticks; not started. */
    static PartitionDesk alone() {
        PartitionDesk desk = new PartitionDesk();
        desk.region(0, 4, 8);
        desk.window(0, 9);
        return desk;
    }

    /** Partitions 0 and 1, a tick each in turn; not started. */
    static PartitionDesk pair() {
        PartitionDesk desk = new PartitionDesk();
        desk.region(0, 0, 8);
        desk.region(1, 8, 8);
        desk.window(0, 1);
        desk.window(1, 1);
        return desk;
    }

    /** Instructions from the beginning of a program on: op, a, b; op, a, b; .. */
    static void write(PartitionDesk desk, int partition, int... instructions) {
        for (int i = 0; i * 3 < instructions.length; i++) {
            desk.code(partition, i, instructions[i * 3], instructions[i * 3 + 1], instructions[i * 3 + 2]);
        }
    }

    /** All that the answers tell; 179 calls. */
    static String seen(PartitionDesk desk) {
        StringBuilder text = new StringBuilder();
        for (int p = 0; p < 4; p++) {
            text.append("about ").append(p).append(':');
            for (int w = 0; w <= 8; w++) {
                text.append(' ').append(desk.about(p, w));
            }
            text.append(" outputs:");
            for (int i = 0; i < 16; i++) {
                text.append(' ').append(desk.output(p, i));
            }
            text.append('\n');
        }
        text.append("memory:");
        for (int i = 0; i < 64; i++) {
            text.append(' ').append(desk.word(i));
        }
        text.append("\nports:");
        for (int i = 0; i < 6; i++) {
            text.append(' ').append(desk.waiting(i));
        }
        text.append("\nclock:");
        for (int i = 0; i < 3; i++) {
            text.append(' ').append(desk.clock(i));
        }
        return text.toString();
    }
}
