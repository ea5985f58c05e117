/** "A FAULT": STOP, RESTART and SKIP, what each one touches and what it leaves (promises 5, 9, 11, 12, 13). */
public final class FaultBoundsTest {
    private static final int MIN = Integer.MIN_VALUE;
    private static final int MAX = Integer.MAX_VALUE;
    private static final int[] NO_PLACES = {MIN, -1, 16, 17, MAX};
    private static final Due due = new Due();
    /** Instructions that fault when r2 is 20 in a region of 8 words: the fault, op, a, b. */
    private static final int[][] FAULTY = {
        {1, Desks.LOAD, 0, 2}, {1, Desks.LOAD, 3, 2}, {1, Desks.STORE, 0, 2}, {1, Desks.STORE, 2, 2},
        {2, Desks.SEND, 2, 1}, {2, Desks.SEND, -1, 1}, {2, Desks.SEND, 1, 1},
        {2, Desks.RECEIVE, 2, 1}, {2, Desks.RECEIVE, -1, 1}, {2, Desks.RECEIVE, 0, 1}, {2, Desks.RECEIVE, 0, 3},
        {3, 15, 0, 1}, {3, -1, 1, 0}, {3, MIN, 3, 3}, {3, MAX, 2, 1},
    };

    public static void main(String[] args) {
        for (int action = Desks.STOP; action <= Desks.SKIP; action++) {
            nothingOfTheInstructionIsDone(action);
            eachFaultHasItsOwnAction(action);
            faultsAreCounted(action);
        }
        stop();
        stopForFault4();
        for (int size = 1; size <= 32; size++) {
            restartOfARegion(size);
        }
        for (int fault = 1; fault <= 4; fault++) {
            restartOfPorts(fault);
            restartKeepsTheRest(fault);
        }
        receivingBehindARestart();
        restartForFault4();
        skip();
        skipBehindTheLastPlace();
        skipForFault4();
        due.end();
    }

    /**
     * Partitions 0 and 1 in turn, port 0 from 0, port 1 to 0. Partition 0 makes its registers 30, 31, 20, 33 and
     * its word 3 be 30 and sends 31 into port 0, then, at place 7, does a faulty instruction.
     */
    private static PartitionDesk faulty(int[] instruction) {
        PartitionDesk desk = Desks.pair();
        desk.port(0, 1, 2);
        desk.port(1, 0, 2);
        Desks.write(desk, 0, Desks.SET, 0, 30, Desks.SET, 1, 31, Desks.SET, 2, 3, Desks.STORE, 0, 2,
                Desks.SEND, 0, 1, Desks.SET, 2, 20, Desks.SET, 3, 33,
                instruction[1], instruction[2], instruction[3], Desks.END, 0, 0);
        Desks.write(desk, 1, Desks.SET, 0, 40, Desks.SEND, 1, 0, Desks.END, 0, 0);
        return desk;
    }

    private static void nothingOfTheInstructionIsDone(int action) {
        due.says("A FAULT: nothing of the instruction is done, and the place stays, but: ..");
        for (int[] instruction : FAULTY) {
            PartitionDesk desk = faulty(instruction);
            desk.action(0, instruction[0], action);
            due.is("start()", desk.start(), 0);
            desk.run(14);
            due.is("no fault before", desk.about(0, 6), 0);
            due.is("it is counted", desk.run(1), 1);
            String what = "op " + instruction[1] + " " + instruction[2] + " " + instruction[3] + ", action " + action;
            boolean restarted = action == Desks.RESTART;
            int[] kept = {30, 31, 20, 33, 7 + action / 2, action == Desks.STOP ? 0 : 1, 1};
            for (int w = 0; w <= 6; w++) {
                due.is(what + ", about(0, " + w + ")", desk.about(0, w), restarted && w <= 4 ? 0 : kept[w]);
            }
            for (int i = 0; i < 64; i++) {
                due.is(what + ", word " + i, desk.word(i), i == 3 && !restarted ? 30 : 0);
            }
            due.is(what + ", the port from it", desk.waiting(0), 1);
            due.is(what + ", the port to it", desk.waiting(1), restarted ? 0 : 1);
        }
    }

    /** Partition p alone; its place 1 (for fault 4, its jump to place 16) faults. */
    private static PartitionDesk alone(int p, int fault) {
        PartitionDesk desk = new PartitionDesk();
        desk.region(p, 10, 2);
        desk.window(p, 9);
        Desks.write(desk, p, Desks.SET, 2, 2, Desks.NOTHING, 0, 0);
        switch (fault) {
            case 1 -> desk.code(p, 1, Desks.LOAD, 0, 2);
            case 2 -> desk.code(p, 1, Desks.RECEIVE, 0, 0);
            case 3 -> desk.code(p, 1, 15, 0, 0);
            default -> desk.code(p, 0, Desks.JUMP, 0, 16);
        }
        return desk;
    }

    private static void eachFaultHasItsOwnAction(int action) {
        due.says("For each partition and FAULT (1 .. 4) there is an ACTION");
        for (int p = 0; p < 4; p++) {
            for (int fault = 1; fault <= 4; fault++) {
                PartitionDesk desk = alone(p, fault);
                for (int q = 0; q < 4; q++) {
                    for (int other = 1; other <= 4; other++) {
                        desk.action(q, other, q == p && other == fault ? action : (action + 1) % 3);
                    }
                }
                desk.start();
                desk.run(2);
                String what = "fault " + fault + " of " + p + ", action " + action;
                due.is(what + ", running", desk.about(p, 5), action == Desks.STOP ? 0 : 1);
                int stays = fault == 4 ? 16 : 1;
                int skipped = fault == 4 ? 0 : 2;
                int want = action == Desks.STOP ? stays : action == Desks.RESTART ? 0 : skipped;
                due.is(what + ", place", desk.about(p, 4), want);
                due.is(what + ", r2", desk.about(p, 2), fault == 4 || action == Desks.RESTART ? 0 : 2);
            }
        }
    }

    private static void faultsAreCounted(int action) {
        due.says("its faults since the start (6)");
        PartitionDesk desk = Desks.alone();
        for (int i = 0; i < 16; i++) {
            desk.code(0, i, 99, 0, 0);
        }
        desk.action(0, 3, action);
        desk.action(0, 4, Desks.SKIP);
        desk.start();
        due.is("before", desk.about(0, 6), 0);
        due.is("instructions, action " + action, desk.run(40), action == Desks.STOP ? 1 : 40);
        due.is("faults, action " + action, desk.about(0, 6), action == Desks.STOP ? 1 : 40);
    }

    private static void stop() {
        due.says("STOP: it is stopped");
        for (int fault = 1; fault <= 3; fault++) {
            PartitionDesk desk = alone(2, fault);
            desk.start();
            due.is("up to the fault", desk.run(2), 2);
            due.is("nothing behind it", desk.run(30), 0);
            due.is("place", desk.about(2, 4), 1);
            due.is("running", desk.about(2, 5), 0);
            due.is("faults", desk.about(2, 6), 1);
            due.is("ticks go by", desk.clock(2), 32);
        }
    }

    private static void stopForFault4() {
        due.says("the place stays, but: STOP: it is stopped");
        for (int place : NO_PLACES) {
            PartitionDesk desk = Desks.alone();
            Desks.write(desk, 0, Desks.SET, 0, 3, Desks.JUMP, 0, place);
            desk.start();
            due.is("the fault is counted", desk.run(9), 3);
            due.is("place " + place, desk.about(0, 4), place);
            due.is("running", desk.about(0, 5), 0);
            due.is("r0 stays", desk.about(0, 0), 3);
        }
    }

    /**
     * Partition 1 has size words, with a region of 0 before and one of 2 behind it. Each one writes 9 into its first
     * and its last word; then 1 faults.
     */
    private static void restartOfARegion(int size) {
        due.says("RESTART: its registers, place and region are 0");
        int from = 16;
        PartitionDesk desk = new PartitionDesk();
        int[] froms = {0, from, from + size};
        int[] sizes = {16, size, 16};
        int[] order = {0, 2, 1};
        for (int p : order) {
            desk.region(p, froms[p], sizes[p]);
            desk.window(p, 5);
            Desks.write(desk, p, Desks.SET, 0, 9, Desks.STORE, 0, 1, Desks.SET, 2, sizes[p] - 1, Desks.STORE, 0, 2,
                    Desks.SET, 3, 5, 99, 0, 0);
        }
        desk.window(1, 1);
        desk.action(1, 3, Desks.RESTART);
        due.is("start()", desk.start(), 0);
        desk.run(15);
        due.is("the first word before", desk.word(from), 9);
        due.is("the last word before", desk.word(from + size - 1), 9);
        due.is("the fault", desk.run(1), 1);
        for (int i = from; i < from + size; i++) {
            due.is("word " + i + " of a region of " + size, desk.word(i), 0);
        }
        due.is("the word before", desk.word(from - 1), 9);
        due.is("the word behind", desk.word(from + size), 9);
        for (int w = 0; w <= 4; w++) {
            due.is("about(1, " + w + ")", desk.about(1, w), 0);
            due.is("about(0, " + w + ")", desk.about(0, w), w == 0 ? 9 : w == 1 ? 0 : w == 2 ? 15 : 5);
        }
        due.is("running", desk.about(1, 5), 1);
    }

    /** Six ports of all kinds, three to partition 0, three from it, all full; then 0 has a fault and restarts. */
    private static void restartOfPorts(int fault) {
        due.says("queuing ports to it are empty, sampling ports to it have no value");
        int[] depths = {0, 1, 4, 0, 1, 4};
        PartitionDesk desk = new PartitionDesk();
        desk.region(0, 0, 1);
        desk.region(1, 1, 1);
        desk.window(1, 9);
        desk.window(0, 9);
        for (int i = 0; i < 6; i++) {
            desk.port(i < 3 ? 1 : 0, i < 3 ? 0 : 1, depths[i]);
        }
        for (int p = 0; p < 2; p++) {
            int first = p == 1 ? 0 : 3;
            Desks.write(desk, p, Desks.SEND, first, 0, Desks.SEND, first + 1, 0, Desks.SEND, first + 2, 0,
                    Desks.SEND, first + 2, 0, Desks.SEND, first + 2, 0, Desks.SEND, first + 2, 0, Desks.WAIT, 0, 0);
        }
        desk.code(0, 6, Desks.SET, 2, 1);
        desk.code(0, 7, fault == 4 ? Desks.JUMP : fault == 1 ? Desks.STORE : fault == 2 ? Desks.SEND : 15, 0,
                fault == 4 ? -1 : 2);
        desk.action(0, fault, Desks.RESTART);
        desk.start();
        desk.run(9 + (fault == 4 ? 8 : 7));
        for (int i = 0; i < 6; i++) {
            due.is("waiting(" + i + ") before", desk.waiting(i), depths[i] == 0 ? 1 : depths[i]);
        }
        due.is("no fault before", desk.about(0, 6), 0);
        desk.run(1);
        due.is("the fault", desk.about(0, 6), 1);
        for (int i = 0; i < 6; i++) {
            due.is("waiting(" + i + ")", desk.waiting(i), i < 3 ? 0 : depths[i] == 0 ? 1 : depths[i]);
        }
    }

    private static void restartKeepsTheRest(int fault) {
        due.says("RESTART: its registers, place and region are 0, queuing ports ..");
        PartitionDesk desk = alone(1, fault);
        desk.action(1, fault, Desks.RESTART);
        desk.input(1, 4);
        desk.input(1, 5);
        desk.start();
        due.is("it goes on in the next tick", desk.run(6), 6);
        due.is("inputs", desk.about(1, 8), 2);
        due.is("running", desk.about(1, 5), 1);
        due.is("faults are counted on", desk.about(1, 6), 3);
        due.is("ticks since the start", desk.clock(2), 6);
        due.is("the window goes on", desk.clock(1), 6);
        outputsBehindARestart();
    }

    private static void outputsBehindARestart() {
        PartitionDesk desk = Desks.alone();
        Desks.write(desk, 0, Desks.INPUT, 0, 0, Desks.OUTPUT, 0, 0, 99, 0, 0);
        desk.action(0, 3, Desks.RESTART);
        for (int i = 1; i <= 3; i++) {
            desk.input(0, i);
        }
        desk.start();
        desk.run(9);
        due.is("outputs", desk.about(0, 7), 3);
        for (int i = 0; i < 3; i++) {
            due.is("output " + i, desk.output(0, i), i + 1);
        }
    }

    /** The receiver's first time ends with a fault while a value waits; an input tells it that this is its second. */
    private static void receivingBehindARestart() {
        due.says("queuing ports to it are empty, sampling ports to it have no value");
        for (int depth = 0; depth <= 4; depth++) {
            PartitionDesk desk = Desks.pair();
            desk.port(0, 1, depth);
            Desks.write(desk, 0, Desks.SEND, 0, 0, Desks.NOTHING, 0, 0, Desks.NOTHING, 0, 0, Desks.NOTHING, 0, 0,
                    Desks.NOTHING, 0, 0, Desks.NOTHING, 0, 0, Desks.SET, 0, 6, Desks.SEND, 0, 0, Desks.END, 0, 0);
            Desks.write(desk, 1, Desks.INPUT, 2, 0, Desks.JUMP_NOT_ZERO, 2, 15,
                    Desks.SET, 1, 8, Desks.RECEIVE, 0, 1, Desks.RECEIVE, 0, 1);
            desk.code(1, 15, 99, 0, 0);
            desk.action(1, 3, Desks.RESTART);
            desk.input(1, 1);
            desk.start();
            desk.run(5);
            due.is("waiting(0) before", desk.waiting(0), 1);
            desk.run(1);
            due.is("waiting(0)", desk.waiting(0), 0);
            desk.run(8);
            due.is("y stays, depth " + depth, desk.about(1, 1), 8);
            due.is("r3, depth " + depth, desk.about(1, 3), depth == 0 ? -1 : 0);
            desk.run(2);
            due.is("y, a new value, depth " + depth, desk.about(1, 1), 6);
            due.is("r3, a new value, depth " + depth, desk.about(1, 3), 1);
        }
    }

    private static void restartForFault4() {
        due.says("RESTART: its registers, place and region are 0");
        for (int place : NO_PLACES) {
            PartitionDesk desk = Desks.alone();
            Desks.write(desk, 0, Desks.SET, 0, 3, Desks.STORE, 0, 0, Desks.JUMP, 0, place);
            desk.action(0, 4, Desks.RESTART);
            desk.start();
            desk.run(3);
            due.is("word before", desk.word(7), 3);
            desk.run(1);
            due.is("place " + place, desk.about(0, 4), 0);
            due.is("r0", desk.about(0, 0), 0);
            due.is("word", desk.word(7), 0);
            due.is("running", desk.about(0, 5), 1);
        }
    }

    private static void skip() {
        due.says("SKIP: the place is one higher");
        for (int[] instruction : FAULTY) {
            PartitionDesk desk = faulty(instruction);
            desk.action(0, instruction[0], Desks.SKIP);
            desk.start();
            desk.run(15);
            due.is("place", desk.about(0, 4), 8);
            due.is("running", desk.about(0, 5), 1);
            desk.run(2);
            due.is("the next instruction is done", desk.about(0, 5), 0);
        }
    }

    private static void skipBehindTheLastPlace() {
        due.says("SKIP: the place is one higher (for fault 4: it is 0)");
        int[] ops = {Desks.LOAD, Desks.STORE, Desks.SEND, Desks.RECEIVE, 15};
        for (int op : ops) {
            PartitionDesk desk = Desks.alone();
            Desks.write(desk, 0, Desks.SET, 1, -1, Desks.JUMP, 0, 15);
            desk.code(0, 15, op, 0, 1);
            for (int fault = 1; fault <= 4; fault++) {
                desk.action(0, fault, Desks.SKIP);
            }
            desk.start();
            desk.run(3);
            due.is("place behind op " + op, desk.about(0, 4), 16);
            due.is("faults", desk.about(0, 6), 1);
            due.is("the next tick faults", desk.run(1), 1);
            due.is("place behind fault 4", desk.about(0, 4), 0);
            due.is("faults", desk.about(0, 6), 2);
        }
    }

    private static void skipForFault4() {
        due.says("SKIP: .. (for fault 4: it is 0)");
        for (int place : NO_PLACES) {
            PartitionDesk desk = Desks.pair();
            desk.port(1, 0, 0);
            Desks.write(desk, 0, Desks.SET, 0, 3, Desks.STORE, 0, 0, Desks.JUMP, 0, place);
            Desks.write(desk, 1, Desks.SEND, 0, 0, Desks.END, 0, 0);
            desk.action(0, 4, Desks.SKIP);
            desk.start();
            desk.run(6);
            due.is("place before", desk.about(0, 4), place);
            due.is("the fault is counted", desk.run(1), 1);
            due.is("place", desk.about(0, 4), 0);
            due.is("faults", desk.about(0, 6), 1);
            due.is("running", desk.about(0, 5), 1);
            due.is("r0 stays", desk.about(0, 0), 3);
            due.is("the region stays", desk.word(3), 3);
            due.is("the port to it stays", desk.waiting(0), 1);
        }
    }
}
