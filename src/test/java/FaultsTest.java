/** The faults 1 .. 4 and what is done about them. */
public final class FaultsTest {
    private static final Due due = new Due();

    public static void main(String[] args) {
        for (int fault = 1; fault <= 4; fault++) {
            stop(fault);
            restart(fault);
            skip(fault);
            actionsAreOfTheirOwnFault(fault);
        }
        actionsAreOfTheirOwnPartition();
        edgesOfTheRegion();
        nothingOfAFaultyInstructionIsDone();
        otherOps();
        placesThatAreNotThere();
        thePlaceStaysAtAStop();
        restartClearsOnlyItsOwn();
        restartGoesOnAtOnce();
        faultsAreCountedSinceTheStart();
        portsOfOthers();
        due.end();
    }

    /** Partition 0 alone; its second instruction faults, its first one sets r0 = 9. */
    static PartitionDesk faulting(int fault) {
        PartitionDesk desk = Desks.alone();
        desk.code(0, 0, Desks.SET, 0, 9);
        switch (fault) {
            case 1 -> desk.code(0, 1, Desks.LOAD, 1, 0);
            case 2 -> desk.code(0, 1, Desks.SEND, 0, 0);
            case 3 -> desk.code(0, 1, 15, 0, 0);
            default -> desk.code(0, 0, Desks.JUMP, 0, 16);
        }
        return desk;
    }

    private static void stop(int fault) {
        PartitionDesk desk = faulting(fault);
        desk.action(0, fault, Desks.RESTART);
        due.yes("action STOP", desk.action(0, fault, Desks.STOP));
        desk.start();
        due.is("the faulty one counts, fault " + fault, desk.run(9), 2);
        due.is("running", desk.about(0, 5), 0);
        due.is("place", desk.about(0, 4), fault == 4 ? 16 : 1);
        due.is("r0", desk.about(0, 0), fault == 4 ? 0 : 9);
        due.is("faults", desk.about(0, 6), 1);
        due.is("time goes by", desk.clock(2), 9);
    }

    private static void restart(int fault) {
        PartitionDesk desk = faulting(fault);
        desk.action(0, fault, Desks.RESTART);
        desk.start();
        due.is("run(2), fault " + fault, desk.run(2), 2);
        due.is("running", desk.about(0, 5), 1);
        due.is("place", desk.about(0, 4), 0);
        due.is("r0", desk.about(0, 0), 0);
        due.is("faults", desk.about(0, 6), 1);
    }

    private static void skip(int fault) {
        PartitionDesk desk = faulting(fault);
        desk.action(0, fault, Desks.SKIP);
        desk.start();
        due.is("run(2), fault " + fault, desk.run(2), 2);
        due.is("running", desk.about(0, 5), 1);
        due.is("place", desk.about(0, 4), fault == 4 ? 0 : 2);
        due.is("r0", desk.about(0, 0), fault == 4 ? 0 : 9);
        due.is("faults", desk.about(0, 6), 1);
    }

    private static void actionsAreOfTheirOwnFault(int fault) {
        PartitionDesk desk = faulting(fault);
        for (int other = 1; other <= 4; other++) {
            if (other != fault) {
                desk.action(0, other, Desks.SKIP);
            }
        }
        desk.start();
        desk.run(2);
        due.is("stopped by fault " + fault, desk.about(0, 5), 0);
    }

    private static void actionsAreOfTheirOwnPartition() {
        PartitionDesk desk = Desks.pair();
        desk.code(0, 0, 15, 0, 0);
        desk.code(1, 0, 15, 0, 0);
        desk.action(1, 3, Desks.SKIP);
        desk.start();
        due.is("run(4)", desk.run(4), 3);
        due.is("partition 0", desk.about(0, 5), 0);
        due.is("partition 1", desk.about(1, 5), 1);
        due.is("its place", desk.about(1, 4), 2);
        due.is("faults of 0", desk.about(0, 6), 1);
        due.is("faults of 1", desk.about(1, 6), 1);
    }

    private static void edgesOfTheRegion() {
        int[] numbers = {0, 7, 8, -1, Integer.MAX_VALUE, Integer.MIN_VALUE};
        for (int op = Desks.LOAD; op <= Desks.STORE; op++) {
            for (int number : numbers) {
                PartitionDesk desk = Desks.alone();
                Desks.write(desk, 0, Desks.SET, 1, number, op, 0, 1);
                desk.start();
                desk.run(2);
                int faults = number == 0 || number == 7 ? 0 : 1;
                due.is("op " + op + " of word " + number, desk.about(0, 6), faults);
            }
        }
    }

    private static void nothingOfAFaultyInstructionIsDone() {
        PartitionDesk desk = Desks.pair();
        desk.port(1, 0, 0);
        desk.port(0, 1, 1);
        for (int fault = 1; fault <= 3; fault++) {
            desk.action(0, fault, Desks.SKIP);
        }
        Desks.write(desk, 0,
                Desks.SET, 0, 8, Desks.SET, 3, 77,
                Desks.STORE, 0, 0, Desks.LOAD, 3, 0,
                Desks.SEND, 0, 3, Desks.RECEIVE, 1, 3, Desks.RECEIVE, 2, 3, Desks.SEND, -1, 3,
                -1, 3, 3);
        desk.start();
        desk.run(18);
        due.is("faults", desk.about(0, 6), 7);
        due.is("r3", desk.about(0, 3), 77);
        due.is("r0", desk.about(0, 0), 8);
        due.is("place", desk.about(0, 4), 9);
        for (int i = 0; i < 64; i++) {
            due.is("word", desk.word(i), 0);
        }
        due.is("waiting(0)", desk.waiting(0), 0);
        due.is("waiting(1)", desk.waiting(1), 0);
    }

    private static void otherOps() {
        int[] ops = {-1, 15, 16, 99, Integer.MIN_VALUE, Integer.MAX_VALUE};
        for (int op : ops) {
            PartitionDesk desk = Desks.alone();
            desk.code(0, 0, op, 0, 0);
            desk.action(0, 3, Desks.SKIP);
            desk.start();
            desk.run(1);
            due.is("faults of op " + op, desk.about(0, 6), 1);
            due.is("place", desk.about(0, 4), 1);
            due.is("running: it was fault 3", desk.about(0, 5), 1);
        }
    }

    private static void placesThatAreNotThere() {
        int[] places = {16, 17, -1, Integer.MIN_VALUE, Integer.MAX_VALUE};
        for (int place : places) {
            PartitionDesk desk = Desks.alone();
            desk.code(0, 0, Desks.JUMP, 0, place);
            desk.start();
            desk.run(1);
            due.is("no fault at the jump", desk.about(0, 6), 0);
            due.is("place", desk.about(0, 4), place);
            due.is("the fault", desk.run(1), 1);
            due.is("faults", desk.about(0, 6), 1);
            due.is("stopped", desk.about(0, 5), 0);
            due.is("the place stays", desk.about(0, 4), place);
        }
        PartitionDesk desk = Desks.alone();
        desk.action(0, 4, Desks.SKIP);
        desk.code(0, 15, Desks.SET, 0, 1);
        desk.start();
        desk.run(16);
        due.is("place behind the last", desk.about(0, 4), 16);
        desk.run(1);
        due.is("from the beginning again", desk.about(0, 4), 0);
        due.is("registers stay", desk.about(0, 0), 1);
        due.is("faults", desk.about(0, 6), 1);
    }

    private static void thePlaceStaysAtAStop() {
        PartitionDesk desk = faulting(3);
        desk.start();
        desk.run(20);
        due.is("place", desk.about(0, 4), 1);
        due.is("only once", desk.about(0, 6), 1);
        due.is("nothing more", desk.run(20), 0);
    }

    private static PartitionDesk restarting() {
        PartitionDesk desk = new PartitionDesk();
        desk.region(0, 8, 4);
        desk.region(1, 4, 4);
        desk.region(2, 12, 4);
        desk.window(1, 9);
        desk.window(2, 9);
        desk.window(0, 9);
        desk.port(1, 0, 2);
        desk.port(1, 0, 0);
        desk.port(1, 2, 2);
        desk.port(1, 2, 0);
        desk.port(0, 1, 2);
        desk.port(0, 1, 0);
        Desks.write(desk, 1, Desks.SET, 0, 3, Desks.STORE, 0, 0, Desks.SEND, 0, 0, Desks.SEND, 1, 0,
                Desks.SEND, 2, 0, Desks.SEND, 3, 0, Desks.OUTPUT, 0, 0, Desks.WAIT, 0, 0);
        Desks.write(desk, 2, Desks.STORE, 0, 0, Desks.SET, 1, 5, Desks.STORE, 1, 0, Desks.WAIT, 0, 0);
        Desks.write(desk, 0, Desks.SET, 0, 3, Desks.STORE, 0, 0, Desks.SET, 1, 2, Desks.STORE, 0, 2,
                Desks.SEND, 4, 0, Desks.SEND, 5, 0, Desks.OUTPUT, 0, 0, 99, 0, 0);
        desk.action(0, 3, Desks.RESTART);
        return desk;
    }

    private static void restartClearsOnlyItsOwn() {
        PartitionDesk desk = restarting();
        desk.input(0, 1);
        due.is("start()", desk.start(), 0);
        desk.run(25);
        due.is("its word before", desk.word(11), 3);
        due.is("its queue before", desk.waiting(0), 1);
        due.is("its sample before", desk.waiting(1), 1);
        desk.run(1);
        for (int w = 0; w <= 4; w++) {
            due.is("its registers and place", desk.about(0, w), 0);
        }
        for (int i = 8; i < 12; i++) {
            due.is("its words", desk.word(i), 0);
        }
        due.is("its queue", desk.waiting(0), 0);
        due.is("its sample", desk.waiting(1), 0);
        due.is("running", desk.about(0, 5), 1);
        due.is("its outputs stay", desk.about(0, 7), 1);
        due.is("its inputs stay", desk.about(0, 8), 1);
        due.is("word of 1", desk.word(7), 3);
        due.is("word of 2", desk.word(12), 5);
        due.is("register of 1", desk.about(1, 0), 3);
        due.is("register of 2", desk.about(2, 1), 5);
        for (int port = 2; port <= 5; port++) {
            due.is("port " + port + " is not to it", desk.waiting(port), 1);
        }
        due.is("the clock goes on", desk.clock(2), 26);
    }

    private static void restartGoesOnAtOnce() {
        PartitionDesk desk = faulting(3);
        desk.action(0, 3, Desks.RESTART);
        desk.start();
        due.is("run(7)", desk.run(7), 7);
        due.is("r0", desk.about(0, 0), 9);
        due.is("faults", desk.about(0, 6), 3);
        due.is("place", desk.about(0, 4), 1);
    }

    private static void faultsAreCountedSinceTheStart() {
        PartitionDesk desk = Desks.alone();
        desk.code(0, 0, -5, 0, 0);
        desk.action(0, 3, Desks.RESTART);
        desk.start();
        desk.run(20);
        due.is("a fault each tick", desk.about(0, 6), 20);
        desk.start();
        due.is("none since the start", desk.about(0, 6), 0);
        desk.run(3);
        due.is("three since the start", desk.about(0, 6), 3);
    }

    private static void portsOfOthers() {
        int[][] cases = {
            // op, port, faults of partition 0
            {Desks.SEND, 0, 0}, {Desks.SEND, 1, 1}, {Desks.SEND, 2, 1}, {Desks.SEND, 3, 1},
            {Desks.SEND, -1, 1}, {Desks.SEND, 4, 1}, {Desks.SEND, Integer.MAX_VALUE, 1},
            {Desks.RECEIVE, 0, 1}, {Desks.RECEIVE, 1, 0}, {Desks.RECEIVE, 2, 1}, {Desks.RECEIVE, 3, 1},
            {Desks.RECEIVE, -1, 1}, {Desks.RECEIVE, 5, 1}, {Desks.RECEIVE, Integer.MIN_VALUE, 1},
        };
        for (int[] c : cases) {
            PartitionDesk desk = Desks.pair();
            desk.region(2, 40, 1);
            desk.window(2, 1);
            desk.port(0, 1, 1);
            desk.port(1, 0, 1);
            desk.port(1, 2, 0);
            desk.code(0, 0, c[0], c[1], 0);
            desk.action(0, 2, Desks.SKIP);
            desk.start();
            desk.run(1);
            due.is("op " + c[0] + " at port " + c[1], desk.about(0, 6), c[2]);
            due.is("running: it was fault 2", desk.about(0, 5), 1);
        }
    }
}
