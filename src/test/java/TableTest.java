/** Promises 1 to 6: a new object, and the calls that make the table. */
public final class TableTest {
    private static final int MIN = Integer.MIN_VALUE;
    private static final int MAX = Integer.MAX_VALUE;
    private static final Due due = new Due();

    public static void main(String[] args) {
        aNewObjectIsEmpty();
        aNewProgramIsOfNothing();
        newActionsAreStop();
        regions();
        aRegionIsReplaced();
        windows();
        portNumbers();
        portEdges();
        actions();
        instructions();
        anyInstructionIsTaken();
        aChangeUnstarts();
        aRefusalDoesNotUnstart();
        aChangeLeavesTheRestToBeSeen();
        due.end();
    }

    private static void aNewObjectIsEmpty() {
        PartitionDesk desk = new PartitionDesk();
        for (int p = 0; p < 4; p++) {
            for (int w = 0; w <= 8; w++) {
                due.is("new: about(" + p + ", " + w + ")", desk.about(p, w), 0);
            }
            due.is("new: output", desk.output(p, 0), 0);
        }
        for (int i = 0; i < 64; i++) {
            due.is("new: word(" + i + ")", desk.word(i), 0);
        }
        due.is("new: waiting(0)", desk.waiting(0), -1);
        for (int i = 0; i < 3; i++) {
            due.is("new: clock(" + i + ")", desk.clock(i), -1);
        }
        due.is("new: run(0)", desk.run(0), -1);
        due.is("new: run(1)", desk.run(1), -1);
        due.is("new: start()", desk.start(), 1);
        due.is("new: run(1) after a bad start", desk.run(1), -1);
    }

    private static void aNewProgramIsOfNothing() {
        PartitionDesk desk = Desks.alone();
        due.is("start()", desk.start(), 0);
        due.is("16 nothings", desk.run(16), 16);
        due.is("place behind them", desk.about(0, 4), 16);
        due.is("no fault yet", desk.about(0, 6), 0);
        due.is("running", desk.about(0, 5), 1);
        for (int w = 0; w < 4; w++) {
            due.is("register", desk.about(0, w), 0);
        }
    }

    private static void newActionsAreStop() {
        for (int fault = 1; fault <= 4; fault++) {
            PartitionDesk desk = FaultsTest.faulting(fault);
            desk.start();
            desk.run(2);
            due.is("first action for fault " + fault, desk.about(0, 5), 0);
            due.is("faults", desk.about(0, 6), 1);
        }
    }

    private static void regions() {
        PartitionDesk desk = new PartitionDesk();
        due.yes("region(0, 0, 1)", desk.region(0, 0, 1));
        due.yes("region(3, 63, 1)", desk.region(3, 63, 1));
        due.yes("region(3, 32, 32)", desk.region(3, 32, 32));
        due.yes("region(1, 0, 32)", desk.region(1, 0, 32));
        int[][] wrong = {
            {-1, 0, 1}, {4, 0, 1}, {MIN, 0, 1}, {MAX, 0, 1},
            {0, -1, 1}, {0, 64, 1}, {0, 63, 2}, {0, 33, 32}, {0, MAX, 1}, {0, MIN, 1}, {0, MAX, 32},
            {0, 0, 0}, {0, 0, -1}, {0, 0, 33}, {0, 0, MAX}, {0, 0, MIN}, {0, 0, 64}, {0, 1, MAX},
        };
        for (int[] w : wrong) {
            due.no("region(" + w[0] + ", " + w[1] + ", " + w[2] + ")", desk.region(w[0], w[1], w[2]));
        }
    }

    private static void aRegionIsReplaced() {
        PartitionDesk desk = Desks.alone();
        desk.region(0, 20, 2);
        Desks.write(desk, 0, Desks.SET, 0, 1, Desks.STORE, 0, 0, Desks.SET, 0, 2, Desks.STORE, 0, 0);
        desk.start();
        desk.run(4);
        due.is("word 1 of the new region", desk.word(21), 1);
        due.is("word 1 of the old region", desk.word(5), 0);
        due.is("the new size counts", desk.about(0, 6), 1);
    }

    private static void windows() {
        PartitionDesk desk = new PartitionDesk();
        int[][] wrong = {{-1, 1}, {4, 1}, {MIN, 1}, {MAX, 1}, {0, 0}, {0, 10}, {0, -1}, {0, MIN}, {0, MAX}};
        for (int[] w : wrong) {
            due.no("window(" + w[0] + ", " + w[1] + ")", desk.window(w[0], w[1]));
        }
        for (int i = 0; i < 8; i++) {
            due.yes("window " + i, desk.window(i % 4, 1 + i));
        }
        due.no("a ninth window", desk.window(0, 1));
        for (int p = 0; p < 4; p++) {
            desk.region(p, p * 16, 16);
        }
        due.is("start()", desk.start(), 0);
        for (int i = 0; i < 8; i++) {
            due.is("window at hand", desk.clock(0), i);
            desk.run(i);
            due.is("still at hand", desk.clock(0), i);
            desk.run(1);
        }
        due.is("behind the last the first", desk.clock(0), 0);
        due.yes("window(0, 9)", new PartitionDesk().window(0, 9));
    }

    private static void portNumbers() {
        PartitionDesk desk = new PartitionDesk();
        for (int i = 0; i < 6; i++) {
            due.is("waiting before it is made", desk.waiting(i), -1);
            due.is("a refused port takes no number", desk.port(0, 0, 1), -1);
            due.is("port " + i, desk.port(i % 4, (i + 1) % 4, i % 5), i);
            due.is("waiting when it is made", desk.waiting(i), 0);
        }
        due.is("a seventh port", desk.port(0, 1, 1), -1);
        due.is("waiting(6)", desk.waiting(6), -1);
    }

    private static void portEdges() {
        PartitionDesk desk = new PartitionDesk();
        int[][] wrong = {
            {-1, 0, 1}, {4, 0, 1}, {0, -1, 1}, {0, 4, 1}, {MIN, 0, 1}, {0, MAX, 1},
            {0, 0, 1}, {3, 3, 0}, {0, 1, -1}, {0, 1, 5}, {0, 1, MIN}, {0, 1, MAX},
        };
        for (int[] w : wrong) {
            due.is("port(" + w[0] + ", " + w[1] + ", " + w[2] + ")", desk.port(w[0], w[1], w[2]), -1);
        }
        due.is("port(0, 3, 0)", desk.port(0, 3, 0), 0);
        due.is("port(3, 0, 4)", desk.port(3, 0, 4), 1);
        due.is("the same once more", desk.port(3, 0, 4), 2);
    }

    private static void actions() {
        PartitionDesk desk = new PartitionDesk();
        for (int p = 0; p < 4; p++) {
            for (int fault = 1; fault <= 4; fault++) {
                for (int action = 0; action <= 2; action++) {
                    due.yes("action", desk.action(p, fault, action));
                }
            }
        }
        int[][] wrong = {
            {-1, 1, 0}, {4, 1, 0}, {MIN, 1, 0}, {MAX, 1, 0},
            {0, 0, 0}, {0, 5, 0}, {0, -1, 0}, {0, MIN, 0}, {0, MAX, 0},
            {0, 1, -1}, {0, 1, 3}, {0, 1, MIN}, {0, 1, MAX},
        };
        for (int[] w : wrong) {
            due.no("action(" + w[0] + ", " + w[1] + ", " + w[2] + ")", desk.action(w[0], w[1], w[2]));
        }
    }

    private static void instructions() {
        PartitionDesk desk = new PartitionDesk();
        int[][] wrong = {{-1, 0}, {4, 0}, {MIN, 0}, {MAX, 0}, {0, -1}, {0, 16}, {0, MIN}, {0, MAX}};
        for (int[] w : wrong) {
            due.no("code(" + w[0] + ", " + w[1] + ", 0, 0, 0)", desk.code(w[0], w[1], 0, 0, 0));
        }
        for (int p = 0; p < 4; p++) {
            due.yes("code(p, 0, ..)", desk.code(p, 0, Desks.SET, 0, 10 + p));
            due.yes("code(p, 15, ..)", desk.code(p, 15, Desks.SET, 1, 20 + p));
            desk.region(p, p, 1);
            desk.window(p, 9);
            desk.window(p, 7);
        }
        due.is("start()", desk.start(), 0);
        due.is("all of them", desk.run(64), 64);
        for (int p = 0; p < 4; p++) {
            due.is("instruction 0 of its own", desk.about(p, 0), 10 + p);
            due.is("instruction 15 of its own", desk.about(p, 1), 20 + p);
        }
    }

    private static void anyInstructionIsTaken() {
        PartitionDesk desk = new PartitionDesk();
        int[] any = {MIN, -1, 0, 15, 99, MAX};
        for (int op : any) {
            for (int number : any) {
                due.yes("code", desk.code(0, 0, op, number, number));
            }
        }
    }

    private static void aChangeUnstarts() {
        for (int which = 0; which < 5; which++) {
            PartitionDesk desk = Desks.pair();
            due.is("start()", desk.start(), 0);
            due.is("run(1)", desk.run(1), 1);
            switch (which) {
                case 0 -> desk.region(0, 0, 8);
                case 1 -> desk.window(0, 1);
                case 2 -> desk.port(0, 1, 0);
                case 3 -> desk.action(0, 1, 2);
                default -> desk.code(0, 0, 0, 0, 0);
            }
            due.is("run(1) after change " + which, desk.run(1), -1);
            due.is("run(0) after change " + which, desk.run(0), -1);
            for (int i = 0; i < 3; i++) {
                due.is("clock after change " + which, desk.clock(i), -1);
            }
            due.is("start() after change " + which, desk.start(), 0);
            due.is("run(1) after start " + which, desk.run(1), 1);
        }
    }

    private static void aRefusalDoesNotUnstart() {
        PartitionDesk desk = Desks.pair();
        desk.start();
        due.no("region(4, 0, 1)", desk.region(4, 0, 1));
        due.no("window(0, 0)", desk.window(0, 0));
        due.is("port(0, 0, 1)", desk.port(0, 0, 1), -1);
        due.no("action(0, 0, 0)", desk.action(0, 0, 0));
        due.no("code(0, 16, 0, 0, 0)", desk.code(0, 16, 0, 0, 0));
        due.is("input(4, 0)", desk.input(4, 0), -1);
        due.is("run(201)", desk.run(201), -1);
        due.is("input(0, 1)", desk.input(0, 1), 1);
        due.is("run(1)", desk.run(1), 1);
    }

    private static void aChangeLeavesTheRestToBeSeen() {
        PartitionDesk desk = Desks.pair();
        desk.port(0, 1, 1);
        Desks.write(desk, 0, Desks.SET, 2, 6, Desks.STORE, 2, 2, Desks.SEND, 0, 2, Desks.OUTPUT, 2, 0);
        desk.start();
        desk.run(8);
        desk.action(1, 1, 1);
        due.is("register", desk.about(0, 2), 6);
        due.is("place", desk.about(0, 4), 4);
        due.is("word", desk.word(6), 6);
        due.is("waiting", desk.waiting(0), 1);
        due.is("output", desk.output(0, 0), 6);
    }
}
