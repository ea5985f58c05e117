/** Promises 8, 10 and 11: inputs, outputs, and what is told about a partition. */
public final class InputOutputTest {
    private static final int MIN = Integer.MIN_VALUE;
    private static final int MAX = Integer.MAX_VALUE;
    private static final Due due = new Due();

    public static void main(String[] args) {
        inputEdges();
        inputsInTheirOrder();
        inputsGoRound();
        noInput();
        inputIntoR3();
        inputsAreOfTheirOwn();
        inputLeavesItStarted();
        outputs();
        onlySixteenOutputsAreKept();
        outputEdges();
        aboutEdges();
        aboutEach();
        due.end();
    }

    private static void inputEdges() {
        PartitionDesk desk = new PartitionDesk();
        int[] wrong = {-1, 4, MIN, MAX};
        for (int p : wrong) {
            due.is("input(" + p + ", 1)", desk.input(p, 1), -1);
        }
        for (int p = 0; p < 4; p++) {
            for (int i = 1; i <= 8; i++) {
                due.is("input " + i, desk.input(p, i), i);
                due.is("about(p, 8)", desk.about(p, 8), i);
            }
            due.is("a ninth input", desk.input(p, 9), -1);
            due.is("still eight", desk.about(p, 8), 8);
        }
    }

    private static void inputsInTheirOrder() {
        PartitionDesk desk = Desks.alone();
        Desks.write(desk, 0, Desks.INPUT, 0, 0, Desks.OUTPUT, 0, 0, Desks.OUTPUT, 3, 0, Desks.JUMP, 0, 0);
        int[] values = {7, 0, -3, MIN, MAX, 1, 2, 3};
        for (int v : values) {
            desk.input(0, v);
        }
        due.is("refused", desk.input(0, 99), -1);
        desk.start();
        desk.run(32);
        for (int i = 0; i < 8; i++) {
            due.is("input " + i, desk.output(0, 2 * i), values[i]);
            due.is("r3", desk.output(0, 2 * i + 1), 1);
        }
        desk.run(1);
        due.is("none is left", desk.about(0, 0), 0);
        due.is("r3", desk.about(0, 3), 0);
    }

    private static void inputsGoRound() {
        PartitionDesk desk = Desks.alone();
        Desks.write(desk, 0, Desks.INPUT, 1, 0, Desks.JUMP, 0, 0);
        desk.start();
        for (int i = 1; i <= 5; i++) {
            desk.input(0, i);
        }
        for (int i = 6; i <= 40; i++) {
            due.is("how many wait", desk.input(0, i), 6);
            desk.run(2);
            due.is("the oldest one", desk.about(0, 1), i - 5);
            due.is("one less", desk.about(0, 8), 5);
        }
    }

    private static void noInput() {
        PartitionDesk desk = Desks.alone();
        Desks.write(desk, 0, Desks.SET, 1, 5, Desks.SET, 3, 5, Desks.INPUT, 1, 0);
        desk.start();
        desk.run(3);
        due.is("x", desk.about(0, 1), 0);
        due.is("r3", desk.about(0, 3), 0);
        due.is("place", desk.about(0, 4), 3);
        due.is("no fault", desk.about(0, 6), 0);
        due.is("waiting", desk.about(0, 8), 0);
    }

    private static void inputIntoR3() {
        PartitionDesk desk = Desks.alone();
        Desks.write(desk, 0, Desks.INPUT, 3, 0, Desks.INPUT, -1, 0);
        desk.input(0, 44);
        desk.start();
        desk.run(1);
        due.is("r3 comes last", desk.about(0, 3), 1);
        due.is("it was taken", desk.about(0, 8), 0);
        desk.run(1);
        due.is("none", desk.about(0, 3), 0);
    }

    private static void inputsAreOfTheirOwn() {
        PartitionDesk desk = Desks.pair();
        Desks.write(desk, 0, Desks.INPUT, 0, 0);
        Desks.write(desk, 1, Desks.INPUT, 0, 0);
        desk.input(0, 3);
        desk.input(1, 4);
        desk.start();
        desk.run(2);
        due.is("of 0", desk.about(0, 0), 3);
        due.is("of 1", desk.about(1, 0), 4);
    }

    private static void inputLeavesItStarted() {
        PartitionDesk desk = Desks.alone();
        desk.start();
        desk.run(2);
        desk.input(0, 1);
        due.is("clock", desk.clock(2), 2);
        due.is("run(1)", desk.run(1), 1);
    }

    private static void outputs() {
        PartitionDesk desk = Desks.pair();
        Desks.write(desk, 0, Desks.SET, 2, -8, Desks.OUTPUT, 2, 0, Desks.OUTPUT, 6, 1, Desks.OUTPUT, 0, 2);
        Desks.write(desk, 1, Desks.SET, 1, 3, Desks.OUTPUT, 1, 0);
        desk.start();
        desk.run(8);
        due.is("output(0, 0)", desk.output(0, 0), -8);
        due.is("a modulo 4", desk.output(0, 1), -8);
        due.is("output(0, 2)", desk.output(0, 2), 0);
        due.is("how many of 0", desk.about(0, 7), 3);
        due.is("output(1, 0)", desk.output(1, 0), 3);
        due.is("how many of 1", desk.about(1, 7), 1);
        due.is("r3 stays", desk.about(0, 3), 0);
        desk.action(0, 1, 0);
        due.is("it stays when the table is changed", desk.output(0, 0), -8);
    }

    private static void onlySixteenOutputsAreKept() {
        PartitionDesk desk = Desks.alone();
        Desks.write(desk, 0, Desks.SET, 1, 1, Desks.ADD, 0, 1, Desks.OUTPUT, 0, 0, Desks.JUMP, 0, 1);
        desk.start();
        desk.run(1 + 3 * 15);
        due.is("15", desk.about(0, 7), 15);
        due.is("no output 15 yet", desk.output(0, 15), 0);
        desk.run(3 * 5);
        for (int i = 0; i < 16; i++) {
            due.is("output " + i, desk.output(0, i), i + 1);
        }
        due.is("output 16", desk.output(0, 16), 0);
        due.is("output 17", desk.output(0, 17), 0);
        due.is("all are counted", desk.about(0, 7), 20);
        desk.start();
        desk.run(4);
        due.is("counted on", desk.about(0, 7), 21);
        due.is("the first one stays", desk.output(0, 0), 1);
    }

    private static void outputEdges() {
        PartitionDesk desk = Desks.alone();
        Desks.write(desk, 0, Desks.SET, 0, 6, Desks.OUTPUT, 0, 0);
        desk.start();
        desk.run(2);
        due.is("output(0, 0)", desk.output(0, 0), 6);
        int[] wrong = {-1, 1, 15, 16, MIN, MAX};
        for (int i : wrong) {
            due.is("output(0, " + i + ")", desk.output(0, i), 0);
        }
        int[] nobody = {-1, 4, MIN, MAX};
        for (int p : nobody) {
            due.is("output(" + p + ", 0)", desk.output(p, 0), 0);
        }
    }

    private static void aboutEdges() {
        PartitionDesk desk = Desks.alone();
        int[] nobody = {-1, 4, MIN, MAX};
        for (int p : nobody) {
            for (int w = -1; w <= 9; w++) {
                due.is("about(" + p + ", " + w + ")", desk.about(p, w), -1);
            }
        }
        int[] wrong = {-1, 9, MIN, MAX};
        for (int w : wrong) {
            due.is("about(0, " + w + ")", desk.about(0, w), -1);
        }
    }

    private static void aboutEach() {
        PartitionDesk desk = Desks.alone();
        for (int r = 0; r < 4; r++) {
            desk.code(0, r, Desks.SET, r, 100 + r);
        }
        desk.code(0, 4, Desks.OUTPUT, 0, 0);
        desk.code(0, 5, Desks.OUTPUT, 0, 0);
        desk.code(0, 6, 50, 0, 0);
        desk.action(0, 3, Desks.SKIP);
        for (int i = 0; i < 5; i++) {
            desk.input(0, i);
        }
        desk.start();
        desk.run(7);
        int[] want = {100, 101, 102, 103, 7, 1, 1, 2, 5};
        for (int w = 0; w <= 8; w++) {
            due.is("about(0, " + w + ")", desk.about(0, w), want[w]);
        }
    }
}
