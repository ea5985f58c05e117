/** "STARTING": what is 0, empty or kept at a start, beside what was there before (promises 7, 9, 12, 13, 14). */
public final class StartBoundsTest {
    private static final Due due = new Due();

    public static void main(String[] args) {
        memoryRegistersAndPlacesAreZero();
        wordsOfNoRegionAreZero();
        allThatTakePartAreRunning();
        for (int depth = 0; depth <= 4; depth++) {
            portsAreEmpty(depth);
        }
        inputsStay();
        outputsStay();
        theFrameIsAtItsBeginning();
        aWaitIsOver();
        aBadTableChangesNothing();
        faultsAreSinceTheStart();
        due.end();
    }

    /** Four partitions with 16 words each; each makes all its words 7, its registers not 0, and stops by a fault. */
    private static PartitionDesk filled() {
        PartitionDesk desk = new PartitionDesk();
        for (int p = 0; p < 4; p++) {
            desk.region(p, p * 16, 16);
            desk.window(p, 9);
            desk.window(p, 9);
            Desks.write(desk, p,
                    Desks.SET, 0, 1, Desks.SET, 1, 15, Desks.SET, 2, 7, Desks.SET, 3, 9,
                    Desks.STORE, 2, 1, Desks.JUMP_NOT_ZERO, 1, 7, Desks.JUMP, 0, 9,
                    Desks.SUBTRACT, 1, 0, Desks.JUMP, 0, 4,
                    Desks.SET, 1, 5, 99, 0, 0);
        }
        desk.start();
        desk.run(200);
        desk.run(144);
        return desk;
    }

    private static void memoryRegistersAndPlacesAreZero() {
        due.says("all memory, registers and places are 0");
        PartitionDesk desk = filled();
        tellsAll(desk, 7, new int[] {1, 5, 7, 9, 10, 0, 1});
        due.is("start()", desk.start(), 0);
        tellsAll(desk, 0, new int[] {0, 0, 0, 0, 0, 1, 0});
    }

    private static void tellsAll(PartitionDesk desk, int word, int[] about) {
        for (int i = 0; i < 64; i++) {
            due.is("word(" + i + ")", desk.word(i), word);
        }
        for (int p = 0; p < 4; p++) {
            for (int w = 0; w < about.length; w++) {
                due.is("about(" + p + ", " + w + ")", desk.about(p, w), about[w]);
            }
        }
    }

    private static void wordsOfNoRegionAreZero() {
        due.says("all memory .. 0");
        PartitionDesk desk = filled();
        for (int p = 0; p < 4; p++) {
            desk.region(p, 20 + p, 1);
        }
        for (int i = 0; i < 64; i++) {
            due.is("word(" + i + ") before", desk.word(i), 7);
        }
        desk.start();
        for (int i = 0; i < 64; i++) {
            due.is("word(" + i + ")", desk.word(i), 0);
        }
    }

    private static void allThatTakePartAreRunning() {
        due.says("all that take part are running");
        PartitionDesk desk = Desks.pair();
        desk.code(0, 0, Desks.END, 0, 0);
        desk.code(1, 0, 77, 0, 0);
        for (int p = 0; p < 4; p++) {
            due.is("about(" + p + ", 5) before the first start", desk.about(p, 5), 0);
        }
        desk.start();
        due.is("the last instructions", desk.run(8), 2);
        for (int p = 0; p < 4; p++) {
            due.is("about(" + p + ", 5) when they have stopped", desk.about(p, 5), 0);
        }
        desk.start();
        for (int p = 0; p < 4; p++) {
            due.is("about(" + p + ", 5) when it has started", desk.about(p, 5), p < 2 ? 1 : 0);
        }
        due.is("they do something again", desk.run(2), 2);
    }

    /** The window of the receiver comes first, so that it meets what a start leaves in the port. */
    private static void portsAreEmpty(int depth) {
        due.says("ports are empty");
        PartitionDesk desk = new PartitionDesk();
        desk.region(0, 0, 1);
        desk.region(1, 1, 1);
        desk.window(1, 2);
        desk.window(0, 9);
        desk.port(0, 1, depth);
        Desks.write(desk, 1, Desks.SET, 0, 5, Desks.RECEIVE, 0, 0);
        Desks.write(desk, 0, Desks.SET, 0, 8, Desks.SEND, 0, 0, Desks.SEND, 0, 0, Desks.SEND, 0, 0, Desks.SEND, 0, 0,
                Desks.SEND, 0, 0);
        for (int time = 0; time < 3; time++) {
            due.is("start()", desk.start(), 0);
            due.is("waiting(0)", desk.waiting(0), 0);
            desk.run(2);
            due.is("y stays", desk.about(1, 0), 5);
            due.is("r3", desk.about(1, 3), depth == 0 ? -1 : 0);
            desk.run(9);
            due.is("waiting(0) before the next start", desk.waiting(0), depth == 0 ? 1 : depth);
        }
    }

    private static void inputsStay() {
        due.says("inputs .. stay as they are");
        PartitionDesk desk = Desks.alone();
        Desks.write(desk, 0, Desks.INPUT, 0, 0, Desks.INPUT, 1, 0);
        for (int i = 1; i <= 8; i++) {
            desk.input(0, i);
            desk.input(2, i);
        }
        desk.start();
        due.is("about(0, 8)", desk.about(0, 8), 8);
        due.is("a ninth one", desk.input(0, 9), -1);
        desk.run(2);
        desk.start();
        due.is("about(0, 8) when two were taken", desk.about(0, 8), 6);
        due.is("the seventh one", desk.input(0, 9), 7);
        desk.run(2);
        due.is("the third one", desk.about(0, 0), 3);
        due.is("the fourth one", desk.about(0, 1), 4);
        due.is("one that does not take part", desk.about(2, 8), 8);
    }

    private static void outputsStay() {
        due.says("outputs stay as they are");
        PartitionDesk desk = Desks.alone();
        Desks.write(desk, 0, Desks.INPUT, 0, 0, Desks.OUTPUT, 0, 0, Desks.JUMP, 0, 0);
        for (int time = 0; time < 3; time++) {
            for (int i = 0; i < 6; i++) {
                desk.input(0, 100 + time * 6 + i);
            }
            desk.start();
            due.is("about(0, 7) at the start", desk.about(0, 7), time * 6);
            desk.run(18);
        }
        due.is("about(0, 7)", desk.about(0, 7), 18);
        for (int i = 0; i < 20; i++) {
            due.is("output(0, " + i + ")", desk.output(0, i), i < 16 ? 100 + i : 0);
        }
        desk.start();
        due.is("output(0, 0)", desk.output(0, 0), 100);
        due.is("output(0, 15)", desk.output(0, 15), 115);
    }

    private static void theFrameIsAtItsBeginning() {
        due.says("the frame is at its beginning");
        PartitionDesk desk = new PartitionDesk();
        desk.region(0, 0, 1);
        desk.region(1, 1, 1);
        desk.window(1, 2);
        desk.window(0, 3);
        desk.window(1, 1);
        for (int ticks = 0; ticks <= 13; ticks++) {
            due.is("start()", desk.start(), 0);
            for (int what = 0; what < 3; what++) {
                due.is("clock(" + what + ")", desk.clock(what), 0);
            }
            desk.run(2);
            due.is("the first window is whole", desk.about(1, 4), 2);
            due.is("and of its partition alone", desk.about(0, 4), 0);
            due.is("the second window", desk.clock(0), 1);
            desk.run(ticks);
            due.is("ticks since the start", desk.clock(2), 2 + ticks);
        }
    }

    private static void aWaitIsOver() {
        due.says("the frame is at its beginning");
        PartitionDesk desk = Desks.alone();
        desk.code(0, 0, Desks.WAIT, 0, 0);
        desk.start();
        due.is("it waits", desk.run(5), 1);
        desk.start();
        due.is("it waits no longer", desk.run(1), 1);
        due.is("now it does", desk.run(1), 0);
    }

    private static void aBadTableChangesNothing() {
        due.says("otherwise the number of what is not so (nothing changes)");
        for (int verdict = 2; verdict <= 4; verdict++) {
            PartitionDesk desk = Desks.pair();
            desk.port(0, 1, 2);
            Desks.write(desk, 0, Desks.SET, 1, 3, Desks.STORE, 1, 1, Desks.SEND, 0, 1, Desks.OUTPUT, 1, 0, 99, 0, 0);
            desk.input(1, 6);
            desk.start();
            desk.run(11);
            switch (verdict) {
                case 2 -> desk.region(1, 7, 8);
                case 3 -> desk.window(2, 1);
                default -> desk.port(2, 3, 0);
            }
            String before = Desks.seen(desk);
            due.is("start()", desk.start(), verdict);
            due.same("what can be seen", Desks.seen(desk), before);
            due.is("run(1)", desk.run(1), -1);
        }
    }

    private static void faultsAreSinceTheStart() {
        due.says("its faults since the start (6)");
        PartitionDesk desk = Desks.alone();
        desk.code(0, 0, -1, 0, 0);
        desk.action(0, 3, Desks.RESTART);
        for (int time = 0; time < 3; time++) {
            desk.start();
            due.is("about(0, 6) at the start", desk.about(0, 6), 0);
            desk.run(30);
            due.is("about(0, 6) behind 30 faults", desk.about(0, 6), 30);
        }
    }
}
