/** SEND, RECEIVE and promise 13: what waits in a port. */
public final class PortsTest {
    private static final Due due = new Due();

    public static void main(String[] args) {
        for (int depth = 1; depth <= 4; depth++) {
            aQueueHoldsItsDepth(depth);
        }
        firstInFirstOut();
        anEmptyQueue();
        aQueueToldInR3();
        aSampleIsReplacedAndStays();
        ageOfASample();
        ageIsAtMost99();
        anEmptySample();
        aSampleIntoR3();
        sendingASampleLeavesR3();
        portNumberIsNotModuloFour();
        waitingEdges();
        due.end();
    }

    private static PartitionDesk linked(int depth) {
        PartitionDesk desk = Desks.pair();
        desk.port(0, 1, depth);
        return desk;
    }

    private static void aQueueHoldsItsDepth(int depth) {
        PartitionDesk desk = linked(depth);
        Desks.write(desk, 0, Desks.SET, 1, 1, Desks.ADD, 0, 1, Desks.SEND, 0, 0, Desks.JUMP, 0, 1);
        Desks.write(desk, 1, Desks.JUMP, 0, 0);
        desk.start();
        desk.run(2);
        for (int i = 1; i <= 6; i++) {
            desk.run(4);
            due.is("waiting, depth " + depth, desk.waiting(0), Math.min(i, depth));
            due.is("r3, depth " + depth, desk.about(0, 3), i <= depth ? 1 : 0);
            due.is("r0 stays", desk.about(0, 0), i);
            due.is("no fault", desk.about(0, 6), 0);
            desk.run(2);
        }
    }

    private static void firstInFirstOut() {
        PartitionDesk desk = linked(3);
        desk.action(0, 4, Desks.SKIP);
        desk.action(1, 4, Desks.SKIP);
        Desks.write(desk, 0, Desks.INPUT, 0, 0, Desks.SEND, 0, 0);
        Desks.write(desk, 1, Desks.NOTHING, 0, 0, Desks.NOTHING, 0, 0, Desks.RECEIVE, 0, 2, Desks.OUTPUT, 2, 0);
        desk.start();
        for (int i = 1; i <= 8; i++) {
            desk.input(0, i * 11);
        }
        desk.run(200);
        desk.run(72);
        for (int i = 0; i < 8; i++) {
            due.is("output " + i, desk.output(1, i), (i + 1) * 11);
        }
        due.is("how many", desk.about(1, 7), 8);
        overfull();
    }

    private static void overfull() {
        PartitionDesk desk = linked(2);
        Desks.write(desk, 0, Desks.SET, 0, 1, Desks.SEND, 0, 0, Desks.SET, 0, 2, Desks.SEND, 0, 0,
                Desks.SET, 0, 3, Desks.SEND, 0, 0, Desks.END, 0, 0);
        Desks.write(desk, 1, Desks.SET, 0, 0, Desks.SET, 0, 0, Desks.SET, 0, 0, Desks.SET, 0, 0,
                Desks.SET, 0, 0, Desks.SET, 0, 0, Desks.RECEIVE, 0, 0, Desks.RECEIVE, 0, 1, Desks.RECEIVE, 0, 2);
        desk.start();
        desk.run(18);
        due.is("first", desk.about(1, 0), 1);
        due.is("second", desk.about(1, 1), 2);
        due.is("the third did not go in", desk.about(1, 2), 0);
        due.is("r3", desk.about(1, 3), 0);
    }

    private static void anEmptyQueue() {
        PartitionDesk desk = linked(1);
        Desks.write(desk, 1, Desks.SET, 2, 8, Desks.SET, 3, 9, Desks.RECEIVE, 0, 2);
        desk.start();
        desk.run(6);
        due.is("y stays", desk.about(1, 2), 8);
        due.is("r3", desk.about(1, 3), 0);
        due.is("place", desk.about(1, 4), 3);
        due.is("no fault", desk.about(1, 6), 0);
    }

    private static void aQueueToldInR3() {
        PartitionDesk desk = linked(2);
        Desks.write(desk, 0, Desks.SET, 3, 70, Desks.SEND, 0, 3, Desks.SEND, 0, 3, Desks.SEND, 0, 3);
        Desks.write(desk, 1, Desks.NOTHING, 0, 0, Desks.NOTHING, 0, 0, Desks.NOTHING, 0, 0, Desks.NOTHING, 0, 0,
                Desks.RECEIVE, 0, 0, Desks.RECEIVE, 0, 3, Desks.RECEIVE, 0, 3);
        desk.start();
        desk.run(4);
        due.is("r3 was sent, then it is 1", desk.about(0, 3), 1);
        desk.run(4);
        due.is("full", desk.about(0, 3), 0);
        desk.run(2);
        due.is("r3 as it was when it was sent", desk.about(1, 0), 70);
        due.is("r3 of the receiver", desk.about(1, 3), 1);
        due.is("one is left", desk.waiting(0), 1);
        desk.run(2);
        due.is("into r3: r3 comes last", desk.about(1, 3), 1);
        due.is("none is left", desk.waiting(0), 0);
        desk.run(2);
        due.is("into r3, none there", desk.about(1, 3), 0);
    }

    private static void aSampleIsReplacedAndStays() {
        PartitionDesk desk = linked(0);
        Desks.write(desk, 0, Desks.SET, 0, 5, Desks.SEND, 0, 0, Desks.SET, 0, 6, Desks.SEND, 0, 0, Desks.END, 0, 0);
        Desks.write(desk, 1, Desks.NOTHING, 0, 0, Desks.RECEIVE, 0, 0, Desks.RECEIVE, 0, 1, Desks.RECEIVE, 0, 2,
                Desks.RECEIVE, 0, 0);
        desk.start();
        due.is("no value yet", desk.waiting(0), 0);
        desk.run(3);
        due.is("a value", desk.waiting(0), 1);
        desk.run(5);
        due.is("still one", desk.waiting(0), 1);
        due.is("the first one", desk.about(1, 0), 5);
        due.is("the first one again", desk.about(1, 1), 5);
        due.is("the second one", desk.about(1, 2), 6);
        desk.run(2);
        due.is("the second one again", desk.about(1, 0), 6);
    }

    private static void ageOfASample() {
        PartitionDesk desk = linked(0);
        Desks.write(desk, 0, Desks.SEND, 0, 0, Desks.END, 0, 0);
        Desks.write(desk, 1, Desks.RECEIVE, 0, 0, Desks.JUMP, 0, 0);
        desk.start();
        desk.run(2);
        due.is("read in the next tick", desk.about(1, 3), 1);
        desk.run(4);
        due.is("read four ticks later", desk.about(1, 3), 5);
        desk.start();
        desk.run(2);
        due.is("after a new start", desk.about(1, 3), 1);
    }

    private static void ageIsAtMost99() {
        PartitionDesk desk = linked(0);
        Desks.write(desk, 0, Desks.SET, 0, 4, Desks.NOTHING, 0, 0, Desks.SEND, 0, 0, Desks.END, 0, 0);
        Desks.write(desk, 1, Desks.RECEIVE, 0, 0, Desks.JUMP, 0, 0);
        desk.start();
        desk.run(4 + 1 + 97);
        due.is("97", desk.about(1, 3), 97);
        desk.run(4);
        due.is("101 is told as 99", desk.about(1, 3), 99);
        due.is("the value", desk.about(1, 0), 4);
        desk.run(200);
        due.is("far more is told as 99", desk.about(1, 3), 99);
        ageTickByTick();
    }

    /** Partition 1 receives in every tick but the first one of each 64, and but for each 17th time. */
    private static void ageTickByTick() {
        PartitionDesk desk = new PartitionDesk();
        desk.region(0, 0, 1);
        desk.region(1, 1, 1);
        desk.window(0, 1);
        for (int i = 0; i < 7; i++) {
            desk.window(1, 9);
        }
        desk.port(0, 1, 0);
        desk.action(1, 4, Desks.SKIP);
        Desks.write(desk, 0, Desks.SEND, 0, 0, Desks.END, 0, 0);
        for (int i = 0; i < 16; i++) {
            desk.code(1, i, Desks.RECEIVE, 0, 0);
        }
        desk.start();
        desk.run(1);
        for (int tick = 1; tick < 130; tick++) {
            desk.run(1);
            int times = tick - 1 - tick / 64;
            if (tick % 64 != 0 && times % 17 != 16) {
                due.is("age at tick " + tick, desk.about(1, 3), Math.min(tick, 99));
            }
        }
    }

    private static void anEmptySample() {
        PartitionDesk desk = linked(0);
        Desks.write(desk, 1, Desks.SET, 2, 8, Desks.RECEIVE, 0, 2);
        desk.start();
        desk.run(4);
        due.is("y stays", desk.about(1, 2), 8);
        due.is("r3", desk.about(1, 3), -1);
        due.is("no fault", desk.about(1, 6), 0);
        due.is("waiting", desk.waiting(0), 0);
    }

    private static void aSampleIntoR3() {
        PartitionDesk desk = linked(0);
        Desks.write(desk, 0, Desks.SET, 1, 50, Desks.SEND, 0, 1, Desks.END, 0, 0);
        Desks.write(desk, 1, Desks.RECEIVE, 0, 3, Desks.NOTHING, 0, 0, Desks.RECEIVE, 0, 7);
        desk.start();
        desk.run(2);
        due.is("none there", desk.about(1, 3), -1);
        desk.run(4);
        due.is("r3 comes last", desk.about(1, 3), 3);
    }

    private static void sendingASampleLeavesR3() {
        PartitionDesk desk = linked(0);
        Desks.write(desk, 0, Desks.SET, 3, 50, Desks.SEND, 0, 3, Desks.SEND, 0, -1);
        desk.start();
        desk.run(5);
        due.is("r3", desk.about(0, 3), 50);
        due.is("waiting", desk.waiting(0), 1);
    }

    private static void portNumberIsNotModuloFour() {
        PartitionDesk desk = Desks.pair();
        for (int i = 0; i < 6; i++) {
            desk.port(0, 1, 1);
        }
        Desks.write(desk, 0, Desks.SET, 2, 9, Desks.SEND, 4, 2, Desks.SEND, 5, 6, Desks.SEND, 6, 2);
        Desks.write(desk, 1, Desks.NOTHING, 0, 0, Desks.NOTHING, 0, 0, Desks.RECEIVE, 4, 1);
        desk.start();
        desk.run(5);
        for (int i = 0; i < 6; i++) {
            due.is("waiting(" + i + ")", desk.waiting(i), i >= 4 ? 1 : 0);
        }
        desk.run(3);
        due.is("taken from port 4", desk.about(1, 1), 9);
        due.is("there is no port 6", desk.about(0, 6), 1);
    }

    private static void waitingEdges() {
        PartitionDesk desk = linked(1);
        int[] wrong = {-1, 1, 6, Integer.MIN_VALUE, Integer.MAX_VALUE};
        for (int port : wrong) {
            due.is("waiting(" + port + ")", desk.waiting(port), -1);
        }
        due.is("waiting(0)", desk.waiting(0), 0);
    }
}
