/** "SEND" and "RECEIVE": each bound that the document names, from both sides (promises 9, 11, 13). */
public final class PortBoundsTest {
    private static final int MIN = Integer.MIN_VALUE;
    private static final int MAX = Integer.MAX_VALUE;
    private static final Due due = new Due();

    public static void main(String[] args) {
        for (int ports = 0; ports <= 6; ports++) {
            noPortToSendInto(ports);
            noPortToReceiveFrom(ports);
        }
        portsOfOthers();
        for (int depth = 1; depth <= 4; depth++) {
            asManyAsItsDepth(depth);
            aFullQueueStaysAsItIs(depth);
            roundAndRound(depth);
            noneInAQueue(depth);
        }
        aSampleIsNeverFull();
        aSampleLeavesR3();
        for (int gap = 1; gap <= 9; gap++) {
            ticksSince(gap);
        }
        atMost99();
        writtenAgain();
        noneWasWritten();
        aSampleOfZero();
        r3ComesLast();
        r3IsSentAsItWas();
        theWholeOfAnInt();
        due.end();
    }

    private static void noPortToSendInto(int ports) {
        due.says("SEND: FAULT 2, if there is no port a");
        int[] numbers = {MIN, -4, -1, 0, 1, 2, 3, 4, 5, 6, 7, 8, MAX};
        for (int number : numbers) {
            PartitionDesk desk = Desks.pair();
            for (int i = 0; i < ports; i++) {
                desk.port(0, 1, i % 5);
            }
            desk.code(0, 0, Desks.SEND, number, 0);
            desk.start();
            desk.run(1);
            boolean there = 0 <= number && number < ports;
            due.is("port " + number + " of " + ports + ", faults", desk.about(0, 6), there ? 0 : 1);
            due.is("port " + number + " of " + ports + ", running", desk.about(0, 5), there ? 1 : 0);
            for (int i = 0; i < ports; i++) {
                due.is("waiting(" + i + ")", desk.waiting(i), i == number ? 1 : 0);
            }
        }
    }

    private static void noPortToReceiveFrom(int ports) {
        due.says("RECEIVE: FAULT 2, if there is no port a");
        int[] numbers = {MIN, -4, -1, 0, 1, 2, 3, 4, 5, 6, 7, 8, MAX};
        for (int number : numbers) {
            PartitionDesk desk = Desks.pair();
            for (int i = 0; i < ports; i++) {
                desk.port(1, 0, i % 5);
            }
            Desks.write(desk, 0, Desks.SET, 3, 44, Desks.RECEIVE, number, 0);
            desk.start();
            desk.run(3);
            boolean there = 0 <= number && number < ports;
            due.is("port " + number + " of " + ports + ", faults", desk.about(0, 6), there ? 0 : 1);
            int none = there && number % 5 == 0 ? -1 : 0;
            due.is("port " + number + " of " + ports + ", r3", desk.about(0, 3), there ? none : 44);
        }
    }

    private static void portsOfOthers() {
        due.says("no port a from this partition .. no port a to this partition");
        for (int from = 0; from < 4; from++) {
            for (int to = 0; to < 4; to++) {
                for (int p = 0; p < 4 && from != to; p++) {
                    due.is("SEND of " + p + ", " + from + " to " + to,
                            faultsOf(p, Desks.SEND, from, to), p == from ? 0 : 1);
                    due.is("RECEIVE of " + p + ", " + from + " to " + to,
                            faultsOf(p, Desks.RECEIVE, from, to), p == to ? 0 : 1);
                }
            }
        }
    }

    private static int faultsOf(int p, int op, int from, int to) {
        PartitionDesk desk = new PartitionDesk();
        for (int q = 0; q < 4; q++) {
            desk.region(q, q, 1);
            desk.window(q, 1);
        }
        desk.port(from, to, 1);
        desk.code(p, 0, op, 0, 0);
        desk.action(p, 2, Desks.SKIP);
        desk.start();
        due.is("one tick each", desk.run(4), 4);
        return desk.about(p, 6);
    }

    private static PartitionDesk linked(int depth) {
        PartitionDesk desk = Desks.pair();
        desk.port(0, 1, depth);
        return desk;
    }

    private static void asManyAsItsDepth(int depth) {
        due.says("if there are as many as its depth, it does not, r3 = 0");
        PartitionDesk desk = linked(depth);
        for (int i = 0; i < 7; i++) {
            desk.code(0, 2 * i, Desks.SEND, 0, 0);
            desk.code(0, 2 * i + 1, Desks.SET, 3, 8);
        }
        desk.start();
        for (int i = 1; i <= 7; i++) {
            due.is("r3 before", desk.about(0, 3), i == 1 ? 0 : 8);
            desk.run(2);
            due.is("r3 of SEND " + i + ", depth " + depth, desk.about(0, 3), i <= depth ? 1 : 0);
            due.is("waiting(0)", desk.waiting(0), Math.min(i, depth));
            due.is("no fault", desk.about(0, 6), 0);
            due.is("place", desk.about(0, 4), 2 * i - 1);
            desk.run(2);
        }
    }

    /** Partition 0 sends what it has for inputs, one after the other, then 1 receives them all. */
    private static void aFullQueueStaysAsItIs(int depth) {
        due.says("QUEUING: it goes behind the others .. if there are as many as its depth, it does not");
        PartitionDesk desk = new PartitionDesk();
        desk.region(0, 0, 1);
        desk.region(1, 1, 1);
        desk.window(0, 9);
        desk.window(0, 6);
        desk.window(1, 9);
        desk.window(1, 6);
        desk.port(0, 1, depth);
        Desks.write(desk, 0, Desks.INPUT, 0, 0, Desks.SEND, 0, 0, Desks.JUMP, 0, 0);
        Desks.write(desk, 1, Desks.RECEIVE, 0, 0, Desks.OUTPUT, 0, 0, Desks.JUMP, 0, 0);
        for (int i = 1; i <= 5; i++) {
            desk.input(0, i * 10);
        }
        desk.start();
        desk.run(30);
        for (int i = 0; i < 5; i++) {
            due.is("value " + i + ", depth " + depth, desk.output(1, i), 10 * Math.min(i + 1, depth));
        }
        due.is("none is left", desk.waiting(0), 0);
        due.is("r3", desk.about(1, 3), 0);
    }

    /** The receiver begins when the queue is full; then one goes in for each one that comes out. */
    private static void roundAndRound(int depth) {
        due.says("it goes behind the others .. y = the first one, which is taken out");
        PartitionDesk desk = linked(depth);
        Desks.write(desk, 0, Desks.SET, 1, 1, Desks.ADD, 0, 1, Desks.SEND, 0, 0, Desks.JUMP, 0, 1);
        int loop = 3 * depth;
        desk.code(1, loop, Desks.RECEIVE, 0, 2);
        desk.code(1, loop + 2, Desks.JUMP, 0, loop);
        desk.start();
        desk.run(2 * loop);
        for (int i = 1; i <= 20; i++) {
            due.is("waiting(0), depth " + depth, desk.waiting(0), depth);
            desk.run(2);
            due.is("value " + i + ", depth " + depth, desk.about(1, 2), i);
            due.is("r3 of the receiver", desk.about(1, 3), 1);
            due.is("waiting(0) when one is taken out", desk.waiting(0), depth - 1);
            desk.run(4);
            due.is("r3 of the sender", desk.about(0, 3), 1);
        }
    }

    private static void noneInAQueue(int depth) {
        due.says("if there is none, y stays, r3 = 0");
        PartitionDesk desk = linked(depth);
        Desks.write(desk, 0, Desks.SET, 0, 6, Desks.SEND, 0, 0);
        Desks.write(desk, 1, Desks.SET, 2, 5, Desks.RECEIVE, 0, 2,
                Desks.SET, 2, 7, Desks.SET, 3, 8, Desks.RECEIVE, 0, 2);
        desk.start();
        desk.run(4);
        due.is("y = the first one", desk.about(1, 2), 6);
        due.is("r3", desk.about(1, 3), 1);
        due.is("waiting(0)", desk.waiting(0), 0);
        desk.run(6);
        due.is("y stays", desk.about(1, 2), 7);
        due.is("r3 of none", desk.about(1, 3), 0);
        due.is("waiting(0) of none", desk.waiting(0), 0);
        due.is("no fault", desk.about(1, 6), 0);
    }

    private static void aSampleIsNeverFull() {
        due.says("SAMPLING: it has this as its value");
        PartitionDesk desk = linked(0);
        Desks.write(desk, 0, Desks.SET, 1, 1, Desks.ADD, 0, 1, Desks.SEND, 0, 0, Desks.JUMP, 0, 1);
        Desks.write(desk, 1, Desks.RECEIVE, 0, 2, Desks.JUMP, 0, 0);
        desk.start();
        desk.run(5);
        for (int i = 1; i <= 12; i++) {
            due.is("waiting(0)", desk.waiting(0), 1);
            desk.run(4);
            due.is("the value", desk.about(1, 2), i);
            desk.run(2);
        }
    }

    private static void aSampleLeavesR3() {
        due.says("SAMPLING: it has this as its value, written at this tick. QUEUING: .. r3 = 1");
        for (int depth = 0; depth <= 1; depth++) {
            PartitionDesk desk = linked(depth);
            Desks.write(desk, 0, Desks.SET, 3, 60, Desks.SEND, 0, 0);
            desk.start();
            desk.run(3);
            due.is("r3, depth " + depth, desk.about(0, 3), depth == 0 ? 60 : 1);
        }
    }

    /** Written at tick 0, read gap ticks later. */
    private static void ticksSince(int gap) {
        due.says("then r3 = the ticks since it was written");
        PartitionDesk desk = new PartitionDesk();
        desk.region(0, 0, 1);
        desk.region(1, 1, 1);
        desk.window(0, gap);
        desk.window(1, 1);
        desk.port(0, 1, 0);
        Desks.write(desk, 0, Desks.SEND, 0, 0, Desks.WAIT, 0, 0);
        desk.code(1, 0, Desks.RECEIVE, 0, 0);
        desk.start();
        desk.run(gap + 1);
        due.is("r3 behind " + gap, desk.about(1, 3), gap);
        due.is("it is not taken out", desk.waiting(0), 1);
    }

    private static void atMost99() {
        due.says("at most 99");
        for (int gap = 90; gap <= 120; gap++) {
            due.is("r3 behind " + gap, ageTold(gap), gap < 99 ? gap : 99);
        }
    }

    /** What r3 tells of a sample that was written at tick 0 and is received at tick gap, 65 .. 127. */
    private static int ageTold(int gap) {
        PartitionDesk desk = new PartitionDesk();
        desk.region(0, 0, 1);
        desk.region(1, 1, 1);
        desk.window(0, 1);
        for (int i = 0; i < 7; i++) {
            desk.window(1, 9);
        }
        desk.port(0, 1, 0);
        Desks.write(desk, 0, Desks.SEND, 0, 0, Desks.END, 0, 0);
        // It receives in every second tick of its own, and begins so that tick gap is one of them.
        int loop = gap % 2;
        desk.code(1, loop, Desks.RECEIVE, 0, 0);
        desk.code(1, loop + 1, Desks.JUMP, 0, loop);
        desk.start();
        desk.run(gap);
        due.is("place before it is received", desk.about(1, 4), loop);
        desk.run(1);
        return desk.about(1, 3);
    }

    private static void writtenAgain() {
        due.says("the ticks since it was written");
        PartitionDesk desk = linked(0);
        Desks.write(desk, 0, Desks.SET, 0, 1, Desks.SEND, 0, 0, Desks.NOTHING, 0, 0, Desks.SEND, 0, 0);
        Desks.write(desk, 1, Desks.NOTHING, 0, 0, Desks.RECEIVE, 0, 0, Desks.RECEIVE, 0, 1, Desks.RECEIVE, 0, 2,
                Desks.RECEIVE, 0, 2);
        desk.start();
        int[] want = {0, 1, 3, 1, 3};
        for (int i = 0; i < 5; i++) {
            desk.run(2);
            due.is("r3 at time " + i, desk.about(1, 3), want[i]);
        }
    }

    private static void noneWasWritten() {
        due.says("if none was, y stays, r3 = -1");
        PartitionDesk desk = linked(0);
        Desks.write(desk, 0, Desks.SET, 0, 6, Desks.SET, 0, 6, Desks.SEND, 0, 0);
        Desks.write(desk, 1, Desks.SET, 2, 5, Desks.RECEIVE, 0, 2, Desks.RECEIVE, 0, 2);
        desk.start();
        desk.run(4);
        due.is("waiting(0)", desk.waiting(0), 0);
        due.is("y stays", desk.about(1, 2), 5);
        due.is("r3", desk.about(1, 3), -1);
        due.is("no fault", desk.about(1, 6), 0);
        desk.run(2);
        due.is("waiting(0), written", desk.waiting(0), 1);
        due.is("y", desk.about(1, 2), 6);
        due.is("r3, written", desk.about(1, 3), 1);
    }

    private static void aSampleOfZero() {
        due.says("a sampling one: 1 if it has a value");
        PartitionDesk desk = linked(0);
        desk.code(0, 0, Desks.SEND, 0, 0);
        Desks.write(desk, 1, Desks.RECEIVE, 0, 2);
        desk.start();
        due.is("none yet", desk.waiting(0), 0);
        desk.run(1);
        due.is("0 is a value", desk.waiting(0), 1);
        desk.run(1);
        due.is("r3", desk.about(1, 3), 1);
        due.is("it still has it", desk.waiting(0), 1);
    }

    private static void r3ComesLast() {
        due.says("y = its value, then r3 = .. y = the first one, which is taken out, then r3 = 1");
        for (int depth = 0; depth <= 4; depth++) {
            PartitionDesk desk = linked(depth);
            Desks.write(desk, 0, Desks.SET, 1, 50, Desks.SEND, 0, 1, Desks.END, 0, 0);
            Desks.write(desk, 1, Desks.RECEIVE, 0, 3, Desks.NOTHING, 0, 0, Desks.RECEIVE, 0, 3);
            desk.start();
            desk.run(2);
            due.is("none, depth " + depth, desk.about(1, 3), depth == 0 ? -1 : 0);
            desk.run(4);
            due.is("one, depth " + depth, desk.about(1, 3), depth == 0 ? 3 : 1);
        }
    }

    private static void r3IsSentAsItWas() {
        due.says("9 SEND y into port a");
        for (int depth = 0; depth <= 4; depth++) {
            PartitionDesk desk = linked(depth);
            Desks.write(desk, 0, Desks.SET, 3, 50, Desks.SEND, 0, 3, Desks.END, 0, 0);
            Desks.write(desk, 1, Desks.NOTHING, 0, 0, Desks.RECEIVE, 0, 0);
            desk.start();
            desk.run(4);
            due.is("r3, depth " + depth, desk.about(1, 0), 50);
        }
    }

    private static void theWholeOfAnInt() {
        due.says("four REGISTERS r0 .. r3 (ints)");
        int[] values = {MIN, -1, 0, 1, MAX};
        for (int value : values) {
            for (int depth = 0; depth <= 1; depth++) {
                PartitionDesk desk = linked(depth);
                Desks.write(desk, 0, Desks.SET, 1, value, Desks.SEND, 0, 1, Desks.END, 0, 0);
                Desks.write(desk, 1, Desks.SET, 0, 4, Desks.RECEIVE, 0, 0, Desks.OUTPUT, 0, 0);
                desk.start();
                desk.run(6);
                due.is("value " + value + ", depth " + depth, desk.output(1, 0), value);
            }
        }
    }
}
