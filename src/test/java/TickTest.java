/** Promises 9 and 14: ticks go by, window after window. */
public final class TickTest {
    private static final Due due = new Due();

    public static void main(String[] args) {
        edgesOfRun();
        windowsInTurn();
        aWaitIsForTheWindow();
        aWaitInTheLastTick();
        windowsOfTheSamePartition();
        aStoppedPartition();
        ticksInPartsAreTheSame();
        clockEdges();
        due.end();
    }

    private static void edgesOfRun() {
        PartitionDesk desk = Desks.alone();
        desk.code(0, 0, Desks.JUMP, 0, 0);
        due.is("run(1) before the start", desk.run(1), -1);
        desk.start();
        due.is("run(0)", desk.run(0), 0);
        due.is("no tick went by", desk.clock(2), 0);
        due.is("run(200)", desk.run(200), 200);
        int[] wrong = {201, -1, Integer.MIN_VALUE, Integer.MAX_VALUE};
        for (int n : wrong) {
            due.is("run(" + n + ")", desk.run(n), -1);
        }
        due.is("200 ticks went by", desk.clock(2), 200);
        due.is("run(1)", desk.run(1), 1);
    }

    private static void windowsInTurn() {
        PartitionDesk desk = new PartitionDesk();
        desk.region(1, 0, 1);
        desk.region(3, 1, 1);
        desk.window(3, 2);
        desk.window(1, 3);
        desk.window(3, 1);
        due.is("start()", desk.start(), 0);
        int[] windows = {0, 0, 1, 1, 1, 2};
        int[] over = {0, 1, 0, 1, 2, 0};
        int[] placeOf3 = {0, 1, 2, 2, 2, 2};
        int[] placeOf1 = {0, 0, 0, 1, 2, 3};
        for (int tick = 0; tick < 24; tick++) {
            int frames = tick / 6;
            due.is("window at tick " + tick, desk.clock(0), windows[tick % 6]);
            due.is("ticks over at tick " + tick, desk.clock(1), over[tick % 6]);
            due.is("ticks since the start", desk.clock(2), tick);
            due.is("place of 3", desk.about(3, 4), placeOf3[tick % 6] + 3 * frames);
            due.is("place of 1", desk.about(1, 4), placeOf1[tick % 6] + 3 * frames);
            due.is("run(1)", desk.run(1), 1);
        }
    }

    private static void aWaitIsForTheWindow() {
        PartitionDesk desk = Desks.alone();
        desk.window(0, 4);
        Desks.write(desk, 0, Desks.NOTHING, 0, 0, Desks.WAIT, 0, 0);
        desk.start();
        due.is("two of nine", desk.run(9), 2);
        due.is("the place is one higher", desk.about(0, 4), 2);
        due.is("it is running", desk.about(0, 5), 1);
        due.is("the next window", desk.clock(0), 1);
        due.is("goes on there", desk.run(4), 4);
        due.is("place", desk.about(0, 4), 6);
        aWaitInTheOnlyWindow();
    }

    private static void aWaitInTheOnlyWindow() {
        PartitionDesk desk = Desks.alone();
        Desks.write(desk, 0, Desks.WAIT, 0, 0, Desks.JUMP, 0, 0);
        desk.start();
        due.is("first time", desk.run(9), 1);
        due.is("second time", desk.run(9), 2);
        due.is("third time", desk.run(9), 2);
        due.is("place", desk.about(0, 4), 1);
    }

    private static void aWaitInTheLastTick() {
        PartitionDesk desk = Desks.pair();
        desk.code(0, 0, Desks.WAIT, 0, 0);
        desk.start();
        due.is("the wait does not reach the other one", desk.run(2), 2);
        due.is("nor the next window", desk.run(2), 2);
        due.is("place", desk.about(0, 4), 2);
    }

    private static void windowsOfTheSamePartition() {
        PartitionDesk desk = new PartitionDesk();
        desk.region(0, 0, 1);
        desk.window(0, 3);
        desk.window(0, 3);
        Desks.write(desk, 0, Desks.WAIT, 0, 0);
        desk.start();
        due.is("waits in the first only", desk.run(6), 4);
    }

    private static void aStoppedPartition() {
        PartitionDesk desk = Desks.pair();
        Desks.write(desk, 0, Desks.SET, 1, 4, Desks.END, 0, 0, Desks.SET, 1, 5);
        desk.start();
        due.is("run(4)", desk.run(4), 4);
        due.is("stopped", desk.about(0, 5), 0);
        due.is("its place is one higher", desk.about(0, 4), 2);
        due.is("only the other one", desk.run(10), 5);
        due.is("register", desk.about(0, 1), 4);
        due.is("no fault", desk.about(0, 6), 0);
        due.is("the clock goes on", desk.clock(2), 14);
        desk.start();
        due.is("running again", desk.about(0, 5), 1);
        due.is("run(4) again", desk.run(4), 4);
    }

    private static void ticksInPartsAreTheSame() {
        PartitionDesk parts = sample();
        PartitionDesk whole = sample();
        int done = 0;
        for (int i = 0; i < 20; i++) {
            done += parts.run(i % 5);
        }
        due.is("in parts and at once", done, whole.run(40));
        due.same("state", Desks.seen(parts), Desks.seen(whole));
    }

    private static PartitionDesk sample() {
        PartitionDesk desk = Desks.pair();
        desk.window(0, 7);
        desk.port(0, 1, 3);
        Desks.write(desk, 0, Desks.SET, 2, 1, Desks.ADD, 1, 2, Desks.SEND, 0, 1, Desks.WAIT, 0, 0, Desks.JUMP, 0, 1);
        Desks.write(desk, 1, Desks.RECEIVE, 0, 2, Desks.OUTPUT, 2, 0, Desks.JUMP, 0, 0);
        desk.start();
        return desk;
    }

    private static void clockEdges() {
        PartitionDesk desk = Desks.alone();
        for (int what = 0; what < 3; what++) {
            due.is("clock before the start", desk.clock(what), -1);
        }
        desk.start();
        for (int what = 0; what < 3; what++) {
            due.is("clock at the start", desk.clock(what), 0);
        }
        int[] wrong = {-1, 3, Integer.MIN_VALUE, Integer.MAX_VALUE};
        for (int what : wrong) {
            due.is("clock(" + what + ")", desk.clock(what), -1);
        }
        desk.run(200);
        desk.run(200);
        due.is("window", desk.clock(0), 0);
        due.is("ticks over", desk.clock(1), 400 % 9);
        due.is("ticks since the start", desk.clock(2), 400);
    }
}
