/** "TICK" and the calls that look at what went by: each bound from both sides (promises 8 to 14). */
public final class TickBoundsTest {
    private static final int MIN = Integer.MIN_VALUE;
    private static final int MAX = Integer.MAX_VALUE;
    private static final Due due = new Due();

    public static void main(String[] args) {
        for (int ticks = 1; ticks <= 9; ticks++) {
            behindTheLastTickOfAWindow(ticks);
            for (int tick = 1; tick <= ticks; tick++) {
                aWaitIsForTheRestOfTheWindow(ticks, tick);
            }
        }
        for (int windows = 1; windows <= 8; windows++) {
            behindTheLastWindow(windows);
        }
        onlyThePartitionOfTheWindow();
        onlyIfItIsRunning();
        theTickOfTheStopIsOver();
        aWaitInTheOnlyWindow();
        aWaitIsOfOneWindow();
        aWaitBetweenRuns();
        thePlaceIsOneHigher();
        ticksOfARun();
        notStarted();
        instructionsDone();
        clockEdges();
        aboutEdges();
        wordEdges();
        outputEdges();
        outputsOfTheFirstSixteen();
        waitingEdges();
        inputEdges();
        inputsWrapAround();
        due.end();
    }

    private static void behindTheLastTickOfAWindow(int ticks) {
        due.says("then one tick of the window is over, and behind its last one the next window .. begins");
        PartitionDesk desk = new PartitionDesk();
        for (int p = 0; p < 2; p++) {
            desk.region(p, p, 1);
        }
        desk.window(0, ticks);
        desk.window(1, 9);
        desk.start();
        for (int over = 0; over < ticks; over++) {
            due.is("window of " + ticks + ", behind " + over, desk.clock(0), 0);
            due.is("ticks over of " + ticks, desk.clock(1), over);
            desk.run(1);
            due.is("place of 0", desk.about(0, 4), over + 1);
        }
        due.is("the next window behind " + ticks, desk.clock(0), 1);
        due.is("no tick of it is over", desk.clock(1), 0);
        desk.run(1);
        due.is("place of 0 stays", desk.about(0, 4), ticks);
        due.is("place of 1", desk.about(1, 4), 1);
        due.is("ticks over of the next window", desk.clock(1), 1);
    }

    private static void behindTheLastWindow(int windows) {
        due.says("behind the last window the first one");
        PartitionDesk desk = new PartitionDesk();
        desk.region(2, 0, 1);
        for (int i = 0; i < windows; i++) {
            desk.window(2, 2);
        }
        desk.start();
        desk.run(2 * windows - 1);
        due.is("the last one of " + windows, desk.clock(0), windows - 1);
        due.is("one tick of it is over", desk.clock(1), 1);
        desk.run(1);
        due.is("the first one", desk.clock(0), 0);
        due.is("no tick of it is over", desk.clock(1), 0);
        due.is("ticks since the start", desk.clock(2), 2 * windows);
        desk.run(2 * windows);
        due.is("the first one again", desk.clock(0), 0);
        due.is("ticks since the start go on", desk.clock(2), 4 * windows);
    }

    private static void onlyThePartitionOfTheWindow() {
        due.says("In each TICK the partition of the window at hand");
        int[] owners = {3, 1, 1, 0, 2, 0, 3, 1};
        PartitionDesk desk = new PartitionDesk();
        for (int p = 0; p < 4; p++) {
            desk.region(p, p, 1);
        }
        for (int owner : owners) {
            desk.window(owner, 1);
        }
        desk.start();
        int[] places = new int[4];
        for (int tick = 0; tick < 32; tick++) {
            due.is("run(1)", desk.run(1), 1);
            places[owners[tick % 8]]++;
            for (int p = 0; p < 4; p++) {
                due.is("place of " + p + " behind tick " + tick, desk.about(p, 4), places[p]);
            }
        }
    }

    private static void onlyIfItIsRunning() {
        due.says("if it is running");
        PartitionDesk desk = Desks.pair();
        Desks.write(desk, 0, Desks.NOTHING, 0, 0, Desks.END, 0, 0, Desks.SET, 0, 4);
        desk.start();
        due.is("two each", desk.run(4), 4);
        due.is("one of each two", desk.run(10), 5);
        due.is("r0", desk.about(0, 0), 0);
        due.is("place", desk.about(0, 4), 2);
        due.is("place of the other one", desk.about(1, 4), 7);
        due.is("ticks go by", desk.clock(2), 14);
    }

    private static void theTickOfTheStopIsOver() {
        due.says("14 it is stopped");
        PartitionDesk desk = new PartitionDesk();
        desk.region(0, 0, 1);
        desk.window(0, 2);
        desk.window(0, 3);
        Desks.write(desk, 0, Desks.END, 0, 0);
        desk.start();
        due.is("the stop is done", desk.run(1), 1);
        due.is("running", desk.about(0, 5), 0);
        due.is("one tick is over", desk.clock(1), 1);
        due.is("nothing more", desk.run(1), 0);
        due.is("the next window begins", desk.clock(0), 1);
        due.is("nothing more in it", desk.run(3), 0);
        due.is("nor in the first one again", desk.run(2), 0);
    }

    private static void aWaitIsForTheRestOfTheWindow(int ticks, int tick) {
        due.says("has not WAITED in this window");
        PartitionDesk desk = new PartitionDesk();
        desk.region(0, 0, 1);
        desk.window(0, ticks);
        desk.window(0, 2);
        desk.code(0, tick - 1, Desks.WAIT, 0, 0);
        desk.start();
        due.is("a wait in tick " + tick + " of " + ticks, desk.run(ticks), tick);
        due.is("the place is behind the wait", desk.about(0, 4), tick);
        due.is("it is running", desk.about(0, 5), 1);
        due.is("in the next window it goes on", desk.run(2), 2);
    }

    private static void aWaitInTheOnlyWindow() {
        due.says("has not WAITED in this window");
        PartitionDesk desk = new PartitionDesk();
        desk.region(0, 0, 1);
        desk.window(0, 3);
        desk.code(0, 0, Desks.WAIT, 0, 0);
        desk.start();
        due.is("it waits", desk.run(3), 1);
        due.is("the window begins again", desk.run(3), 3);
    }

    private static void aWaitIsOfOneWindow() {
        due.says("has not WAITED in this window");
        PartitionDesk desk = Desks.pair();
        desk.window(0, 2);
        desk.window(1, 2);
        Desks.write(desk, 0, Desks.WAIT, 0, 0);
        desk.start();
        due.is("a wait in a window of one tick", desk.run(1), 1);
        due.is("the other one does not wait", desk.run(1), 1);
        due.is("nor does it wait in its next window", desk.run(2), 2);
        due.is("nor the other one", desk.run(2), 2);
    }

    private static void aWaitBetweenRuns() {
        due.says("has not WAITED in this window");
        PartitionDesk desk = Desks.alone();
        desk.code(0, 0, Desks.WAIT, 0, 0);
        desk.start();
        due.is("the wait", desk.run(1), 1);
        for (int tick = 2; tick <= 9; tick++) {
            due.is("run(0)", desk.run(0), 0);
            due.is("tick " + tick, desk.run(1), 0);
        }
        due.is("the next window", desk.run(1), 1);
    }

    private static void thePlaceIsOneHigher() {
        due.says("the instruction at its place, which is one higher then, unless it says otherwise");
        for (int op = 0; op <= 14; op++) {
            for (int place = 0; place <= 15; place += 15) {
                PartitionDesk desk = Desks.pair();
                desk.port(0, 1, 1);
                desk.port(1, 0, 1);
                Desks.write(desk, 0, Desks.JUMP, 0, place);
                desk.code(0, place, op, op == Desks.RECEIVE ? 1 : 0, 6);
                desk.start();
                desk.run(place == 0 ? 1 : 3);
                due.is("place behind op " + op, desk.about(0, 4), op == Desks.JUMP ? 6 : place + 1);
                due.is("faults of op " + op, desk.about(0, 6), 0);
            }
        }
    }

    private static void ticksOfARun() {
        due.says("n is not 0 .. 200");
        PartitionDesk desk = Desks.alone();
        desk.code(0, 0, Desks.JUMP, 0, 0);
        desk.start();
        int[] numbers = {MIN, -200, -2, -1, 0, 1, 199, 200, 201, 202, 400, MAX};
        int ticks = 0;
        for (int n : numbers) {
            boolean fine = 0 <= n && n <= 200;
            due.is("run(" + n + ")", desk.run(n), fine ? n : -1);
            ticks += fine ? n : 0;
            due.is("clock(2) behind run(" + n + ")", desk.clock(2), ticks);
        }
    }

    private static void notStarted() {
        due.says("-1, refused, if it is not started");
        PartitionDesk desk = Desks.alone();
        for (int n = -1; n <= 201; n += 101) {
            due.is("run(" + n + ") before", desk.run(n), -1);
        }
        due.is("run(0) before", desk.run(0), -1);
        desk.start();
        due.is("run(0)", desk.run(0), 0);
        due.is("run(1)", desk.run(1), 1);
        desk.code(0, 0, 0, 0, 0);
        due.is("run(0) behind a change", desk.run(0), -1);
        due.is("run(1) behind a change", desk.run(1), -1);
    }

    private static void instructionsDone() {
        due.says("how many instructions were done in them (those that faulted, too)");
        PartitionDesk desk = Desks.alone();
        Desks.write(desk, 0, 99, 0, 0, Desks.NOTHING, 0, 0, Desks.SEND, 0, 0, Desks.WAIT, 0, 0, Desks.JUMP, 0, 16);
        desk.action(0, 3, Desks.SKIP);
        desk.action(0, 2, Desks.SKIP);
        desk.start();
        due.is("two that faulted, two that did not", desk.run(9), 4);
        due.is("a jump, and the place that faults", desk.run(9), 2);
        due.is("faults", desk.about(0, 6), 3);
        due.is("it is stopped", desk.run(9), 0);
    }

    private static void clockEdges() {
        due.says("-1 for others, or if it is not started");
        PartitionDesk desk = new PartitionDesk();
        desk.region(0, 0, 1);
        desk.window(0, 2);
        desk.window(0, 4);
        int[] whats = {MIN, -2, -1, 0, 1, 2, 3, 4, MAX};
        for (int what : whats) {
            due.is("clock(" + what + ") before the start", desk.clock(what), -1);
        }
        desk.start();
        desk.run(6 + 5);
        int[] want = {-1, -1, -1, 1, 3, 11, -1, -1, -1};
        for (int i = 0; i < whats.length; i++) {
            due.is("clock(" + whats[i] + ")", desk.clock(whats[i]), want[i]);
        }
        desk.action(0, 1, 1);
        for (int what : whats) {
            due.is("clock(" + what + ") behind a change", desk.clock(what), -1);
        }
    }

    private static void aboutEdges() {
        due.says("Of a partition: register w (0 .. 3), its place (4), .. -1 for others");
        PartitionDesk desk = new PartitionDesk();
        desk.region(3, 0, 1);
        desk.window(3, 9);
        Desks.write(desk, 3, Desks.SET, 0, 20, Desks.SET, 1, 21, Desks.SET, 2, 22, Desks.SET, 3, 23,
                Desks.OUTPUT, 0, 0, Desks.OUTPUT, 0, 0, 15, 0, 0, 15, 0, 0, 15, 0, 0);
        desk.action(3, 3, Desks.SKIP);
        for (int i = 0; i < 4; i++) {
            desk.input(3, i);
        }
        desk.start();
        desk.run(9);
        int[] want = {20, 21, 22, 23, 9, 1, 3, 2, 4};
        for (int w = -3; w <= 12; w++) {
            due.is("about(3, " + w + ")", desk.about(3, w), w >= 0 && w <= 8 ? want[w] : -1);
            due.is("about(4, " + w + ")", desk.about(4, w), -1);
            due.is("about(-1, " + w + ")", desk.about(-1, w), -1);
        }
        due.is("about(3, MIN)", desk.about(3, MIN), -1);
        due.is("about(3, MAX)", desk.about(3, MAX), -1);
    }

    private static void wordEdges() {
        due.says("A word of the memory; 0 if there is none.");
        PartitionDesk desk = new PartitionDesk();
        desk.region(0, 0, 1);
        desk.region(1, 63, 1);
        desk.window(0, 2);
        desk.window(1, 2);
        Desks.write(desk, 0, Desks.SET, 0, 5, Desks.STORE, 0, 1);
        Desks.write(desk, 1, Desks.SET, 0, -6, Desks.STORE, 0, 1);
        desk.start();
        desk.run(4);
        int[] numbers = {MIN, -64, -1, 0, 1, 62, 63, 64, 127, MAX};
        for (int i : numbers) {
            due.is("word(" + i + ")", desk.word(i), i == 0 ? 5 : i == 63 ? -6 : 0);
        }
    }

    private static void outputEdges() {
        due.says("Output i of a partition (from 0, since it was made) .. 0 if there is none");
        PartitionDesk desk = Desks.alone();
        Desks.write(desk, 0, Desks.SET, 0, 7, Desks.OUTPUT, 0, 0, Desks.JUMP, 0, 1);
        desk.start();
        due.is("output(0, 0) of none", desk.output(0, 0), 0);
        desk.run(1);
        for (int count = 1; count <= 18; count++) {
            desk.run(2);
            due.is("how many", desk.about(0, 7), count);
            for (int i = -1; i <= 18; i++) {
                boolean there = i >= 0 && i < count && i < 16;
                due.is("output(0, " + i + ") of " + count, desk.output(0, i), there ? 7 : 0);
            }
        }
        due.is("output(0, MIN)", desk.output(0, MIN), 0);
        due.is("output(0, MAX)", desk.output(0, MAX), 0);
    }

    private static void outputsOfTheFirstSixteen() {
        due.says("of the first 16");
        PartitionDesk desk = Desks.alone();
        Desks.write(desk, 0, Desks.SET, 1, 1, Desks.ADD, 0, 1, Desks.OUTPUT, 0, 0, Desks.JUMP, 0, 1);
        desk.start();
        desk.run(1 + 3 * 16);
        due.is("output(0, 15)", desk.output(0, 15), 16);
        desk.run(3 * 20);
        for (int i = 0; i < 20; i++) {
            due.is("output(0, " + i + ")", desk.output(0, i), i < 16 ? i + 1 : 0);
        }
        due.is("how many values it put out", desk.about(0, 7), 36);
    }

    private static void waitingEdges() {
        due.says("How many values wait in a port .. -1 if there is none");
        PartitionDesk desk = new PartitionDesk();
        for (int made = 0; made <= 6; made++) {
            for (int port = -1; port <= 7; port++) {
                due.is("waiting(" + port + ") of " + made, desk.waiting(port), port >= 0 && port < made ? 0 : -1);
            }
            desk.port(0, 1, made % 5);
        }
        due.is("waiting(MIN)", desk.waiting(MIN), -1);
        due.is("waiting(MAX)", desk.waiting(MAX), -1);
    }

    private static void inputEdges() {
        due.says("how many wait; -1, refused, if .. 8 wait");
        PartitionDesk desk = new PartitionDesk();
        for (int p = 0; p < 4; p++) {
            for (int i = 1; i <= 10; i++) {
                due.is("input " + i + " of " + p, desk.input(p, i), i <= 8 ? i : -1);
                due.is("about(" + p + ", 8)", desk.about(p, 8), Math.min(i, 8));
            }
        }
    }

    private static void inputsWrapAround() {
        due.says("An input behind the others of a partition");
        PartitionDesk desk = Desks.alone();
        Desks.write(desk, 0, Desks.INPUT, 0, 0, Desks.JUMP, 0, 0);
        desk.start();
        for (int i = 1; i <= 8; i++) {
            desk.input(0, i);
        }
        for (int i = 9; i <= 40; i++) {
            due.is("a ninth one", desk.input(0, -i), -1);
            desk.run(2);
            due.is("the first one", desk.about(0, 0), i - 8);
            due.is("one has room", desk.input(0, i), 8);
        }
        for (int i = 33; i <= 40; i++) {
            desk.run(2);
            due.is("the rest", desk.about(0, 0), i);
            due.is("about(0, 8)", desk.about(0, 8), 40 - i);
        }
        desk.run(2);
        due.is("none is left", desk.about(0, 0), 0);
    }
}
