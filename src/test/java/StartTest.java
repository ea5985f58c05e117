/** Promise 7: the checker of the table, and what starting does. */
public final class StartTest {
    private static final Due due = new Due();

    public static void main(String[] args) {
        nobodyTakesPart();
        regionsInCommon();
        windowsAndPartitions();
        portsToNobody();
        theFirstOneIsTold();
        aBadTableChangesNothing();
        startingClears();
        startingKeeps();
        onlyThoseWithARegionRun();
        due.end();
    }

    private static void nobodyTakesPart() {
        PartitionDesk desk = new PartitionDesk();
        due.is("empty", desk.start(), 1);
        desk.window(0, 1);
        desk.port(0, 1, 1);
        due.is("windows and ports alone", desk.start(), 1);
        desk.region(3, 63, 1);
        due.is("one takes part", desk.start(), 3);
    }

    private static void regionsInCommon() {
        int[][] cases = {
            // from, size of 0; from, size of 2; verdict
            {0, 8, 8, 8, 0}, {0, 8, 7, 8, 2}, {8, 8, 0, 8, 0}, {8, 8, 0, 9, 2},
            {10, 1, 10, 1, 2}, {10, 1, 11, 1, 0}, {0, 32, 10, 2, 2}, {10, 2, 0, 32, 2},
            {32, 32, 0, 32, 0}, {32, 32, 63, 1, 2}, {5, 5, 5, 5, 2}, {5, 5, 5, 1, 2}, {5, 5, 9, 1, 2},
        };
        for (int[] c : cases) {
            PartitionDesk desk = new PartitionDesk();
            desk.region(0, c[0], c[1]);
            desk.region(2, c[2], c[3]);
            desk.window(0, 1);
            desk.window(2, 1);
            due.is("regions " + c[0] + "+" + c[1] + ", " + c[2] + "+" + c[3], desk.start(), c[4]);
        }
        for (int i = 0; i < 4; i++) {
            for (int j = i + 1; j < 4; j++) {
                PartitionDesk desk = four();
                desk.region(i, 50, 4);
                desk.region(j, 52, 4);
                due.is("regions of " + i + " and " + j, desk.start(), 2);
            }
        }
    }

    private static PartitionDesk four() {
        PartitionDesk desk = new PartitionDesk();
        for (int p = 0; p < 4; p++) {
            desk.region(p, p * 8, 8);
            desk.window(p, 1);
        }
        return desk;
    }

    private static void windowsAndPartitions() {
        due.is("four with windows", four().start(), 0);
        for (int p = 0; p < 4; p++) {
            PartitionDesk without = new PartitionDesk();
            PartitionDesk beside = new PartitionDesk();
            for (int q = 0; q < 4; q++) {
                without.region(q, q, 1);
                beside.window(q, 1);
                if (q != p) {
                    without.window(q, 1);
                    beside.region(q, q, 1);
                }
            }
            due.is("no window of " + p, without.start(), 3);
            due.is("a window of " + p + " without region", beside.start(), 3);
            without.window(p, 1);
            due.is("mended by a window", without.start(), 0);
            beside.region(p, p, 1);
            due.is("mended by a region", beside.start(), 0);
        }
    }

    private static void portsToNobody() {
        PartitionDesk to = Desks.pair();
        to.port(0, 1, 0);
        due.is("both take part", to.start(), 0);
        to.port(0, 3, 0);
        due.is("to one that does not", to.start(), 4);
        to.region(3, 40, 1);
        to.window(3, 1);
        due.is("mended", to.start(), 0);
        PartitionDesk from = Desks.pair();
        from.port(2, 1, 1);
        due.is("from one that does not", from.start(), 4);
        PartitionDesk neither = Desks.pair();
        neither.port(2, 3, 1);
        due.is("neither takes part", neither.start(), 4);
        PartitionDesk last = Desks.pair();
        for (int i = 0; i < 5; i++) {
            last.port(0, 1, 1);
        }
        last.port(2, 0, 1);
        due.is("the last port counts", last.start(), 4);
    }

    private static void theFirstOneIsTold() {
        PartitionDesk desk = new PartitionDesk();
        desk.port(0, 1, 1);
        desk.window(0, 1);
        due.is("1 before 3 and 4", desk.start(), 1);
        desk.region(2, 0, 4);
        desk.region(3, 3, 4);
        due.is("2 before 3 and 4", desk.start(), 2);
        desk.region(3, 4, 4);
        due.is("3 before 4", desk.start(), 3);
        desk.region(0, 20, 4);
        desk.window(2, 1);
        desk.window(3, 1);
        due.is("4", desk.start(), 4);
        desk.region(1, 30, 4);
        desk.window(1, 1);
        due.is("good", desk.start(), 0);
    }

    private static PartitionDesk busy() {
        PartitionDesk desk = Desks.pair();
        desk.port(0, 1, 4);
        desk.port(0, 1, 0);
        Desks.write(desk, 0, Desks.INPUT, 1, 0, Desks.STORE, 1, 1, Desks.SEND, 0, 1, Desks.SEND, 1, 1,
                Desks.OUTPUT, 1, 0, Desks.LOAD, 2, 1, 44, 0, 0);
        Desks.write(desk, 1, Desks.SET, 0, 2, Desks.STORE, 0, 0, Desks.WAIT, 0, 0);
        desk.input(0, 5);
        desk.input(0, 6);
        desk.start();
        desk.run(15);
        return desk;
    }

    private static void aBadTableChangesNothing() {
        PartitionDesk desk = busy();
        desk.port(2, 3, 0);
        String before = Desks.seen(desk);
        due.is("start()", desk.start(), 4);
        due.same("after a bad start", Desks.seen(desk), before);
        due.is("run(1)", desk.run(1), -1);
    }

    private static void startingClears() {
        PartitionDesk desk = busy();
        due.is("word before", desk.word(5), 5);
        due.is("word of 1 before", desk.word(10), 2);
        due.is("r2 before", desk.about(0, 2), 5);
        due.is("stopped before", desk.about(0, 5), 0);
        due.is("faults before", desk.about(0, 6), 1);
        due.is("queue before", desk.waiting(0), 1);
        due.is("sample before", desk.waiting(1), 1);
        due.is("start() once more", desk.start(), 0);
        for (int i = 0; i < 64; i++) {
            due.is("word " + i, desk.word(i), 0);
        }
        for (int p = 0; p < 2; p++) {
            for (int w = 0; w <= 4; w++) {
                due.is("about(" + p + ", " + w + ")", desk.about(p, w), 0);
            }
            due.is("running " + p, desk.about(p, 5), 1);
            due.is("faults " + p, desk.about(p, 6), 0);
            due.is("waiting " + p, desk.waiting(p), 0);
        }
        for (int i = 0; i < 3; i++) {
            due.is("clock " + i, desk.clock(i), 0);
        }
        wordsOutsideAllRegions();
        aWaitIsForgotten();
        theFirstWordAndAWindowHalfOver();
    }

    private static void theFirstWordAndAWindowHalfOver() {
        PartitionDesk desk = new PartitionDesk();
        desk.region(0, 0, 2);
        desk.window(0, 3);
        desk.window(0, 5);
        Desks.write(desk, 0, Desks.SET, 0, 4, Desks.STORE, 0, 1);
        desk.start();
        desk.run(5);
        due.is("word 0 before", desk.word(0), 4);
        due.is("window before", desk.clock(0), 1);
        due.is("ticks over before", desk.clock(1), 2);
        desk.start();
        due.is("word 0", desk.word(0), 0);
        for (int i = 0; i < 3; i++) {
            due.is("clock " + i, desk.clock(i), 0);
        }
        desk.run(2);
        due.is("the first window is whole again", desk.clock(0), 0);
    }

    private static void wordsOutsideAllRegions() {
        PartitionDesk desk = busy();
        desk.region(0, 40, 8);
        due.is("word of the region that was", desk.word(5), 5);
        due.is("start()", desk.start(), 0);
        due.is("all memory is 0", desk.word(5), 0);
    }

    private static void aWaitIsForgotten() {
        PartitionDesk desk = Desks.alone();
        Desks.write(desk, 0, Desks.WAIT, 0, 0);
        desk.start();
        due.is("it waits", desk.run(3), 1);
        desk.start();
        due.is("it does something again", desk.run(1), 1);
    }

    private static void startingKeeps() {
        PartitionDesk desk = busy();
        desk.start();
        due.is("inputs", desk.about(0, 8), 1);
        due.is("how many outputs", desk.about(0, 7), 1);
        due.is("output 0", desk.output(0, 0), 5);
        due.is("run(10)", desk.run(10), 10);
        due.is("output 1 goes behind it", desk.output(0, 1), 6);
        due.is("how many outputs then", desk.about(0, 7), 2);
    }

    private static void onlyThoseWithARegionRun() {
        PartitionDesk desk = new PartitionDesk();
        desk.region(2, 0, 1);
        due.is("not running before the start", desk.about(2, 5), 0);
        desk.window(2, 1);
        due.is("start()", desk.start(), 0);
        for (int p = 0; p < 4; p++) {
            due.is("running " + p, desk.about(p, 5), p == 2 ? 1 : 0);
        }
    }
}
