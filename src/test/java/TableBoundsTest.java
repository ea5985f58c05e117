/** "THE TABLE" and when it is GOOD: each bound that the document names, from both sides (promises 1 to 7). */
public final class TableBoundsTest {
    private static final int MIN = Integer.MIN_VALUE;
    private static final int MAX = Integer.MAX_VALUE;
    private static final int[] AROUND_PARTITIONS = {MIN, -2, -1, 0, 1, 2, 3, 4, 5, MAX};
    private static final Due due = new Due();

    public static void main(String[] args) {
        partitionsOfTheTable();
        partitionsThatAreAskedAbout();
        thoseWithARegionTakePart();
        sizesOfRegions();
        wordsOfRegions();
        ticksOfWindows();
        eightWindows();
        sixPorts();
        fromOnePartitionToAnother();
        depths();
        faults();
        actions();
        stopAtFirst();
        sixteenInstructions();
        anInstructionStandsAtItsPlace();
        nothingAtFirst();
        atLeastOneTakesPart();
        noWordInCommon();
        eachPairOfRegions();
        eachOneThatTakesPartHasAWindow();
        eachWindowIsOfOneThatDoes();
        bothPartitionsOfEachPort();
        theFirstIsToldOfTwoToFour();
        theFirstIsToldOfOne();
        onlyAGoodTableStarts();
        due.end();
    }

    private static boolean within(int number, int low, int high) {
        return low <= number && number <= high;
    }

    private static void partitionsOfTheTable() {
        due.says("PARTITIONS 0 .. 3");
        for (int p : AROUND_PARTITIONS) {
            boolean there = within(p, 0, 3);
            PartitionDesk desk = new PartitionDesk();
            due.is("region(" + p + ", 0, 1)", desk.region(p, 0, 1), there);
            due.is("window(" + p + ", 1)", desk.window(p, 1), there);
            due.is("action(" + p + ", 1, 1)", desk.action(p, 1, 1), there);
            due.is("code(" + p + ", 0, 1, 0, 0)", desk.code(p, 0, 1, 0, 0), there);
            due.is("input(" + p + ", 5)", desk.input(p, 5), there ? 1 : -1);
            int other = p == 2 ? 1 : 2;
            due.is("port(" + p + ", " + other + ", 1)", desk.port(p, other, 1), there ? 0 : -1);
            due.is("port(" + other + ", " + p + ", 1)", desk.port(other, p, 1), there ? 1 : -1);
        }
    }

    /** All four take part; each puts out 10 more than its number. */
    private static PartitionDesk four() {
        PartitionDesk desk = new PartitionDesk();
        for (int p = 0; p < 4; p++) {
            desk.region(p, p * 8, 8);
            desk.window(p, 2);
            Desks.write(desk, p, Desks.SET, 0, 10 + p, Desks.OUTPUT, 0, 0);
        }
        return desk;
    }

    private static void partitionsThatAreAskedAbout() {
        due.says("PARTITIONS 0 .. 3");
        PartitionDesk desk = four();
        desk.start();
        desk.run(8);
        for (int p : AROUND_PARTITIONS) {
            boolean there = within(p, 0, 3);
            due.is("output(" + p + ", 0)", desk.output(p, 0), there ? 10 + p : 0);
            due.is("about(" + p + ", 0)", desk.about(p, 0), there ? 10 + p : -1);
            due.is("about(" + p + ", 7)", desk.about(p, 7), there ? 1 : -1);
        }
    }

    private static void thoseWithARegionTakePart() {
        due.says("those with a REGION take part");
        for (int set = 1; set < 16; set++) {
            PartitionDesk desk = new PartitionDesk();
            for (int p = 0; p < 4; p++) {
                if ((set >> p & 1) == 1) {
                    desk.region(p, p, 1);
                    desk.window(p, 1);
                }
            }
            due.is("start() of " + set, desk.start(), 0);
            for (int p = 0; p < 4; p++) {
                due.is("about(" + p + ", 5) of " + set, desk.about(p, 5), set >> p & 1);
            }
        }
    }

    private static void sizesOfRegions() {
        due.says("size is not 1 .. 32");
        PartitionDesk desk = new PartitionDesk();
        for (int size = -2; size <= 66; size++) {
            due.is("region(0, 0, " + size + ")", desk.region(0, 0, size), within(size, 1, 32));
        }
        due.no("region(0, 0, MIN)", desk.region(0, 0, MIN));
        due.no("region(0, 0, MAX)", desk.region(0, 0, MAX));
        // Sums that would wrap around.
        due.no("region(0, 1, MAX)", desk.region(0, 1, MAX));
        due.no("region(0, 64, MAX)", desk.region(0, 64, MAX));
        due.no("region(0, -1, MIN)", desk.region(0, -1, MIN));
    }

    private static void wordsOfRegions() {
        due.says("the words are not there");
        for (int size = 1; size <= 32; size++) {
            PartitionDesk desk = new PartitionDesk();
            for (int from = -2; from <= 66; from++) {
                due.is("region(1, " + from + ", " + size + ")", desk.region(1, from, size), within(from, 0, 64 - size));
            }
            due.no("region(1, MIN, " + size + ")", desk.region(1, MIN, size));
            due.no("region(1, MAX, " + size + ")", desk.region(1, MAX, size));
            due.no("just before the wrap", desk.region(1, MAX - size, size));
            due.no("just behind the wrap", desk.region(1, MAX - size + 1, size));
        }
    }

    private static void ticksOfWindows() {
        due.says("ticks are not 1 .. 9");
        for (int ticks = -2; ticks <= 12; ticks++) {
            due.is("window(0, " + ticks + ")", new PartitionDesk().window(0, ticks), within(ticks, 1, 9));
        }
        due.no("window(0, MIN)", new PartitionDesk().window(0, MIN));
        due.no("window(0, MAX)", new PartitionDesk().window(0, MAX));
    }

    private static void eightWindows() {
        due.says("false, refused, if .. there are 8");
        PartitionDesk desk = new PartitionDesk();
        for (int i = 1; i <= 12; i++) {
            due.no("a wrong window takes no room", desk.window(0, 10));
            due.is("window " + i, desk.window(i % 4, 1 + i % 9), i <= 8);
        }
    }

    private static void sixPorts() {
        due.says("PORTS are numbered 0, 1, .. as they are made, at most 6");
        PartitionDesk desk = new PartitionDesk();
        for (int i = 0; i < 10; i++) {
            due.is("a wrong port takes no number", desk.port(1, 1, 0), -1);
            due.is("a wrong port takes no number", desk.port(1, 2, 5), -1);
            due.is("port " + i, desk.port(i % 4, (i + 2) % 4, i % 5), i < 6 ? i : -1);
        }
    }

    private static void fromOnePartitionToAnother() {
        due.says("both are the same");
        for (int from = 0; from < 4; from++) {
            for (int to = 0; to < 4; to++) {
                PartitionDesk desk = new PartitionDesk();
                for (int depth = 0; depth <= 4; depth++) {
                    int number = desk.port(from, to, depth);
                    due.is("port(" + from + ", " + to + ", " + depth + ")", number, from == to ? -1 : depth);
                }
            }
        }
    }

    private static void depths() {
        due.says("depth is not 0 .. 4");
        for (int depth = -2; depth <= 7; depth++) {
            int want = within(depth, 0, 4) ? 0 : -1;
            due.is("port(0, 1, " + depth + ")", new PartitionDesk().port(0, 1, depth), want);
        }
        due.is("port(0, 1, MIN)", new PartitionDesk().port(0, 1, MIN), -1);
        due.is("port(0, 1, MAX)", new PartitionDesk().port(0, 1, MAX), -1);
    }

    private static void faults() {
        due.says("For each partition and FAULT (1 .. 4)");
        PartitionDesk desk = new PartitionDesk();
        for (int fault = -2; fault <= 7; fault++) {
            for (int p = 0; p < 4; p++) {
                due.is("action(" + p + ", " + fault + ", 2)", desk.action(p, fault, 2), within(fault, 1, 4));
            }
        }
        due.no("action(0, MIN, 2)", desk.action(0, MIN, 2));
        due.no("action(0, MAX, 2)", desk.action(0, MAX, 2));
    }

    private static void actions() {
        due.says("0 STOP (at first), 1 RESTART, 2 SKIP");
        PartitionDesk desk = new PartitionDesk();
        for (int action = -2; action <= 5; action++) {
            for (int fault = 1; fault <= 4; fault++) {
                due.is("action(3, " + fault + ", " + action + ")", desk.action(3, fault, action), within(action, 0, 2));
            }
        }
        due.no("action(3, 1, MIN)", desk.action(3, 1, MIN));
        due.no("action(3, 1, MAX)", desk.action(3, 1, MAX));
    }

    /** One partition alone, whose first instruction (for fault 4, the place behind it) faults. */
    private static PartitionDesk faultingFirst(int p, int fault) {
        PartitionDesk desk = new PartitionDesk();
        desk.region(p, 0, 1);
        desk.window(p, 9);
        switch (fault) {
            case 1 -> Desks.write(desk, p, Desks.SET, 1, 1, Desks.LOAD, 0, 1);
            case 2 -> Desks.write(desk, p, Desks.NOTHING, 0, 0, Desks.SEND, 0, 0);
            case 3 -> Desks.write(desk, p, Desks.NOTHING, 0, 0, 15, 0, 0);
            default -> Desks.write(desk, p, Desks.JUMP, 0, 16);
        }
        return desk;
    }

    private static void stopAtFirst() {
        due.says("0 STOP (at first)");
        for (int p = 0; p < 4; p++) {
            for (int fault = 1; fault <= 4; fault++) {
                PartitionDesk first = faultingFirst(p, fault);
                first.start();
                due.is("ticks up to the fault", first.run(2), 2);
                due.is("running behind fault " + fault + " of " + p, first.about(p, 5), 0);
                PartitionDesk told = faultingFirst(p, fault);
                told.action(p, fault, Desks.SKIP);
                told.start();
                told.run(2);
                due.is("running behind a skipped fault " + fault + " of " + p, told.about(p, 5), 1);
            }
        }
    }

    private static void sixteenInstructions() {
        due.says("i is not 0 .. 15");
        PartitionDesk desk = new PartitionDesk();
        for (int i = -2; i <= 18; i++) {
            for (int p = 0; p < 4; p++) {
                due.is("code(" + p + ", " + i + ", 1, 2, 3)", desk.code(p, i, 1, 2, 3), within(i, 0, 15));
            }
        }
        due.no("code(0, MIN, 1, 2, 3)", desk.code(0, MIN, 1, 2, 3));
        due.no("code(0, MAX, 1, 2, 3)", desk.code(0, MAX, 1, 2, 3));
    }

    private static void anInstructionStandsAtItsPlace() {
        due.says("A program has 16 INSTRUCTIONS");
        for (int p = 0; p < 4; p++) {
            PartitionDesk desk = new PartitionDesk();
            desk.region(p, 0, 1);
            desk.window(p, 4);
            for (int i = 0; i < 16; i++) {
                desk.code(p, i, Desks.SET, i, 100 + i);
            }
            desk.start();
            for (int i = 0; i < 16; i++) {
                desk.run(1);
                due.is("instruction " + i + " of " + p, desk.about(p, i % 4), 100 + i);
            }
        }
    }

    private static void nothingAtFirst() {
        due.says("at first op 0");
        PartitionDesk desk = new PartitionDesk();
        for (int p = 0; p < 4; p++) {
            desk.region(p, p * 16, 16);
            desk.window(p, 8);
            desk.window(p, 8);
            desk.input(p, 3);
        }
        desk.start();
        due.is("all 16 of all four", desk.run(64), 64);
        for (int p = 0; p < 4; p++) {
            int[] want = {0, 0, 0, 0, 16, 1, 0, 0, 1};
            for (int w = 0; w <= 8; w++) {
                due.is("about(" + p + ", " + w + ")", desk.about(p, w), want[w]);
            }
        }
        for (int i = 0; i < 64; i++) {
            due.is("word " + i, desk.word(i), 0);
        }
        due.is("the place behind them faults", desk.run(1), 1);
        due.is("about(0, 6)", desk.about(0, 6), 1);
    }

    private static void atLeastOneTakesPart() {
        due.says("(1) at least one partition takes part");
        due.is("nobody", new PartitionDesk().start(), 1);
        for (int p = 0; p < 4; p++) {
            PartitionDesk desk = new PartitionDesk();
            desk.window(p, 1);
            due.is("a window of " + p + " alone", desk.start(), 1);
            due.no("a region of no words", desk.region(p, 0, 0));
            due.is("a refused region of " + p, desk.start(), 1);
            due.yes("a region of one word", desk.region(p, 0, 1));
            due.is(p + " alone", desk.start(), 0);
        }
    }

    private static void noWordInCommon() {
        due.says("(2) no two regions have a word in common");
        for (int size = 1; size <= 32; size++) {
            PartitionDesk desk = Desks.pair();
            desk.region(0, 20, 5);
            for (int from = 0; from <= 64 - size; from++) {
                desk.region(1, from, size);
                boolean apart = from + size <= 20 || from >= 25;
                due.is("20 + 5 and " + from + " + " + size, desk.start(), apart ? 0 : 2);
            }
        }
        PartitionDesk edges = Desks.pair();
        edges.region(0, 0, 32);
        edges.region(1, 32, 32);
        due.is("all of the memory", edges.start(), 0);
        edges.region(0, 1, 32);
        due.is("one word in common", edges.start(), 2);
    }

    private static void eachPairOfRegions() {
        due.says("(2) no two regions have a word in common");
        for (int p = 0; p < 4; p++) {
            for (int q = 0; q < 4; q++) {
                if (p != q) {
                    PartitionDesk desk = four();
                    desk.region(p, 40, 4);
                    desk.region(q, 43, 4);
                    due.is("one word of " + p + " and " + q, desk.start(), 2);
                    desk.region(q, 44, 4);
                    due.is("no word of " + p + " and " + q, desk.start(), 0);
                }
            }
        }
        PartitionDesk desk = four();
        desk.region(1, 8, 9);
        due.is("words of 1 and 2", desk.start(), 2);
        desk.region(1, 8, 8);
        due.is("a region that was given again counts as it is now", desk.start(), 0);
    }

    private static void eachOneThatTakesPartHasAWindow() {
        due.says("(3) each one that takes part has a window");
        for (int p = 0; p < 4; p++) {
            PartitionDesk desk = new PartitionDesk();
            for (int q = 0; q < 4; q++) {
                desk.region(q, q, 1);
                if (q != p) {
                    desk.window(q, 1);
                }
            }
            due.is(p + " without a window", desk.start(), 3);
            desk.window(p, 1);
            due.is(p + " with a window", desk.start(), 0);
        }
    }

    private static void eachWindowIsOfOneThatDoes() {
        due.says("(3) .. and each window is of one that does");
        for (int p = 0; p < 4; p++) {
            for (int place = 0; place < 8; place++) {
                PartitionDesk desk = new PartitionDesk();
                for (int i = 0; i < 8; i++) {
                    desk.window(i == place ? p : (p + 1) % 4, 1);
                }
                desk.region((p + 1) % 4, 0, 1);
                due.is("window " + place + " is of " + p, desk.start(), 3);
                desk.region(p, 1, 1);
                due.is(p + " takes part", desk.start(), 0);
            }
        }
    }

    private static void bothPartitionsOfEachPort() {
        due.says("(4) both partitions of each port take part");
        for (int number = 0; number < 6; number++) {
            for (int way = 0; way < 3; way++) {
                PartitionDesk desk = Desks.pair();
                for (int i = 0; i < 6; i++) {
                    boolean odd = i == number;
                    desk.port(odd && way != 0 ? 2 : 0, odd && way != 1 ? 3 : 1, i % 5);
                }
                due.is("port " + number + ", way " + way, desk.start(), 4);
                for (int p = 2; p < 4; p++) {
                    desk.region(p, 60 + p, 1);
                    desk.window(p, 1);
                }
                due.is("port " + number + ", way " + way + ", all take part", desk.start(), 0);
            }
        }
    }

    private static void theFirstIsToldOfTwoToFour() {
        due.says("The first of these that is not so is told.");
        for (int set = 0; set < 8; set++) {
            for (int way = 0; way < 2; way++) {
                boolean overlap = (set & 1) != 0;
                boolean noFit = (set & 2) != 0;
                boolean lost = (set & 4) != 0;
                PartitionDesk desk = new PartitionDesk();
                desk.region(0, 0, 8);
                desk.region(1, overlap ? 7 : 8, 8);
                desk.window(0, 1);
                if (!noFit || way == 0) {
                    desk.window(1, 1);
                }
                if (noFit && way == 0) {
                    desk.window(2, 1);
                }
                desk.port(0, lost ? 3 : 1, 1);
                int want = overlap ? 2 : noFit ? 3 : lost ? 4 : 0;
                due.is("start() of " + set + ", way " + way, desk.start(), want);
            }
        }
    }

    private static void theFirstIsToldOfOne() {
        due.says("The first of these that is not so is told.");
        for (int set = 0; set < 4; set++) {
            PartitionDesk desk = new PartitionDesk();
            if ((set & 1) != 0) {
                desk.window(0, 1);
            }
            if ((set & 2) != 0) {
                desk.port(0, 1, 1);
            }
            due.is("nobody, and " + set, desk.start(), 1);
        }
    }

    private static void onlyAGoodTableStarts() {
        due.says("0 the table is good, and it starts");
        PartitionDesk desk = new PartitionDesk();
        int[] want = {1, 3, 2, 4, 0};
        for (int step = 0; step < 5; step++) {
            switch (step) {
                case 1 -> desk.region(0, 0, 8);
                case 2 -> {
                    desk.window(0, 1);
                    desk.window(1, 1);
                    desk.region(1, 7, 1);
                }
                case 3 -> {
                    desk.region(1, 8, 1);
                    desk.port(1, 2, 0);
                }
                case 4 -> {
                    desk.region(2, 20, 1);
                    desk.window(2, 1);
                }
                default -> { }
            }
            due.is("start() " + step, desk.start(), want[step]);
            due.is("run(1) behind it", desk.run(1), want[step] == 0 ? 1 : -1);
            due.is("clock(2) behind it", desk.clock(2), want[step] == 0 ? 1 : -1);
        }
    }
}
