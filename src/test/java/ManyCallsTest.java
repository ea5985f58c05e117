import java.util.Random;

/** Many runs of up to 512 calls, likely and unlikely ones; the program answers as PlainDesk does. */
public final class ManyCallsTest {
    private static final int RUNS = 4000;
    private static final int CALLS = 512;
    private static final int[] ODD = {
        Integer.MIN_VALUE, Integer.MIN_VALUE + 1, -65, -4, -1, 16, 17, 31, 33, 64, 65, 201, Integer.MAX_VALUE - 1,
        Integer.MAX_VALUE,
    };
    private static final Due due = new Due();

    private final Random random;
    private final PartitionDesk desk = new PartitionDesk();
    private final PlainDesk plain = new PlainDesk();
    private final int oddity;

    private ManyCallsTest(int run) {
        // The same runs each time: the seed is the number of the run.
        random = new Random(run);
        oddity = new int[] {0, 2, 10, 60}[run % 4];
    }

    public static void main(String[] args) {
        for (int run = 0; run < RUNS; run++) {
            ManyCallsTest test = new ManyCallsTest(run);
            int calls = run % 3 == 0 ? 0 : test.likelyTable();
            for (; calls < CALLS; calls++) {
                test.call(run, test.random.nextInt(100));
            }
        }
        due.end();
    }

    /** A number from low to high, or, now and then, any other one. */
    private int number(int low, int high) {
        if (random.nextInt(100) < oddity) {
            return random.nextBoolean() ? ODD[random.nextInt(ODD.length)] : random.nextInt();
        }
        return low + random.nextInt(high - low + 1);
    }

    /** A table that is mostly good, full programs, and a start; answers how many calls it took. */
    private int likelyTable() {
        int calls = 0;
        int partitions = 2 + random.nextInt(3);
        for (int p = 0; p < partitions; p++) {
            int from = p * 16 + random.nextInt(8);
            int size = 1 + random.nextInt(8);
            check("region", desk.region(p, from, size), plain.region(p, from, size));
            int ticks = 1 + random.nextInt(9);
            check("window", desk.window(p, ticks), plain.window(p, ticks));
            calls += 2;
            for (int i = 0; i < 16; i++) {
                code(p, i);
                calls++;
            }
            for (int fault = 1; fault <= 4; fault++) {
                int action = random.nextInt(10) == 0 ? 0 : 1 + random.nextInt(2);
                check("action", desk.action(p, fault, action), plain.action(p, fault, action));
                calls++;
            }
        }
        for (int i = 0; i < 6; i++) {
            int from = random.nextInt(partitions);
            int to = random.nextInt(partitions);
            int depth = random.nextInt(5);
            due.is("port", desk.port(from, to, depth), plain.port(from, to, depth));
            calls++;
        }
        due.is("start", desk.start(), plain.start());
        return calls + 1;
    }

    private void code(int p, int i) {
        int op = random.nextInt(3) == 0 ? 9 + random.nextInt(2) : number(0, 14);
        int a = number(0, 5);
        int b = number(0, 7);
        check("code", desk.code(p, i, op, a, b), plain.code(p, i, op, a, b));
    }

    private static void check(String call, boolean got, boolean want) {
        due.is(call, got ? 1 : 0, want ? 1 : 0);
    }

    private void call(int run, int kind) {
        String name = "run " + run + ", kind " + kind;
        if (kind < 1) {
            int p = number(0, 3);
            int from = number(0, 60);
            int size = number(1, 12);
            check(name, desk.region(p, from, size), plain.region(p, from, size));
        } else if (kind < 2) {
            int p = number(0, 3);
            int ticks = number(1, 9);
            check(name, desk.window(p, ticks), plain.window(p, ticks));
        } else if (kind < 3) {
            int from = number(0, 3);
            int to = number(0, 3);
            int depth = number(0, 4);
            due.is(name, desk.port(from, to, depth), plain.port(from, to, depth));
        } else if (kind < 4) {
            int p = number(0, 3);
            int fault = number(1, 4);
            int action = number(0, 2);
            check(name, desk.action(p, fault, action), plain.action(p, fault, action));
        } else if (kind < 5) {
            code(number(0, 3), number(0, 15));
        } else if (kind < 15) {
            due.is(name, desk.start(), plain.start());
        } else {
            callOfARunningOne(name, kind);
        }
    }

    private void callOfARunningOne(String name, int kind) {
        int p = number(0, 3);
        int number = number(0, 15);
        int ticks = number(0, 40);
        int w = number(0, 8);
        if (kind < 30) {
            due.is(name, desk.input(p, number), plain.input(p, number));
        } else if (kind < 55) {
            due.is(name, desk.run(ticks), plain.run(ticks));
        } else if (kind < 60) {
            due.is(name, desk.output(p, number), plain.output(p, number));
        } else if (kind < 80) {
            due.is(name, desk.about(p, w), plain.about(p, w));
        } else if (kind < 87) {
            due.is(name, desk.word(ticks), plain.word(ticks));
        } else if (kind < 94) {
            due.is(name, desk.waiting(w), plain.waiting(w));
        } else {
            due.is(name, desk.clock(w % 4), plain.clock(w % 4));
        }
    }
}
