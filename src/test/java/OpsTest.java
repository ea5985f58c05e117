/** The ops of a program, but for SEND and RECEIVE, and promise 12, the memory. */
public final class OpsTest {
    private static final int MIN = Integer.MIN_VALUE;
    private static final int MAX = Integer.MAX_VALUE;
    private static final Due due = new Due();

    public static void main(String[] args) {
        set();
        registersModuloFour();
        arithmetic();
        theSameRegisterTwice();
        loadAndStore();
        memoryEdges();
        jumps();
        programsAreOfTheirOwn();
        due.end();
    }

    private static PartitionDesk ran(int ticks, int... instructions) {
        PartitionDesk desk = Desks.alone();
        Desks.write(desk, 0, instructions);
        due.is("start()", desk.start(), 0);
        due.is("all are done", desk.run(ticks), ticks);
        due.is("no faults", desk.about(0, 6), 0);
        return desk;
    }

    private static void set() {
        int[] numbers = {0, 1, -1, 5, MIN, MAX};
        for (int x = 0; x < 4; x++) {
            for (int number : numbers) {
                PartitionDesk desk = ran(1, Desks.SET, x, number);
                for (int w = 0; w < 4; w++) {
                    due.is("register " + w, desk.about(0, w), w == x ? number : 0);
                }
                due.is("place", desk.about(0, 4), 1);
            }
        }
    }

    private static void registersModuloFour() {
        int[][] cases = {{4, 0}, {7, 3}, {-1, 3}, {-4, 0}, {-5, 3}, {MAX, 3}, {MIN, 0}, {MIN + 1, 1}};
        for (int[] c : cases) {
            PartitionDesk a = ran(1, Desks.SET, c[0], 11);
            due.is("register a = " + c[0], a.about(0, c[1]), 11);
            PartitionDesk b = ran(2, Desks.SET, c[1], 13, Desks.ADD, 2, c[0]);
            due.is("register b = " + c[0], b.about(0, 2), 13);
        }
    }

    private static void arithmetic() {
        int[][] pairs = {{12, 10}, {0, 0}, {-3, 7}, {MAX, 1}, {MIN, 1}, {MIN, MIN}, {MAX, -1}, {-1, 5}};
        for (int[] p : pairs) {
            for (int op = Desks.ADD; op <= Desks.XOR; op++) {
                PartitionDesk desk = ran(3, Desks.SET, 1, p[0], Desks.SET, 2, p[1], op, 1, 2);
                int want = op == Desks.ADD ? p[0] + p[1] : op == Desks.SUBTRACT ? p[0] - p[1] : p[0] ^ p[1];
                due.is("op " + op + " of " + p[0] + ", " + p[1], desk.about(0, 1), want);
                due.is("y stays", desk.about(0, 2), p[1]);
                due.is("place", desk.about(0, 4), 3);
            }
        }
    }

    private static void theSameRegisterTwice() {
        due.is("x + x", ran(2, Desks.SET, 3, 21, Desks.ADD, 3, 3).about(0, 3), 42);
        due.is("x - x", ran(2, Desks.SET, 3, 21, Desks.SUBTRACT, 3, 3).about(0, 3), 0);
        due.is("x ^ x", ran(2, Desks.SET, 3, 21, Desks.XOR, 3, 3).about(0, 3), 0);
    }

    private static void loadAndStore() {
        PartitionDesk desk = ran(6,
                Desks.SET, 0, 77, Desks.SET, 1, 7, Desks.STORE, 0, 1,
                Desks.LOAD, 2, 1, Desks.STORE, 1, 3, Desks.LOAD, 1, 1);
        due.is("the last word of the region", desk.word(11), 77);
        due.is("the first word of the region", desk.word(4), 7);
        due.is("x = the word", desk.about(0, 2), 77);
        due.is("x is y", desk.about(0, 1), 77);
        for (int i = 0; i < 64; i++) {
            due.is("word " + i, desk.word(i), i == 11 ? 77 : i == 4 ? 7 : 0);
        }
    }

    private static void memoryEdges() {
        PartitionDesk desk = new PartitionDesk();
        desk.region(0, 0, 32);
        desk.region(1, 32, 32);
        desk.window(0, 3);
        desk.window(1, 3);
        Desks.write(desk, 0, Desks.SET, 0, 8, Desks.STORE, 0, 1);
        Desks.write(desk, 1, Desks.SET, 0, 31, Desks.STORE, 0, 0);
        desk.start();
        desk.run(6);
        due.is("word(0)", desk.word(0), 8);
        due.is("word(63)", desk.word(63), 31);
        int[] wrong = {-1, 64, MIN, MAX};
        for (int i : wrong) {
            due.is("word(" + i + ")", desk.word(i), 0);
        }
    }

    private static void jumps() {
        due.is("jump", ran(1, Desks.JUMP, 0, 9).about(0, 4), 9);
        due.is("jump to itself", ran(5, Desks.JUMP, 0, 0).about(0, 4), 0);
        due.is("jump, x does not count", ran(2, Desks.SET, 1, 1, Desks.JUMP, 1, 15).about(0, 4), 15);
        due.is("not 0", ran(2, Desks.SET, 1, -1, Desks.JUMP_NOT_ZERO, 1, 9).about(0, 4), 9);
        due.is("0", ran(2, Desks.SET, 0, 5, Desks.JUMP_NOT_ZERO, 1, 9).about(0, 4), 2);
        due.is("a modulo 4", ran(2, Desks.SET, 1, 5, Desks.JUMP_NOT_ZERO, 5, 9).about(0, 4), 9);
        due.is("b as it is", ran(1, Desks.JUMP, 0, -7).about(0, 4), -7);
        due.is("b as it is, if x is not 0", ran(2, Desks.SET, 0, 1, Desks.JUMP_NOT_ZERO, 0, 700).about(0, 4), 700);
        due.is("a loop of 3, 2, 1", ran(8, Desks.SET, 0, 3, Desks.SET, 1, 1,
                Desks.SUBTRACT, 0, 1, Desks.JUMP_NOT_ZERO, 0, 2).about(0, 4), 4);
    }

    private static void programsAreOfTheirOwn() {
        PartitionDesk desk = Desks.pair();
        Desks.write(desk, 0, Desks.SET, 0, 1, Desks.STORE, 0, 0);
        Desks.write(desk, 1, Desks.SET, 0, 2, Desks.STORE, 0, 0);
        desk.start();
        desk.run(4);
        due.is("r0 of 0", desk.about(0, 0), 1);
        due.is("r0 of 1", desk.about(1, 0), 2);
        due.is("word 1 of the region of 0", desk.word(1), 1);
        due.is("word 2 of the region of 1", desk.word(10), 2);
    }
}
