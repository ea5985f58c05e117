/** "OPS": each bound that the document names, from both sides (promises 8 to 11). */
public final class OpsBoundsTest {
    private static final int MIN = Integer.MIN_VALUE;
    private static final int MAX = Integer.MAX_VALUE;
    private static final int[] NAMES = {MIN, MIN + 1, MIN + 2, MIN + 3, -9, -8, -5, -4, -3, -2, -1, 0, 1, 2, 3, 4, 5,
        6, 7, 8, 63, 64, MAX - 3, MAX - 2, MAX - 1, MAX};
    private static final Due due = new Due();

    public static void main(String[] args) {
        for (int name : NAMES) {
            aModuloFour(name);
            bModuloFour(name);
            bAsItIs(name);
        }
        registersAreInts();
        for (int size = 1; size <= 32; size++) {
            wordsOfTheRegion(size, 0);
            wordsOfTheRegion(size, 64 - size);
        }
        wordsFarFromTheRegion();
        xIsY();
        onlyIfXIsNotZero();
        opsThatAreNone();
        opsThatAre();
        placesThatAreNone();
        placesThatAre();
        noInputLeft();
        anInputOfZero();
        r3ComesLast();
        due.end();
    }

    /** Partition 0 alone, with r0 .. r3 = 10 .. 13, behind four ticks; the program goes on with these. */
    private static PartitionDesk ready(int... instructions) {
        PartitionDesk desk = Desks.alone();
        for (int r = 0; r < 4; r++) {
            desk.code(0, r, Desks.SET, r, 10 + r);
        }
        for (int i = 0; i * 3 < instructions.length; i++) {
            desk.code(0, 4 + i, instructions[i * 3], instructions[i * 3 + 1], instructions[i * 3 + 2]);
        }
        desk.start();
        desk.run(4);
        return desk;
    }

    private static int modulo(int name) {
        return name & 3;
    }

    /** Register r is told as want, the other ones as ready made them. */
    private static void onlyOneChanged(String what, PartitionDesk desk, int r, int want) {
        for (int w = 0; w < 4; w++) {
            due.is(what + ", about(0, " + w + ")", desk.about(0, w), w == r ? want : 10 + w);
        }
        due.is(what + ", place", desk.about(0, 4), 5);
        due.is(what + ", faults", desk.about(0, 6), 0);
    }

    private static void aModuloFour(int name) {
        due.says("x and y are registers a and b, a and b modulo 4");
        int x = modulo(name);
        PartitionDesk set = ready(Desks.SET, name, 50);
        set.run(1);
        onlyOneChanged("SET a = " + name, set, x, 50);
        PartitionDesk add = ready(Desks.ADD, name, 1);
        add.run(1);
        onlyOneChanged("ADD a = " + name, add, x, 10 + x + 11);
        PartitionDesk subtract = ready(Desks.SUBTRACT, name, 1);
        subtract.run(1);
        onlyOneChanged("SUBTRACT a = " + name, subtract, x, x - 1);
        PartitionDesk xor = ready(Desks.XOR, name, 1);
        xor.run(1);
        onlyOneChanged("XOR a = " + name, xor, x, (10 + x) ^ 11);
        PartitionDesk out = ready(Desks.OUTPUT, name, 0);
        out.run(1);
        due.is("OUTPUT a = " + name, out.output(0, 0), 10 + x);
        PartitionDesk jump = ready(Desks.SET, x, 0, Desks.JUMP_NOT_ZERO, name, 9);
        jump.run(2);
        due.is("JUMP_NOT_ZERO a = " + name + " of 0", jump.about(0, 4), 6);
        PartitionDesk in = ready(Desks.INPUT, name, 0);
        in.input(0, 66);
        in.run(1);
        due.is("INPUT a = " + name, in.about(0, x), x == 3 ? 1 : 66);
        memoryModuloFour(name, x);
    }

    private static void memoryModuloFour(int name, int x) {
        // y is a register that is 2; x must not be that one.
        int y = x == 0 ? 1 : 0;
        PartitionDesk desk = ready(Desks.SET, y, 2, Desks.STORE, name, y, Desks.SET, x, 0, Desks.LOAD, name, y);
        desk.run(2);
        due.is("STORE a = " + name, desk.word(4 + 2), 10 + x);
        desk.run(1);
        due.is("before LOAD a = " + name, desk.about(0, x), 0);
        desk.run(1);
        due.is("LOAD a = " + name, desk.about(0, x), 10 + x);
        due.is("faults", desk.about(0, 6), 0);
    }

    private static void bModuloFour(int name) {
        due.says("x and y are registers a and b, a and b modulo 4");
        int y = modulo(name);
        PartitionDesk add = ready(Desks.ADD, 2, name);
        add.run(1);
        onlyOneChanged("ADD b = " + name, add, 2, 12 + 10 + y);
        PartitionDesk subtract = ready(Desks.SUBTRACT, 2, name);
        subtract.run(1);
        onlyOneChanged("SUBTRACT b = " + name, subtract, 2, 2 - y);
        PartitionDesk xor = ready(Desks.XOR, 2, name);
        xor.run(1);
        onlyOneChanged("XOR b = " + name, xor, 2, 12 ^ (10 + y));
        int x = y == 0 ? 1 : 0;
        PartitionDesk desk = ready(Desks.SET, y, 7, Desks.STORE, x, name, Desks.SET, x, 0, Desks.LOAD, x, name);
        desk.run(4);
        due.is("STORE b = " + name, desk.word(4 + 7), 10 + x);
        due.is("LOAD b = " + name, desk.about(0, x), 10 + x);
        portsModuloFour(name, y);
    }

    private static void portsModuloFour(int name, int y) {
        for (int depth = 0; depth <= 1; depth++) {
            PartitionDesk desk = Desks.pair();
            desk.port(0, 1, depth);
            Desks.write(desk, 0, Desks.SET, y, 40, Desks.SEND, 0, name, Desks.END, 0, 0);
            Desks.write(desk, 1, Desks.NOTHING, 0, 0, Desks.NOTHING, 0, 0, Desks.RECEIVE, 0, name, Desks.OUTPUT, y, 0);
            desk.start();
            desk.run(8);
            // From tick 2 to tick 5 a sample is 3 old; r3 comes last.
            int want = y < 3 ? 40 : depth == 0 ? 3 : 1;
            due.is("SEND and RECEIVE b = " + name + ", depth " + depth, desk.output(1, 0), want);
            due.is("r3", desk.about(1, 3), depth == 0 ? 3 : 1);
        }
    }

    private static void bAsItIs(int name) {
        due.says("1 x = b; .. 7 the place is b; 8 the place is b, if x is not 0");
        PartitionDesk set = ready(Desks.SET, 1, name);
        set.run(1);
        onlyOneChanged("SET b = " + name, set, 1, name);
        PartitionDesk jump = ready(Desks.JUMP, 0, name);
        jump.run(1);
        due.is("JUMP b = " + name, jump.about(0, 4), name);
        PartitionDesk jumpIf = ready(Desks.JUMP_NOT_ZERO, 0, name);
        jumpIf.run(1);
        due.is("JUMP_NOT_ZERO b = " + name, jumpIf.about(0, 4), name);
        due.is("a jump is no fault", jumpIf.about(0, 6), 0);
    }

    private static void registersAreInts() {
        due.says("four REGISTERS r0 .. r3 (ints)");
        int[][] cases = {
            {MAX, 1, MIN, MAX - 1}, {MAX, 0, MAX, MAX}, {MIN, 1, MIN + 1, MAX}, {MIN, 0, MIN, MIN},
            {MAX, MAX, -2, 0}, {MIN, MIN, 0, 0}, {0, MIN, MIN, MIN}, {-1, MIN, MAX, MAX}, {MIN, -1, MAX, MIN + 1},
        };
        for (int[] c : cases) {
            PartitionDesk desk = ready(Desks.SET, 0, c[0], Desks.SET, 1, c[1], Desks.SET, 2, c[0],
                    Desks.ADD, 0, 1, Desks.SUBTRACT, 2, 1);
            desk.run(5);
            due.is(c[0] + " + " + c[1], desk.about(0, 0), c[2]);
            due.is(c[0] + " - " + c[1], desk.about(0, 2), c[3]);
        }
    }

    private static void wordsOfTheRegion(int size, int from) {
        due.says("5 and 6: FAULT 1, if y is not 0 .. size - 1");
        int[] words = {-1, 0, size - 1, size};
        for (int word : words) {
            PartitionDesk desk = new PartitionDesk();
            desk.region(2, from, size);
            desk.window(2, 9);
            desk.action(2, 1, Desks.SKIP);
            Desks.write(desk, 2, Desks.SET, 0, 30, Desks.SET, 1, word, Desks.STORE, 0, 1, Desks.LOAD, 2, 1);
            desk.start();
            desk.run(4);
            boolean there = 0 <= word && word < size;
            String what = "word " + word + " of " + from + " + " + size;
            due.is(what + ", faults", desk.about(2, 6), there ? 0 : 2);
            due.is(what + ", loaded", desk.about(2, 2), there ? 30 : 0);
            for (int i = 0; i < 64; i++) {
                due.is(what + ", word(" + i + ")", desk.word(i), there && i == from + word ? 30 : 0);
            }
        }
    }

    private static void wordsFarFromTheRegion() {
        due.says("FAULT 1, if y is not 0 .. size - 1");
        int[] words = {MIN, MIN + 4, -64, -5, -4, 60, 64, MAX - 3, MAX};
        for (int word : words) {
            for (int op = Desks.LOAD; op <= Desks.STORE; op++) {
                PartitionDesk desk = ready(Desks.SET, 1, word, op, 0, 1);
                due.is("both are done", desk.run(2), 2);
                due.is("op " + op + " of word " + word + ", faults", desk.about(0, 6), 1);
                due.is("op " + op + " of word " + word + ", place", desk.about(0, 4), 5);
            }
        }
    }

    private static void xIsY() {
        due.says("5 x = the word y of the region; 6 the word y of the region = x");
        int[] values = {5, 30, -1};
        for (int value : values) {
            PartitionDesk desk = ready(Desks.SET, 1, 3, Desks.SET, 0, value, Desks.STORE, 0, 1, Desks.LOAD, 1, 5,
                    Desks.SET, 2, 7, Desks.STORE, 2, 2);
            desk.run(4);
            due.is("r1 = the word r1", desk.about(0, 1), value);
            desk.run(2);
            for (int i = 0; i < 64; i++) {
                due.is("word(" + i + ")", desk.word(i), i == 4 + 3 ? value : i == 4 + 7 ? 7 : 0);
            }
            due.is("faults", desk.about(0, 6), 0);
        }
    }

    private static void onlyIfXIsNotZero() {
        due.says("8 the place is b, if x is not 0");
        int[] values = {MIN, -1, 0, 1, 2, 256, 65536, MAX};
        for (int value : values) {
            PartitionDesk desk = ready(Desks.SET, 2, value, Desks.JUMP_NOT_ZERO, 2, 1);
            desk.run(2);
            due.is("x = " + value, desk.about(0, 4), value == 0 ? 6 : 1);
        }
    }

    private static void opsThatAreNone() {
        due.says("Other ops: FAULT 3");
        int[] ops = {MIN, -100, -2, -1, 15, 16, 17, 100, 256, 65536, MAX};
        for (int op : ops) {
            PartitionDesk desk = ready(op, 0, 0);
            due.is("op " + op + " counts", desk.run(1), 1);
            due.is("op " + op + ", faults", desk.about(0, 6), 1);
            due.is("op " + op + ", running", desk.about(0, 5), 0);
            due.is("op " + op + ", place", desk.about(0, 4), 4);
        }
    }

    private static void opsThatAre() {
        due.says("Other ops: FAULT 3");
        for (int op = 0; op <= 14; op++) {
            PartitionDesk desk = Desks.pair();
            desk.port(0, 1, 0);
            desk.port(1, 0, 0);
            desk.code(0, 0, op, op == Desks.RECEIVE ? 1 : 0, 0);
            desk.start();
            desk.run(1);
            due.is("op " + op + ", faults", desk.about(0, 6), 0);
            due.is("op " + op + ", running", desk.about(0, 5), op == Desks.END ? 0 : 1);
        }
    }

    private static void placesThatAreNone() {
        due.says("A place that is not 0 .. 15: FAULT 4");
        int[] places = {MIN, -16, -1, 16, 17, 32, 256, MAX};
        for (int place : places) {
            PartitionDesk desk = ready(Desks.JUMP, 0, place);
            desk.run(1);
            due.is("no fault yet", desk.about(0, 6), 0);
            due.is("running", desk.about(0, 5), 1);
            due.is("place " + place + " counts", desk.run(1), 1);
            due.is("place " + place + ", faults", desk.about(0, 6), 1);
            due.is("place " + place + ", running", desk.about(0, 5), 0);
        }
    }

    private static void placesThatAre() {
        due.says("A place that is not 0 .. 15: FAULT 4");
        for (int place = 0; place <= 15; place++) {
            PartitionDesk desk = ready(Desks.JUMP, 0, place);
            desk.run(2);
            due.is("place " + place + ", faults", desk.about(0, 6), 0);
        }
        PartitionDesk desk = Desks.alone();
        desk.code(0, 15, Desks.SET, 0, 3);
        desk.start();
        desk.run(16);
        due.is("the last instruction is done", desk.about(0, 0), 3);
        due.is("no fault", desk.about(0, 6), 0);
        due.is("behind it is one", desk.run(1), 1);
        due.is("fault", desk.about(0, 6), 1);
    }

    private static void noInputLeft() {
        due.says("11 x = the next input (0 if there is none, and r3 = 0, otherwise r3 = 1");
        for (int x = 0; x < 3; x++) {
            PartitionDesk desk = ready(Desks.INPUT, x, 0, Desks.INPUT, x, 0);
            desk.input(0, 70);
            desk.input(1, 71);
            desk.run(1);
            due.is("x", desk.about(0, x), 70);
            due.is("r3", desk.about(0, 3), 1);
            due.is("inputs that wait", desk.about(0, 8), 0);
            desk.run(1);
            due.is("x, none is left", desk.about(0, x), 0);
            due.is("r3, none is left", desk.about(0, 3), 0);
            due.is("no fault", desk.about(0, 6), 0);
            due.is("place", desk.about(0, 4), 6);
            due.is("that of the other one still waits", desk.about(1, 8), 1);
        }
    }

    private static void anInputOfZero() {
        due.says("otherwise r3 = 1");
        PartitionDesk desk = ready(Desks.INPUT, 0, 0);
        desk.input(0, 0);
        desk.run(1);
        due.is("x", desk.about(0, 0), 0);
        due.is("r3", desk.about(0, 3), 1);
    }

    private static void r3ComesLast() {
        due.says("r3 comes last");
        int[] names = {3, 7, -1};
        for (int name : names) {
            PartitionDesk desk = ready(Desks.INPUT, name, 0, Desks.INPUT, name, 0);
            desk.input(0, 70);
            desk.run(1);
            due.is("r3, an input", desk.about(0, 3), 1);
            desk.run(1);
            due.is("r3, none", desk.about(0, 3), 0);
        }
    }
}
