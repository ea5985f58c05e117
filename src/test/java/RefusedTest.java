/** "A call that is refused changes nothing": a desk with the call goes on as one without it. */
public final class RefusedTest {
    private static final int CALLS = 23;
    private static final Due due = new Due();

    public static void main(String[] args) {
        for (int call = 0; call < CALLS; call++) {
            goesOnAsWithoutIt(call);
            startsAsWithoutIt(call);
        }
        questionsChangeNothing();
        due.end();
    }

    /** All windows, ports and inputs of partition 0 are taken, so that one more is refused. */
    private static PartitionDesk full() {
        PartitionDesk desk = Desks.pair();
        desk.window(0, 3);
        desk.window(1, 2);
        for (int i = 0; i < 4; i++) {
            desk.window(i % 2, 2);
        }
        for (int i = 0; i < 6; i++) {
            desk.port(i % 2, 1 - i % 2, i % 5);
        }
        for (int i = 1; i <= 8; i++) {
            desk.input(0, i);
        }
        Desks.write(desk, 0, Desks.SET, 1, 2, Desks.STORE, 1, 1, Desks.SEND, 0, 1, Desks.SEND, 2, 1,
                Desks.OUTPUT, 1, 0, Desks.LOAD, 2, 1, 44, 0, 0, Desks.WAIT, 0, 0);
        Desks.write(desk, 1, Desks.RECEIVE, 0, 1, Desks.STORE, 1, 0, Desks.RECEIVE, 2, 2, Desks.OUTPUT, 2, 0);
        desk.action(0, 3, Desks.SKIP);
        desk.action(0, 4, Desks.RESTART);
        desk.action(1, 4, Desks.SKIP);
        desk.start();
        desk.run(9);
        return desk;
    }

    private static int refused(PartitionDesk desk, int call) {
        switch (call) {
            case 0: return desk.region(4, 0, 1) ? 1 : 0;
            case 1: return desk.region(-1, 0, 1) ? 1 : 0;
            case 2: return desk.region(0, 40, 0) ? 1 : 0;
            case 3: return desk.region(0, 30, 33) ? 1 : 0;
            case 4: return desk.region(0, 60, 5) ? 1 : 0;
            case 5: return desk.region(0, -1, 5) ? 1 : 0;
            case 6: return desk.window(0, 1) ? 1 : 0;
            case 7: return desk.window(0, 10) ? 1 : 0;
            case 8: return desk.window(-1, 1) ? 1 : 0;
            case 9: return desk.port(0, 1, 1) + 1;
            case 10: return desk.port(0, 0, 1) + 1;
            case 11: return desk.port(0, 4, 5) + 1;
            case 12: return desk.action(0, 0, 2) ? 1 : 0;
            case 13: return desk.action(0, 3, 3) ? 1 : 0;
            case 14: return desk.action(4, 3, 1) ? 1 : 0;
            case 15: return desk.code(0, 16, 14, 0, 0) ? 1 : 0;
            case 16: return desk.code(0, -1, 14, 0, 0) ? 1 : 0;
            case 17: return desk.code(4, 0, 14, 0, 0) ? 1 : 0;
            case 18: return desk.input(0, 77) + 1;
            case 19: return desk.input(4, 77) + 1;
            case 20: return desk.run(201) + 1;
            case 21: return desk.run(-1) + 1;
            default: return desk.run(Integer.MIN_VALUE) + 1;
        }
    }

    private static void goesOnAsWithoutIt(int call) {
        PartitionDesk with = full();
        PartitionDesk without = full();
        due.is("refused call " + call, refused(with, call), 0);
        due.same("state behind refused call " + call, Desks.seen(with), Desks.seen(without));
        due.is("run behind refused call " + call, with.run(40), without.run(40));
        due.same("state behind the run", Desks.seen(with), Desks.seen(without));
    }

    private static void startsAsWithoutIt(int call) {
        PartitionDesk with = full();
        PartitionDesk without = full();
        refused(with, call);
        due.is("start behind refused call " + call, with.start(), without.start());
        due.is("run behind refused call " + call, with.run(70), without.run(70));
        due.same("state behind start and run", Desks.seen(with), Desks.seen(without));
        due.is("the next input", with.input(1, 5), without.input(1, 5));
    }

    private static void questionsChangeNothing() {
        PartitionDesk desk = full();
        String before = Desks.seen(desk);
        due.same("seen twice", Desks.seen(desk), before);
        desk.output(-1, -1);
        desk.about(9, 9);
        desk.word(-1);
        desk.waiting(-1);
        desk.clock(-1);
        due.is("it is still started", desk.clock(2), 9);
    }
}
