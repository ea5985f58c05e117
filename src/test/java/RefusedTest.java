import java.util.ArrayList;
import java.util.List;
import java.util.function.Predicate;

/** "A call that is refused changes nothing": a desk with the call goes on as one without it (promises 2 to 9). */
public final class RefusedTest {
    private static final int MIN = Integer.MIN_VALUE;
    private static final int MAX = Integer.MAX_VALUE;
    private static final Due due = new Due();

    /** A call that is refused, and whether it told so. */
    private record Refusal(String name, Predicate<PartitionDesk> call) {
    }

    /** What has been done with a desk before the call. */
    private enum State { NEW, BAD, GOOD, STARTED, RAN, CHANGED }

    public static void main(String[] args) {
        due.says("A call that is refused changes nothing.");
        for (State state : State.values()) {
            for (Refusal refusal : refusals(state)) {
                leavesAllAsItIs(state, refusal);
                goesOnAsWithoutIt(state, refusal);
                startsAsWithoutIt(state, refusal);
            }
        }
        questionsChangeNothing();
        due.end();
    }

    private static List<Refusal> refusals(State state) {
        List<Refusal> all = new ArrayList<>();
        addWrongTableCalls(all);
        addWrongRuns(all);
        if (state != State.NEW) {
            all.add(new Refusal("a ninth window", desk -> !desk.window(0, 9)));
            all.add(new Refusal("a seventh port", desk -> desk.port(1, 0, 4) == -1));
            all.add(new Refusal("a ninth input", desk -> desk.input(0, 77) == -1));
        }
        if (state != State.STARTED && state != State.RAN) {
            for (int n : new int[] {0, 1, 200}) {
                all.add(new Refusal("run(" + n + ")", desk -> desk.run(n) == -1));
            }
        }
        return all;
    }

    /** Each with one thing wrong: what they would change otherwise can be seen. */
    private static void addWrongTableCalls(List<Refusal> all) {
        for (int p : new int[] {-1, 4, MIN, MAX}) {
            all.add(new Refusal("region(" + p + ", 40, 3)", desk -> !desk.region(p, 40, 3)));
            all.add(new Refusal("window(" + p + ", 3)", desk -> !desk.window(p, 3)));
            all.add(new Refusal("port(" + p + ", 1, 1)", desk -> desk.port(p, 1, 1) == -1));
            all.add(new Refusal("port(1, " + p + ", 1)", desk -> desk.port(1, p, 1) == -1));
            all.add(new Refusal("action(" + p + ", 3, 1)", desk -> !desk.action(p, 3, 1)));
            all.add(new Refusal("code(" + p + ", 0, 14, 0, 0)", desk -> !desk.code(p, 0, 14, 0, 0)));
            all.add(new Refusal("input(" + p + ", 6)", desk -> desk.input(p, 6) == -1));
        }
        for (int[] r : new int[][] {{40, 0}, {40, -1}, {20, 33}, {61, 4}, {64, 1}, {-1, 4}, {MAX, 4}, {4, MAX}}) {
            all.add(new Refusal("region(0, " + r[0] + ", " + r[1] + ")", desk -> !desk.region(0, r[0], r[1])));
        }
        for (int ticks : new int[] {0, 10, -1, MIN, MAX}) {
            all.add(new Refusal("window(1, " + ticks + ")", desk -> !desk.window(1, ticks)));
        }
        for (int depth : new int[] {-1, 5, MIN, MAX}) {
            all.add(new Refusal("port(0, 1, " + depth + ")", desk -> desk.port(0, 1, depth) == -1));
        }
        for (int p = 0; p < 4; p++) {
            int same = p;
            all.add(new Refusal("port(" + p + ", " + p + ", 2)", desk -> desk.port(same, same, 2) == -1));
        }
        for (int[] a : new int[][] {{0, 1}, {5, 1}, {MIN, 1}, {3, -1}, {3, 3}, {4, MAX}}) {
            all.add(new Refusal("action(0, " + a[0] + ", " + a[1] + ")", desk -> !desk.action(0, a[0], a[1])));
        }
        for (int i : new int[] {-1, 16, MIN, MAX}) {
            all.add(new Refusal("code(0, " + i + ", 14, 0, 0)", desk -> !desk.code(0, i, 14, 0, 0)));
        }
    }

    private static void addWrongRuns(List<Refusal> all) {
        for (int n : new int[] {-1, 201, MIN, MAX}) {
            all.add(new Refusal("run(" + n + ")", desk -> desk.run(n) == -1));
        }
    }

    /** But for a new one, all windows, ports and inputs of partition 0 are taken, so that one more is refused. */
    private static PartitionDesk desk(State state) {
        if (state == State.NEW) {
            return new PartitionDesk();
        }
        PartitionDesk desk = full();
        switch (state) {
            case BAD -> desk.region(0, 7, 8);
            case STARTED -> desk.start();
            case RAN -> {
                desk.start();
                desk.run(9);
            }
            case CHANGED -> {
                desk.start();
                desk.run(9);
                desk.action(1, 1, Desks.SKIP);
            }
            default -> { }
        }
        return desk;
    }

    private static PartitionDesk full() {
        PartitionDesk desk = Desks.pair();
        desk.window(0, 3);
        desk.window(1, 2);
        for (int i = 0; i < 4; i++) {
            desk.window(i % 2, 2);
        }
        for (int i = 0; i < 6; i++) {
            desk.port(i % 2, 1 - i % 2, i % 5);
        }
        for (int i = 1; i <= 8; i++) {
            desk.input(0, i);
        }
        Desks.write(desk, 0, Desks.SET, 1, 2, Desks.STORE, 1, 1, Desks.SEND, 0, 1, Desks.SEND, 2, 1,
                Desks.OUTPUT, 1, 0, Desks.LOAD, 2, 1, 44, 0, 0, Desks.INPUT, 0, 0, Desks.WAIT, 0, 0);
        Desks.write(desk, 1, Desks.RECEIVE, 0, 1, Desks.STORE, 1, 0, Desks.RECEIVE, 2, 2, Desks.OUTPUT, 2, 0);
        desk.action(0, 3, Desks.SKIP);
        desk.action(0, 4, Desks.RESTART);
        desk.action(1, 4, Desks.SKIP);
        return desk;
    }

    private static void leavesAllAsItIs(State state, Refusal refusal) {
        PartitionDesk desk = desk(state);
        String before = Desks.seen(desk);
        due.yes(state + ", is refused: " + refusal.name(), refusal.call().test(desk));
        due.same(state + ", behind " + refusal.name(), Desks.seen(desk), before);
    }

    private static void goesOnAsWithoutIt(State state, Refusal refusal) {
        PartitionDesk with = desk(state);
        PartitionDesk without = desk(state);
        refusal.call().test(with);
        due.is(state + ", run behind " + refusal.name(), with.run(40), without.run(40));
        due.same(state + ", a run behind " + refusal.name(), Desks.seen(with), Desks.seen(without));
    }

    private static void startsAsWithoutIt(State state, Refusal refusal) {
        PartitionDesk with = desk(state);
        PartitionDesk without = desk(state);
        refusal.call().test(with);
        due.is(state + ", start behind " + refusal.name(), with.start(), without.start());
        due.is(state + ", start, run behind " + refusal.name(), with.run(70), without.run(70));
        due.same(state + ", start, run behind " + refusal.name(), Desks.seen(with), Desks.seen(without));
        due.is("the next window", with.window(2, 1), without.window(2, 1));
        due.is("the next port", with.port(2, 3, 1), without.port(2, 3, 1));
        due.is("the next input", with.input(1, 5), without.input(1, 5));
    }

    private static void questionsChangeNothing() {
        PartitionDesk desk = desk(State.RAN);
        String before = Desks.seen(desk);
        desk.output(-1, -1);
        desk.about(9, 9);
        desk.word(-1);
        desk.waiting(-1);
        desk.clock(-1);
        due.same("behind questions", Desks.seen(desk), before);
        due.is("it is still started", desk.clock(2), 9);
    }
}
