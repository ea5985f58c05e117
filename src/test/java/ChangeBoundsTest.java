import java.util.function.Predicate;

/** "A table that is changed by this or the following four calls is not started any more." (promises 2 to 9, 14). */
public final class ChangeBoundsTest {
    private static final Due due = new Due();

    public static void main(String[] args) {
        due.says("A table that is changed by this or the following four calls is not started any more.");
        changes();
        refusals();
        otherCalls();
        aStartBehindAChange();
        inputsOfATableThatIsNotStarted();
        due.end();
    }

    private static PartitionDesk started() {
        PartitionDesk desk = Desks.pair();
        due.is("start()", desk.start(), 0);
        due.is("run(3)", desk.run(3), 3);
        return desk;
    }

    private static void isStarted(String behind, PartitionDesk desk) {
        due.is("clock(0) behind " + behind, desk.clock(0), 1);
        due.is("clock(1) behind " + behind, desk.clock(1), 0);
        due.is("clock(2) behind " + behind, desk.clock(2), 3);
        due.is("run(0) behind " + behind, desk.run(0), 0);
        due.is("run(1) behind " + behind, desk.run(1), 1);
    }

    private static void isNotStarted(String behind, PartitionDesk desk) {
        for (int what = 0; what < 3; what++) {
            due.is("clock(" + what + ") behind " + behind, desk.clock(what), -1);
        }
        due.is("run(0) behind " + behind, desk.run(0), -1);
        due.is("run(1) behind " + behind, desk.run(1), -1);
        due.is("run(200) behind " + behind, desk.run(200), -1);
    }

    private static void change(String name, Predicate<PartitionDesk> call) {
        PartitionDesk desk = started();
        due.yes(name, call.test(desk));
        isNotStarted(name, desk);
        due.is("start() behind " + name, desk.start(), 0);
        due.is("run(1) behind start() behind " + name, desk.run(1), 1);
        due.is("clock(2)", desk.clock(2), 1);
    }

    private static void changes() {
        change("region(0, 0, 7)", desk -> desk.region(0, 0, 7));
        change("region(1, 32, 32)", desk -> desk.region(1, 32, 32));
        change("window(0, 1)", desk -> desk.window(0, 1));
        change("window(1, 9)", desk -> desk.window(1, 9));
        change("port(0, 1, 0)", desk -> desk.port(0, 1, 0) == 0);
        change("port(1, 0, 4)", desk -> desk.port(1, 0, 4) == 0);
        change("action(0, 1, 1)", desk -> desk.action(0, 1, 1));
        change("action(3, 4, 2)", desk -> desk.action(3, 4, 2));
        change("code(0, 0, 1, 1, 1)", desk -> desk.code(0, 0, 1, 1, 1));
        change("code(3, 15, 99, 1, 1)", desk -> desk.code(3, 15, 99, 1, 1));
    }

    private static void refusal(String name, Predicate<PartitionDesk> call) {
        PartitionDesk desk = started();
        due.no(name, call.test(desk));
        isStarted(name, desk);
    }

    private static void refusals() {
        refusal("region(4, 20, 4)", desk -> desk.region(4, 20, 4));
        refusal("region(0, 61, 4)", desk -> desk.region(0, 61, 4));
        refusal("region(0, 0, 33)", desk -> desk.region(0, 0, 33));
        refusal("region(0, 0, 0)", desk -> desk.region(0, 0, 0));
        refusal("window(-1, 1)", desk -> desk.window(-1, 1));
        refusal("window(0, 0)", desk -> desk.window(0, 0));
        refusal("window(0, 10)", desk -> desk.window(0, 10));
        refusal("port(0, 4, 1)", desk -> desk.port(0, 4, 1) >= 0);
        refusal("port(1, 1, 1)", desk -> desk.port(1, 1, 1) >= 0);
        refusal("port(0, 1, 5)", desk -> desk.port(0, 1, 5) >= 0);
        refusal("port(0, 1, -1)", desk -> desk.port(0, 1, -1) >= 0);
        refusal("action(4, 1, 1)", desk -> desk.action(4, 1, 1));
        refusal("action(0, 0, 1)", desk -> desk.action(0, 0, 1));
        refusal("action(0, 5, 1)", desk -> desk.action(0, 5, 1));
        refusal("action(0, 1, 3)", desk -> desk.action(0, 1, 3));
        refusal("code(4, 0, 1, 1, 1)", desk -> desk.code(4, 0, 1, 1, 1));
        refusal("code(0, 16, 1, 1, 1)", desk -> desk.code(0, 16, 1, 1, 1));
        refusal("code(0, -1, 1, 1, 1)", desk -> desk.code(0, -1, 1, 1, 1));
        refusal("input(4, 1)", desk -> desk.input(4, 1) >= 0);
        refusal("run(-1)", desk -> desk.run(-1) >= 0);
        refusal("run(201)", desk -> desk.run(201) >= 0);
    }

    private static void otherCalls() {
        PartitionDesk desk = started();
        desk.input(0, 5);
        desk.input(3, 5);
        desk.output(0, 0);
        desk.about(0, 0);
        desk.word(0);
        desk.waiting(0);
        desk.clock(0);
        isStarted("the other calls", desk);
    }

    private static void aStartBehindAChange() {
        PartitionDesk desk = started();
        desk.region(1, 7, 8);
        due.is("start() of a bad table", desk.start(), 2);
        isNotStarted("a bad start", desk);
        desk.region(1, 8, 8);
        isNotStarted("the table is good again", desk);
        due.is("start()", desk.start(), 0);
        due.is("run(3)", desk.run(3), 3);
        isStarted("a good start", desk);
    }

    private static void inputsOfATableThatIsNotStarted() {
        PartitionDesk desk = new PartitionDesk();
        due.is("input(0, 5) of a new one", desk.input(0, 5), 1);
        due.is("about(0, 8)", desk.about(0, 8), 1);
        due.is("start()", desk.start(), 1);
        due.is("input(0, 6)", desk.input(0, 6), 2);
        isNotStarted("inputs", desk);
    }
}
