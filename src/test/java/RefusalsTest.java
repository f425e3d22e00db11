import java.util.ArrayList;
import java.util.List;

/**
 * "REFUSALS, the first that holds": every refused call in many states, by the exception that
 * comes first, and what later calls show behind it, which is what they show without it.
 */
public final class RefusalsTest {
    private static final int CALLS_OF_A_SCENE = 100;
    private static final int[] RULE_LEAST = {0, 1, 1, 0};
    private static final int[] RULE_MOST = {9999, 50, 8, 1};

    private interface Scene {
        AllocateSolve make();
    }

    private interface Use {
        void on(AllocateSolve x);
    }

    private record Refusal(String name, Class<? extends RuntimeException> due, Use call) {
    }

    private final List<Refusal> refusals = new ArrayList<>();
    private final AllocateSolve shown;
    private final int lots;
    private final int lines;

    private RefusalsTest(Scene scene) {
        shown = scene.make();
        lots = shown.count(0);
        lines = shown.count(1);
    }

    public static void main(String[] args) {
        run("new", AllocateSolve::new);
        run("lots alone", RefusalsTest::lotsAlone);
        run("lines alone", RefusalsTest::linesAlone);
        run("full, not solved", RefusalsTest::full);
        run("full, by rule", RefusalsTest::fullByRule);
        run("exact", RefusalsTest::exact);
        run("exact, changed and undone", RefusalsTest::changed);
        run("empty lots", RefusalsTest::emptyLots);
        Check.done("RefusalsTest");
    }

    private static AllocateSolve lotsAlone() {
        AllocateSolve x = new AllocateSolve();
        x.lot(3, 0, 20, 7);
        x.lot(0, 5, 500, 0);
        x.lot(99, 0, 0, 9999);
        return x;
    }

    private static AllocateSolve linesAlone() {
        AllocateSolve x = new AllocateSolve();
        x.line(0, 1);
        x.line(5, 200);
        x.rule(1, 3, 1);
        return x;
    }

    /** Rules in the middle of their ranges, so that a wrong one that got in would show. */
    private static AllocateSolve full() {
        AllocateSolve x = new AllocateSolve();
        for (int lot = 0; lot < 8; lot++) {
            x.lot(10 * lot, lot % 2, 60 + lot, 100 + lot);
        }
        for (int line = 0; line < 6; line++) {
            x.line(line % 2, 70 + line);
            x.rule(line, 0, 101 + line / 2);
            x.rule(line, 1, 2 + line);
            x.rule(line, 2, 2);
        }
        x.rule(5, 3, 1);
        x.cost(6, 0, 999);
        x.cost(7, 5, 0);
        x.may(7, 1, false);
        return x;
    }

    private static AllocateSolve fullByRule() {
        AllocateSolve x = full();
        x.solve(0);
        return x;
    }

    private static AllocateSolve exact() {
        AllocateSolve x = new AllocateSolve();
        x.lot(8, 0, 10, 9);
        x.lot(3, 0, 10, 4);
        x.lot(5, 1, 60, 4);
        x.line(0, 14);
        x.line(0, 6);
        x.line(1, 55);
        x.rule(0, 2, 2);
        x.rule(1, 0, 5);
        x.rule(2, 1, 5);
        x.rule(2, 3, 1);
        x.cost(0, 1, 7);
        x.solve(40000);
        return x;
    }

    private static AllocateSolve changed() {
        AllocateSolve x = exact();
        x.change(0, 7);
        x.change(1, 500);
        x.undo(2);
        x.may(2, 2, false);
        x.cost(0, 0, 0);
        return x;
    }

    private static AllocateSolve emptyLots() {
        AllocateSolve x = new AllocateSolve();
        x.lot(0, 0, 0, 0);
        x.lot(0, 0, 0, 0);
        x.line(0, 1);
        x.solve(4);
        return x;
    }

    private static void run(String name, Scene scene) {
        RefusalsTest test = new RefusalsTest(scene);
        test.collect();
        Check.sentence("Terms, " + name, "REFUSALS, the first that holds");
        String due = Probe.of(scene.make(), CALLS_OF_A_SCENE);
        for (Refusal one : test.refusals) {
            AllocateSolve x = scene.make();
            Check.refused(one.name, one.due, () -> one.call.on(x));
            Check.refused(one.name + " again", one.due, () -> one.call.on(x));
            Check.sameText("behind " + one.name, Probe.of(x, CALLS_OF_A_SCENE), due);
        }
        askingChangesNothing(name, scene);
    }

    private static void askingChangesNothing(String name, Scene scene) {
        Check.sentence("Promises 8 to 14 and 17 to 19, " + name, "as it is now");
        AllocateSolve x = scene.make();
        String once = Probe.holdings(x);
        Check.sameText("asked twice", Probe.holdings(x), once);
    }

    private void add(String name, Class<? extends RuntimeException> due, Use call) {
        refusals.add(new Refusal(name, due, call));
    }

    private void collect() {
        collectLots();
        collectLines();
        collectRules();
        collectPairs();
        collectCalls();
        collectGifts();
        collectOfLots();
        collectOfLines();
    }

    private void collectLots() {
        for (int v : Check.outside(0, 99)) {
            add("lot, place " + v, Check.RANGE, x -> x.lot(v, 0, 1, 1));
        }
        for (int v : Check.outside(0, 5)) {
            add("lot, good " + v, Check.RANGE, x -> x.lot(1, v, 1, 1));
        }
        for (int v : Check.outside(0, 500)) {
            add("lot, pieces " + v, Check.RANGE, x -> x.lot(1, 0, v, 1));
        }
        for (int v : Check.outside(0, 9999)) {
            add("lot, last day " + v, Check.RANGE, x -> x.lot(1, 0, 1, v));
        }
        add("lot, all wrong", Check.RANGE, x -> x.lot(-1, -1, -1, -1));
        if (lots == 8) {
            add("ninth lot", Check.FULL, x -> x.lot(0, 0, 500, 9999));
        }
    }

    private void collectLines() {
        for (int v : Check.outside(0, 5)) {
            add("line, good " + v, Check.RANGE, x -> x.line(v, 1));
        }
        for (int v : Check.outside(1, 200)) {
            add("line, wants " + v, Check.RANGE, x -> x.line(0, v));
        }
        add("line, all wrong", Check.RANGE, x -> x.line(-1, 0));
        if (lines == 6) {
            add("seventh line", Check.FULL, x -> x.line(0, 200));
        }
    }

    private void collectRules() {
        for (int no : Check.beyond(lines)) {
            add("rule of line " + no, Check.NONE, x -> x.rule(no, 1, 50));
            add("wrong rule of line " + no, Check.NONE, x -> x.rule(no, 4, -1));
        }
        for (int line = 0; line < lines; line++) {
            int to = line;
            for (int kind : Check.outside(0, 3)) {
                add("kind " + kind + " of line " + line, Check.RANGE, x -> x.rule(to, kind, 1));
            }
            for (int kind = 0; kind <= 3; kind++) {
                int of = kind;
                for (int v : Check.outside(RULE_LEAST[kind], RULE_MOST[kind])) {
                    add("rule " + kind + " " + v + " of line " + line, Check.RANGE, x -> x.rule(to, of, v));
                }
            }
        }
    }

    private void collectPairs() {
        for (int no : Check.beyond(lots)) {
            add("cost of lot " + no, Check.NONE, x -> x.cost(no, 0, 1));
            add("wrong cost of lot " + no, Check.NONE, x -> x.cost(no, 0, -2));
            add("cost of lot and line " + no, Check.NONE, x -> x.cost(no, Integer.MIN_VALUE, 1001));
            add("may of lot " + no, Check.NONE, x -> x.may(no, 0, true));
            add("may not of lot " + no, Check.NONE, x -> x.may(no, 0, false));
        }
        for (int no : Check.beyond(lines)) {
            add("cost for line " + no, Check.NONE, x -> x.cost(0, no, 1));
            add("wrong cost for line " + no, Check.NONE, x -> x.cost(0, no, 1001));
            add("may for line " + no, Check.NONE, x -> x.may(0, no, true));
            add("may not for line " + no, Check.NONE, x -> x.may(0, no, false));
        }
        if (lots > 0 && lines > 0) {
            for (int c : Check.outside(-1, 1000)) {
                add("cost " + c, Check.RANGE, x -> x.cost(0, 0, c));
                add("cost " + c + " of the last", Check.RANGE, x -> x.cost(lots - 1, lines - 1, c));
            }
        }
    }

    private void collectCalls() {
        for (int most : Check.outside(0, 40000)) {
            add("solve(" + most + ")", Check.RANGE, x -> x.solve(most));
        }
    }

    private void collectGifts() {
        for (int no : Check.beyond(lines)) {
            add("gift of line " + no, Check.NONE, x -> x.give(no, 0, 0));
            add("wrong of line " + no, Check.NONE, x -> x.give(no, 0, 3));
        }
        for (int line = 0; line < lines; line++) {
            int of = line;
            int gifts = giftsOf(line);
            for (int no : Check.beyond(gifts)) {
                if (no < 0 || no >= gifts) {
                    add("gift " + no + " of line " + line, Check.NONE, x -> x.give(of, no, 0));
                    add("wrong of gift " + no + " of line " + line, Check.NONE, x -> x.give(of, no, -1));
                }
            }
            for (int what : gifts > 0 ? Check.outside(0, 2) : new int[0]) {
                add("what " + what + " of line " + line, Check.RANGE, x -> x.give(of, gifts - 1, what));
            }
        }
    }

    private int giftsOf(int line) {
        int found = 0;
        while (found < 8) {
            int i = found;
            if (Check.thrownBy(() -> shown.give(line, i, 0)) != null) {
                return found;
            }
            found++;
        }
        return found;
    }

    private void collectOfLots() {
        for (int no : Check.beyond(lots)) {
            add("held " + no, Check.NONE, x -> x.held(no));
            add("left " + no, Check.NONE, x -> x.left(no));
            add("change " + no, Check.NONE, x -> x.change(no, 0));
            add("wrong change " + no, Check.NONE, x -> x.change(no, 501));
        }
        for (int lot = 0; lot < lots; lot++) {
            int of = lot;
            for (int n : Check.outside(0, 500)) {
                add("change " + lot + " to " + n, Check.RANGE, x -> x.change(of, n));
            }
        }
    }

    private void collectOfLines() {
        for (int no : Check.beyond(lines)) {
            add("bar " + no, Check.NONE, x -> x.bar(no));
            add("undo " + no, Check.NONE, x -> x.undo(no));
            add("refused " + no, Check.NONE, x -> x.refused(no));
            add("average " + no, Check.NONE, x -> x.average(no));
        }
        for (int line = 0; line < lines; line++) {
            int of = line;
            if (giftsOf(line) == 0) {
                add("undo nothing of " + line, Check.STATE, x -> x.undo(of));
                add("average of nothing of " + line, Check.NO_DIVISOR, x -> x.average(of));
            }
        }
    }
}
