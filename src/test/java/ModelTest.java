import java.util.Arrays;
import java.util.Random;

/** Random runs of calls, on the class and on the model beside it: every answer is compared. */
public final class ModelTest {
    private static final int RUNS = 600;
    private static final int CALLS = 512;

    private final Random random;
    private final AllocateSolve real = new AllocateSolve();
    private final Model model = new Model();
    private final String name;
    // Narrow numbers make ties, scarce lots and equal goods common; wide ones reach the ranges' ends,
    // which are all that there is with edges.
    private final boolean narrow;
    private final boolean edges;
    private int dearSolves = 3;

    private ModelTest(int seed) {
        random = new Random(seed);
        name = "run " + seed;
        narrow = random.nextInt(3) > 0;
        edges = !narrow && random.nextBoolean();
    }

    private interface Answer {
        long get();
    }

    public static void main(String[] args) {
        for (int seed = 1; seed <= RUNS; seed++) {
            new ModelTest(seed).run();
        }
        Check.done("ModelTest");
    }

    private void run() {
        int lots = random.nextInt(9);
        int lines = random.nextInt(7);
        for (int i = 0; i < lots; i++) {
            askLot();
        }
        for (int i = 0; i < lines; i++) {
            askLine();
        }
        for (int call = lots + lines; call < CALLS; call++) {
            askAny();
        }
    }

    private static long answer(Answer call) {
        try {
            return call.get();
        } catch (RuntimeException e) {
            return (1L << 40) + e.getClass().getName().hashCode();
        }
    }

    private void compare(String call, Answer got, Answer due, int... values) {
        Check.same(name + ": " + call + Arrays.toString(values), answer(got), answer(due));
    }

    /** Mostly a number of the range, now and then one beside it or far off. */
    private int near(int least, int most) {
        int dice = random.nextInt(60);
        if (dice < 4) {
            return Check.outside(least, most)[dice];
        }
        if (dice == 4) {
            return random.nextInt();
        }
        if (edges || dice < 8) {
            int in = Math.min(random.nextInt(2), most - least);
            return random.nextBoolean() ? least + in : most - in;
        }
        return least + random.nextInt(most - least + 1);
    }

    private int place() {
        return narrow ? near(0, 3) : near(0, 99);
    }

    private int good() {
        return narrow ? near(0, 1) : near(0, 5);
    }

    private int day() {
        return narrow ? near(0, 4) : near(0, 9999);
    }

    private int pieces() {
        return narrow ? near(0, 30) : near(0, 500);
    }

    private int lotNumber() {
        return near(0, Math.max(0, model.count(0) - 1));
    }

    private int lineNumber() {
        return near(0, Math.max(0, model.count(1) - 1));
    }

    private void askLot() {
        int place = place();
        int good = good();
        int n = pieces();
        int until = day();
        compare("lot", () -> real.lot(place, good, n, until), () -> model.lot(place, good, n, until),
                place, good, n, until);
    }

    private void askLine() {
        int good = good();
        int n = narrow ? near(1, 25) : near(1, 200);
        compare("line", () -> real.line(good, n), () -> model.line(good, n), good, n);
    }

    private void askRule() {
        int line = lineNumber();
        int kind = near(0, 3);
        int v = ruleValue(kind);
        compare("rule", () -> done(() -> real.rule(line, kind, v)), () -> done(() -> model.rule(line, kind, v)),
                line, kind, v);
    }

    private int ruleValue(int kind) {
        switch (kind) {
            case 0:
                return day();
            case 1:
                return narrow ? near(1, 6) : near(1, 50);
            case 2:
                return near(1, 8);
            default:
                return near(0, 1);
        }
    }

    private static long done(Runnable call) {
        call.run();
        return 0;
    }

    private void askCost() {
        int lot = lotNumber();
        int line = lineNumber();
        int c = random.nextInt(3) == 0 ? -1 : narrow ? near(970, 1000) : near(-1, 1000);
        compare("cost", () -> done(() -> real.cost(lot, line, c)), () -> done(() -> model.cost(lot, line, c)),
                lot, line, c);
    }

    private void askMay() {
        int lot = lotNumber();
        int line = lineNumber();
        boolean on = random.nextInt(3) > 0;
        compare("may " + on, () -> real.may(lot, line, on) ? 1 : 0, () -> model.may(lot, line, on) ? 1 : 0,
                lot, line);
    }

    /** The model tries all plans, so only a few solvings of a run may have very many. */
    private void askSolve() {
        int choices = model.choices();
        int most = near(0, 40000);
        if (choices > 256 && choices <= most) {
            if (choices > 4096 || dearSolves == 0) {
                most = random.nextInt(choices);
            } else {
                dearSolves--;
            }
        } else if (random.nextInt(4) == 0 && choices > 0) {
            most = choices - random.nextInt(2);
        }
        int told = most;
        compare("solve", () -> real.solve(told), () -> model.solve(told), told);
        compareHoldings();
    }

    private void compareHoldings() {
        for (int line = 0; line < model.count(1); line++) {
            for (int i = 0; i <= 8; i++) {
                for (int what = 0; what <= 2; what++) {
                    askGive(line, i, what);
                }
            }
        }
    }

    private void askGive(int line, int i, int what) {
        compare("give", () -> real.give(line, i, what), () -> model.give(line, i, what), line, i, what);
    }

    private void askChange() {
        int lot = lotNumber();
        int n = pieces();
        compare("change", () -> real.change(lot, n), () -> model.change(lot, n), lot, n);
    }

    private void askOfLine() {
        int line = lineNumber();
        switch (random.nextInt(4)) {
            case 0 -> compare("undo", () -> real.undo(line), () -> model.undo(line), line);
            case 1 -> compare("refused", () -> real.refused(line), () -> model.refused(line), line);
            case 2 -> compare("average", () -> real.average(line), () -> model.average(line), line);
            default -> compare("bar", () -> real.bar(line), () -> model.bar(line), line);
        }
    }

    private void askOfAll() {
        int lot = lotNumber();
        int what = near(0, 4);
        compare("held", () -> real.held(lot), () -> model.held(lot), lot);
        compare("left", () -> real.left(lot), () -> model.left(lot), lot);
        compare("count", () -> real.count(what), () -> model.count(what), what);
        compare("exact", () -> real.exact() ? 1 : 0, () -> model.exact() ? 1 : 0);
        compare("choices", real::choices, model::choices);
        compare("bound", real::bound, model::bound);
    }

    private void askAny() {
        switch (random.nextInt(20)) {
            case 0 -> askLot();
            case 1 -> askLine();
            case 2, 3 -> askRule();
            case 4, 5 -> askCost();
            case 6, 7 -> askMay();
            case 8 -> askSolve();
            case 9, 10 -> askChange();
            case 11, 12 -> askGive(lineNumber(), near(0, 3), near(0, 2));
            case 13, 14, 15, 16 -> askOfLine();
            default -> askOfAll();
        }
    }
}
