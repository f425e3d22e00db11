import java.util.Random;

/** Solvings with more choices than ModelTest has time for, up to the most that may be tried. */
public final class ManyChoicesTest {
    // Lots that each line may have: 13 to 15 in all, as 2 to the 15 is the greatest power below 40000.
    private static final int[][] SHAPES = {
        {8, 7}, {7, 8}, {8, 5}, {1, 7, 7}, {5, 5, 5}, {8, 1, 6}, {4, 4, 4, 3}, {2, 8, 2, 2}, {3, 3, 3, 3, 3},
        {1, 2, 3, 4, 5}, {3, 3, 3, 2, 2, 2}, {1, 1, 1, 1, 1, 8}, {8, 1, 1, 1, 1, 1}, {0, 8, 0, 7, 0, 0},
    };

    private static final int ROUNDS = 8;

    private final Random random;
    private final AllocateSolve real = new AllocateSolve();
    private final Model model = new Model();
    private final String name;

    private ManyChoicesTest(int seed) {
        random = new Random(seed);
        name = "run " + seed;
    }

    public static void main(String[] args) {
        Check.sentence("Promise 7", "exactly if there are no more choices than most (0 .. 40000)");
        for (int seed = 0; seed < ROUNDS * SHAPES.length; seed++) {
            new ManyChoicesTest(seed).run(SHAPES[seed % SHAPES.length]);
        }
        Check.done("ManyChoicesTest");
    }

    private void run(int[] shape) {
        for (int lot = 0; lot < 8; lot++) {
            addLot();
        }
        int bits = 0;
        for (int line = 0; line < shape.length; line++) {
            addLine(line);
            barAllBut(line, shape[line]);
            bits += shape[line];
        }
        Check.same(name + ": choices", real.choices(), 1 << bits);
        Check.same(name + ": by rule, cost", real.solve((1 << bits) - 1), model.solve((1 << bits) - 1));
        compareHoldings();
        Check.no(name + ": by rule, exact", real.exact());
        Check.same(name + ": cost", real.solve(1 << bits), model.solve(1 << bits));
        compareHoldings();
        Check.yes(name + ": exact", real.exact());
    }

    /** Few days and places, so that the order of lots goes by all three; lots are scarce. */
    private void addLot() {
        int place = random.nextInt(3) * 7;
        int n = random.nextInt(40);
        int until = random.nextInt(3);
        real.lot(place, 0, n, until);
        model.lot(place, 0, n, until);
    }

    private void addLine(int line) {
        int n = 1 + random.nextInt(60);
        real.line(0, n);
        model.line(0, n);
        setRule(line, 1, 1 + random.nextInt(4));
        setRule(line, 2, 2 + random.nextInt(7));
        setRule(line, 3, random.nextInt(2));
        for (int lot = 0; lot < 8; lot++) {
            int c = random.nextInt(3) == 0 ? 900 + random.nextInt(101) : -1;
            real.cost(lot, line, c);
            model.cost(lot, line, c);
        }
    }

    private void setRule(int line, int kind, int v) {
        real.rule(line, kind, v);
        model.rule(line, kind, v);
    }

    /** Leaves so many lots open, beginning at any of them. */
    private void barAllBut(int line, int open) {
        int first = random.nextInt(8);
        for (int k = open; k < 8; k++) {
            real.may((first + k) % 8, line, false);
            model.may((first + k) % 8, line, false);
        }
    }

    private void compareHoldings() {
        for (int line = 0; line < model.count(1); line++) {
            Check.same(name + ": refused(" + line + ")", real.refused(line), model.refused(line));
            for (int i = 0; i < 8; i++) {
                Check.same(name + ": lot of gift " + i + " of line " + line, ask(real, line, i, 0), due(line, i, 0));
                Check.same(name + ": pieces of gift " + i + " of line " + line, ask(real, line, i, 1), due(line, i, 1));
            }
        }
    }

    private static int ask(AllocateSolve x, int line, int i, int what) {
        return Check.thrownBy(() -> x.give(line, i, what)) == null ? x.give(line, i, what) : -1;
    }

    private int due(int line, int i, int what) {
        return Check.thrownBy(() -> model.give(line, i, what)) == null ? model.give(line, i, what) : -1;
    }
}
