/** Promises 7 to 10 at their edges: each method asks about one sentence of the document. */
public final class SolvingEdgesTest {
    public static void main(String[] args) {
        mostWithinItsRange();
        mostOutsideItsRange();
        exactIfThereAreNoMoreChoices();
        byRuleFromMoreChoicesOn();
        allIsAllocatedAnew();
        solvingWithoutLots();
        solvingWithoutLines();
        solvingWithEmptyLots();
        greatestCosts();
        notExactBefore();
        exactIsOfTheLatestSolving();
        exactOutlivesOtherCalls();
        choicesUpToAMillion();
        choicesThatThereAreNow();
        boundWithoutLinesAndLots();
        boundIsTheLesser();
        boundByLeastCost();
        boundOfGreatestNumbers();
        noPlanIsBelowTheBound();
        Check.done("SolvingEdgesTest");
    }

    /** Eight lots and six lines of one good, of whose 48 pairs just so many are allowed. */
    private static AllocateSolve withPairs(int pairs) {
        AllocateSolve x = new AllocateSolve();
        for (int lot = 0; lot < 8; lot++) {
            x.lot(lot, 0, 5, lot);
        }
        for (int line = 0; line < 6; line++) {
            x.line(0, 3);
        }
        for (int pair = pairs; pair < 48; pair++) {
            x.may(pair % 8, pair / 8, false);
        }
        return x;
    }

    private static void mostWithinItsRange() {
        Check.sentence("Promise 7", "most (0 .. 40000)");
        AllocateSolve x = new AllocateSolve();
        x.lot(3, 0, 5, 1);
        x.line(0, 5);
        Check.same("solve(0)", x.solve(0), 35);
        Check.no("no choices may be tried", x.exact());
        Check.same("solve(40000)", x.solve(40000), 35);
        Check.yes("40000 may be tried", x.exact());
    }

    private static void mostOutsideItsRange() {
        Check.sentence("Promise 7 outside the range", "most (0 .. 40000)");
        AllocateSolve x = new AllocateSolve();
        x.lot(3, 0, 5, 1);
        x.line(0, 5);
        for (int most : Check.outside(0, 40000)) {
            Check.refused("solve(" + most + ") before", Check.RANGE, () -> x.solve(most));
        }
        Check.same("nothing was allocated", x.count(2), 0);
        Check.no("no solving was", x.exact());
        x.solve(2);
        x.change(0, 3);
        x.may(0, 0, false);
        for (int most : Check.outside(0, 40000)) {
            Check.refused("solve(" + most + ") behind", Check.RANGE, () -> x.solve(most));
        }
        Check.same("nothing was let go", x.held(0), 3);
        Check.yes("the latest solving is the same", x.exact());
        AllocateSolve y = new AllocateSolve();
        for (int most : Check.outside(0, 40000)) {
            Check.refused("solve(" + most + ") of nothing", Check.RANGE, () -> y.solve(most));
        }
    }

    private static void exactIfThereAreNoMoreChoices() {
        Check.sentence("Promise 7", "exactly if there are no more choices than most");
        for (int pairs = 0; pairs <= 15; pairs++) {
            AllocateSolve x = withPairs(pairs);
            x.solve((1 << pairs) - 1);
            Check.no("one fewer than 2 to the " + pairs, x.exact());
            x.solve(1 << pairs);
            Check.yes("as many as 2 to the " + pairs, x.exact());
            x.solve(40000);
            Check.yes("2 to the " + pairs + " of 40000", x.exact());
        }
    }

    /** 2 to the 31, 32 and so on would wrap around in an int, to a number below most. */
    private static void byRuleFromMoreChoicesOn() {
        Check.sentence("Terms", "Else BY RULE");
        for (int pairs = 16; pairs <= 48; pairs++) {
            AllocateSolve x = withPairs(pairs);
            x.solve(40000);
            Check.no("2 to the " + pairs + " of 40000", x.exact());
            x.solve(0);
            Check.no("2 to the " + pairs + " of 0", x.exact());
        }
        // By rule the first line takes of the first lot, though the last one costs it nothing.
        AllocateSolve x = withPairs(48);
        x.cost(7, 0, 0);
        x.cost(0, 0, 1000);
        x.solve(40000);
        Check.same("the first lot", x.give(0, 0, 0), 0);
        Check.same("all of it", x.refused(0), 0);
    }

    private static void allIsAllocatedAnew() {
        Check.sentence("Promise 7", "All is allocated anew");
        AllocateSolve x = new AllocateSolve();
        x.lot(1, 0, 10, 1);
        x.lot(2, 0, 10, 2);
        x.line(0, 10);
        x.line(0, 10);
        int due = 10 + 20 + 20 + 20;
        Check.same("once", x.solve(16), due);
        Check.same("all is held already", x.solve(16), due);
        Check.same("and by rule", x.solve(0), due);
        Check.same("pieces", x.count(2), 20);
        x.undo(0);
        Check.same("one line holds nothing", x.solve(16), due);
        x.change(0, 0);
        x.change(0, 10);
        Check.same("a lot was emptied and filled", x.solve(16), due);
        x.change(0, 0);
        Check.same("a lot is empty", x.solve(16), 20 + 20 + 10000);
        x.change(1, 0);
        Check.same("both are", x.solve(16), 20000);
        Check.same("then nothing is held", x.count(2), 0);
        x.change(0, 500);
        x.may(0, 0, false);
        Check.same("one line may have none", x.solve(16), 10000 + 30);
        Check.same("it holds nothing", x.refused(0), 10);
    }

    private static void solvingWithoutLots() {
        Check.sentence("Promise 7 without lots", "All is allocated anew");
        AllocateSolve x = new AllocateSolve();
        x.line(0, 1);
        x.line(5, 200);
        Check.same("by rule", x.solve(0), 201000);
        Check.no("no choice may be tried", x.exact());
        Check.same("exactly", x.solve(1), 201000);
        Check.yes("one choice: nothing for all", x.exact());
        Check.same("pieces", x.count(2), 0);
        Check.same("gifts", x.count(3), 0);
    }

    private static void solvingWithoutLines() {
        Check.sentence("Promise 7 without lines", "All is allocated anew");
        AllocateSolve x = new AllocateSolve();
        for (int lot = 0; lot < 8; lot++) {
            x.lot(9, 0, 500, 1);
        }
        Check.same("by rule", x.solve(0), 0);
        Check.no("no choice may be tried", x.exact());
        Check.same("exactly", x.solve(1), 0);
        Check.yes("one choice: the plan of no lines", x.exact());
        Check.same("left of the last", x.left(7), 500);
    }

    private static void solvingWithEmptyLots() {
        Check.sentence("Promise 7 with empty lots", "All is allocated anew");
        AllocateSolve x = new AllocateSolve();
        x.lot(0, 0, 0, 1);
        x.lot(0, 0, 0, 2);
        x.line(0, 4);
        Check.same("choices all the same", x.choices(), 4);
        Check.same("by rule", x.solve(3), 4000);
        Check.no("one too few", x.exact());
        Check.same("exactly", x.solve(4), 4000);
        Check.same("no gifts", x.count(3), 0);
    }

    private static void greatestCosts() {
        Check.sentence("Promise 7", "the cost");
        AllocateSolve x = new AllocateSolve();
        for (int line = 0; line < 6; line++) {
            x.line(0, 200);
        }
        Check.same("six lines are refused all", x.solve(40000), 1200000);
        x.lot(0, 0, 500, 0);
        x.lot(0, 0, 500, 0);
        x.lot(0, 0, 500, 0);
        for (int line = 0; line < 6; line++) {
            for (int lot = 0; lot < 3; lot++) {
                x.cost(lot, line, 1000);
            }
        }
        Check.same("by rule they take at any cost", x.solve(0), 1200000 + 7 * 20);
        Check.same("so does the count tell", x.count(4), 1200000 + 7 * 20);
        Check.same("all is held", x.count(2), 1200);
    }

    private static void notExactBefore() {
        Check.sentence("Promise 8", "(false before)");
        AllocateSolve x = new AllocateSolve();
        Check.no("new", x.exact());
        x.lot(0, 0, 1, 0);
        Check.no("with a lot", x.exact());
        x.line(0, 1);
        Check.no("with a line", x.exact());
        x.change(0, 2);
        x.may(0, 0, true);
        Check.no("with calls of all kinds", x.exact());
        Check.refused("a refused solving", Check.RANGE, () -> x.solve(40001));
        Check.no("is none", x.exact());
    }

    private static void exactIsOfTheLatestSolving() {
        Check.sentence("Promise 8", "Whether the latest solving was exact");
        AllocateSolve x = withPairs(3);
        x.solve(8);
        Check.yes("as many as there are", x.exact());
        x.solve(7);
        Check.no("one too few", x.exact());
        Check.refused("too small", Check.RANGE, () -> x.solve(-1));
        Check.no("refused behind one by rule", x.exact());
        x.solve(9);
        Check.yes("one more than there are", x.exact());
        Check.refused("too large", Check.RANGE, () -> x.solve(40001));
        Check.yes("refused behind an exact one", x.exact());
    }

    private static void exactOutlivesOtherCalls() {
        Check.sentence("Promise 8", "the latest solving");
        AllocateSolve x = new AllocateSolve();
        x.lot(1, 0, 10, 1);
        x.line(0, 5);
        x.solve(2);
        x.lot(1, 0, 10, 1);
        x.line(0, 5);
        Check.same("more choices now", x.choices(), 16);
        Check.yes("lots and lines that came behind it", x.exact());
        x.rule(0, 0, 9999);
        x.may(1, 1, false);
        x.cost(0, 0, 1000);
        Check.yes("rules, costs and bars", x.exact());
        x.change(0, 0);
        x.change(0, 500);
        Check.yes("changes of stock", x.exact());
        Check.refused("undo", Check.STATE, () -> x.undo(0));
        Check.yes("a refused call", x.exact());
    }

    private static void choicesUpToAMillion() {
        Check.sentence("Promise 9", "-1 if they are more than 1000000");
        for (int pairs = 0; pairs <= 48; pairs++) {
            long due = 1L << pairs;
            Check.same("2 to the " + pairs, withPairs(pairs).choices(), due > 1000000 ? -1 : due);
        }
    }

    private static void choicesThatThereAreNow() {
        Check.sentence("Promise 9", "The choices that there are now");
        AllocateSolve x = new AllocateSolve();
        Check.same("neither lots nor lines", x.choices(), 1);
        x.line(0, 1);
        Check.same("no lots", x.choices(), 1);
        x.lot(0, 1, 5, 5);
        Check.same("a lot of another good", x.choices(), 1);
        x.lot(0, 0, 0, 5);
        Check.same("an empty lot of its good", x.choices(), 2);
        x.line(0, 200);
        Check.same("two lines", x.choices(), 4);
        x.rule(0, 0, 5);
        Check.same("on the last day", x.choices(), 4);
        x.rule(0, 0, 6);
        Check.same("a day later", x.choices(), 2);
        x.may(1, 1, false);
        Check.same("barred for the other", x.choices(), 1);
        x.may(1, 1, true);
        x.rule(0, 0, 0);
        x.rule(0, 2, 1);
        x.rule(0, 1, 50);
        x.rule(0, 3, 1);
        Check.same("other rules do not count", x.choices(), 4);
        x.lot(0, 0, 500, 5);
        x.rule(0, 3, 0);
        x.solve(40000);
        Check.same("nor does what is held", x.choices(), 16);
        Check.same("nor few", x.choices(), 16);
        AllocateSolve y = new AllocateSolve();
        y.lot(0, 0, 5, 5);
        Check.same("no lines", y.choices(), 1);
    }

    private static void boundWithoutLinesAndLots() {
        Check.sentence("Promise 10", "for each line .. if it has allowed lots");
        AllocateSolve x = new AllocateSolve();
        Check.same("nothing", x.bound(), 0);
        x.lot(9, 0, 5, 5);
        Check.same("no lines", x.bound(), 0);
        x.line(1, 1);
        Check.same("a line without allowed lots", x.bound(), 1000);
        x.line(0, 1);
        Check.same("one with them", x.bound(), 1029);
        x.rule(1, 0, 6);
        Check.same("which is too late then", x.bound(), 2000);
        x.rule(1, 0, 5);
        x.may(0, 1, false);
        Check.same("or barred", x.bound(), 2000);
        AllocateSolve y = new AllocateSolve();
        y.line(3, 200);
        Check.same("no lots", y.bound(), 200000);
    }

    private static void boundIsTheLesser() {
        Check.sentence("Promise 10", "the lesser of 1000 for each piece that it wants, and .. 20");
        int[] wants = {19, 20, 21};
        int[] due = {19000, 20000, 20999};
        for (int i = 0; i < 3; i++) {
            AllocateSolve x = new AllocateSolve();
            x.lot(0, 0, 500, 0);
            x.line(0, wants[i]);
            x.cost(0, 0, 999);
            Check.same(wants[i] + " pieces at 999", x.bound(), due[i]);
        }
        AllocateSolve y = new AllocateSolve();
        y.lot(0, 0, 1, 0);
        y.line(0, 1);
        int[] costs = {979, 980, 981, 1000};
        int[] bounds = {999, 1000, 1000, 1000};
        for (int i = 0; i < 4; i++) {
            y.cost(0, 0, costs[i]);
            Check.same("a piece at " + costs[i], y.bound(), bounds[i]);
        }
    }

    private static void boundByLeastCost() {
        Check.sentence("Promise 10", "the least cost of these for each");
        AllocateSolve x = new AllocateSolve();
        x.lot(99, 0, 0, 9);
        x.line(0, 10);
        Check.same("an empty lot is allowed too", x.bound(), 1010);
        x.lot(0, 0, 1, 9);
        Check.same("though it has one piece alone", x.bound(), 20);
        x.cost(1, 0, 98);
        Check.same("told", x.bound(), 1000);
        x.cost(0, 0, 0);
        Check.same("told 0 for the other", x.bound(), 20);
        x.cost(0, 0, -1);
        x.cost(1, 0, 99);
        Check.same("both the same", x.bound(), 1010);
        x.lot(0, 1, 500, 9);
        Check.same("of another good", x.bound(), 1010);
        x.rule(0, 1, 50);
        x.rule(0, 2, 1);
        x.rule(0, 3, 1);
        Check.same("other rules do not count", x.bound(), 1010);
        x.solve(0);
        Check.same("nor does what is held", x.bound(), 1010);
    }

    private static void boundOfGreatestNumbers() {
        Check.sentence("Promise 10", "1000 for each piece");
        AllocateSolve x = new AllocateSolve();
        for (int line = 0; line < 6; line++) {
            x.line(0, 200);
        }
        Check.same("six lines without lots", x.bound(), 1200000);
        x.lot(0, 0, 0, 0);
        Check.same("a lot at 0", x.bound(), 120);
        for (int line = 0; line < 6; line++) {
            x.cost(0, line, 999);
        }
        Check.same("at 999", x.bound(), 6 * 199820);
        for (int line = 0; line < 6; line++) {
            x.cost(0, line, 1000);
        }
        Check.same("at 1000", x.bound(), 1200000);
    }

    private static void noPlanIsBelowTheBound() {
        Check.sentence("Promise 10", "A cost that no plan is below");
        for (int pairs = 0; pairs <= 15; pairs++) {
            AllocateSolve x = withPairs(pairs);
            Check.yes("2 to the " + pairs, x.bound() <= x.solve(40000));
        }
        AllocateSolve y = new AllocateSolve();
        y.lot(7, 0, 200, 0);
        y.line(0, 200);
        Check.same("and one may be at it", y.solve(2), y.bound());
    }
}
