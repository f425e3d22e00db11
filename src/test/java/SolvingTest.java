/** Promises 7 to 10: solve, exact, choices, bound. */
public final class SolvingTest {
    private static final Class<IllegalArgumentException> RANGE = IllegalArgumentException.class;

    public static void main(String[] args) {
        rangeOfMost();
        exactFromAsManyAsThereAre();
        leastCost();
        tiesByLeastSets();
        linesTakeAsNumbered();
        byRuleEmptyLotsCount();
        allocatedAnew();
        choicesAtTheirLimit();
        bounds();
        Check.done("SolvingTest");
    }

    private static void rangeOfMost() {
        AllocateSolve x = new AllocateSolve();
        x.lot(3, 0, 5, 1);
        x.line(0, 5);
        x.solve(40000);
        int[] wrong = {Integer.MIN_VALUE, -1, 40001, Integer.MAX_VALUE};
        for (int most : wrong) {
            Check.refused("solve(" + most + ")", RANGE, () -> x.solve(most));
        }
        Check.yes("a refused solving changes nothing", x.exact());
        Check.same("nor what is held", x.held(0), 5);
    }

    private static void exactFromAsManyAsThereAre() {
        AllocateSolve x = new AllocateSolve();
        x.lot(1, 0, 5, 1);
        x.lot(1, 0, 5, 2);
        x.line(0, 1);
        x.line(1, 1);
        x.line(0, 1);
        Check.no("before", x.exact());
        Check.same("choices", x.choices(), 16);
        x.solve(15);
        Check.no("one too few", x.exact());
        x.solve(16);
        Check.yes("as many", x.exact());
        x.lot(1, 0, 0, 3);
        Check.yes("the latest solving", x.exact());
        x.solve(16);
        Check.no("more choices now", x.exact());
        x.solve(17);
        Check.no("still too few", x.exact());
        x.solve(64);
        Check.yes("as many again", x.exact());
    }

    private static void leastCost() {
        AllocateSolve x = new AllocateSolve();
        x.lot(40, 0, 10, 1);
        x.lot(10, 0, 10, 2);
        x.line(0, 10);
        x.line(0, 10);
        x.cost(0, 1, 900);
        // The first one leaves the cheap lot to the second one, for which the other is dear.
        Check.same("least cost", x.solve(16), 10 * 40 + 10 * 10 + 40);
        Check.same("lot of the first", x.give(0, 0, 0), 0);
        Check.same("lot of the second", x.give(1, 0, 0), 1);
        x.cost(0, 1, 0);
        Check.same("least cost then", x.solve(16), 10 * 10 + 0 + 40);
        Check.same("lot of the first then", x.give(0, 0, 0), 1);
        Check.same("lot of the second then", x.give(1, 0, 0), 0);
        x.cost(0, 0, 998);
        x.cost(1, 0, 998);
        Check.same("refusing costs 1000 a piece, a gift 20", x.solve(16), 10000 + 20);
        Check.same("so the first gets nothing", x.refused(0), 10);
        x.cost(1, 0, 997);
        Check.same("ten less", x.solve(16), 9970 + 20 + 20);
        Check.same("so the first gets all", x.refused(0), 0);
    }

    private static void tiesByLeastSets() {
        AllocateSolve x = new AllocateSolve();
        x.lot(5, 0, 10, 9);
        x.lot(5, 0, 10, 3);
        x.line(0, 10);
        x.line(0, 10);
        x.solve(16);
        Check.same("set 1 is the earlier lot", x.give(0, 0, 0), 1);
        Check.same("set 2 is left for the second", x.give(1, 0, 0), 0);
        AllocateSolve y = new AllocateSolve();
        y.lot(5, 0, 1, 1);
        y.line(0, 1);
        y.line(0, 1);
        // One of the two goes empty at the same cost: the first, for 0 is its least set.
        Check.same("one piece for two", y.solve(4), 1025);
        Check.same("the first is refused", y.refused(0), 1);
        Check.same("the second is not", y.refused(1), 0);
        y.solve(3);
        Check.same("by rule the first is not refused", y.refused(0), 0);
        AllocateSolve z = new AllocateSolve();
        z.lot(0, 0, 1, 1);
        z.line(0, 1);
        z.cost(0, 0, 980);
        Check.same("980 and 20 are 1000 too", z.solve(2), 1000);
        Check.same("then nothing is the least set", z.count(3), 0);
    }

    private static void linesTakeAsNumbered() {
        AllocateSolve x = new AllocateSolve();
        x.lot(1, 0, 7, 1);
        x.lot(2, 0, 7, 2);
        x.line(0, 10);
        x.line(0, 10);
        Check.same("by rule", x.solve(0), 7 + 3 * 2 + 40 + 4 * 2 + 20 + 6000);
        Check.same("the first has all", x.refused(0), 0);
        Check.same("the second has the rest", x.refused(1), 6);
        Check.same("of the second lot", x.give(1, 0, 0), 1);
    }

    private static void byRuleEmptyLotsCount() {
        AllocateSolve x = new AllocateSolve();
        x.lot(1, 0, 0, 1);
        x.lot(1, 0, 5, 2);
        x.line(0, 5);
        x.rule(0, 2, 1);
        Check.same("by rule the first lot, though it is empty", x.solve(0), 5000);
        Check.same("exactly the other", x.solve(4), 25);
    }

    private static void allocatedAnew() {
        AllocateSolve x = new AllocateSolve();
        x.lot(1, 0, 10, 1);
        x.lot(9, 0, 10, 2);
        x.line(0, 10);
        Check.same("first", x.solve(4), 30);
        Check.same("again the same", x.solve(4), 30);
        x.may(0, 0, false);
        Check.same("what is held stays", x.held(0), 10);
        Check.same("anew", x.solve(4), 110);
        Check.same("let go", x.held(0), 0);
        Check.same("left again", x.left(0), 10);
        Check.same("held instead", x.held(1), 10);
        x.rule(0, 0, 3);
        Check.same("no lot is allowed", x.solve(4), 10000);
        Check.same("nothing is held", x.count(2), 0);
    }

    private static void choicesAtTheirLimit() {
        AllocateSolve x = new AllocateSolve();
        for (int lot = 0; lot < 7; lot++) {
            x.lot(1, 0, 1, 1);
        }
        x.line(0, 1);
        x.line(0, 1);
        x.line(0, 1);
        Check.same("2 to the 21", x.choices(), -1);
        x.may(6, 2, false);
        Check.same("2 to the 20", x.choices(), -1);
        x.may(0, 0, false);
        Check.same("2 to the 19", x.choices(), 524288);
        Check.same("too many to try", x.solve(40000), 3 * 21);
        Check.no("by rule", x.exact());
        x.line(0, 1);
        x.line(0, 1);
        x.line(0, 1);
        Check.same("2 to the 40", x.choices(), -1);
        x.solve(40000);
        Check.no("by rule for very many", x.exact());
        for (int line = 2; line < 6; line++) {
            for (int lot = 0; lot < 7; lot++) {
                x.may(lot, line, false);
            }
        }
        x.may(0, 0, true);
        x.may(0, 2, true);
        Check.same("2 to the 15", x.choices(), 32768);
        Check.same("all of them are tried", x.solve(32768), 3 * 21 + 3000);
        Check.yes("exact", x.exact());
    }

    private static void bounds() {
        AllocateSolve x = new AllocateSolve();
        x.line(0, 3);
        Check.same("without lots", x.bound(), 3000);
        x.lot(99, 0, 0, 1);
        Check.same("an empty lot is allowed", x.bound(), 3 * 99 + 20);
        x.lot(7, 0, 2, 1);
        Check.same("the least cost for each", x.bound(), 3 * 7 + 20);
        x.lot(2, 1, 9, 1);
        Check.same("another good does not count", x.bound(), 3 * 7 + 20);
        x.may(1, 0, false);
        Check.same("nor a barred lot", x.bound(), 3 * 99 + 20);
        x.cost(0, 0, 993);
        Check.same("just below 1000", x.bound(), 3 * 993 + 20);
        x.cost(0, 0, 994);
        Check.same("the lesser", x.bound(), 3000);
        x.line(1, 10);
        Check.same("of all lines", x.bound(), 3000 + 40);
        x.rule(1, 0, 2);
        Check.same("by the day", x.bound(), 3000 + 10000);
    }
}
