import java.util.NoSuchElementException;

/** Promises 1 to 6: a new object, lot, line, rule, cost, may. */
public final class LotsAndLinesTest {
    private static final Class<IllegalArgumentException> RANGE = IllegalArgumentException.class;
    private static final Class<NoSuchElementException> NONE = NoSuchElementException.class;
    private static final Class<UnsupportedOperationException> FULL = UnsupportedOperationException.class;

    public static void main(String[] args) {
        newObject();
        lots();
        orderOfLots();
        lines();
        ranges();
        rulesAtFirst();
        dayRule();
        palletRule();
        fewRule();
        wholeRule();
        costs();
        barring();
        objectsAreApart();
        Check.done("LotsAndLinesTest");
    }

    private static void newObject() {
        AllocateSolve x = new AllocateSolve();
        for (int what = 0; what <= 4; what++) {
            Check.same("new: count(" + what + ")", x.count(what), 0);
        }
        Check.no("new: exact", x.exact());
        Check.same("new: choices", x.choices(), 1);
        Check.same("new: bound", x.bound(), 0);
        Check.refused("new: held(0)", NONE, () -> x.held(0));
        Check.refused("new: refused(0)", NONE, () -> x.refused(0));
        Check.same("new: solve(1)", x.solve(1), 0);
        Check.yes("new: solved with one choice", x.exact());
        Check.same("new: solve(0)", x.solve(0), 0);
        Check.no("new: no choices may be tried", x.exact());
    }

    private static void lots() {
        AllocateSolve x = new AllocateSolve();
        Check.same("first lot", x.lot(0, 0, 0, 0), 0);
        Check.same("second lot", x.lot(99, 5, 500, 9999), 1);
        Check.same("pieces of the first", x.left(0), 0);
        Check.same("pieces of the second", x.left(1), 500);
        Check.refused("lot out of range", RANGE, () -> x.lot(-1, 0, 0, 0));
        Check.same("a refused lot is none", x.count(0), 2);
        for (int lot = 2; lot < 8; lot++) {
            Check.same("lot as it comes", x.lot(1, 1, lot, 1), lot);
        }
        Check.refused("ninth lot", FULL, () -> x.lot(1, 1, 1, 1));
        Check.refused("ninth lot out of range", RANGE, () -> x.lot(1, 1, 501, 1));
        Check.same("eight lots", x.count(0), 8);
        Check.same("eighth lot", x.left(7), 7);
    }

    /** The lots come worst first; what a line takes by rule then shows their order. */
    private static void orderOfLots() {
        AllocateSolve x = new AllocateSolve();
        x.lot(1, 0, 1, 30);
        x.lot(7, 0, 1, 20);
        x.lot(7, 0, 1, 20);
        x.lot(3, 0, 1, 20);
        x.lot(90, 0, 1, 10);
        x.lot(2, 0, 1, 30);
        x.line(0, 10);
        x.solve(0);
        int[] due = {4, 3, 1, 2, 0, 5};
        for (int i = 0; i < due.length; i++) {
            Check.same("order of lots, " + i, x.give(0, i, 0), due[i]);
        }
    }

    private static void lines() {
        AllocateSolve x = new AllocateSolve();
        Check.same("first line", x.line(0, 1), 0);
        Check.same("second line", x.line(5, 200), 1);
        Check.same("the first wants", x.refused(0), 1);
        Check.same("the second wants", x.refused(1), 200);
        Check.refused("line out of range", RANGE, () -> x.line(0, 0));
        Check.same("a refused line is none", x.count(1), 2);
        for (int line = 2; line < 6; line++) {
            Check.same("line as it comes", x.line(0, 3), line);
        }
        Check.refused("seventh line", FULL, () -> x.line(0, 1));
        Check.refused("seventh line out of range", RANGE, () -> x.line(6, 1));
        Check.same("six lines", x.count(1), 6);
    }

    private static void ranges() {
        AllocateSolve x = new AllocateSolve();
        int[] far = {Integer.MIN_VALUE, -1, Integer.MAX_VALUE};
        for (int v : far) {
            Check.refused("place " + v, RANGE, () -> x.lot(v, 0, 0, 0));
            Check.refused("good " + v, RANGE, () -> x.lot(0, v, 0, 0));
            Check.refused("pieces " + v, RANGE, () -> x.lot(0, 0, v, 0));
            Check.refused("last day " + v, RANGE, () -> x.lot(0, 0, 0, v));
            Check.refused("good of a line " + v, RANGE, () -> x.line(v, 1));
            Check.refused("wanted " + v, RANGE, () -> x.line(0, v));
        }
        Check.refused("place 100", RANGE, () -> x.lot(100, 0, 0, 0));
        Check.refused("good 6", RANGE, () -> x.lot(0, 6, 0, 0));
        Check.refused("pieces 501", RANGE, () -> x.lot(0, 0, 501, 0));
        Check.refused("last day 10000", RANGE, () -> x.lot(0, 0, 0, 10000));
        Check.refused("good of a line 6", RANGE, () -> x.line(6, 1));
        Check.refused("wanted 201", RANGE, () -> x.line(0, 201));
        Check.same("nothing came of it", x.count(0) + x.count(1), 0);
    }

    private static void rulesAtFirst() {
        AllocateSolve x = new AllocateSolve();
        for (int lot = 0; lot < 8; lot++) {
            x.lot(0, 0, 3, 0);
        }
        x.line(0, 25);
        // DAY 0, PALLET 1, FEW 8 and WHOLE 0: all eight lots, by threes, though one piece is missing.
        Check.same("rules at first", x.solve(256), 8 * 20 + 1000);
        Check.same("gifts at first", x.count(3), 8);
    }

    private static void dayRule() {
        AllocateSolve x = new AllocateSolve();
        x.lot(1, 0, 5, 9999);
        x.lot(1, 0, 5, 9998);
        x.line(0, 4);
        int[][] wrong = {{0, -1}, {0, 10000}, {1, 0}, {1, 51}, {2, 0}, {2, 9}, {3, -1}, {3, 2}, {-1, 0}, {4, 0},
            {Integer.MIN_VALUE, 1}, {Integer.MAX_VALUE, 1}, {0, Integer.MIN_VALUE}, {3, Integer.MAX_VALUE}};
        for (int[] one : wrong) {
            Check.refused("rule " + one[0] + " " + one[1], RANGE, () -> x.rule(0, one[0], one[1]));
        }
        Check.refused("rule of no line", NONE, () -> x.rule(1, 9, 9));
        Check.refused("rule of line -1", NONE, () -> x.rule(-1, 0, 0));
        Check.same("nothing came of wrong rules", x.choices(), 4);
        x.rule(0, 0, 9998);
        Check.same("a last day on the day", x.choices(), 4);
        x.rule(0, 0, 9999);
        Check.same("a last day before the day", x.choices(), 2);
        Check.same("takes of the later lot", x.solve(2), 24);
        Check.same("that lot", x.give(0, 0, 0), 0);
        x.rule(0, 0, 0);
        Check.same("no day again", x.choices(), 4);
    }

    private static void palletRule() {
        AllocateSolve x = new AllocateSolve();
        x.lot(1, 0, 49, 1);
        x.lot(2, 0, 120, 2);
        x.line(0, 199);
        x.rule(0, 1, 50);
        Check.same("by fifties", x.solve(4), 2 * 100 + 20 + 99 * 1000);
        x.rule(0, 1, 7);
        // 49 of the first, then 119 of the 120 of the second.
        Check.same("by sevens", x.solve(4), 49 + 2 * 119 + 40 + 31 * 1000);
        Check.same("pieces of the second", x.give(0, 1, 1), 119);
        x.rule(0, 1, 1);
        Check.same("by ones", x.solve(4), 49 + 2 * 120 + 40 + 30 * 1000);
    }

    private static void fewRule() {
        AllocateSolve x = new AllocateSolve();
        x.lot(1, 0, 10, 1);
        x.lot(1, 0, 20, 2);
        x.lot(1, 0, 15, 3);
        x.line(0, 40);
        x.rule(0, 2, 2);
        Check.same("choices are the same for few lots", x.choices(), 8);
        Check.same("the best two", x.solve(8), 35 + 40 + 5 * 1000);
        Check.same("the first of them", x.give(0, 0, 0), 1);
        Check.same("the second of them", x.give(0, 1, 0), 2);
        Check.same("by rule the first two", x.solve(7), 30 + 40 + 10 * 1000);
        Check.same("the first by rule", x.give(0, 0, 0), 0);
        Check.same("the second by rule", x.give(0, 1, 0), 1);
        x.rule(0, 2, 1);
        Check.same("the best one", x.solve(8), 20 + 20 + 20 * 1000);
        x.rule(0, 2, 3);
        Check.same("three", x.solve(8), 40 + 60);
    }

    private static void wholeRule() {
        AllocateSolve x = new AllocateSolve();
        x.lot(1, 0, 10, 1);
        x.line(0, 11);
        x.line(0, 10);
        x.rule(0, 3, 1);
        x.rule(1, 3, 1);
        Check.same("the first gets nothing, so the second gets all", x.solve(0), 11000 + 10 + 20);
        Check.same("nothing for the first", x.refused(0), 11);
        Check.same("all for the second", x.refused(1), 0);
        x.rule(0, 3, 0);
        Check.same("the first takes all now", x.solve(0), 10 + 20 + 1000 + 10000);
        Check.same("nothing for the second", x.refused(1), 10);
    }

    private static void costs() {
        AllocateSolve x = new AllocateSolve();
        x.lot(50, 0, 10, 1);
        x.line(0, 2);
        x.line(0, 3);
        x.solve(4);
        Check.same("the place", x.give(1, 0, 2), 50);
        x.cost(0, 1, 0);
        Check.same("told: nothing", x.give(1, 0, 2), 0);
        Check.same("not told for the other line", x.give(0, 0, 2), 50);
        x.cost(0, 1, 1000);
        Check.same("told: 1000", x.give(1, 0, 2), 1000);
        Check.refused("cost 1001", RANGE, () -> x.cost(0, 1, 1001));
        Check.refused("cost -2", RANGE, () -> x.cost(0, 1, -2));
        Check.refused("cost of no lot", NONE, () -> x.cost(1, 0, -2));
        Check.refused("cost of lot -1", NONE, () -> x.cost(-1, 0, 0));
        Check.refused("cost for no line", NONE, () -> x.cost(0, 2, -2));
        Check.refused("cost for line -1", NONE, () -> x.cost(0, -1, 0));
        Check.same("still told: 1000", x.give(1, 0, 2), 1000);
        x.cost(0, 1, -1);
        Check.same("the place again", x.give(1, 0, 2), 50);
        x.lot(60, 0, 1, 0);
        x.line(0, 1);
        x.solve(0);
        Check.same("a later lot has its place", x.give(0, 0, 2), 60);
        Check.same("for a later line too", x.give(2, 0, 2), 50);
    }

    private static void barring() {
        AllocateSolve x = new AllocateSolve();
        x.lot(1, 0, 0, 5);
        x.lot(1, 1, 9, 5);
        x.line(0, 1);
        x.line(0, 1);
        Check.yes("an empty lot of the good is allowed", x.may(0, 0, true));
        Check.no("a lot of another good is not", x.may(1, 0, true));
        Check.no("barred", x.may(0, 0, false));
        Check.no("barred again", x.may(0, 0, false));
        Check.same("open for the other line alone", x.choices(), 2);
        Check.yes("not barred any more", x.may(0, 0, true));
        x.rule(0, 0, 6);
        Check.no("not by the day", x.may(0, 0, true));
        x.rule(0, 0, 5);
        Check.yes("by the day", x.may(0, 0, true));
        Check.refused("may of no lot", NONE, () -> x.may(2, 0, true));
        Check.refused("may of lot -1", NONE, () -> x.may(-1, 0, true));
        Check.refused("may for no line", NONE, () -> x.may(0, 2, true));
        Check.refused("may for line -1", NONE, () -> x.may(0, -1, true));
        Check.same("both open", x.choices(), 4);
    }

    private static void objectsAreApart() {
        AllocateSolve x = new AllocateSolve();
        AllocateSolve y = new AllocateSolve();
        x.lot(1, 1, 1, 1);
        x.line(1, 1);
        x.rule(0, 1, 9);
        y.lot(2, 1, 1, 1);
        y.line(1, 1);
        Check.same("the one's pallet", x.solve(9), 1000);
        Check.same("the other's pallet", y.solve(9), 22);
    }
}
