import java.util.NoSuchElementException;

/** Promises 11 to 19: give, held, left, bar, change, undo, refused, average, count. */
public final class HoldingTest {
    private static final Class<IllegalArgumentException> RANGE = IllegalArgumentException.class;
    private static final Class<NoSuchElementException> NONE = NoSuchElementException.class;
    private static final Class<IllegalStateException> STATE = IllegalStateException.class;
    private static final int[] NO_NUMBERS = {Integer.MIN_VALUE, -1, 2, Integer.MAX_VALUE};

    public static void main(String[] args) {
        gifts();
        giftsAreCountedWithoutGaps();
        heldAndLeft();
        bars();
        changeLetsTheLastGoFirst();
        changeOfWholeLines();
        changeUpAndDown();
        undoing();
        refusedPieces();
        averages();
        counts();
        noLotsAndLines();
        Check.done("HoldingTest");
    }

    /** Lots 0 and 1 of one good, the second one earlier; lines 0 and 1 that hold 14 and 6 of 20. */
    private static AllocateSolve twoAndTwo() {
        AllocateSolve x = new AllocateSolve();
        x.lot(8, 0, 10, 9);
        x.lot(3, 0, 10, 4);
        x.line(0, 14);
        x.line(0, 6);
        x.solve(0);
        return x;
    }

    private static void gifts() {
        AllocateSolve x = twoAndTwo();
        Check.same("earlier lot first", x.give(0, 0, 0), 1);
        Check.same("its pieces", x.give(0, 0, 1), 10);
        Check.same("its cost", x.give(0, 0, 2), 3);
        Check.same("later lot", x.give(0, 1, 0), 0);
        Check.same("its pieces", x.give(0, 1, 1), 4);
        Check.same("its cost", x.give(0, 1, 2), 8);
        Check.same("gift of the second line", x.give(1, 0, 0), 0);
        Check.same("its pieces", x.give(1, 0, 1), 6);
        x.cost(0, 1, 77);
        Check.same("its cost as it is now", x.give(1, 0, 2), 77);
        Check.refused("third gift", NONE, () -> x.give(0, 2, 0));
        Check.refused("second gift of the second", NONE, () -> x.give(1, 1, 9));
        Check.refused("gift -1", NONE, () -> x.give(0, -1, 9));
        Check.refused("gift far off", NONE, () -> x.give(0, Integer.MAX_VALUE, 0));
        Check.refused("gift far below", NONE, () -> x.give(0, Integer.MIN_VALUE, 0));
        Check.refused("no line", NONE, () -> x.give(2, 0, 9));
        Check.refused("line -1", NONE, () -> x.give(-1, 0, 0));
        Check.refused("what 3", RANGE, () -> x.give(0, 0, 3));
        Check.refused("what -1", RANGE, () -> x.give(0, 0, -1));
        x.rule(0, 0, 9999);
        x.may(1, 0, false);
        Check.same("as it was allocated", x.give(0, 0, 0), 1);
    }

    private static void giftsAreCountedWithoutGaps() {
        AllocateSolve x = twoAndTwo();
        Check.same("the earlier lot goes", x.change(1, 0), 1);
        Check.same("the later is the first gift now", x.give(0, 0, 0), 0);
        Check.refused("and the only one", NONE, () -> x.give(0, 1, 0));
        Check.same("gifts", x.count(3), 2);
        x.lot(1, 0, 50, 0);
        Check.same("a new earlier lot is no gift", x.give(0, 0, 0), 0);
    }

    private static void heldAndLeft() {
        AllocateSolve x = twoAndTwo();
        x.lot(1, 0, 7, 1);
        Check.same("held of the later", x.held(0), 10);
        Check.same("held of the earlier", x.held(1), 10);
        Check.same("held of the new one", x.held(2), 0);
        Check.same("left of the new one", x.left(2), 7);
        x.change(0, 13);
        Check.same("held after more came", x.held(0), 10);
        Check.same("left after more came", x.left(0), 3);
        x.undo(1);
        Check.same("held by the first alone", x.held(0), 4);
        Check.same("left then", x.left(0), 9);
    }

    private static void bars() {
        AllocateSolve x = new AllocateSolve();
        x.line(2, 5);
        Check.same("no lots", x.bar(0), 1);
        x.lot(1, 1, 9, 50);
        Check.same("another good", x.bar(0), 1);
        x.lot(1, 2, 9, 50);
        Check.same("a lot", x.bar(0), 0);
        x.rule(0, 0, 51);
        Check.same("by its day", x.bar(0), 2);
        x.may(1, 0, false);
        Check.same("by its day first", x.bar(0), 2);
        x.rule(0, 0, 50);
        Check.same("barred", x.bar(0), 3);
        x.lot(1, 2, 4, 60);
        Check.same("the other is not", x.bar(0), 0);
        x.rule(0, 1, 5);
        Check.same("but has no five", x.bar(0), 4);
        x.rule(0, 1, 4);
        Check.same("it has four", x.bar(0), 0);
        x.solve(2);
        Check.same("which the line itself holds now", x.bar(0), 4);
        x.undo(0);
        Check.same("and not any more", x.bar(0), 0);
        x.rule(0, 0, 60);
        x.may(2, 0, false);
        x.may(1, 0, true);
        // Lot 1 is open but too early, lot 2 by its day but barred.
        Check.same("of those that are left", x.bar(0), 3);
        x.change(2, 0);
        Check.same("barred before empty", x.bar(0), 3);
        x.may(2, 0, true);
        Check.same("empty", x.bar(0), 4);
    }

    private static void changeLetsTheLastGoFirst() {
        AllocateSolve x = new AllocateSolve();
        x.lot(1, 0, 30, 1);
        for (int line = 0; line < 3; line++) {
            x.line(0, 10);
            x.rule(line, 1, 5);
        }
        x.solve(0);
        Check.same("nothing too much", x.change(0, 30), 0);
        Check.same("one too much", x.change(0, 29), 1);
        Check.same("one piece, whatever the pallet", x.refused(2), 1);
        Check.same("not the second", x.refused(1), 0);
        Check.same("two lines", x.change(0, 13), 2);
        Check.same("all of the last", x.refused(2), 10);
        Check.same("some of the second", x.refused(1), 7);
        Check.same("the last has no fewer now", x.change(0, 11), 1);
        Check.same("left", x.left(0), 0);
        Check.same("held", x.held(0), 11);
        Check.same("the two that hold", x.change(0, 0), 2);
        Check.same("nothing is held", x.count(2), 0);
        Check.same("and none has fewer then", x.change(0, 0), 0);
    }

    private static void changeOfWholeLines() {
        AllocateSolve x = new AllocateSolve();
        x.lot(1, 0, 10, 1);
        x.lot(1, 0, 10, 2);
        x.line(0, 4);
        x.line(0, 12);
        x.rule(1, 3, 1);
        x.solve(0);
        Check.same("of the first lot", x.give(1, 0, 1), 6);
        Check.same("of the second lot", x.give(1, 1, 1), 6);
        Check.same("one too much", x.change(0, 9), 1);
        Check.same("all goes", x.refused(1), 12);
        Check.same("of the second lot too", x.left(1), 10);
        Check.same("what the first leaves", x.left(0), 5);
        Check.same("the first keeps its own", x.refused(0), 0);
        Check.same("no line holds too much", x.change(0, 4), 0);
        x.change(0, 10);
        x.solve(0);
        x.rule(1, 3, 0);
        Check.same("not for whole any more", x.change(1, 5), 1);
        Check.same("so one piece goes", x.refused(1), 1);
        x.rule(1, 3, 1);
        Check.same("for whole again, and all goes", x.change(0, 3), 2);
        Check.same("the whole one", x.refused(1), 12);
        Check.same("and one piece of the first", x.refused(0), 1);
    }

    private static void changeUpAndDown() {
        AllocateSolve x = twoAndTwo();
        Check.same("up", x.change(0, 500), 0);
        Check.same("left", x.left(0), 490);
        Check.same("down to what is held", x.change(0, 10), 0);
        int[] wrong = {Integer.MIN_VALUE, -1, 501, Integer.MAX_VALUE};
        for (int n : wrong) {
            Check.refused("change to " + n, RANGE, () -> x.change(0, n));
            Check.refused("change of no lot to " + n, NONE, () -> x.change(2, n));
        }
        Check.same("nothing came of it", x.held(0) + x.left(0), 10);
        x.change(0, 0);
        x.change(0, 10);
        Check.same("what was let go does not come back", x.held(0), 0);
        Check.same("until it is solved", x.solve(0), 3 * 10 + 8 * 10 + 60);
    }

    private static void undoing() {
        AllocateSolve x = twoAndTwo();
        Check.same("of both lots", x.undo(0), 14);
        Check.same("left of the later", x.left(0), 4);
        Check.same("left of the earlier", x.left(1), 10);
        Check.refused("nothing is left to undo", STATE, () -> x.undo(0));
        Check.same("the other still holds", x.undo(1), 6);
        Check.refused("nor here", STATE, () -> x.undo(1));
        AllocateSolve y = new AllocateSolve();
        y.line(0, 1);
        Check.refused("before a solving", STATE, () -> y.undo(0));
    }

    private static void refusedPieces() {
        AllocateSolve x = new AllocateSolve();
        x.lot(1, 0, 10, 1);
        x.line(0, 14);
        Check.same("before a solving", x.refused(0), 14);
        x.solve(2);
        Check.same("what is missing", x.refused(0), 4);
        x.change(0, 3);
        Check.same("after a change", x.refused(0), 11);
        x.undo(0);
        Check.same("after undo", x.refused(0), 14);
    }

    private static void averages() {
        AllocateSolve x = twoAndTwo();
        // 10 pieces at 3 and 4 at 8 are 62 for 14.
        Check.same("a rest is dropped", x.average(0), 4);
        Check.same("one lot", x.average(1), 8);
        x.cost(0, 0, 1000);
        Check.same("as costs are now", x.average(0), 4030 / 14);
        x.cost(0, 0, 0);
        x.cost(1, 0, 0);
        Check.same("nothing", x.average(0), 0);
        x.undo(0);
        Check.refused("it holds none", ArithmeticException.class, () -> x.average(0));
        Check.same("the other does", x.average(1), 8);
    }

    private static void counts() {
        AllocateSolve x = new AllocateSolve();
        x.lot(8, 0, 10, 9);
        x.lot(3, 0, 10, 4);
        x.line(0, 14);
        x.line(0, 6);
        x.line(1, 2);
        Check.same("all is refused before a solving", x.count(4), 22000);
        x.solve(0);
        Check.same("lots", x.count(0), 2);
        Check.same("lines", x.count(1), 3);
        Check.same("pieces", x.count(2), 20);
        Check.same("gifts", x.count(3), 3);
        Check.same("cost", x.count(4), 30 + 32 + 48 + 60 + 2000);
        x.cost(0, 1, 9);
        Check.same("cost as it is now", x.count(4), 30 + 32 + 54 + 60 + 2000);
        x.undo(0);
        Check.same("pieces then", x.count(2), 6);
        Check.same("gifts then", x.count(3), 1);
        Check.same("cost then", x.count(4), 14000 + 54 + 20 + 2000);
        x.line(1, 3);
        Check.same("a new line is refused all", x.count(4), 14000 + 54 + 20 + 5000);
        int[] others = {Integer.MIN_VALUE, -1, 5, Integer.MAX_VALUE};
        for (int what : others) {
            Check.same("count(" + what + ")", x.count(what), -1);
        }
    }

    private static void noLotsAndLines() {
        AllocateSolve x = twoAndTwo();
        for (int no : NO_NUMBERS) {
            Check.refused("held " + no, NONE, () -> x.held(no));
            Check.refused("left " + no, NONE, () -> x.left(no));
            Check.refused("bar " + no, NONE, () -> x.bar(no));
            Check.refused("change " + no, NONE, () -> x.change(no, 0));
            Check.refused("undo " + no, NONE, () -> x.undo(no));
            Check.refused("refused " + no, NONE, () -> x.refused(no));
            Check.refused("average " + no, NONE, () -> x.average(no));
            Check.refused("give " + no, NONE, () -> x.give(no, 0, 0));
            Check.refused("rule " + no, NONE, () -> x.rule(no, 0, 0));
            Check.refused("cost of " + no, NONE, () -> x.cost(no, 0, 0));
            Check.refused("cost for " + no, NONE, () -> x.cost(0, no, 0));
            Check.refused("may of " + no, NONE, () -> x.may(no, 0, true));
            Check.refused("may for " + no, NONE, () -> x.may(0, no, true));
        }
        Check.same("nothing came of it", x.count(4), 30 + 32 + 48 + 60);
    }
}
