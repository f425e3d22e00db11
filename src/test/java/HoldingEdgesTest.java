/** Promises 11 to 19 at their edges: each method asks about one sentence of the document. */
public final class HoldingEdgesTest {
    public static void main(String[] args) {
        giftsOfALine();
        giftsOfNothingAreNone();
        giftsAsAllocated();
        whatOfAGift();
        costOfAGiftAsItIsNow();
        heldPieces();
        leftPieces();
        noneHasItsGood();
        noneIsByItsDay();
        allAreBarred();
        noneHasAPallet();
        eachAskedOfThoseThatAreLeft();
        changeWithinItsRange();
        changeOutsideItsRange();
        ifLinesHoldMore();
        theLastLineFirst();
        howManyLinesHaveFewer();
        aWholeLineLetsGoAll();
        asSoonAsItHasToLetGo();
        changeOfNoLot();
        undoLetsGoAll();
        undoOfNothing();
        refusedPieces();
        averageDropsRests();
        averageByCostsAsTheyAreNow();
        averageOfNone();
        countOfLotsAndLines();
        countOfPiecesAndGifts();
        countOfCost();
        countOfAnotherWhat();
        Check.done("HoldingEdgesTest");
    }

    /** Eight lots of two pieces each, as they come in order, and a line that has all of them. */
    private static AllocateSolve eightGifts() {
        AllocateSolve x = new AllocateSolve();
        for (int lot = 0; lot < 8; lot++) {
            x.lot(10 + lot, 0, 2, lot);
        }
        x.line(0, 16);
        x.solve(0);
        return x;
    }

    /** One lot of 30 pieces, of which three lines hold ten each. */
    private static AllocateSolve threeTens() {
        AllocateSolve x = new AllocateSolve();
        x.lot(1, 0, 30, 1);
        x.line(0, 10);
        x.line(0, 10);
        x.line(0, 10);
        x.solve(0);
        return x;
    }

    private static void giftsOfALine() {
        Check.sentence("Promise 11", "gift i of a line");
        AllocateSolve x = eightGifts();
        Check.same("first gift", x.give(0, 0, 0), 0);
        Check.same("last gift", x.give(0, 7, 0), 7);
        Check.same("its pieces", x.give(0, 7, 1), 2);
        Check.same("its cost", x.give(0, 7, 2), 17);
        for (int no : Check.beyond(8)) {
            Check.refused("gift " + no, Check.NONE, () -> x.give(0, no, 0));
            Check.refused("gift " + no + ", wrong what", Check.NONE, () -> x.give(0, no, 3));
        }
        for (int no : Check.beyond(1)) {
            Check.refused("line " + no, Check.NONE, () -> x.give(no, 0, 0));
            Check.refused("line " + no + ", wrong what", Check.NONE, () -> x.give(no, 0, -1));
            Check.refused("line and gift " + no, Check.NONE, () -> x.give(no, no, 3));
        }
    }

    private static void giftsOfNothingAreNone() {
        Check.sentence("Promise 11", "gifts of nothing are none");
        AllocateSolve x = new AllocateSolve();
        x.lot(1, 0, 0, 1);
        x.lot(1, 0, 3, 2);
        x.lot(1, 0, 4, 3);
        x.line(0, 6);
        x.line(0, 1);
        x.rule(0, 1, 4);
        Check.refused("before a solving", Check.NONE, () -> x.give(0, 0, 0));
        x.solve(0);
        // The first lot is empty, and the second one has no four.
        Check.same("the only gift", x.give(0, 0, 0), 2);
        Check.same("its pieces", x.give(0, 0, 1), 4);
        Check.refused("no second gift", Check.NONE, () -> x.give(0, 1, 0));
        Check.same("the other line's", x.give(1, 0, 0), 1);
        x.undo(0);
        Check.refused("behind undo", Check.NONE, () -> x.give(0, 0, 0));
        x.change(1, 2);
        Check.same("still held", x.give(1, 0, 1), 1);
        x.change(1, 0);
        Check.refused("behind a change to nothing", Check.NONE, () -> x.give(1, 0, 0));
    }

    private static void giftsAsAllocated() {
        Check.sentence("Promise 11", "as it was allocated, in the order of lots");
        AllocateSolve x = new AllocateSolve();
        x.lot(9, 0, 1, 9999);
        x.lot(9, 0, 1, 0);
        x.lot(0, 0, 1, 9999);
        x.line(0, 3);
        x.solve(8);
        int[] due = {1, 2, 0};
        x.rule(0, 0, 9999);
        x.rule(0, 1, 50);
        x.rule(0, 2, 1);
        x.rule(0, 3, 1);
        x.may(0, 0, false);
        x.lot(0, 0, 500, 0);
        for (int i = 0; i < 3; i++) {
            Check.same("gift " + i + " behind other rules and a new lot", x.give(0, i, 0), due[i]);
            Check.same("its pieces", x.give(0, i, 1), 1);
        }
        Check.refused("no gift came of the new lot", Check.NONE, () -> x.give(0, 3, 0));
    }

    private static void whatOfAGift() {
        Check.sentence("Promise 11", "0 its lot, 1 pieces, 2 the cost");
        AllocateSolve x = eightGifts();
        Check.same("what 0", x.give(0, 3, 0), 3);
        Check.same("what 1", x.give(0, 3, 1), 2);
        Check.same("what 2", x.give(0, 3, 2), 13);
        for (int what : Check.outside(0, 2)) {
            Check.refused("what " + what, Check.RANGE, () -> x.give(0, 3, what));
            Check.refused("what " + what + " of the first", Check.RANGE, () -> x.give(0, 0, what));
            Check.refused("what " + what + " of none", Check.NONE, () -> x.give(0, 8, what));
        }
    }

    private static void costOfAGiftAsItIsNow() {
        Check.sentence("Promise 11", "the cost of a piece as it is now");
        AllocateSolve x = eightGifts();
        x.cost(7, 0, 0);
        Check.same("told 0", x.give(0, 7, 2), 0);
        x.cost(7, 0, 1000);
        Check.same("told 1000", x.give(0, 7, 2), 1000);
        x.cost(7, 0, -1);
        Check.same("the place", x.give(0, 7, 2), 17);
    }

    private static void heldPieces() {
        Check.sentence("Promise 12", "Pieces of a lot that lines hold");
        AllocateSolve x = new AllocateSolve();
        for (int lot = 0; lot < 8; lot++) {
            x.lot(0, lot == 7 ? 1 : 0, lot == 0 ? 0 : 500, 0);
        }
        Check.same("no lines", x.held(7), 0);
        x.line(1, 200);
        x.line(1, 200);
        x.line(1, 200);
        Check.same("before a solving", x.held(7), 0);
        x.solve(0);
        Check.same("all of 500, by three lines", x.held(7), 500);
        Check.same("of an empty lot", x.held(0), 0);
        Check.same("of a lot that none takes", x.held(6), 0);
        x.undo(1);
        Check.same("by two lines", x.held(7), 300);
        x.change(7, 0);
        Check.same("the lot is empty", x.held(7), 0);
        for (int no : Check.beyond(8)) {
            Check.refused("lot " + no, Check.NONE, () -> x.held(no));
        }
    }

    private static void leftPieces() {
        Check.sentence("Promise 13", "Pieces of a lot that nobody holds");
        AllocateSolve x = new AllocateSolve();
        for (int lot = 0; lot < 8; lot++) {
            x.lot(0, lot == 7 ? 1 : 0, lot == 0 ? 0 : 500, 0);
        }
        Check.same("no lines", x.left(7), 500);
        x.line(1, 200);
        x.line(1, 200);
        x.line(1, 100);
        Check.same("before a solving", x.left(7), 500);
        x.solve(0);
        Check.same("nothing of 500", x.left(7), 0);
        Check.same("of an empty lot", x.left(0), 0);
        Check.same("of a lot that none takes", x.left(6), 500);
        x.undo(2);
        Check.same("what a line let go", x.left(7), 100);
        x.change(7, 400);
        Check.same("just what is held", x.left(7), 0);
        x.change(7, 401);
        Check.same("one more", x.left(7), 1);
        x.change(7, 399);
        Check.same("one fewer", x.left(7), 0);
        for (int no : Check.beyond(8)) {
            Check.refused("lot " + no, Check.NONE, () -> x.left(no));
        }
    }

    private static void noneHasItsGood() {
        Check.sentence("Promise 14", "1 none has its good");
        AllocateSolve x = new AllocateSolve();
        x.line(5, 1);
        Check.same("no lots", x.bar(0), 1);
        for (int good = 0; good < 5; good++) {
            x.lot(0, good, 500, 9999);
        }
        Check.same("all other goods", x.bar(0), 1);
        x.lot(0, 5, 1, 0);
        Check.same("its good", x.bar(0), 0);
        for (int no : Check.beyond(1)) {
            Check.refused("line " + no, Check.NONE, () -> x.bar(no));
        }
    }

    private static void noneIsByItsDay() {
        Check.sentence("Promise 14", "2 none is by its day");
        AllocateSolve x = new AllocateSolve();
        x.lot(0, 0, 1, 0);
        x.line(0, 1);
        Check.same("last day 0, day 0", x.bar(0), 0);
        x.rule(0, 0, 1);
        Check.same("last day 0, day 1", x.bar(0), 2);
        x.lot(0, 0, 1, 9998);
        x.rule(0, 0, 9998);
        Check.same("last day 9998, day 9998", x.bar(0), 0);
        x.rule(0, 0, 9999);
        Check.same("last day 9998, day 9999", x.bar(0), 2);
        x.lot(0, 0, 1, 9999);
        Check.same("last day 9999, day 9999", x.bar(0), 0);
    }

    private static void allAreBarred() {
        Check.sentence("Promise 14", "3 all are barred");
        AllocateSolve x = new AllocateSolve();
        for (int lot = 0; lot < 8; lot++) {
            x.lot(0, 0, 1, 0);
        }
        x.line(0, 1);
        x.line(0, 1);
        for (int lot = 0; lot < 8; lot++) {
            Check.same(lot + " barred", x.bar(0), 0);
            x.may(lot, 0, false);
        }
        Check.same("all barred", x.bar(0), 3);
        Check.same("for the other line none is", x.bar(1), 0);
        x.may(7, 0, true);
        Check.same("the last opened", x.bar(0), 0);
    }

    private static void noneHasAPallet() {
        Check.sentence("Promise 14", "4 none has a pallet's pieces that nobody holds");
        AllocateSolve x = new AllocateSolve();
        x.lot(0, 0, 0, 0);
        x.line(0, 200);
        Check.same("no piece for a pallet of 1", x.bar(0), 4);
        x.change(0, 1);
        Check.same("one piece for a pallet of 1", x.bar(0), 0);
        x.rule(0, 1, 50);
        x.change(0, 49);
        Check.same("49 for a pallet of 50", x.bar(0), 4);
        x.lot(0, 0, 49, 0);
        Check.same("49 twice", x.bar(0), 4);
        x.change(0, 50);
        Check.same("50 for a pallet of 50", x.bar(0), 0);
        x.line(0, 1);
        x.may(1, 1, false);
        x.may(0, 0, false);
        x.solve(0);
        x.may(0, 0, true);
        Check.same("one of 50 is held by another line", x.bar(0), 4);
        x.undo(1);
        Check.same("and let go", x.bar(0), 0);
    }

    private static void eachAskedOfThoseThatAreLeft() {
        Check.sentence("Promise 14", "each asked of those that are left");
        AllocateSolve x = new AllocateSolve();
        x.lot(0, 1, 500, 9999);
        x.lot(0, 0, 500, 0);
        x.line(0, 1);
        x.rule(0, 0, 1);
        Check.same("one by its day, but of another good", x.bar(0), 2);
        x.lot(0, 0, 500, 1);
        x.may(2, 0, false);
        Check.same("one open, but too early", x.bar(0), 3);
        x.lot(0, 0, 0, 1);
        Check.same("full ones, but barred or too early", x.bar(0), 4);
        x.may(3, 0, false);
        Check.same("barred before it is asked for pieces", x.bar(0), 3);
        x.rule(0, 0, 9999);
        Check.same("too early before it is asked for bars", x.bar(0), 2);
        x.change(2, 0);
        x.change(1, 0);
        Check.same("all of its good are empty too", x.bar(0), 2);
    }

    private static void changeWithinItsRange() {
        Check.sentence("Promise 15", "A lot has n pieces now (0 .. 500)");
        AllocateSolve x = new AllocateSolve();
        for (int lot = 0; lot < 8; lot++) {
            x.lot(0, 0, 7, 0);
        }
        Check.same("to 500", x.change(7, 500), 0);
        Check.same("500 pieces", x.left(7), 500);
        Check.same("to nothing", x.change(7, 0), 0);
        Check.same("no pieces", x.left(7), 0);
        Check.same("to nothing again", x.change(7, 0), 0);
        Check.same("to one", x.change(7, 1), 0);
        Check.same("one piece", x.left(7), 1);
        Check.same("the lot beside it", x.left(6), 7);
        Check.same("the first to 500", x.change(0, 500), 0);
        Check.same("500 pieces of the first", x.left(0), 500);
    }

    private static void changeOutsideItsRange() {
        Check.sentence("Promise 15 outside the range", "(0 .. 500)");
        AllocateSolve x = threeTens();
        for (int n : Check.outside(0, 500)) {
            Check.refused("to " + n, Check.RANGE, () -> x.change(0, n));
        }
        Check.same("held all the same", x.held(0), 30);
        Check.same("left all the same", x.left(0), 0);
        x.change(0, 31);
        for (int n : Check.outside(0, 500)) {
            Check.refused("to " + n, Check.RANGE, () -> x.change(0, n));
        }
        Check.same("left what was", x.left(0), 1);
    }

    private static void ifLinesHoldMore() {
        Check.sentence("Promise 15", "If lines hold more, they let go what is too much");
        AllocateSolve x = threeTens();
        Check.same("more than is held", x.change(0, 31), 0);
        Check.same("as much as is held", x.change(0, 30), 0);
        Check.same("all is held still", x.count(2), 30);
        Check.same("one too much", x.change(0, 29), 1);
        Check.same("one is let go", x.count(2), 29);
        Check.same("nobody has one left", x.left(0), 0);
        Check.same("all too much", x.change(0, 0), 3);
        Check.same("all is let go", x.count(2), 0);
        Check.same("up again", x.change(0, 30), 0);
        Check.same("nobody takes it back", x.held(0), 0);
        AllocateSolve y = new AllocateSolve();
        y.lot(0, 0, 5, 0);
        y.line(0, 5);
        Check.same("before a solving", y.change(0, 0), 0);
    }

    private static void theLastLineFirst() {
        Check.sentence("Promise 15", "the last line first");
        AllocateSolve x = threeTens();
        x.change(0, 20);
        Check.same("all of the last", x.refused(2), 10);
        Check.same("nothing of the second", x.refused(1), 0);
        x.change(0, 19);
        Check.same("one of the second", x.refused(1), 1);
        x.change(0, 1);
        Check.same("all of the second", x.refused(1), 10);
        Check.same("nine of the first", x.refused(0), 9);
        AllocateSolve y = threeTens();
        y.undo(2);
        y.change(0, 19);
        Check.same("the last that holds something", y.refused(1), 1);
        Check.same("not the first", y.refused(0), 0);
    }

    private static void howManyLinesHaveFewer() {
        Check.sentence("Promise 15", "how many lines have fewer then");
        int[] pieces = {30, 29, 20, 19, 10, 9, 0};
        int[] due = {0, 1, 1, 2, 2, 3, 3};
        for (int i = 0; i < pieces.length; i++) {
            Check.same("30 to " + pieces[i], threeTens().change(0, pieces[i]), due[i]);
        }
        AllocateSolve x = new AllocateSolve();
        x.lot(0, 0, 6, 0);
        for (int line = 0; line < 6; line++) {
            x.line(0, 1);
        }
        x.solve(0);
        Check.same("all six", x.change(0, 0), 6);
        Check.same("and none any more", x.change(0, 0), 0);
    }

    private static void aWholeLineLetsGoAll() {
        Check.sentence("Promise 15", "A line for WHOLE lets go all that it holds, of all lots");
        AllocateSolve x = new AllocateSolve();
        x.lot(0, 0, 10, 1);
        x.lot(0, 0, 10, 2);
        x.lot(0, 0, 10, 3);
        x.line(0, 4);
        x.line(0, 25);
        x.rule(1, 3, 1);
        x.solve(0);
        Check.same("of the last lot", x.held(2), 9);
        Check.same("nothing too much", x.change(2, 9), 0);
        Check.same("the whole line keeps all", x.refused(1), 0);
        Check.same("one too much", x.change(2, 8), 1);
        Check.same("nothing is kept", x.refused(1), 25);
        Check.same("left of the first lot", x.left(0), 6);
        Check.same("left of the second lot", x.left(1), 10);
        Check.same("left of the third lot", x.left(2), 8);
        Check.same("the other line keeps its own", x.refused(0), 0);
    }

    private static void asSoonAsItHasToLetGo() {
        Check.sentence("Promise 15", "as soon as it has to let go something");
        AllocateSolve x = threeTens();
        x.rule(1, 3, 1);
        Check.same("the last line's ten are enough", x.change(0, 20), 1);
        Check.same("so the whole one keeps all", x.refused(1), 0);
        Check.same("one more", x.change(0, 19), 1);
        Check.same("then it keeps nothing", x.refused(1), 10);
        Check.same("which is enough for the first", x.refused(0), 0);
        Check.same("and leaves nine", x.left(0), 9);
        Check.same("that are let go before the first's", x.change(0, 10), 0);
        AllocateSolve y = threeTens();
        y.rule(2, 3, 1);
        y.change(0, 29);
        Check.same("the last is whole", y.refused(2), 10);
        Check.same("nine are left", y.left(0), 9);
        y.rule(1, 3, 1);
        y.rule(1, 3, 0);
        Check.same("not for whole any more", y.change(0, 19), 1);
        Check.same("so one goes", y.refused(1), 1);
    }

    private static void changeOfNoLot() {
        Check.sentence("Promise 15", "A lot");
        AllocateSolve x = threeTens();
        for (int no : Check.beyond(1)) {
            Check.refused("lot " + no, Check.NONE, () -> x.change(no, 0));
            Check.refused("lot " + no + ", too small", Check.NONE, () -> x.change(no, -1));
            Check.refused("lot " + no + ", too large", Check.NONE, () -> x.change(no, 501));
        }
        Check.same("held all the same", x.held(0), 30);
    }

    private static void undoLetsGoAll() {
        Check.sentence("Promise 16", "A line lets go all that it holds: how many pieces");
        AllocateSolve x = eightGifts();
        Check.same("of eight lots", x.undo(0), 16);
        for (int lot = 0; lot < 8; lot++) {
            Check.same("left of lot " + lot, x.left(lot), 2);
        }
        AllocateSolve y = threeTens();
        y.change(0, 1);
        Check.same("one piece", y.undo(0), 1);
        AllocateSolve z = new AllocateSolve();
        z.lot(0, 0, 200, 0);
        for (int line = 0; line < 6; line++) {
            z.line(line == 5 ? 0 : 1, 200);
        }
        z.solve(2);
        Check.same("200 pieces of the last line", z.undo(5), 200);
    }

    private static void undoOfNothing() {
        Check.sentence("Promise 16", "IllegalStateException: it holds nothing");
        AllocateSolve x = threeTens();
        x.undo(1);
        Check.refused("twice", Check.STATE, () -> x.undo(1));
        Check.same("the others hold still", x.count(2), 20);
        x.change(0, 10);
        Check.refused("behind a change", Check.STATE, () -> x.undo(2));
        x.line(0, 1);
        Check.refused("a new line", Check.STATE, () -> x.undo(3));
        x.change(0, 0);
        x.solve(16);
        Check.refused("refused all", Check.STATE, () -> x.undo(0));
        AllocateSolve y = new AllocateSolve();
        y.line(0, 1);
        Check.refused("before a solving", Check.STATE, () -> y.undo(0));
        y.solve(1);
        Check.refused("without lots", Check.STATE, () -> y.undo(0));
        for (int no : Check.beyond(4)) {
            Check.refused("line " + no, Check.NONE, () -> x.undo(no));
        }
    }

    private static void refusedPieces() {
        Check.sentence("Promise 17", "Pieces that a line wants and does not hold");
        AllocateSolve x = new AllocateSolve();
        x.line(0, 200);
        x.line(0, 1);
        Check.same("before a solving", x.refused(0), 200);
        x.solve(1);
        Check.same("without lots", x.refused(0), 200);
        x.lot(0, 0, 201, 0);
        x.solve(4);
        Check.same("all is held", x.refused(0), 0);
        Check.same("all of one", x.refused(1), 0);
        x.change(0, 200);
        Check.same("one of one", x.refused(1), 1);
        x.change(0, 199);
        Check.same("one of 200", x.refused(0), 1);
        x.undo(0);
        Check.same("200 again", x.refused(0), 200);
        for (int no : Check.beyond(2)) {
            Check.refused("line " + no, Check.NONE, () -> x.refused(no));
        }
    }

    private static void averageDropsRests() {
        Check.sentence("Promise 18", "(rests are dropped)");
        AllocateSolve x = new AllocateSolve();
        x.lot(0, 0, 1, 1);
        x.lot(1, 0, 1, 2);
        x.lot(1, 0, 1, 3);
        x.line(0, 3);
        x.solve(8);
        Check.same("2 of 3", x.average(0), 0);
        x.cost(0, 0, 1);
        Check.same("3 of 3", x.average(0), 1);
        x.cost(0, 0, 3);
        Check.same("5 of 3", x.average(0), 1);
        x.cost(0, 0, 4);
        Check.same("6 of 3", x.average(0), 2);
    }

    private static void averageByCostsAsTheyAreNow() {
        Check.sentence("Promise 18", "by costs as they are now");
        AllocateSolve x = new AllocateSolve();
        x.lot(99, 0, 500, 1);
        x.line(0, 200);
        x.solve(2);
        Check.same("the place", x.average(0), 99);
        x.cost(0, 0, 1000);
        Check.same("told 1000", x.average(0), 1000);
        x.cost(0, 0, 0);
        Check.same("told 0", x.average(0), 0);
        x.cost(0, 0, -1);
        Check.same("the place again", x.average(0), 99);
        x.change(0, 1);
        Check.same("of one piece", x.average(0), 99);
        // Two pieces at each of 10 to 17 are 216 for 16.
        Check.same("of eight lots", eightGifts().average(0), 13);
    }

    private static void averageOfNone() {
        Check.sentence("Promise 18", "ArithmeticException (the machine's own): it holds none");
        AllocateSolve x = threeTens();
        x.line(0, 1);
        Check.refused("a new line", Check.NO_DIVISOR, () -> x.average(3));
        x.undo(0);
        Check.refused("behind undo", Check.NO_DIVISOR, () -> x.average(0));
        x.change(0, 10);
        Check.same("the second holds still", x.average(1), 1);
        Check.refused("behind a change", Check.NO_DIVISOR, () -> x.average(2));
        for (int no : Check.beyond(4)) {
            Check.refused("line " + no, Check.NONE, () -> x.average(no));
        }
        AllocateSolve y = new AllocateSolve();
        y.line(0, 1);
        Check.refused("before a solving", Check.NO_DIVISOR, () -> y.average(0));
        y.solve(1);
        Check.refused("without lots", Check.NO_DIVISOR, () -> y.average(0));
    }

    private static void countOfLotsAndLines() {
        Check.sentence("Promise 19", "0 lots, 1 lines");
        AllocateSolve x = new AllocateSolve();
        Check.same("no lots", x.count(0), 0);
        Check.same("no lines", x.count(1), 0);
        for (int i = 1; i <= 9; i++) {
            Check.thrownBy(() -> x.lot(0, 0, 0, 0));
            Check.thrownBy(() -> x.line(0, 1));
            Check.same("lots", x.count(0), Math.min(i, 8));
            Check.same("lines", x.count(1), Math.min(i, 6));
        }
    }

    private static void countOfPiecesAndGifts() {
        Check.sentence("Promise 19", "2 pieces that are held, 3 gifts");
        AllocateSolve x = new AllocateSolve();
        for (int lot = 0; lot < 8; lot++) {
            x.lot(0, 0, 12, 0);
        }
        for (int line = 0; line < 6; line++) {
            x.line(0, 16);
        }
        Check.same("no pieces before a solving", x.count(2), 0);
        Check.same("no gifts before a solving", x.count(3), 0);
        x.solve(0);
        Check.same("all pieces", x.count(2), 96);
        // 12 and 4, 8 and 8, 4 and 12, and the same once more.
        Check.same("two gifts each", x.count(3), 12);
        x.change(0, 1);
        Check.same("eleven fewer", x.count(2), 85);
        Check.same("one piece is a gift", x.count(3), 12);
        x.change(0, 0);
        Check.same("nothing is none", x.count(3), 11);
        for (int line = 0; line < 6; line++) {
            x.undo(line);
        }
        Check.same("no pieces behind undo", x.count(2), 0);
        Check.same("no gifts behind undo", x.count(3), 0);
    }

    private static void countOfCost() {
        Check.sentence("Promise 19", "4 the cost of what is held and refused now (as a plan's)");
        AllocateSolve x = new AllocateSolve();
        Check.same("nothing", x.count(4), 0);
        x.lot(99, 0, 500, 0);
        Check.same("no lines", x.count(4), 0);
        for (int line = 0; line < 6; line++) {
            x.line(0, 200);
        }
        Check.same("all is refused", x.count(4), 1200000);
        int cost = x.solve(0);
        Check.same("as solved", cost, 500 * 99 + 3 * 20 + 700 * 1000);
        Check.same("and told", x.count(4), cost);
        x.cost(0, 2, 1000);
        Check.same("100 pieces at 1000", x.count(4), 400 * 99 + 100 * 1000 + 60 + 700000);
        x.change(0, 401);
        Check.same("a gift of one piece", x.count(4), 400 * 99 + 1000 + 60 + 799000);
        x.change(0, 400);
        Check.same("a gift of nothing costs no 20", x.count(4), 400 * 99 + 40 + 800000);
        x.undo(0);
        x.undo(1);
        Check.same("all is let go", x.count(4), 1200000);
    }

    private static void countOfAnotherWhat() {
        Check.sentence("Promise 19", "-1 for another what");
        for (AllocateSolve x : new AllocateSolve[] {new AllocateSolve(), threeTens()}) {
            for (int what : Check.outside(0, 4)) {
                Check.same("count(" + what + ")", x.count(what), -1);
            }
            Check.same("count(6)", x.count(6), -1);
            Check.same("count(256)", x.count(256), -1);
            Check.yes("count(0) is not another", x.count(0) >= 0);
            Check.yes("count(4) is not another", x.count(4) >= 0);
        }
    }
}
