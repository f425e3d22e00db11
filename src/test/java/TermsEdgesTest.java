/** "What it is" and "Terms" at their edges: each method asks about one sentence of the document. */
public final class TermsEdgesTest {
    private static final int CALLS = 512;

    public static void main(String[] args) {
        goodUpToTheLastCall();
        dearUpToTheLastCall();
        earlierLastDayFirst();
        thenTheLesserPlace();
        thenTheLesserNumber();
        lastDayNotBeforeTheDay();
        inMultiplesOfThePallet();
        atMostSoManyLots();
        allThatItWantsOrNothing();
        allowedOrNot();
        placeIfNoneWasTold();
        asManyAsItWantsStill();
        asManyAsTheLotHasLeft();
        wholeAndNotAll();
        aPlansSetsNoMoreThanFew();
        linesTakeOneBehindTheOther();
        twentyForEachLineAndLot();
        aThousandForEachPiece();
        bitsInTheOrderOfLots();
        productOverAllLines();
        noMoreThanMayBe();
        theLeastCost();
        theLeastSetOfTheFirstLine();
        thenOfTheSecondOne();
        byRuleTheFirstOnes();
        Check.done("TermsEdgesTest");
    }

    /** Lots of one good with these pieces, at place 0, in the order in which they come. */
    private static AllocateSolve lotsOf(int... pieces) {
        AllocateSolve x = new AllocateSolve();
        for (int lot = 0; lot < pieces.length; lot++) {
            x.lot(0, 0, pieces[lot], lot);
        }
        return x;
    }

    private static void goodUpToTheLastCall() {
        Check.sentence("What it is", "at most 512 calls");
        AllocateSolve x = new AllocateSolve();
        x.lot(5, 0, 500, 1);
        x.line(0, 200);
        for (int call = 3; call < CALLS - 4; call += 2) {
            Check.same("call " + call, x.solve(2), 200 * 5 + 20);
            Check.same("call " + (call + 1), x.undo(0), 200);
        }
        Check.same("call 509", x.solve(0), 200 * 5 + 20);
        Check.same("call 510", x.change(0, 0), 1);
        Check.same("call 511", x.refused(0), 200);
        Check.same("call 512", x.count(4), 200000);
    }

    /** The dearest solvings, as often as an object can have them. */
    private static void dearUpToTheLastCall() {
        Check.sentence("What it is", "at most 512 calls, the dearest ones");
        AllocateSolve x = new AllocateSolve();
        Model model = new Model();
        for (int lot = 0; lot < 8; lot++) {
            x.lot(lot, 0, 40, 9);
            model.lot(lot, 0, 40, 9);
        }
        for (int line = 0; line < 2; line++) {
            x.line(0, 200);
            model.line(0, 200);
            x.rule(line, 1, 7 + 2 * line);
            model.rule(line, 1, 7 + 2 * line);
        }
        x.may(7, 1, false);
        model.may(7, 1, false);
        Check.same("call 14", x.choices(), 32768);
        int due = model.solve(32768);
        for (int call = 15; call < CALLS; call++) {
            Check.same("call " + call, x.solve(40000), due);
        }
        Check.yes("call 512", x.exact());
    }

    private static void earlierLastDayFirst() {
        Check.sentence("Terms", "the earlier last day first");
        AllocateSolve x = new AllocateSolve();
        x.lot(0, 0, 1, 9999);
        x.lot(0, 0, 1, 1);
        x.lot(99, 0, 1, 0);
        x.lot(50, 0, 1, 9998);
        x.line(0, 4);
        x.solve(0);
        int[] due = {2, 1, 3, 0};
        for (int i = 0; i < 4; i++) {
            Check.same("gift " + i, x.give(0, i, 0), due[i]);
        }
    }

    private static void thenTheLesserPlace() {
        Check.sentence("Terms", "then the lesser place");
        AllocateSolve x = new AllocateSolve();
        x.lot(99, 0, 1, 5);
        x.lot(1, 0, 1, 5);
        x.lot(0, 0, 1, 5);
        x.lot(98, 0, 1, 5);
        x.line(0, 4);
        // Costs that were told make no order.
        x.cost(0, 0, 0);
        x.cost(2, 0, 1000);
        x.solve(0);
        int[] due = {2, 1, 3, 0};
        for (int i = 0; i < 4; i++) {
            Check.same("gift " + i, x.give(0, i, 0), due[i]);
        }
    }

    private static void thenTheLesserNumber() {
        Check.sentence("Terms", "then the lesser number");
        AllocateSolve x = new AllocateSolve();
        for (int lot = 0; lot < 8; lot++) {
            x.lot(7, 0, 8 - lot, 7);
        }
        x.line(0, 36);
        x.solve(0);
        for (int i = 0; i < 8; i++) {
            Check.same("gift " + i, x.give(0, i, 0), i);
        }
    }

    private static void lastDayNotBeforeTheDay() {
        Check.sentence("Terms", "lots only whose last day is not before it");
        AllocateSolve x = lotsOf(1, 1, 1);
        x.line(0, 3);
        x.rule(0, 0, 1);
        Check.same("days 1 and 2", x.solve(8), 40 + 1000);
        Check.same("the first is day 1", x.give(0, 0, 0), 1);
        x.rule(0, 0, 2);
        Check.same("day 2", x.solve(0), 20 + 2000);
        x.rule(0, 0, 3);
        Check.same("no day", x.solve(0), 3000);
    }

    private static void inMultiplesOfThePallet() {
        Check.sentence("Terms", "pieces are taken from a lot in multiples of it");
        int[] pieces = {0, 49, 50, 51, 99, 100, 101, 149, 150};
        int[] due = {0, 0, 50, 50, 50, 100, 100, 100, 100};
        for (int i = 0; i < pieces.length; i++) {
            AllocateSolve x = lotsOf(pieces[i]);
            x.line(0, 149);
            x.rule(0, 1, 50);
            x.solve(0);
            Check.same("by rule of " + pieces[i], x.held(0), due[i]);
            x.solve(2);
            Check.same("exactly of " + pieces[i], x.held(0), due[i]);
        }
        AllocateSolve y = lotsOf(500);
        y.line(0, 49);
        y.rule(0, 1, 50);
        Check.same("wants less than a pallet", y.solve(2), 49000);
        y.rule(0, 1, 49);
        Check.same("wants just a pallet", y.solve(2), 20);
    }

    private static void atMostSoManyLots() {
        Check.sentence("Terms", "at most so many lots");
        for (int few = 1; few <= 8; few++) {
            AllocateSolve x = lotsOf(1, 1, 1, 1, 1, 1, 1, 1);
            x.line(0, 200);
            x.rule(0, 2, few);
            x.solve(0);
            Check.same("by rule " + few, x.count(3), few);
            x.solve(256);
            Check.same("exactly " + few, x.count(3), few);
        }
        AllocateSolve y = lotsOf(1, 1);
        y.line(0, 200);
        y.rule(0, 2, 3);
        y.solve(0);
        Check.same("more than there are", y.count(3), 2);
    }

    private static void allThatItWantsOrNothing() {
        Check.sentence("Terms", "1: all that it wants or nothing");
        int[] pieces = {9, 10, 11};
        int[] due = {0, 20, 20};
        for (int i = 0; i < 3; i++) {
            AllocateSolve x = lotsOf(10, pieces[i]);
            x.line(0, 20);
            x.rule(0, 3, 1);
            x.solve(0);
            Check.same("by rule of 10 and " + pieces[i], x.count(2), due[i]);
            x.solve(4);
            Check.same("exactly of 10 and " + pieces[i], x.count(2), due[i]);
        }
    }

    private static void allowedOrNot() {
        Check.sentence("Terms", "A lot is ALLOWED for a line if");
        AllocateSolve x = new AllocateSolve();
        x.lot(0, 0, 10, 4);
        x.lot(0, 0, 10, 5);
        x.lot(0, 0, 10, 6);
        x.lot(0, 1, 10, 6);
        x.line(0, 40);
        x.line(0, 40);
        x.rule(0, 0, 5);
        x.may(2, 0, false);
        x.solve(0);
        Check.same("the only one for the first line", x.give(0, 0, 0), 1);
        Check.refused("and no other", Check.NONE, () -> x.give(0, 1, 0));
        Check.same("the second line is not barred", x.give(1, 0, 0), 0);
        Check.same("and has the lot that is barred for the first", x.give(1, 1, 0), 2);
        Check.same("none has the other good", x.held(3), 0);
    }

    private static void placeIfNoneWasTold() {
        Check.sentence("Terms", "the lot's place, if none was told for the two");
        AllocateSolve x = new AllocateSolve();
        x.lot(99, 0, 1, 0);
        x.line(0, 1);
        x.line(0, 1);
        x.cost(0, 0, 0);
        Check.same("told 0 for the first alone", x.bound(), 20 + 119);
        x.cost(0, 1, 0);
        Check.same("and for the second", x.bound(), 40);
        x.lot(98, 0, 1, 0);
        x.cost(0, 0, 99);
        Check.same("a later lot has its place for both", x.bound(), 118 + 20);
        x.line(0, 1);
        Check.same("and for a later line", x.bound(), 118 + 20 + 118);
    }

    private static void asManyAsItWantsStill() {
        Check.sentence("Terms", "as many as it wants still");
        AllocateSolve x = lotsOf(10, 10, 10);
        x.line(0, 20);
        x.solve(0);
        Check.same("two lots are just enough", x.count(3), 2);
        Check.same("the third gives nothing", x.held(2), 0);
        AllocateSolve y = lotsOf(10, 10, 10);
        y.line(0, 21);
        y.solve(0);
        Check.same("one piece of the third", y.give(0, 2, 1), 1);
        AllocateSolve z = lotsOf(10, 10, 10);
        z.line(0, 19);
        z.solve(0);
        Check.same("nine of the second", z.give(0, 1, 1), 9);
    }

    private static void asManyAsTheLotHasLeft() {
        Check.sentence("Terms", "and the lot has left, rounded down");
        AllocateSolve x = lotsOf(10);
        x.line(0, 4);
        x.line(0, 10);
        x.line(0, 1);
        x.rule(1, 1, 3);
        x.solve(0);
        Check.same("six of the six", x.give(1, 0, 1), 6);
        Check.refused("nothing for the third", Check.NONE, () -> x.give(2, 0, 0));
        x.rule(1, 1, 4);
        x.solve(0);
        Check.same("four of the six", x.give(1, 0, 1), 4);
        Check.same("one for the third", x.give(2, 0, 1), 1);
        Check.same("one for nobody", x.left(0), 1);
        x.rule(1, 1, 7);
        x.solve(0);
        Check.refused("no seven of the six", Check.NONE, () -> x.give(1, 0, 1));
    }

    private static void wholeAndNotAll() {
        Check.sentence("Terms", "if it is for WHOLE and has not all then, it takes nothing");
        AllocateSolve x = lotsOf(10, 10);
        x.line(0, 20);
        x.line(0, 20);
        x.rule(0, 3, 1);
        x.rule(0, 1, 3);
        x.solve(0);
        Check.same("threes are never 20", x.refused(0), 20);
        Check.same("so all is there for the second", x.refused(1), 0);
        x.rule(0, 1, 5);
        x.solve(0);
        Check.same("fives are", x.refused(0), 0);
        Check.same("so nothing is there for the second", x.refused(1), 20);
        x.rule(0, 2, 1);
        x.solve(0);
        Check.same("one lot is not enough", x.refused(0), 20);
        x.rule(0, 3, 0);
        x.solve(0);
        Check.same("what one lot has", x.refused(0), 10);
    }

    private static void aPlansSetsNoMoreThanFew() {
        Check.sentence("Terms", "a set of allowed lots, no more than FEW");
        AllocateSolve x = lotsOf(5, 6, 7);
        x.line(0, 18);
        x.rule(0, 2, 2);
        Check.same("the best two", x.solve(8), 40 + 5000);
        Check.same("not the first lot", x.held(0), 0);
        x.rule(0, 2, 3);
        Check.same("all three", x.solve(8), 60);
        x.rule(0, 2, 1);
        Check.same("the best one", x.solve(8), 20 + 11000);
        x.rule(0, 3, 1);
        Check.same("one is never all", x.solve(8), 18000);
    }

    private static void linesTakeOneBehindTheOther() {
        Check.sentence("Terms", "The lines take one behind the other, as they are numbered");
        AllocateSolve x = lotsOf(6);
        for (int line = 0; line < 6; line++) {
            x.line(0, 4);
        }
        x.solve(0);
        Check.same("the first has all", x.refused(0), 0);
        Check.same("the second has the rest", x.refused(1), 2);
        for (int line = 2; line < 6; line++) {
            Check.same("line " + line + " has nothing", x.refused(line), 4);
        }
    }

    private static void twentyForEachLineAndLot() {
        Check.sentence("Terms", "20 for each line and lot of which it takes something");
        AllocateSolve x = lotsOf(0, 1, 1);
        x.line(0, 2);
        Check.same("an empty lot costs nothing", x.solve(0), 40);
        AllocateSolve y = lotsOf(2);
        y.line(0, 1);
        y.line(0, 1);
        Check.same("two lines of one lot", y.solve(0), 40);
        AllocateSolve z = lotsOf(2);
        z.line(0, 3);
        z.rule(0, 3, 1);
        Check.same("nothing is taken in the end", z.solve(0), 3000);
    }

    private static void aThousandForEachPiece() {
        Check.sentence("Terms", "1000 for each piece that a line wants and does not take");
        for (int pieces = 0; pieces <= 3; pieces++) {
            AllocateSolve x = lotsOf(pieces);
            x.line(0, 3);
            Check.same(pieces + " of 3", x.solve(2), (pieces == 0 ? 0 : 20) + (3 - pieces) * 1000);
        }
        int[] wants = {19, 20, 21};
        int[] taken = {0, 0, 21};
        for (int i = 0; i < 3; i++) {
            AllocateSolve x = lotsOf(500);
            x.line(0, wants[i]);
            x.cost(0, 0, 999);
            x.solve(2);
            // 20 at 999 and 20 for the lot are just 20000: then the lesser set, of no lots.
            Check.same(wants[i] + " at 999", x.count(2), taken[i]);
            x.cost(0, 0, 1000);
            x.solve(2);
            Check.same(wants[i] + " at 1000", x.count(2), 0);
        }
    }

    private static void bitsInTheOrderOfLots() {
        Check.sentence("Terms", "bit k for the k-th of the line's allowed lots, in the order of lots");
        AllocateSolve x = new AllocateSolve();
        x.lot(5, 0, 9, 30);
        x.lot(5, 0, 9, 10);
        x.lot(5, 0, 9, 20);
        x.line(0, 9);
        x.solve(8);
        Check.same("all cost the same: bit 0 is the earliest", x.give(0, 0, 0), 1);
        x.may(1, 0, false);
        x.solve(8);
        Check.same("bit 0 is the first of the allowed ones", x.give(0, 0, 0), 2);
        AllocateSolve y = lotsOf(6, 4, 4, 2);
        y.line(0, 8);
        y.solve(16);
        // Sets 3, 5, 6 and 9 have all eight of two lots; 3 is the least.
        Check.same("set 3: first lot", y.give(0, 0, 0), 0);
        Check.same("set 3: second lot", y.give(0, 1, 0), 1);
        y.change(0, 3);
        y.solve(16);
        Check.same("set 6: first lot", y.give(0, 0, 0), 1);
        Check.same("set 6: second lot", y.give(0, 1, 0), 2);
    }

    private static void productOverAllLines() {
        Check.sentence("Terms", "the product of 2 to the number of allowed lots, over all lines");
        AllocateSolve x = new AllocateSolve();
        x.line(3, 1);
        x.line(3, 1);
        for (int lots = 0; lots <= 8; lots++) {
            Check.same(lots + " lots for two lines", x.choices(), 1 << 2 * lots);
            if (lots < 8) {
                x.lot(0, 3, 0, 0);
            }
        }
        x.line(2, 1);
        Check.same("a line without allowed lots", x.choices(), 65536);
    }

    private static void noMoreThanMayBe() {
        Check.sentence("Terms", "If they are no more than may be, it is EXACT");
        AllocateSolve x = new AllocateSolve();
        x.lot(9, 0, 5, 1);
        x.lot(1, 0, 5, 2);
        x.line(0, 5);
        Check.same("three: by rule", x.solve(3), 65);
        Check.same("the earlier lot", x.give(0, 0, 0), 0);
        Check.same("four: exact", x.solve(4), 25);
        Check.same("the cheaper lot", x.give(0, 0, 0), 1);
        Check.same("five: exact", x.solve(5), 25);
        x.rule(0, 2, 1);
        Check.same("FEW leaves as many choices", x.solve(3), 65);
    }

    private static void theLeastCost() {
        Check.sentence("Terms", "the plan at the least cost");
        AllocateSolve x = new AllocateSolve();
        x.lot(0, 0, 10, 1);
        x.lot(21, 0, 1, 2);
        x.line(0, 1);
        x.line(0, 10);
        x.rule(1, 3, 1);
        // The first line has to leave the whole lot to the second one.
        Check.same("nothing stands in the way of the second", x.solve(16), 21 + 20 + 20);
        Check.same("the dearer lot for the first", x.give(0, 0, 0), 1);
        x.cost(1, 0, 1000);
        Check.same("they share both lots", x.solve(16), 20 + 20 + 21 + 20);
        x.may(1, 1, false);
        Check.same("the first is better refused", x.solve(16), 1000 + 20);
        Check.same("it has nothing", x.refused(0), 1);
        AllocateSolve y = lotsOf(1);
        y.line(0, 1);
        y.cost(0, 0, 979);
        Check.same("one less than 1000", y.solve(2), 999);
        y.cost(0, 0, 980);
        Check.same("as much as 1000", y.solve(2), 1000);
        Check.same("then nothing is taken", y.count(2), 0);
    }

    private static void theLeastSetOfTheFirstLine() {
        Check.sentence("Terms", "the one with the least set of the first line");
        AllocateSolve x = lotsOf(1);
        for (int line = 0; line < 6; line++) {
            x.line(0, 1);
        }
        Check.same("one piece for six lines", x.solve(64), 20 + 5000);
        Check.same("all but the last have set 0", x.refused(5), 0);
        Check.same("nothing for the first", x.refused(0), 1);
        AllocateSolve y = lotsOf(10, 10);
        y.line(0, 10);
        y.line(0, 10);
        y.solve(16);
        Check.same("set 1 for the first", y.give(0, 0, 0), 0);
        Check.same("set 2 for the second", y.give(1, 0, 0), 1);
        // Set 1 for both would be lesser for the second, but costs more.
        Check.same("cost", y.count(4), 40);
    }

    private static void thenOfTheSecondOne() {
        Check.sentence("Terms", "then of the second one, and so on");
        AllocateSolve x = lotsOf(10, 10, 10);
        x.line(0, 10);
        x.line(0, 10);
        x.line(0, 10);
        x.solve(512);
        for (int line = 0; line < 3; line++) {
            Check.same("line " + line, x.give(line, 0, 0), line);
        }
        x.change(2, 0);
        x.solve(512);
        Check.same("the first is refused", x.refused(0), 10);
        Check.same("the second has set 1", x.give(1, 0, 0), 0);
        Check.same("the third has set 2", x.give(2, 0, 0), 1);
        x.line(1, 1);
        x.line(0, 10);
        x.may(0, 4, false);
        x.may(2, 4, false);
        x.may(2, 0, false);
        x.may(2, 1, false);
        x.may(2, 2, false);
        x.solve(128);
        Check.yes("exact", x.exact());
        Check.same("set 0 for the first two", x.refused(0) + x.refused(1), 20);
        Check.same("set 1 for the third", x.give(2, 0, 0), 0);
        Check.same("the last one's only lot", x.give(4, 0, 0), 1);
    }

    private static void byRuleTheFirstOnes() {
        Check.sentence("Terms", "the first ones in the order of lots, as many as FEW says");
        AllocateSolve x = lotsOf(0, 3, 5, 7);
        x.line(0, 200);
        int[] due = {0, 3, 8, 15, 15};
        for (int few = 1; few <= 5; few++) {
            x.rule(0, 2, few);
            x.solve(0);
            Check.same("the first " + few + ", an empty one among them", x.count(2), due[few - 1]);
        }
        x.rule(0, 2, 1);
        x.may(0, 0, false);
        x.solve(0);
        Check.same("the first of the allowed ones", x.count(2), 3);
        x.rule(0, 0, 2);
        x.solve(0);
        Check.same("which is another by day 2", x.count(2), 5);
        x.line(0, 5);
        x.rule(1, 2, 1);
        x.rule(1, 0, 2);
        x.solve(0);
        Check.same("a lot that another line emptied counts too", x.refused(1), 5);
    }
}
