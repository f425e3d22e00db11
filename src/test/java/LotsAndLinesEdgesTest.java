/** Promises 1 to 6 at their edges: each method asks about one sentence of the document. */
public final class LotsAndLinesEdgesTest {
    public static void main(String[] args) {
        newObjectWithoutLots();
        newObjectWithoutLines();
        newObjectWithoutEither();
        placeOfALot();
        goodOfALot();
        piecesOfALot();
        lastDayOfALot();
        lotsAreNumberedAsTheyCome();
        atMostEightLots();
        goodOfALine();
        piecesThatALineWants();
        linesAreNumberedAsTheyCome();
        atMostSixLines();
        dayOfARule();
        palletOfARule();
        fewOfARule();
        wholeOfARule();
        kindsOfRules();
        dayAtFirst();
        palletAtFirst();
        fewAtFirst();
        wholeAtFirst();
        rulesOfTheLastLineAndOfNone();
        costsWithinTheirRange();
        costsOutsideTheirRange();
        noCostAnyMore();
        costsOfLastNumbersAndOfNone();
        mayIsWhetherItIsAllowedThen();
        mayOfLastNumbersAndOfNone();
        Check.done("LotsAndLinesEdgesTest");
    }

    private static void newObjectWithoutLots() {
        Check.sentence("Promise 1", "No lots");
        AllocateSolve x = new AllocateSolve();
        Check.same("count(0)", x.count(0), 0);
        for (int no : Check.beyond(0)) {
            Check.refused("held " + no, Check.NONE, () -> x.held(no));
            Check.refused("left " + no, Check.NONE, () -> x.left(no));
            Check.refused("change " + no, Check.NONE, () -> x.change(no, 0));
        }
        x.line(0, 1);
        Check.refused("cost of lot 0", Check.NONE, () -> x.cost(0, 0, 0));
        Check.refused("may of lot 0", Check.NONE, () -> x.may(0, 0, true));
    }

    private static void newObjectWithoutLines() {
        Check.sentence("Promise 1", "and lines");
        AllocateSolve x = new AllocateSolve();
        Check.same("count(1)", x.count(1), 0);
        for (int no : Check.beyond(0)) {
            Check.refused("rule " + no, Check.NONE, () -> x.rule(no, 0, 0));
            Check.refused("give " + no, Check.NONE, () -> x.give(no, 0, 0));
            Check.refused("bar " + no, Check.NONE, () -> x.bar(no));
            Check.refused("undo " + no, Check.NONE, () -> x.undo(no));
            Check.refused("refused " + no, Check.NONE, () -> x.refused(no));
            Check.refused("average " + no, Check.NONE, () -> x.average(no));
        }
        x.lot(0, 0, 0, 0);
        Check.refused("cost for line 0", Check.NONE, () -> x.cost(0, 0, 0));
        Check.refused("may for line 0", Check.NONE, () -> x.may(0, 0, true));
    }

    private static void newObjectWithoutEither() {
        Check.sentence("Promise 1", "No lots and lines");
        AllocateSolve x = new AllocateSolve();
        Check.refused("cost", Check.NONE, () -> x.cost(0, 0, 0));
        Check.refused("may", Check.NONE, () -> x.may(0, 0, false));
        for (int what = 0; what <= 4; what++) {
            Check.same("count(" + what + ")", x.count(what), 0);
        }
        Check.no("exact", x.exact());
        Check.same("choices", x.choices(), 1);
        Check.same("bound", x.bound(), 0);
        Check.same("solve(0)", x.solve(0), 0);
        Check.no("exact with no choices", x.exact());
        Check.same("solve(1)", x.solve(1), 0);
        Check.yes("exact with one choice", x.exact());
        Check.same("solve(40000)", x.solve(40000), 0);
        Check.same("the first lot then", x.lot(0, 0, 0, 0), 0);
        Check.same("the first line then", x.line(0, 1), 0);
    }

    private static void placeOfALot() {
        Check.sentence("Terms", "a place 0 .. 99");
        AllocateSolve x = new AllocateSolve();
        x.lot(0, 0, 5, 1);
        x.lot(99, 1, 5, 1);
        x.line(0, 1);
        x.line(1, 1);
        Check.same("cost of places 0 and 99", x.solve(4), 20 + 99 + 20);
        Check.same("place 0", x.give(0, 0, 2), 0);
        Check.same("place 99", x.give(1, 0, 2), 99);
        for (int place : Check.outside(0, 99)) {
            Check.refused("place " + place, Check.RANGE, () -> x.lot(place, 0, 5, 1));
        }
        Check.same("lots", x.count(0), 2);
    }

    private static void goodOfALot() {
        Check.sentence("Terms", "a good 0 .. 5");
        AllocateSolve x = new AllocateSolve();
        for (int good = 0; good <= 5; good++) {
            x.lot(10 + good, good, 1, 1);
        }
        x.line(0, 1);
        x.line(5, 1);
        x.solve(4);
        Check.same("lot of good 0", x.give(0, 0, 0), 0);
        Check.same("lot of good 5", x.give(1, 0, 0), 5);
        for (int good : Check.outside(0, 5)) {
            Check.refused("good " + good, Check.RANGE, () -> x.lot(0, good, 1, 1));
        }
        Check.same("lots", x.count(0), 6);
    }

    private static void piecesOfALot() {
        Check.sentence("Terms", "PIECES 0 .. 500");
        AllocateSolve x = new AllocateSolve();
        x.lot(0, 0, 0, 0);
        x.lot(0, 0, 500, 0);
        Check.same("no pieces", x.left(0), 0);
        Check.same("500 pieces", x.left(1), 500);
        for (int n : Check.outside(0, 500)) {
            Check.refused("pieces " + n, Check.RANGE, () -> x.lot(0, 0, n, 0));
        }
        Check.same("lots", x.count(0), 2);
    }

    private static void lastDayOfALot() {
        Check.sentence("Terms", "a last day 0 .. 9999");
        AllocateSolve x = new AllocateSolve();
        x.lot(0, 0, 1, 0);
        x.lot(0, 0, 1, 9999);
        x.line(0, 1);
        Check.yes("last day 0 on day 0", x.may(0, 0, true));
        x.rule(0, 0, 9999);
        Check.no("last day 0 on day 9999", x.may(0, 0, true));
        Check.yes("last day 9999 on day 9999", x.may(1, 0, true));
        for (int until : Check.outside(0, 9999)) {
            Check.refused("last day " + until, Check.RANGE, () -> x.lot(0, 0, 1, until));
        }
        Check.same("lots", x.count(0), 2);
    }

    private static void lotsAreNumberedAsTheyCome() {
        Check.sentence("Promise 2", "A lot: its number");
        AllocateSolve x = new AllocateSolve();
        // Their order is the other way round, and a refused one in between takes no number.
        for (int lot = 0; lot < 8; lot++) {
            int n = 70 + lot;
            Check.same("number", x.lot(99 - lot, 0, n, 9999 - lot), lot);
            Check.refused("a wrong one behind it", Check.RANGE, () -> x.lot(0, 0, 501, 0));
            Check.same("lots then", x.count(0), lot + 1);
            Check.same("its pieces", x.left(lot), n);
        }
        Check.same("pieces of the first still", x.left(0), 70);
    }

    private static void atMostEightLots() {
        Check.sentence("Terms", "LOTS 0, 1, .. (at most 8)");
        AllocateSolve x = new AllocateSolve();
        for (int lot = 0; lot < 8; lot++) {
            x.lot(1, 1, 10 + lot, 1);
        }
        Check.refused("ninth", Check.FULL, () -> x.lot(1, 1, 1, 1));
        Check.refused("ninth, least numbers", Check.FULL, () -> x.lot(0, 0, 0, 0));
        Check.refused("ninth, greatest numbers", Check.FULL, () -> x.lot(99, 5, 500, 9999));
        Check.same("lots", x.count(0), 8);
        Check.same("the eighth", x.left(7), 17);
        Check.refused("there is no ninth", Check.NONE, () -> x.left(8));
        for (int wrong : Check.outside(0, 9999)) {
            Check.refused("wrong place and no room", Check.RANGE, () -> x.lot(wrong, 0, 0, 0));
            Check.refused("wrong good and no room", Check.RANGE, () -> x.lot(0, wrong, 0, 0));
            Check.refused("wrong pieces and no room", Check.RANGE, () -> x.lot(0, 0, wrong, 0));
            Check.refused("wrong last day and no room", Check.RANGE, () -> x.lot(0, 0, 0, wrong));
        }
    }

    private static void goodOfALine() {
        Check.sentence("Terms", "a good 0 .. 5 .. pieces of a good");
        AllocateSolve x = new AllocateSolve();
        x.lot(1, 0, 10, 1);
        x.lot(2, 5, 10, 1);
        for (int good = 0; good <= 5; good++) {
            x.line(good, 1);
        }
        Check.same("goods 0 and 5 are there, the others not", x.solve(4), 21 + 22 + 4000);
        Check.same("good 0", x.bar(0), 0);
        Check.same("good 5", x.bar(5), 0);
        AllocateSolve y = new AllocateSolve();
        for (int good : Check.outside(0, 5)) {
            Check.refused("good " + good, Check.RANGE, () -> y.line(good, 1));
        }
        Check.same("lines", y.count(1), 0);
    }

    private static void piecesThatALineWants() {
        Check.sentence("Terms", "want 1 .. 200 pieces of a good");
        AllocateSolve x = new AllocateSolve();
        x.line(0, 1);
        x.line(0, 200);
        Check.same("one", x.refused(0), 1);
        Check.same("200", x.refused(1), 200);
        for (int n : Check.outside(1, 200)) {
            Check.refused("wants " + n, Check.RANGE, () -> x.line(0, n));
        }
        Check.refused("wants -1", Check.RANGE, () -> x.line(0, -1));
        Check.same("lines", x.count(1), 2);
    }

    private static void linesAreNumberedAsTheyCome() {
        Check.sentence("Promise 3", "A line: its number");
        AllocateSolve x = new AllocateSolve();
        for (int line = 0; line < 6; line++) {
            Check.same("number", x.line(5 - line, 50 + line), line);
            Check.refused("a wrong one behind it", Check.RANGE, () -> x.line(0, 201));
            Check.same("lines then", x.count(1), line + 1);
            Check.same("it wants", x.refused(line), 50 + line);
        }
        Check.same("the first wants still", x.refused(0), 50);
    }

    private static void atMostSixLines() {
        Check.sentence("Terms", "LINES 0, 1, .. (at most 6)");
        AllocateSolve x = new AllocateSolve();
        for (int line = 0; line < 6; line++) {
            x.line(0, 10 + line);
        }
        Check.refused("seventh", Check.FULL, () -> x.line(0, 10));
        Check.refused("seventh, least numbers", Check.FULL, () -> x.line(0, 1));
        Check.refused("seventh, greatest numbers", Check.FULL, () -> x.line(5, 200));
        Check.same("lines", x.count(1), 6);
        Check.same("the sixth", x.refused(5), 15);
        Check.refused("there is no seventh", Check.NONE, () -> x.refused(6));
        for (int good : Check.outside(0, 5)) {
            Check.refused("wrong good and no room", Check.RANGE, () -> x.line(good, 1));
        }
        for (int n : Check.outside(1, 200)) {
            Check.refused("wrong pieces and no room", Check.RANGE, () -> x.line(0, n));
        }
    }

    private static void dayOfARule() {
        Check.sentence("Promise 4", "DAY 0 .. 9999");
        AllocateSolve x = new AllocateSolve();
        x.lot(0, 0, 1, 0);
        x.lot(0, 0, 1, 9998);
        x.lot(0, 0, 1, 9999);
        x.line(0, 1);
        x.rule(0, 0, 9999);
        Check.same("day 9999", x.choices(), 2);
        x.rule(0, 0, 0);
        Check.same("day 0", x.choices(), 8);
        x.rule(0, 0, 1);
        for (int v : Check.outside(0, 9999)) {
            Check.refused("day " + v, Check.RANGE, () -> x.rule(0, 0, v));
        }
        Check.same("day 1 still", x.choices(), 4);
    }

    private static void palletOfARule() {
        Check.sentence("Promise 4", "PALLET 1 .. 50");
        AllocateSolve x = new AllocateSolve();
        x.lot(0, 0, 500, 0);
        x.line(0, 99);
        x.rule(0, 1, 50);
        Check.same("pallet 50", x.solve(2), 20 + 49 * 1000);
        x.rule(0, 1, 1);
        Check.same("pallet 1", x.solve(2), 20);
        x.rule(0, 1, 49);
        for (int v : Check.outside(1, 50)) {
            Check.refused("pallet " + v, Check.RANGE, () -> x.rule(0, 1, v));
        }
        Check.same("pallet 49 still", x.solve(2), 20 + 1000);
    }

    private static void fewOfARule() {
        Check.sentence("Promise 4", "FEW 1 .. 8");
        AllocateSolve x = new AllocateSolve();
        for (int lot = 0; lot < 8; lot++) {
            x.lot(0, 0, 1, 0);
        }
        x.line(0, 8);
        x.rule(0, 2, 1);
        Check.same("one lot", x.solve(256), 20 + 7000);
        Check.same("one lot by rule", x.solve(0), 20 + 7000);
        x.rule(0, 2, 8);
        Check.same("eight lots", x.solve(256), 160);
        Check.same("eight lots by rule", x.solve(0), 160);
        x.rule(0, 2, 7);
        for (int v : Check.outside(1, 8)) {
            Check.refused("few " + v, Check.RANGE, () -> x.rule(0, 2, v));
        }
        Check.same("seven lots still", x.solve(256), 140 + 1000);
        Check.same("seven lots by rule", x.solve(0), 140 + 1000);
    }

    private static void wholeOfARule() {
        Check.sentence("Promise 4", "WHOLE 0 or 1");
        AllocateSolve x = new AllocateSolve();
        x.lot(0, 0, 1, 0);
        x.line(0, 2);
        x.rule(0, 3, 1);
        for (int v : Check.outside(0, 1)) {
            Check.refused("whole " + v, Check.RANGE, () -> x.rule(0, 3, v));
        }
        Check.same("all or nothing", x.solve(2), 2000);
        x.rule(0, 3, 0);
        for (int v : Check.outside(0, 1)) {
            Check.refused("whole " + v, Check.RANGE, () -> x.rule(0, 3, v));
        }
        Check.same("what there is", x.solve(2), 20 + 1000);
    }

    private static void kindsOfRules() {
        Check.sentence("Terms", "kind 0, kind 1, kind 2, kind 3");
        AllocateSolve x = new AllocateSolve();
        x.lot(0, 0, 7, 5);
        x.lot(0, 0, 7, 6);
        x.line(0, 13);
        int before = x.solve(4);
        for (int kind : new int[] {Integer.MIN_VALUE, -4, -1, 4, 5, 256, Integer.MAX_VALUE}) {
            Check.refused("kind " + kind + " of 0", Check.RANGE, () -> x.rule(0, kind, 0));
            Check.refused("kind " + kind + " of 1", Check.RANGE, () -> x.rule(0, kind, 1));
            Check.refused("kind " + kind + " of 8", Check.RANGE, () -> x.rule(0, kind, 8));
            Check.refused("kind " + kind + " of -1", Check.RANGE, () -> x.rule(0, kind, -1));
        }
        Check.same("no rule came of it", x.solve(4), before);
        x.rule(0, 0, 6);
        Check.same("kind 0 is the day", x.solve(4), 20 + 6000);
        x.rule(0, 0, 0);
        x.rule(0, 1, 5);
        Check.same("kind 1 is the pallet", x.solve(4), 40 + 3000);
        x.rule(0, 1, 1);
        x.rule(0, 2, 1);
        Check.same("kind 2 is few", x.solve(4), 20 + 6000);
        x.rule(0, 3, 1);
        Check.same("kind 3 is whole", x.solve(4), 13000);
    }

    private static void dayAtFirst() {
        Check.sentence("Terms", "DAY .. 0 at first");
        AllocateSolve x = new AllocateSolve();
        x.lot(0, 0, 1, 0);
        x.line(0, 1);
        x.rule(0, 0, 9999);
        x.line(0, 1);
        Check.yes("a new line may have a lot of day 0", x.may(0, 1, true));
        Check.no("the line before it not", x.may(0, 0, true));
    }

    private static void palletAtFirst() {
        Check.sentence("Terms", "PALLET .. 1 at first");
        AllocateSolve x = new AllocateSolve();
        x.lot(0, 0, 1, 0);
        x.line(0, 1);
        x.rule(0, 1, 50);
        x.line(0, 1);
        Check.same("one piece for a new line", x.bar(1), 0);
        Check.same("too few for the line before it", x.bar(0), 4);
        Check.same("solved", x.solve(0), 1000 + 20);
    }

    private static void fewAtFirst() {
        Check.sentence("Terms", "FEW .. 8 at first");
        AllocateSolve x = new AllocateSolve();
        for (int lot = 0; lot < 8; lot++) {
            x.lot(0, 0, 1, 0);
        }
        x.line(1, 1);
        x.rule(0, 2, 1);
        x.line(0, 8);
        Check.same("all eight", x.solve(256), 1000 + 160);
        Check.same("all eight by rule", x.solve(255), 1000 + 160);
    }

    private static void wholeAtFirst() {
        Check.sentence("Terms", "WHOLE .. 0 at first");
        AllocateSolve x = new AllocateSolve();
        x.lot(0, 0, 1, 0);
        x.line(0, 2);
        x.rule(0, 3, 1);
        x.line(0, 2);
        Check.same("a new line takes what there is", x.solve(0), 2000 + 20 + 1000);
        Check.same("not the line before it", x.refused(0), 2);
    }

    private static void rulesOfTheLastLineAndOfNone() {
        Check.sentence("Promise 4", "A rule of a line");
        AllocateSolve x = new AllocateSolve();
        x.lot(0, 0, 500, 0);
        for (int line = 0; line < 6; line++) {
            x.line(0, 3);
        }
        x.rule(5, 1, 2);
        x.rule(0, 1, 3);
        for (int no : Check.beyond(6)) {
            Check.refused("rule of line " + no, Check.NONE, () -> x.rule(no, 1, 50));
            Check.refused("wrong kind of line " + no, Check.NONE, () -> x.rule(no, 4, 1));
            Check.refused("wrong value of line " + no, Check.NONE, () -> x.rule(no, 1, 51));
        }
        Check.same("the last line's alone", x.solve(64), 6 * 20 + 1000);
        Check.same("it lacks one", x.refused(5), 1);
    }

    private static void costsWithinTheirRange() {
        Check.sentence("Promise 5", "The cost of a piece (0 .. 1000)");
        AllocateSolve x = new AllocateSolve();
        x.lot(50, 0, 10, 1);
        x.line(0, 2);
        x.cost(0, 0, 0);
        Check.same("told 0, which is not none", x.solve(2), 20);
        Check.same("the gift's", x.give(0, 0, 2), 0);
        x.cost(0, 0, 1000);
        Check.same("told 1000", x.give(0, 0, 2), 1000);
        Check.same("held at 1000", x.count(4), 2000 + 20);
    }

    private static void costsOutsideTheirRange() {
        Check.sentence("Promise 5", "(0 .. 1000) .. -1");
        AllocateSolve x = new AllocateSolve();
        x.lot(50, 0, 10, 1);
        x.line(0, 2);
        x.solve(2);
        for (int c : Check.outside(-1, 1000)) {
            Check.refused("cost " + c, Check.RANGE, () -> x.cost(0, 0, c));
        }
        Check.same("the place still", x.give(0, 0, 2), 50);
        x.cost(0, 0, 7);
        for (int c : Check.outside(-1, 1000)) {
            Check.refused("cost " + c, Check.RANGE, () -> x.cost(0, 0, c));
        }
        Check.same("what was told still", x.give(0, 0, 2), 7);
    }

    private static void noCostAnyMore() {
        Check.sentence("Promise 5", "-1: none is told any more");
        AllocateSolve x = new AllocateSolve();
        x.lot(99, 0, 10, 1);
        x.lot(0, 1, 10, 1);
        x.line(0, 2);
        x.line(1, 2);
        x.solve(4);
        x.cost(0, 0, -1);
        Check.same("none was told", x.give(0, 0, 2), 99);
        x.cost(0, 0, 0);
        x.cost(0, 0, -1);
        Check.same("0 was told", x.give(0, 0, 2), 99);
        x.cost(0, 0, -1);
        Check.same("again", x.give(0, 0, 2), 99);
        x.cost(1, 1, 1000);
        x.cost(1, 1, -1);
        Check.same("1000 was told, the place is 0", x.give(1, 0, 2), 0);
    }

    private static void costsOfLastNumbersAndOfNone() {
        Check.sentence("Promise 5", "of a lot for a line");
        AllocateSolve x = new AllocateSolve();
        for (int lot = 0; lot < 8; lot++) {
            x.lot(9, lot == 7 ? 1 : 0, 10, 1);
        }
        for (int line = 0; line < 6; line++) {
            x.line(1, 1);
        }
        x.cost(7, 5, 3);
        Check.same("the last of both alone", x.bound(), 5 * 29 + 23);
        for (int no : Check.beyond(8)) {
            Check.refused("lot " + no, Check.NONE, () -> x.cost(no, 5, 1));
            Check.refused("lot " + no + " and a wrong cost", Check.NONE, () -> x.cost(no, 5, 1001));
        }
        for (int no : Check.beyond(6)) {
            Check.refused("line " + no, Check.NONE, () -> x.cost(7, no, 1));
            Check.refused("line " + no + " and a wrong cost", Check.NONE, () -> x.cost(7, no, -2));
            Check.refused("neither lot nor line " + no, Check.NONE, () -> x.cost(8, no, -2));
        }
        Check.same("no cost came of it", x.bound(), 5 * 29 + 23);
    }

    private static void mayIsWhetherItIsAllowedThen() {
        Check.sentence("Promise 6", "whether it is allowed then");
        AllocateSolve x = new AllocateSolve();
        x.lot(0, 0, 0, 5);
        x.lot(0, 1, 9, 5);
        x.line(0, 1);
        x.rule(0, 0, 5);
        Check.yes("an empty lot, its last day on the day", x.may(0, 0, true));
        x.rule(0, 0, 6);
        Check.no("a day later", x.may(0, 0, true));
        x.rule(0, 0, 5);
        Check.no("barred", x.may(0, 0, false));
        Check.no("barred twice", x.may(0, 0, false));
        Check.same("no choices then", x.choices(), 1);
        Check.yes("once opened", x.may(0, 0, true));
        Check.yes("opened twice", x.may(0, 0, true));
        Check.no("of another good", x.may(1, 0, true));
        Check.no("of another good, barred", x.may(1, 0, false));
        x.rule(0, 1, 50);
        Check.yes("fewer pieces than a pallet", x.may(0, 0, true));
        Check.same("one lot is allowed", x.choices(), 2);
    }

    private static void mayOfLastNumbersAndOfNone() {
        Check.sentence("Promise 6", "Whether a lot may be given to a line");
        AllocateSolve x = new AllocateSolve();
        for (int lot = 0; lot < 8; lot++) {
            x.lot(0, lot == 0 || lot == 7 ? 5 : 0, 1, 0);
        }
        for (int line = 0; line < 6; line++) {
            x.line(5, 1);
        }
        Check.same("two lots for six lines", x.choices(), 4096);
        Check.no("the last of both", x.may(7, 5, false));
        Check.same("that one alone", x.choices(), 2048);
        for (int no : Check.beyond(8)) {
            Check.refused("lot " + no, Check.NONE, () -> x.may(no, 0, false));
            Check.refused("lot " + no + " open", Check.NONE, () -> x.may(no, 5, true));
        }
        for (int no : Check.beyond(6)) {
            Check.refused("line " + no, Check.NONE, () -> x.may(0, no, false));
            Check.refused("line " + no + " open", Check.NONE, () -> x.may(7, no, true));
        }
        Check.same("nothing came of it", x.choices(), 2048);
        Check.yes("open again", x.may(7, 5, true));
        Check.same("all choices again", x.choices(), 4096);
    }
}
