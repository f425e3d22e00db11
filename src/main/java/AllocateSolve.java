import java.util.NoSuchElementException;

/**
 * Allocation in a warehouse: lines of orders are given pieces of lots, at the least cost of all
 * plans where these are few enough, else by rule.
 */
public final class AllocateSolve {
    private static final int MOST_LOTS = 8;
    private static final int MOST_LINES = 6;
    private static final int MOST_PLACE = 99;
    private static final int MOST_GOOD = 5;
    private static final int MOST_PIECES = 500;
    private static final int MOST_DAY = 9999;
    private static final int MOST_WANTED = 200;
    private static final int MOST_COST = 1000;
    private static final int MOST_CHOICES_TRIED = 40000;
    private static final int MOST_CHOICES_TOLD = 1000000;

    private static final int COST_OF_GIFT = 20;
    private static final int COST_OF_REFUSED = 1000;
    private static final int NOT_TOLD = -1;

    private static final int DAY = 0;
    private static final int PALLET = 1;
    private static final int FEW = 2;
    private static final int WHOLE = 3;
    private static final int KINDS = 4;
    private static final int[] RULE_LEAST = {0, 1, 1, 0};
    private static final int[] RULE_MOST = {9999, 50, 8, 1};
    private static final int[] RULE_FIRST = {0, 1, 8, 0};

    private final Floor floor;
    private final Lots lots;
    private final Lines lines;
    private final Search search;
    private boolean solvedExactly;

    public AllocateSolve() {
        search = new Search();
        floor = search.floor;
        lots = floor.lots;
        lines = floor.lines;
        solvedExactly = false;
    }

    public int lot(int place, int good, int n, int until)
            throws IllegalArgumentException, UnsupportedOperationException {
        needRange(place, 0, MOST_PLACE);
        needRange(good, 0, MOST_GOOD);
        needRange(n, 0, MOST_PIECES);
        needRange(until, 0, MOST_DAY);
        if (lots.size >= MOST_LOTS) {
            throw new UnsupportedOperationException("no room for a lot");
        }
        return lots.add(place, good, n, until);
    }

    public int line(int good, int n) throws IllegalArgumentException, UnsupportedOperationException {
        needRange(good, 0, MOST_GOOD);
        needRange(n, 1, MOST_WANTED);
        if (lines.size >= MOST_LINES) {
            throw new UnsupportedOperationException("no room for a line");
        }
        return lines.add(good, n);
    }

    public void rule(int line, int kind, int v) throws NoSuchElementException, IllegalArgumentException {
        needLine(line);
        needRange(kind, DAY, WHOLE);
        needRange(v, RULE_LEAST[kind], RULE_MOST[kind]);
        lines.rules[line][kind] = v;
    }

    public void cost(int lot, int line, int c) throws NoSuchElementException, IllegalArgumentException {
        needLot(lot);
        needLine(line);
        needRange(c, NOT_TOLD, MOST_COST);
        lines.told[line][lot] = c;
    }

    public boolean may(int lot, int line, boolean on) throws NoSuchElementException {
        needLot(lot);
        needLine(line);
        lines.setBarred(line, lot, !on);
        return floor.allows(line, lot);
    }

    public int solve(int most) throws IllegalArgumentException {
        needRange(most, 0, MOST_CHOICES_TRIED);
        int plans = floor.countChoices();
        solvedExactly = plans >= 0 && plans <= most;
        floor.clear();
        search.readAllowed();
        if (solvedExactly) {
            search.allocateAtLeastCost();
        } else {
            search.allocateByRule();
        }
        return floor.totalCost();
    }

    public boolean exact() {
        return solvedExactly;
    }

    public int choices() {
        return floor.countChoices();
    }

    public int bound() {
        int sum = 0;
        for (int line = 0; line < lines.size; line++) {
            sum += floor.lineBound(line);
        }
        return sum;
    }

    public int give(int line, int i, int what) throws NoSuchElementException, IllegalArgumentException {
        needLine(line);
        int lot = floor.lotOfGift(line, i);
        if (lot < 0) {
            throw new NoSuchElementException("no such gift");
        }
        needRange(what, 0, 2);
        if (what == 0) {
            return lot;
        }
        return what == 1 ? lines.gifts[line][lot] : floor.pieceCost(line, lot);
    }

    public int held(int lot) throws NoSuchElementException {
        needLot(lot);
        return lots.pieces[lot] - lots.free[lot];
    }

    public int left(int lot) throws NoSuchElementException {
        needLot(lot);
        return lots.free[lot];
    }

    public int bar(int line) throws NoSuchElementException {
        needLine(line);
        return floor.firstBar(line);
    }

    public int change(int lot, int n) throws NoSuchElementException, IllegalArgumentException {
        needLot(lot);
        needRange(n, 0, MOST_PIECES);
        return floor.setPieces(lot, n);
    }

    public int undo(int line) throws NoSuchElementException, IllegalStateException {
        needLine(line);
        int pieces = floor.piecesOf(line);
        if (pieces == 0) {
            throw new IllegalStateException("the line holds nothing");
        }
        floor.letGo(line);
        return pieces;
    }

    public int refused(int line) throws NoSuchElementException {
        needLine(line);
        return lines.want[line] - floor.piecesOf(line);
    }

    public int average(int line) throws NoSuchElementException, ArithmeticException {
        needLine(line);
        int pieces = floor.piecesOf(line);
        if (pieces == 0) {
            throw new ArithmeticException("/ by zero");
        }
        return floor.costOfPieces(line) / pieces;
    }

    public int count(int what) {
        switch (what) {
            case 0:
                return lots.size;
            case 1:
                return lines.size;
            case 2:
                return floor.totalPieces();
            case 3:
                return floor.totalGifts();
            case 4:
                return floor.totalCost();
            default:
                return -1;
        }
    }

    private void needLot(int lot) {
        if (lot < 0 || lot >= lots.size) {
            throw new NoSuchElementException("no such lot");
        }
    }

    private void needLine(int line) {
        if (line < 0 || line >= lines.size) {
            throw new NoSuchElementException("no such line");
        }
    }

    private static void needRange(int v, int least, int most) {
        if (v < least || v > most) {
            throw new IllegalArgumentException("a number outside its range");
        }
    }

    /** The lots, and the order in which lines take of them. */
    private static final class Lots {
        int size;
        final int[] place = new int[MOST_LOTS];
        final int[] good = new int[MOST_LOTS];
        final int[] until = new int[MOST_LOTS];
        final int[] pieces = new int[MOST_LOTS];
        /** Pieces that nobody holds: kept, not counted anew, as the search asks for them most. */
        final int[] free = new int[MOST_LOTS];
        final int[] order = new int[MOST_LOTS];

        int add(int itsPlace, int itsGood, int n, int itsUntil) {
            int lot = size;
            place[lot] = itsPlace;
            good[lot] = itsGood;
            until[lot] = itsUntil;
            pieces[lot] = n;
            free[lot] = n;
            putInOrder(lot);
            size++;
            return lot;
        }

        private void putInOrder(int lot) {
            int at = lot;
            while (at > 0 && comesBefore(lot, order[at - 1])) {
                order[at] = order[at - 1];
                at--;
            }
            order[at] = lot;
        }

        /** The lesser number needs no look: a new lot has the greatest, so a tie leaves it behind. */
        private boolean comesBefore(int newLot, int other) {
            if (until[newLot] != until[other]) {
                return until[newLot] < until[other];
            }
            return place[newLot] < place[other];
        }
    }

    /** The lines: what they want, by which rules, and what they hold. */
    private static final class Lines {
        int size;
        final int[] good = new int[MOST_LINES];
        final int[] want = new int[MOST_LINES];
        final int[] barred = new int[MOST_LINES];
        final int[][] rules = new int[MOST_LINES][KINDS];
        final int[][] told = new int[MOST_LINES][MOST_LOTS];
        final int[][] gifts = new int[MOST_LINES][MOST_LOTS];

        int add(int itsGood, int n) {
            int line = size;
            good[line] = itsGood;
            want[line] = n;
            for (int kind = 0; kind < KINDS; kind++) {
                rules[line][kind] = RULE_FIRST[kind];
            }
            // Lots that come later are covered too: no cost is told for them either.
            for (int lot = 0; lot < MOST_LOTS; lot++) {
                told[line][lot] = NOT_TOLD;
            }
            size++;
            return line;
        }

        void setBarred(int line, int lot, boolean on) {
            int bit = 1 << lot;
            barred[line] = on ? barred[line] | bit : barred[line] & ~bit;
        }

        boolean isBarred(int line, int lot) {
            return (barred[line] >> lot & 1) == 1;
        }
    }

    /** Lots and lines together: who may have what, who holds what, and what that costs. */
    private static final class Floor {
        final Lots lots = new Lots();
        final Lines lines = new Lines();

        /** How many of the things that can bar a line a lot gets past, in the order of firstBar. */
        private int barsPassed(int line, int lot) {
            if (lots.good[lot] != lines.good[line]) {
                return 0;
            }
            if (lots.until[lot] < lines.rules[line][DAY]) {
                return 1;
            }
            if (lines.isBarred(line, lot)) {
                return 2;
            }
            return lots.free[lot] < lines.rules[line][PALLET] ? 3 : 4;
        }

        boolean allows(int line, int lot) {
            return barsPassed(line, lot) >= 3;
        }

        int firstBar(int line) {
            int passed = 0;
            for (int lot = 0; lot < lots.size; lot++) {
                passed = Math.max(passed, barsPassed(line, lot));
            }
            return passed == 4 ? 0 : passed + 1;
        }

        int pieceCost(int line, int lot) {
            int told = lines.told[line][lot];
            return told == NOT_TOLD ? lots.place[lot] : told;
        }

        int countChoices() {
            int found = 1;
            for (int line = 0; line < lines.size; line++) {
                for (int lot = 0; lot < lots.size; lot++) {
                    if (allows(line, lot)) {
                        found *= 2;
                    }
                    // Left at once, as the product of all could be 2 to the 48.
                    if (found > MOST_CHOICES_TOLD) {
                        return -1;
                    }
                }
            }
            return found;
        }

        int lineBound(int line) {
            int want = lines.want[line];
            int least = COST_OF_REFUSED * want;
            for (int lot = 0; lot < lots.size; lot++) {
                if (allows(line, lot)) {
                    least = Math.min(least, pieceCost(line, lot) * want + COST_OF_GIFT);
                }
            }
            return least;
        }

        /** The lot of a line's i-th gift, or -1. */
        int lotOfGift(int line, int i) {
            int before = 0;
            for (int k = 0; k < lots.size; k++) {
                int lot = lots.order[k];
                if (lines.gifts[line][lot] > 0) {
                    if (before == i) {
                        return lot;
                    }
                    before++;
                }
            }
            return -1;
        }

        int piecesOf(int line) {
            int sum = 0;
            for (int lot = 0; lot < lots.size; lot++) {
                sum += lines.gifts[line][lot];
            }
            return sum;
        }

        private int giftsOf(int line) {
            int found = 0;
            for (int lot = 0; lot < lots.size; lot++) {
                if (lines.gifts[line][lot] > 0) {
                    found++;
                }
            }
            return found;
        }

        int costOfPieces(int line) {
            int sum = 0;
            for (int lot = 0; lot < lots.size; lot++) {
                sum += lines.gifts[line][lot] * pieceCost(line, lot);
            }
            return sum;
        }

        int lineCost(int line) {
            int sum = COST_OF_REFUSED * lines.want[line];
            for (int lot = 0; lot < lots.size; lot++) {
                int n = lines.gifts[line][lot];
                if (n > 0) {
                    sum += COST_OF_GIFT + n * (pieceCost(line, lot) - COST_OF_REFUSED);
                }
            }
            return sum;
        }

        int totalPieces() {
            int sum = 0;
            for (int line = 0; line < lines.size; line++) {
                sum += piecesOf(line);
            }
            return sum;
        }

        int totalGifts() {
            int sum = 0;
            for (int line = 0; line < lines.size; line++) {
                sum += giftsOf(line);
            }
            return sum;
        }

        int totalCost() {
            int sum = 0;
            for (int line = 0; line < lines.size; line++) {
                sum += lineCost(line);
            }
            return sum;
        }

        void move(int line, int lot, int n) {
            lines.gifts[line][lot] += n;
            lots.free[lot] -= n;
        }

        void letGo(int line) {
            for (int lot = 0; lot < lots.size; lot++) {
                move(line, lot, -lines.gifts[line][lot]);
            }
        }

        void clear() {
            for (int line = 0; line < lines.size; line++) {
                letGo(line);
            }
        }

        /** Gives a lot n pieces and answers how many lines had to let go something. */
        int setPieces(int lot, int n) {
            lots.free[lot] += n - lots.pieces[lot];
            lots.pieces[lot] = n;
            int losers = 0;
            for (int line = lines.size - 1; line >= 0 && lots.free[lot] < 0; line--) {
                if (lines.gifts[line][lot] > 0) {
                    giveUp(line, lot);
                    losers++;
                }
            }
            return losers;
        }

        private void giveUp(int line, int lot) {
            if (lines.rules[line][WHOLE] == 1) {
                letGo(line);
            } else {
                move(line, lot, -Math.min(lines.gifts[line][lot], -lots.free[lot]));
            }
        }
    }

    /** Chooses the sets of lots that the lines take of, and lets them take. */
    private static final class Search {
        final Floor floor = new Floor();
        private final Lots lots = floor.lots;
        private final Lines lines = floor.lines;
        private final int[][] allowed = new int[MOST_LINES][MOST_LOTS];
        private final int[] allowedCount = new int[MOST_LINES];
        private final int[] tried = new int[MOST_LINES];
        private final int[] best = new int[MOST_LINES];
        private final int[] restBound = new int[MOST_LINES + 1];
        private int bestCost;

        void readAllowed() {
            for (int line = 0; line < lines.size; line++) {
                int found = 0;
                for (int k = 0; k < lots.size; k++) {
                    int lot = lots.order[k];
                    if (floor.allows(line, lot)) {
                        allowed[line][found] = lot;
                        found++;
                    }
                }
                allowedCount[line] = found;
            }
        }

        void allocateByRule() {
            for (int line = 0; line < lines.size; line++) {
                int taken = Math.min(lines.rules[line][FEW], allowedCount[line]);
                take(line, (1 << taken) - 1);
            }
        }

        void allocateAtLeastCost() {
            readBounds();
            // The plan by rule is one of the plans, so none that costs more need be looked at.
            allocateByRule();
            bestCost = floor.totalCost() + 1;
            floor.clear();
            explore(this, 0, 0);
            for (int line = 0; line < lines.size; line++) {
                take(line, best[line]);
            }
        }

        private void readBounds() {
            restBound[lines.size] = 0;
            for (int line = lines.size - 1; line >= 0; line--) {
                restBound[line] = restBound[line + 1] + floor.lineBound(line);
            }
        }

        /**
         * Tries the sets of a line and of all behind it. Lesser sets come first, so that only a
         * plan that costs less may take the place of one that was found before it.
         */
        private static void explore(Search s, int line, int costBefore) {
            if (line >= s.lines.size) {
                s.keep(costBefore);
                return;
            }
            int sets = 1 << s.allowedCount[line];
            for (int set = 0; set < sets; set++) {
                int size = Integer.bitCount(set);
                if (size <= s.lines.rules[line][FEW]) {
                    s.tried[line] = set;
                    // Without a lot that gives nothing the set is lesser, does the same, and came before.
                    if (s.take(line, set) == size) {
                        exploreBehind(s, line, costBefore + s.floor.lineCost(line));
                    }
                    s.floor.letGo(line);
                }
            }
        }

        private static void exploreBehind(Search s, int line, int cost) {
            if (cost + s.restBound[line + 1] < s.bestCost) {
                explore(s, line + 1, cost);
            }
        }

        private void keep(int cost) {
            bestCost = cost;
            for (int line = 0; line < lines.size; line++) {
                best[line] = tried[line];
            }
        }

        /** Lets a line take of a set and answers of how many lots it has something then. */
        private int take(int line, int set) {
            int still = lines.want[line];
            int givers = 0;
            for (int k = 0; k < allowedCount[line]; k++) {
                if ((set >> k & 1) == 1) {
                    int lot = allowed[line][k];
                    int n = roundDown(Math.min(still, lots.free[lot]), lines.rules[line][PALLET]);
                    floor.move(line, lot, n);
                    still -= n;
                    givers += n > 0 ? 1 : 0;
                }
            }
            if (still > 0 && lines.rules[line][WHOLE] == 1) {
                floor.letGo(line);
                return 0;
            }
            return givers;
        }

        private static int roundDown(int n, int pallet) {
            return pallet > 1 ? n - n % pallet : n;
        }
    }
}
