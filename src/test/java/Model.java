import java.util.ArrayList;
import java.util.Comparator;
import java.util.List;
import java.util.NoSuchElementException;

/** The document word by word, with no regard for speed: what the class is measured against. */
final class Model {
    static final class Lot {
        int number;
        int place;
        int good;
        int pieces;
        int until;
    }

    static final class Line {
        int good;
        int wants;
        int day = 0;
        int pallet = 1;
        int few = 8;
        boolean whole = false;
        final List<Lot> barred = new ArrayList<>();
        final int[] told = {-1, -1, -1, -1, -1, -1, -1, -1};
        int[] has = new int[8];
    }

    private final List<Lot> lots = new ArrayList<>();
    private final List<Line> lines = new ArrayList<>();
    private boolean exact = false;

    private static void range(boolean within) {
        if (!within) {
            throw new IllegalArgumentException();
        }
    }

    private Lot lotAt(int lot) {
        if (lot < 0 || lot >= lots.size()) {
            throw new NoSuchElementException();
        }
        return lots.get(lot);
    }

    private Line lineAt(int line) {
        if (line < 0 || line >= lines.size()) {
            throw new NoSuchElementException();
        }
        return lines.get(line);
    }

    private List<Lot> ordered() {
        List<Lot> all = new ArrayList<>(lots);
        all.sort(Comparator.<Lot>comparingInt(l -> l.until).thenComparingInt(l -> l.place)
                .thenComparingInt(l -> l.number));
        return all;
    }

    private static boolean isAllowed(Lot lot, Line line) {
        return lot.good == line.good && lot.until >= line.day && !line.barred.contains(lot);
    }

    private List<Lot> allowedOf(Line line) {
        List<Lot> all = ordered();
        all.removeIf(lot -> !isAllowed(lot, line));
        return all;
    }

    private static int costOf(Lot lot, Line line) {
        return line.told[lot.number] >= 0 ? line.told[lot.number] : lot.place;
    }

    /** What a plan gives: rows by line, elements by lot. */
    private int[][] carryOut(int[] sets) {
        int[] rest = new int[8];
        for (Lot lot : lots) {
            rest[lot.number] = lot.pieces;
        }
        int[][] given = new int[lines.size()][8];
        for (int i = 0; i < sets.length; i++) {
            Line line = lines.get(i);
            List<Lot> allowed = allowedOf(line);
            int[] wish = new int[8];
            int sum = 0;
            for (int k = 0; k < allowed.size(); k++) {
                if ((sets[i] & 1 << k) != 0) {
                    int lot = allowed.get(k).number;
                    wish[lot] = Math.min(line.wants - sum, rest[lot]) / line.pallet * line.pallet;
                    sum += wish[lot];
                }
            }
            if (!line.whole || sum == line.wants) {
                for (int lot = 0; lot < 8; lot++) {
                    given[i][lot] = wish[lot];
                    rest[lot] -= wish[lot];
                }
            }
        }
        return given;
    }

    private int costOf(int[][] given) {
        int cost = 0;
        for (int i = 0; i < lines.size(); i++) {
            Line line = lines.get(i);
            int sum = 0;
            for (Lot lot : lots) {
                int n = given[i][lot.number];
                cost += n * costOf(lot, line) + (n > 0 ? 20 : 0);
                sum += n;
            }
            cost += 1000 * (line.wants - sum);
        }
        return cost;
    }

    private int[][] holdings() {
        int[][] all = new int[lines.size()][];
        for (int i = 0; i < all.length; i++) {
            all[i] = lines.get(i).has;
        }
        return all;
    }

    private static int sum(int[] row) {
        int sum = 0;
        for (int n : row) {
            sum += n;
        }
        return sum;
    }

    int lot(int place, int good, int n, int until) {
        range(place >= 0 && place <= 99 && good >= 0 && good <= 5);
        range(n >= 0 && n <= 500 && until >= 0 && until <= 9999);
        if (lots.size() == 8) {
            throw new UnsupportedOperationException();
        }
        Lot lot = new Lot();
        lot.number = lots.size();
        lot.place = place;
        lot.good = good;
        lot.pieces = n;
        lot.until = until;
        lots.add(lot);
        return lot.number;
    }

    int line(int good, int n) {
        range(good >= 0 && good <= 5 && n >= 1 && n <= 200);
        if (lines.size() == 6) {
            throw new UnsupportedOperationException();
        }
        Line line = new Line();
        line.good = good;
        line.wants = n;
        lines.add(line);
        return lines.size() - 1;
    }

    void rule(int line, int kind, int v) {
        Line one = lineAt(line);
        switch (kind) {
            case 0 -> {
                range(v >= 0 && v <= 9999);
                one.day = v;
            }
            case 1 -> {
                range(v >= 1 && v <= 50);
                one.pallet = v;
            }
            case 2 -> {
                range(v >= 1 && v <= 8);
                one.few = v;
            }
            case 3 -> {
                range(v == 0 || v == 1);
                one.whole = v == 1;
            }
            default -> range(false);
        }
    }

    void cost(int lot, int line, int c) {
        lotAt(lot);
        Line one = lineAt(line);
        range(c >= -1 && c <= 1000);
        one.told[lot] = c;
    }

    boolean may(int lot, int line, boolean on) {
        Lot it = lotAt(lot);
        Line one = lineAt(line);
        one.barred.remove(it);
        if (!on) {
            one.barred.add(it);
        }
        return isAllowed(it, one);
    }

    private long allChoices() {
        long product = 1;
        for (Line line : lines) {
            product <<= allowedOf(line).size();
        }
        return product;
    }

    int solve(int most) {
        range(most >= 0 && most <= 40000);
        exact = allChoices() <= most;
        int[][] given = exact ? carryOut(bestSets()) : carryOut(setsByRule());
        for (int i = 0; i < lines.size(); i++) {
            lines.get(i).has = given[i];
        }
        return costOf(given);
    }

    private int[] setsByRule() {
        int[] sets = new int[lines.size()];
        for (int i = 0; i < sets.length; i++) {
            int lotsTaken = Math.min(lines.get(i).few, allowedOf(lines.get(i)).size());
            for (int k = 0; k < lotsTaken; k++) {
                sets[i] |= 1 << k;
            }
        }
        return sets;
    }

    /** All plans, the last line's set counting up fastest: the first of the cheapest is the one. */
    private int[] bestSets() {
        int[] best = null;
        int least = 0;
        long all = allChoices();
        for (long plan = 0; plan < all; plan++) {
            int[] sets = setsOfPlan(plan);
            if (sets != null) {
                int cost = costOf(carryOut(sets));
                if (best == null || cost < least) {
                    best = sets;
                    least = cost;
                }
            }
        }
        return best;
    }

    private int[] setsOfPlan(long plan) {
        int[] sets = new int[lines.size()];
        long rest = plan;
        for (int i = sets.length - 1; i >= 0; i--) {
            int bits = allowedOf(lines.get(i)).size();
            sets[i] = (int) (rest % (1L << bits));
            rest >>= bits;
            if (Integer.bitCount(sets[i]) > lines.get(i).few) {
                return null;
            }
        }
        return sets;
    }

    boolean exact() {
        return exact;
    }

    int choices() {
        return allChoices() > 1000000 ? -1 : (int) allChoices();
    }

    int bound() {
        int sum = 0;
        for (Line line : lines) {
            int refusedAll = 1000 * line.wants;
            int least = allowedOf(line).stream().mapToInt(lot -> costOf(lot, line)).min().orElse(1000);
            sum += Math.min(refusedAll, least * line.wants + 20);
        }
        return sum;
    }

    private List<Lot> giftsOf(Line line) {
        List<Lot> all = ordered();
        all.removeIf(lot -> line.has[lot.number] == 0);
        return all;
    }

    int give(int line, int i, int what) {
        Line one = lineAt(line);
        List<Lot> gifts = giftsOf(one);
        if (i < 0 || i >= gifts.size()) {
            throw new NoSuchElementException();
        }
        range(what >= 0 && what <= 2);
        Lot lot = gifts.get(i);
        return new int[] {lot.number, one.has[lot.number], costOf(lot, one)}[what];
    }

    int held(int lot) {
        lotAt(lot);
        int sum = 0;
        for (Line line : lines) {
            sum += line.has[lot];
        }
        return sum;
    }

    int left(int lot) {
        return lotAt(lot).pieces - held(lot);
    }

    int bar(int line) {
        Line one = lineAt(line);
        List<Lot> leftOver = new ArrayList<>(lots);
        leftOver.removeIf(lot -> lot.good != one.good);
        if (leftOver.isEmpty()) {
            return 1;
        }
        leftOver.removeIf(lot -> lot.until < one.day);
        if (leftOver.isEmpty()) {
            return 2;
        }
        leftOver.removeIf(one.barred::contains);
        if (leftOver.isEmpty()) {
            return 3;
        }
        leftOver.removeIf(lot -> left(lot.number) < one.pallet);
        return leftOver.isEmpty() ? 4 : 0;
    }

    int change(int lot, int n) {
        Lot it = lotAt(lot);
        range(n >= 0 && n <= 500);
        it.pieces = n;
        int fewer = 0;
        for (int i = lines.size() - 1; i >= 0; i--) {
            Line line = lines.get(i);
            int before = sum(line.has);
            while (held(lot) > n && line.has[lot] > 0) {
                line.has[lot]--;
                if (line.whole) {
                    line.has = new int[8];
                }
            }
            fewer += sum(line.has) < before ? 1 : 0;
        }
        return fewer;
    }

    int undo(int line) {
        Line one = lineAt(line);
        int all = sum(one.has);
        if (all == 0) {
            throw new IllegalStateException();
        }
        one.has = new int[8];
        return all;
    }

    int refused(int line) {
        return lineAt(line).wants - sum(lineAt(line).has);
    }

    int average(int line) {
        Line one = lineAt(line);
        int cost = 0;
        for (Lot lot : lots) {
            cost += one.has[lot.number] * costOf(lot, one);
        }
        return cost / sum(one.has);
    }

    int count(int what) {
        int pieces = 0;
        int gifts = 0;
        for (Line line : lines) {
            pieces += sum(line.has);
            gifts += giftsOf(line).size();
        }
        return switch (what) {
            case 0 -> lots.size();
            case 1 -> lines.size();
            case 2 -> pieces;
            case 3 -> gifts;
            case 4 -> costOf(holdings());
            default -> -1;
        };
    }
}
