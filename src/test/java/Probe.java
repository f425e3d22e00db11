/**
 * Asks an object for all that its calls can show, and writes the answers down: first what it
 * holds as it is, then solvings, then each cost and bar on its own. It leaves another object behind.
 */
final class Probe {
    private static final int MOST_CALLS = 512;

    private interface Answer {
        long get();
    }

    private final AllocateSolve x;
    private final StringBuilder log = new StringBuilder();
    private final int lots;
    private final int lines;
    private int calls = 2;

    private Probe(AllocateSolve x) {
        this.x = x;
        lots = x.count(0);
        lines = x.count(1);
    }

    /** The answers, after so many calls on the object: all of them stay within the document's limit. */
    static String of(AllocateSolve x, int callsBefore) {
        Probe probe = new Probe(x);
        probe.askHoldings();
        probe.askSolvings();
        probe.askPairs();
        Check.yes("calls within their limit", callsBefore + probe.calls <= MOST_CALLS);
        return probe.log.toString();
    }

    /** What the object holds as it is: calls that only ask. */
    static String holdings(AllocateSolve x) {
        Probe probe = new Probe(x);
        probe.askHoldings();
        return probe.log.toString();
    }

    private void note(String name, Answer answer) {
        calls++;
        log.append(name).append('=');
        try {
            log.append(answer.get());
        } catch (RuntimeException e) {
            // What is asked here can only be missing or not be held; all else comes of a fault.
            Check.yes(name + " threw " + e, e.getClass() == Check.NONE || e.getClass() == Check.NO_DIVISOR);
            log.append(e.getClass().getSimpleName());
        }
        log.append(' ');
    }

    private void askHoldings() {
        note("exact", () -> x.exact() ? 1 : 0);
        note("choices", x::choices);
        note("bound", x::bound);
        for (int what = 0; what <= 4; what++) {
            int asked = what;
            note("count" + what, () -> x.count(asked));
        }
        for (int i = 0; i <= lots; i++) {
            int lot = i;
            note("held" + lot, () -> x.held(lot));
            note("left" + lot, () -> x.left(lot));
        }
        for (int i = 0; i <= lines; i++) {
            int line = i;
            note("refused" + line, () -> x.refused(line));
            note("bar" + line, () -> x.bar(line));
            note("average" + line, () -> x.average(line));
        }
        askGifts();
    }

    private void askGifts() {
        for (int line = 0; line < lines; line++) {
            int i = 0;
            while (i < 8 && askGift(line, i)) {
                i++;
            }
        }
    }

    private boolean askGift(int line, int i) {
        int before = log.length();
        note("lot" + line + i, () -> x.give(line, i, 0));
        if (log.indexOf("Exception", before) >= 0) {
            return false;
        }
        note("pieces" + line + i, () -> x.give(line, i, 1));
        note("cost" + line + i, () -> x.give(line, i, 2));
        return true;
    }

    private void askSolvings() {
        note("rule", () -> x.solve(0));
        askGifts();
        note("solve", () -> x.solve(40000));
        askGifts();
    }

    /** With all lots barred but one, the bound shows that one's cost. */
    private void askPairs() {
        for (int line = 0; line < lines; line++) {
            for (int lot = 0; lot < lots; lot++) {
                ask(lot, line, false);
            }
            for (int lot = 0; lot < lots; lot++) {
                ask(lot, line, true);
                note("bound", x::bound);
                ask(lot, line, false);
            }
        }
    }

    private void ask(int lot, int line, boolean on) {
        note("may" + lot + line, () -> x.may(lot, line, on) ? 1 : 0);
    }
}
