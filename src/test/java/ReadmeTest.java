import java.io.IOException;
import java.lang.reflect.Method;
import java.lang.reflect.Modifier;
import java.nio.file.Files;
import java.nio.file.Path;
import java.util.ArrayList;
import java.util.List;

/** README.md: its example runs and answers what it says, and its table has every call of the face. */
public final class ReadmeTest {
    public static void main(String[] args) throws IOException {
        List<String> readme = Files.readAllLines(Path.of("README.md"));
        List<String> example = between(readme, "```java", "```");
        List<String> here = between(Files.readAllLines(Path.of("src/test/java/ReadmeTest.java")),
                "// As in README.md:", "// So far.");
        Check.sameText("the example is the one that is run", String.join("\n", example), String.join("\n", here));
        Check.sameText("its answers", String.join(" ", answersTold(example)), answersOfTheExample());
        for (Method method : AllocateSolve.class.getDeclaredMethods()) {
            if (Modifier.isPublic(method.getModifiers())) {
                tableHas(readme, method);
            }
        }
        Check.done("ReadmeTest");
    }

    private static String answersOfTheExample() {
        // As in README.md:
        AllocateSolve x = new AllocateSolve();
        int early = x.lot(5, 1, 20, 100);   // 0: at place 5, of good 1, 20 pieces, last day 100
        int late = x.lot(2, 1, 50, 300);    // 1: the next number
        int line = x.line(1, 25);           // 0: lines have numbers of their own; it wants 25 of good 1
        x.rule(line, 1, 5);                 // PALLET: by fives alone
        int choices = x.choices();          // 4: each of two lots or not
        int bound = x.bound();              // 70: 25 pieces at 2, the lesser place, and 20
        int cost = x.solve(40000);          // 70: the four plans are tried, this one is the cheapest
        boolean exact = x.exact();          // true: there were no more choices than 40000
        int lot = x.give(line, 0, 0);       // 1: the line's first gift is of this lot
        int pieces = x.give(line, 0, 1);    // 25: so many of it
        int losers = x.change(late, 10);    // 1: ten pieces are there now, so one line lets go some
        int missing = x.refused(line);      // 15: these it wants and does not hold
        int byRule = x.solve(0);            // 150: 20 of the earlier lot at 5, 5 of the later at 2, and 40
        int average = x.average(line);      // 4: 110 for 25 pieces
        int again = x.undo(line);           // 25: the line lets go all
        // So far.
        Object[] answers = {early, late, line, choices, bound, cost, exact, lot, pieces, losers, missing, byRule,
            average, again};
        List<String> texts = new ArrayList<>();
        for (Object one : answers) {
            texts.add(one.toString());
        }
        return String.join(" ", texts);
    }

    private static List<String> between(List<String> lines, String first, String last) {
        List<String> found = new ArrayList<>();
        boolean inside = false;
        for (String line : lines) {
            String text = line.strip();
            if (inside && text.equals(last)) {
                return found;
            }
            if (inside) {
                found.add(text);
            }
            inside = inside || text.equals(first);
        }
        return found;
    }

    /** What stands between the slashes and the colon, in lines that keep an answer. */
    private static List<String> answersTold(List<String> example) {
        List<String> told = new ArrayList<>();
        for (String line : example) {
            int note = line.indexOf("// ");
            if (line.contains(" = x.") && note >= 0) {
                told.add(line.substring(note + 3, line.indexOf(':', note)));
            }
        }
        return told;
    }

    private static void tableHas(List<String> readme, Method method) {
        StringBuilder due = new StringBuilder();
        for (Class<?> one : method.getExceptionTypes()) {
            due.append(due.length() == 0 ? "" : ", ").append(one.getSimpleName());
        }
        int rows = 0;
        for (String line : readme) {
            if (line.startsWith("| `" + method.getName() + "(")) {
                String[] cells = line.split("\\|", -1);
                Check.same(method.getName() + ": parameters in README.md", parameters(cells[1]),
                        method.getParameterCount());
                Check.sameText(method.getName() + ": refusals in README.md", cells[3].strip(), due.toString());
                rows++;
            }
        }
        Check.same(method.getName() + ": rows in README.md", rows, 1);
    }

    private static int parameters(String call) {
        return call.contains("()") ? 0 : call.split(",").length;
    }
}
