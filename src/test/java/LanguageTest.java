import java.io.IOException;
import java.lang.reflect.Field;
import java.lang.reflect.Method;
import java.lang.reflect.Modifier;
import java.nio.file.Files;
import java.nio.file.Path;
import java.util.ArrayList;
import java.util.List;
import java.util.Set;
import java.util.regex.Matcher;
import java.util.regex.Pattern;

/** The rules of LANGUAGE.md that can be read off the source's words or off the classes. */
public final class LanguageTest {
    private static final Path SOURCE = Path.of("src/main/java/AllocateSolve.java");
    private static final Set<Class<?>> NUMBERS = Set.of(int.class, long.class, short.class, byte.class, char.class,
            boolean.class);
    private static final Set<Class<?>> CONSTANTS = Set.of(int.class, long.class, boolean.class, char.class,
            String.class, int[].class, long[].class, char[].class, byte[].class);

    public static void main(String[] args) throws IOException {
        String code = withoutCommentsAndTexts(Files.readString(SOURCE));
        List<Class<?>> classes = new ArrayList<>();
        classes.add(AllocateSolve.class);
        classes.addAll(List.of(AllocateSolve.class.getDeclaredClasses()));
        oneFile();
        types(classes);
        library(code);
        staticFields(classes);
        exceptions(code);
        noWordsThatAreRuledOut(code);
        sizes(classes);
        lengthOfMethods(code);
        nothingIsMadeByCalls(code);
        Check.done("LanguageTest");
    }

    private static String withoutCommentsAndTexts(String source) {
        return source.replaceAll("(?s)/\\*.*?\\*/", "").replaceAll("//[^\n]*", "").replaceAll("\"[^\"\n]*\"", "\"\"");
    }

    private static void oneFile() throws IOException {
        Check.sentence("LANGUAGE.md", "The program is one file");
        try (var files = Files.walk(Path.of("src/main"))) {
            Check.same("files", files.filter(Files::isRegularFile).count(), 1);
        }
        Check.sameText("package", AllocateSolve.class.getPackageName(), "");
    }

    private static void types(List<Class<?>> classes) {
        Check.sentence("LANGUAGE.md, 3", "Types");
        for (Class<?> one : classes) {
            for (Field field : one.getDeclaredFields()) {
                Class<?> type = field.getType();
                int dimensions = 0;
                while (type.isArray()) {
                    type = type.getComponentType();
                    dimensions++;
                }
                Check.yes(name(one, field.getName()), NUMBERS.contains(type) && dimensions <= 2
                        || classes.contains(type) && dimensions <= 1);
            }
        }
    }

    private static void library(String code) {
        Check.sentence("LANGUAGE.md, 4", "only what stands here");
        Set<String> allowed = Set.of("Math.min", "Math.max", "Integer.bitCount");
        Matcher calls = Pattern.compile("\\b(Math|Integer|Long|System|Arrays|Objects|String|Character|Thread)\\.\\w+")
                .matcher(code);
        while (calls.find()) {
            Check.yes(calls.group(), allowed.contains(calls.group()));
        }
        Matcher imports = Pattern.compile("\\bimport\\s+([^;]+);").matcher(code);
        while (imports.find()) {
            Check.sameText("import", imports.group(1), "java.util.NoSuchElementException");
        }
    }

    private static void staticFields(List<Class<?>> classes) {
        Check.sentence("LANGUAGE.md, 5", "Static fields are final");
        for (Class<?> one : classes) {
            for (Field field : one.getDeclaredFields()) {
                if (Modifier.isStatic(field.getModifiers())) {
                    Check.yes(name(one, field.getName()), Modifier.isFinal(field.getModifiers())
                            && CONSTANTS.contains(field.getType()));
                }
            }
        }
    }

    private static void exceptions(String code) {
        Check.sentence("LANGUAGE.md, 6", "throw new E() or throw new E(\"a written text\")");
        Pattern due = Pattern.compile("throw new (IllegalState|IllegalArgument|Arithmetic|UnsupportedOperation"
                + "|NoSuchElement)(Exception)\\((\"\")?\\);");
        Matcher all = Pattern.compile("\\bthrow\\b[^;]*;").matcher(code);
        while (all.find()) {
            Check.yes(all.group(), due.matcher(all.group()).matches());
        }
        for (String word : List.of("try", "catch", "finally")) {
            Check.no(word, hasWord(code, word));
        }
    }

    private static void noWordsThatAreRuledOut(String code) {
        Check.sentence("LANGUAGE.md, 2, 4, 5, 6, 13", "no lambda, no method reference, and others");
        for (String word : List.of("synchronized", "assert", "volatile", "native", "transient", "strictfp", "yield",
                "var", "instanceof", "double", "float")) {
            Check.no(word, hasWord(code, word));
        }
        for (String sign : List.of("->", "::", "Exact(", ".equals(", "hashCode", "toString", "static {", "\" +", "@")) {
            Check.no(sign, code.contains(sign));
        }
    }

    private static void sizes(List<Class<?>> classes) {
        Check.sentence("LANGUAGE.md, 11", "at most seven parameters, some twelve classes, some twenty fields");
        Check.yes("classes", classes.size() <= 12);
        for (Class<?> one : classes) {
            Check.same(name(one, "classes inside"), one == AllocateSolve.class ? 0 : one.getDeclaredClasses().length, 0);
            int fields = 0;
            for (Field field : one.getDeclaredFields()) {
                fields += Modifier.isStatic(field.getModifiers()) ? 0 : 1;
            }
            Check.yes(name(one, "fields"), fields <= 20);
            for (Method method : one.getDeclaredMethods()) {
                Check.yes(name(one, method.getName()), method.getParameterCount() <= 7);
            }
        }
    }

    /** A method begins where a line that is no statement opens a block, and ends at its indent's brace. */
    private static void lengthOfMethods(String code) {
        Check.sentence("LANGUAGE.md, 11", "Methods stay short (some sixty lines)");
        Matcher methods = Pattern.compile("(?ms)^( {4}| {8})[a-zA-Z][\\w<>\\[\\] ]*\\([^;{}]*\\)[^;{}]*\\{$.*?^\\1\\}$")
                .matcher(code);
        while (methods.find()) {
            Check.yes(methods.group().lines().findFirst().orElse(""), methods.group().lines().count() <= 60);
        }
    }

    private static void nothingIsMadeByCalls(String code) {
        Check.sentence("LANGUAGE.md, 12", "What a run makes is counted");
        for (String line : code.split("\n")) {
            if (hasWord(line, "new")) {
                String text = line.strip();
                boolean kept = text.matches("(private )?final [\\w\\[\\]]+ \\w+ = new .*;");
                Check.yes(text, kept || text.startsWith("throw new ") || text.equals("search = new Search();"));
            }
        }
    }

    private static boolean hasWord(String code, String word) {
        return Pattern.compile("\\b" + word + "\\b").matcher(code).find();
    }

    private static String name(Class<?> one, String member) {
        return one.getName() + " " + member;
    }
}
