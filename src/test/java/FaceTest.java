import java.lang.reflect.Constructor;
import java.lang.reflect.Field;
import java.lang.reflect.Method;
import java.lang.reflect.Modifier;
import java.util.Arrays;
import java.util.Set;
import java.util.TreeSet;

/** The public face: just the members of the document, and no other that can be seen. */
public final class FaceTest {
    private static final String[] FACE = {
        "int lot(int,int,int,int) IllegalArgumentException UnsupportedOperationException",
        "int line(int,int) IllegalArgumentException UnsupportedOperationException",
        "void rule(int,int,int) NoSuchElementException IllegalArgumentException",
        "void cost(int,int,int) NoSuchElementException IllegalArgumentException",
        "boolean may(int,int,boolean) NoSuchElementException",
        "int solve(int) IllegalArgumentException",
        "boolean exact()",
        "int choices()",
        "int bound()",
        "int give(int,int,int) NoSuchElementException IllegalArgumentException",
        "int held(int) NoSuchElementException",
        "int left(int) NoSuchElementException",
        "int bar(int) NoSuchElementException",
        "int change(int,int) NoSuchElementException IllegalArgumentException",
        "int undo(int) NoSuchElementException IllegalStateException",
        "int refused(int) NoSuchElementException",
        "int average(int) NoSuchElementException ArithmeticException",
        "int count(int)",
    };

    public static void main(String[] args) {
        Class<?> type = AllocateSolve.class;
        Check.same("modifiers of the class", type.getModifiers(), Modifier.PUBLIC | Modifier.FINAL);
        methodsAreTheFace(type);
        Constructor<?>[] makers = type.getDeclaredConstructors();
        Check.same("constructors", makers.length, 1);
        Check.same("modifiers of the constructor", makers[0].getModifiers(), Modifier.PUBLIC);
        Check.same("parameters of the constructor", makers[0].getParameterCount(), 0);
        for (Field field : type.getDeclaredFields()) {
            Check.yes("private: " + field.getName(), Modifier.isPrivate(field.getModifiers()));
            if (Modifier.isStatic(field.getModifiers())) {
                Check.yes("final: " + field.getName(), Modifier.isFinal(field.getModifiers()));
            }
        }
        for (Class<?> inside : type.getDeclaredClasses()) {
            Check.yes("static: " + inside.getName(), Modifier.isStatic(inside.getModifiers()));
        }
        Check.done("FaceTest");
    }

    private static void methodsAreTheFace(Class<?> type) {
        Set<String> due = new TreeSet<>(Arrays.asList(FACE));
        Set<String> seen = new TreeSet<>();
        Set<String> names = new TreeSet<>();
        for (Method method : type.getDeclaredMethods()) {
            if (Modifier.isPublic(method.getModifiers())) {
                seen.add(signature(method));
                names.add(method.getName());
            }
        }
        for (String one : due) {
            Check.yes("in the class: " + one, seen.contains(one));
        }
        for (String one : seen) {
            Check.yes("in the document: " + one, due.contains(one));
        }
        for (Method method : type.getDeclaredMethods()) {
            if (!Modifier.isPublic(method.getModifiers())) {
                Check.yes("private: " + method.getName(), Modifier.isPrivate(method.getModifiers()));
                Check.no("a public one's name: " + method.getName(), names.contains(method.getName()));
            }
        }
    }

    private static String signature(Method method) {
        StringBuilder text = new StringBuilder();
        text.append(method.getReturnType().getSimpleName()).append(' ').append(method.getName()).append('(');
        String comma = "";
        for (Class<?> one : method.getParameterTypes()) {
            text.append(comma).append(one.getSimpleName());
            comma = ",";
        }
        text.append(')');
        for (Class<?> one : method.getExceptionTypes()) {
            text.append(' ').append(one.getSimpleName());
        }
        return text.toString();
    }
}
