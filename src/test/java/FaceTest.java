import java.lang.reflect.AccessibleObject;
import java.lang.reflect.Constructor;
import java.lang.reflect.Field;
import java.lang.reflect.Member;
import java.lang.reflect.Method;
import java.lang.reflect.Modifier;
import java.util.ArrayList;
import java.util.Arrays;
import java.util.List;
import java.util.Set;
import java.util.TreeSet;

/** The public face of the document, and rules 1 and 5 of LANGUAGE.md, as far as they can be seen from outside. */
final class FaceTest {
    private static final String I = "IllegalArgumentException";
    private static final String S = "IllegalStateException";
    private static final String U = "UnsupportedOperationException";
    private static final String X = "IndexOutOfBoundsException";
    private static final String N = "NoSuchElementException";

    private static final String[] FACE = {
        "int document(int) " + I + " " + S,
        "int word(int) " + I + " " + S,
        "int smooth(int, double) " + I,
        "int token(int, int, double) " + I + " " + S + " " + U,
        "int clear()",
        "int wanted()",
        "double belief(int) " + X + " " + S + " " + N,
        "int hits(int, int) " + X + " " + S + " " + U,
        "int search(int) " + I + " " + S,
        "int found(int) " + X,
        "double score(int) " + X,
        "int model(int) " + I + " " + S,
        "double told(int, int) " + X + " " + I,
        "int count(int) " + I,
    };

    public static void main(String[] args) {
        Class<?> type = BeliefForge.class;
        Check.same("public and final", Modifier.PUBLIC | Modifier.FINAL, type.getModifiers());
        constructors(type);
        Set<String> names = methods(type);
        noOtherMembers(type, names);
        for (Class<?> inside : type.getDeclaredClasses()) {
            int how = inside.getModifiers();
            Check.same(inside + " is static", 1, Modifier.isStatic(how) ? 1 : 0);
            Check.same(inside + " is not public", 0, how & (Modifier.PUBLIC | Modifier.PROTECTED));
            noNameOfTheFace(inside, names);
            staticFields(inside);
        }
        staticFields(type);
        Check.end();
    }

    private static void constructors(Class<?> type) {
        Constructor<?>[] all = type.getDeclaredConstructors();
        Check.same("constructors", 1, all.length);
        Check.same("parameters of the constructor", 0, all[0].getParameterCount());
        Check.same("the constructor is public", Modifier.PUBLIC, all[0].getModifiers());
    }

    private static Set<String> methods(Class<?> type) {
        Set<String> due = new TreeSet<>(Arrays.asList(FACE));
        Set<String> got = new TreeSet<>();
        Set<String> names = new TreeSet<>();
        for (Method method : type.getDeclaredMethods()) {
            if (Modifier.isPublic(method.getModifiers())) {
                got.add(text(method));
                names.add(method.getName());
                Check.same(method + " is public alone", Modifier.PUBLIC, method.getModifiers());
            }
        }
        if (!due.equals(got)) {
            System.out.println("the face is " + got + ", due is " + due);
        }
        Check.same("the face", 1, due.equals(got) ? 1 : 0);
        return names;
    }

    private static String text(Method method) {
        List<String> parameters = new ArrayList<>();
        for (Class<?> parameter : method.getParameterTypes()) {
            parameters.add(parameter.getSimpleName());
        }
        StringBuilder text = new StringBuilder();
        text.append(method.getReturnType()).append(' ').append(method.getName());
        text.append('(').append(String.join(", ", parameters)).append(')');
        for (Class<?> thrown : method.getExceptionTypes()) {
            text.append(' ').append(thrown.getSimpleName());
        }
        return text.toString();
    }

    private static void noOtherMembers(Class<?> type, Set<String> names) {
        for (Method method : type.getDeclaredMethods()) {
            if (!Modifier.isPublic(method.getModifiers())) {
                isPrivate(method, method);
                Check.same(method + " bears a name of the face", 0, names.contains(method.getName()) ? 1 : 0);
            }
        }
        for (Field field : type.getDeclaredFields()) {
            isPrivate(field, field);
        }
    }

    private static void isPrivate(Member member, AccessibleObject shown) {
        Check.same(shown + " is private", 1, Modifier.isPrivate(member.getModifiers()) ? 1 : 0);
    }

    private static void noNameOfTheFace(Class<?> inside, Set<String> names) {
        for (Method method : inside.getDeclaredMethods()) {
            if (Modifier.isPrivate(method.getModifiers())) {
                Check.same(method + " bears a name of the face", 0, names.contains(method.getName()) ? 1 : 0);
            }
        }
    }

    private static void staticFields(Class<?> type) {
        Set<Class<?>> fine = Set.of(int.class, long.class, boolean.class, char.class, String.class,
                int[].class, long[].class, char[].class, byte[].class);
        for (Field field : type.getDeclaredFields()) {
            if (Modifier.isStatic(field.getModifiers())) {
                Check.same(field + " is final", 1, Modifier.isFinal(field.getModifiers()) ? 1 : 0);
                Check.same(field + " is of a fine type", 1, fine.contains(field.getType()) ? 1 : 0);
            }
        }
    }
}
