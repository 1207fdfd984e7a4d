import java.lang.reflect.Constructor;
import java.lang.reflect.Field;
import java.lang.reflect.Member;
import java.lang.reflect.Method;
import java.lang.reflect.Modifier;
import java.util.Arrays;
import java.util.Set;
import java.util.TreeSet;

/** The public face: all of the document's members and no other that can be seen from outside. */
public final class FaceTest {
    private static final String CONSTRUCTOR = "public MarkedRuns();";
    private static final String[] METHODS = {
        "public int make(int sort, int a, int b, int c);",
        "public int drop();",
        "public int body(int method, int statement);",
        "public int run(int method, int x, int budget);",
        "public int told(int what);",
        "public int marks(int kind);",
        "public int began(int k);",
        "public int variable(int x);",
        "public int size(int row);",
        "public int item(int row, int i) throws NullPointerException, ArrayIndexOutOfBoundsException;",
        "public int same(int method, int x, int budget, int other);",
        "public int count(int what);",
    };

    private static boolean isSeen(Member member) {
        return !Modifier.isPrivate(member.getModifiers()) && !member.isSynthetic();
    }

    /** A line of the document's face in the words of Java's reflection: without names of parameters and packages. */
    private static String unnamed(String line) {
        return line.replaceAll("(int) \\w+([,)])", "$1$2").replace(", ", ",").replace(";", "");
    }

    private static String unnamed(Member member) {
        return member.toString().replace("MarkedRuns.", "").replace("java.lang.", "");
    }

    private static void theClass() {
        Due.sentence("public final class MarkedRuns");
        Due.is("the class is public and final", MarkedRuns.class.getModifiers() & Modifier.classModifiers(),
            Modifier.PUBLIC | Modifier.FINAL);
        Due.is("it extends Object alone", MarkedRuns.class.getSuperclass() == Object.class ? 1 : 0, 1);
        Due.is("it implements nothing", MarkedRuns.class.getInterfaces().length, 0);
        for (Class<?> inside : MarkedRuns.class.getDeclaredClasses()) {
            int seen = inside.getModifiers() & (Modifier.PUBLIC | Modifier.PROTECTED | Modifier.STATIC);
            Due.is(inside + " is static and not seen from outside", seen, Modifier.STATIC);
        }
    }

    private static void theConstants() {
        Due.sentence("public static final int NONE = -1, BAD = -2, FULL = -3;");
        Set<String> seen = new TreeSet<>();
        for (Field field : MarkedRuns.class.getDeclaredFields()) {
            if (isSeen(field)) {
                seen.add(unnamed(field));
            }
            boolean fixed = !Modifier.isStatic(field.getModifiers()) || Modifier.isFinal(field.getModifiers());
            Due.is(field.getName() + " is no changing static", fixed ? 1 : 0, 1);
        }
        Set<String> want = Set.of("public static final int NONE", "public static final int BAD",
            "public static final int FULL");
        Due.is("the constants " + seen, seen.equals(want) ? 1 : 0, 1);
        Due.is("NONE", MarkedRuns.NONE, -1);
        Due.is("BAD", MarkedRuns.BAD, -2);
        Due.is("FULL", MarkedRuns.FULL, -3);
    }

    private static void theConstructor() {
        Due.sentence(CONSTRUCTOR);
        Constructor<?>[] all = MarkedRuns.class.getDeclaredConstructors();
        Due.is("how many constructors", all.length, 1);
        Due.is("the constructor", unnamed(all[0]).equals(unnamed(CONSTRUCTOR)) ? 1 : 0, 1);
    }

    private static void theMethods() {
        Set<String> seen = new TreeSet<>();
        Set<String> names = new TreeSet<>();
        for (Method method : MarkedRuns.class.getDeclaredMethods()) {
            if (isSeen(method)) {
                seen.add(unnamed(method));
                names.add(method.getName());
            }
        }
        for (String line : METHODS) {
            Due.sentence(line);
            Due.is(line + " is there", seen.contains(unnamed(line)) ? 1 : 0, 1);
        }
        Due.is("no other method " + seen, seen.size(), METHODS.length);
        for (Method method : MarkedRuns.class.getDeclaredMethods()) {
            boolean twice = !isSeen(method) && names.contains(method.getName());
            Due.is(method.getName() + " is no private method with a public one's name", twice ? 1 : 0, 0);
        }
    }

    private static void itemsExceptions() throws NoSuchMethodException {
        Due.sentence("throws NullPointerException, ArrayIndexOutOfBoundsException");
        for (Method method : MarkedRuns.class.getDeclaredMethods()) {
            int many = method.getName().equals("item") ? 2 : 0;
            Due.is("the exceptions that " + method.getName() + " tells", method.getExceptionTypes().length, many);
        }
        Class<?>[] thrown = MarkedRuns.class.getMethod("item", int.class, int.class).getExceptionTypes();
        Due.is("item's exceptions", Arrays.equals(thrown,
            new Class<?>[] {NullPointerException.class, ArrayIndexOutOfBoundsException.class}) ? 1 : 0, 1);
    }

    public static void main(String[] args) throws NoSuchMethodException {
        theClass();
        theConstants();
        theConstructor();
        theMethods();
        itemsExceptions();
        Due.end();
    }
}
