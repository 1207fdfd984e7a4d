import java.lang.reflect.Constructor;
import java.lang.reflect.Field;
import java.lang.reflect.Member;
import java.lang.reflect.Method;
import java.lang.reflect.Modifier;
import java.util.Arrays;
import java.util.TreeSet;

/** The public face: all of the document's members and no other that can be seen from outside. */
public final class FaceTest {
    private static final String[] FACE = {
        "NONE", "BAD", "FULL", "MarkedRuns()", "make(4)", "drop(0)", "body(2)", "run(3)", "told(1)", "marks(1)",
        "began(1)", "variable(1)", "size(1)", "item(2)", "same(4)", "count(1)",
    };

    private static boolean isSeen(Member member) {
        return !Modifier.isPrivate(member.getModifiers()) && !member.isSynthetic();
    }

    public static void main(String[] args) throws Exception {
        Due.sentence("public final class MarkedRuns");
        Due.is("the class is public and final", MarkedRuns.class.getModifiers() & Modifier.classModifiers(),
            Modifier.PUBLIC | Modifier.FINAL);
        TreeSet<String> seen = new TreeSet<>();
        for (Field field : MarkedRuns.class.getDeclaredFields()) {
            if (isSeen(field)) {
                seen.add(field.getName());
                Due.is(field.getName() + " is public static final int", field.getModifiers(),
                    Modifier.PUBLIC | Modifier.STATIC | Modifier.FINAL);
            }
            boolean fixed = !Modifier.isStatic(field.getModifiers()) || Modifier.isFinal(field.getModifiers());
            Due.is(field.getName() + " is no changing static", fixed ? 1 : 0, 1);
        }
        for (Constructor<?> constructor : MarkedRuns.class.getDeclaredConstructors()) {
            seen.add("MarkedRuns(" + (constructor.getParameterCount() == 0 ? "" : "?") + ")");
            Due.is("the constructor is public", constructor.getModifiers(), Modifier.PUBLIC);
        }
        for (Method method : MarkedRuns.class.getDeclaredMethods()) {
            if (isSeen(method)) {
                seen.add(method.getName() + "(" + method.getParameterCount() + ")");
                Due.is(method.getName() + " is public", method.getModifiers(), Modifier.PUBLIC);
                Due.is(method.getName() + " answers int", method.getReturnType() == int.class ? 1 : 0, 1);
            }
        }
        Due.is("the face " + seen, seen.equals(new TreeSet<>(Arrays.asList(FACE))) ? 1 : 0, 1);
        Due.sentence("public int item(int row, int i) throws NullPointerException, ArrayIndexOutOfBoundsException;");
        Class<?>[] thrown = MarkedRuns.class.getMethod("item", int.class, int.class).getExceptionTypes();
        Due.is("item's exceptions", Arrays.equals(thrown,
            new Class<?>[] {NullPointerException.class, ArrayIndexOutOfBoundsException.class}) ? 1 : 0, 1);
        Due.sentence("public static final int NONE = -1, BAD = -2, FULL = -3;");
        Due.is("NONE", MarkedRuns.NONE, -1);
        Due.is("BAD", MarkedRuns.BAD, -2);
        Due.is("FULL", MarkedRuns.FULL, -3);
        Due.end();
    }
}
