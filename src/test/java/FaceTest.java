import java.lang.reflect.Constructor;
import java.lang.reflect.Field;
import java.lang.reflect.Method;
import java.lang.reflect.Modifier;
import java.util.Arrays;
import java.util.Set;
import java.util.TreeSet;

/** The class has the document's face, and nothing else of it can be seen from outside. */
public final class FaceTest {
    private static final Set<String> FACE = Set.of(
        "int word(int, int) IndexOutOfBoundsException",
        "int root(int, int, int, int) IndexOutOfBoundsException, IllegalArgumentException, IllegalStateException",
        "void put(int, int, int) IndexOutOfBoundsException",
        "int run(int) IllegalArgumentException, IllegalStateException",
        "int told(int, int) IndexOutOfBoundsException, IllegalArgumentException",
        "int memory(int) IndexOutOfBoundsException",
        "boolean tag(int) IndexOutOfBoundsException",
        "int count(int) IllegalArgumentException",
        "int pack(int, long) IllegalArgumentException",
        "long bound(int, int, boolean) ",
        "int grown() ",
        "int check() ");

    public static void main(String[] args) {
        Tests t = new Tests("face");
        t.isTrue("public and final", CheriCore.class.getModifiers() == (Modifier.PUBLIC | Modifier.FINAL));
        Set<String> seen = new TreeSet<>();
        for (Method m : CheriCore.class.getDeclaredMethods()) {
            if (!Modifier.isPrivate(m.getModifiers())) {
                seen.add(shapeOf(m));
            }
        }
        t.isTrue("methods of the face " + seen, seen.equals(FACE));
        for (Field f : CheriCore.class.getDeclaredFields()) {
            t.isTrue("private " + f, Modifier.isPrivate(f.getModifiers()));
        }
        Constructor<?>[] made = CheriCore.class.getDeclaredConstructors();
        t.isTrue("one constructor", made.length == 1 && Modifier.isPublic(made[0].getModifiers())
            && made[0].getParameterCount() == 0);
        for (Class<?> inside : CheriCore.class.getDeclaredClasses()) {
            t.isTrue("static " + inside, Modifier.isStatic(inside.getModifiers())
                && !Modifier.isPublic(inside.getModifiers()) && !Modifier.isProtected(inside.getModifiers()));
        }
        t.end();
    }

    private static String shapeOf(Method m) {
        return m.getReturnType().getSimpleName() + " " + m.getName() + "("
            + namesOf(m.getParameterTypes()) + ") " + namesOf(m.getExceptionTypes());
    }

    private static String namesOf(Class<?>[] types) {
        return String.join(", ", Arrays.stream(types).map(Class::getSimpleName).toList());
    }
}
