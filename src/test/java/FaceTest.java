import java.lang.reflect.Constructor;
import java.lang.reflect.Field;
import java.lang.reflect.Method;
import java.lang.reflect.Modifier;
import java.util.Set;
import java.util.TreeSet;

/** The public face is the document's, and no member but the nested classes is seen beyond it. */
public final class FaceTest {
    private static final Set<String> METHODS = new TreeSet<>(Set.of(
        "int site(int, int) throws IllegalArgumentException, IllegalStateException",
        "void remove(int) throws IllegalArgumentException",
        "void move(int, int, int) throws IllegalArgumentException",
        "void clear()",
        "int where(int, int) throws IllegalArgumentException",
        "int cells()",
        "int cell(int, int) throws NoSuchElementException, IndexOutOfBoundsException",
        "int beside(int, int) throws NoSuchElementException, IndexOutOfBoundsException",
        "long centre(int, int) throws NoSuchElementException, IllegalArgumentException",
        "int hull(int) throws IndexOutOfBoundsException",
        "int around(int, int) throws IllegalArgumentException",
        "int nearest(int, int) throws IllegalArgumentException, IllegalStateException"));

    public static void main(String[] args) {
        Class<?> face = CircleCells.class;
        Check.due("public final", face.getModifiers(), Modifier.PUBLIC | Modifier.FINAL);
        methods(face);
        for (Field f : face.getDeclaredFields()) {
            requirePrivate(f.getName(), f.getModifiers());
        }
        Constructor<?>[] made = face.getDeclaredConstructors();
        Check.due("constructors", made.length, 1);
        Check.due("the constructor's parameters", made[0].getParameterCount(), 0);
        Check.due("the constructor is public", made[0].getModifiers(), Modifier.PUBLIC);
        for (Class<?> inside : face.getDeclaredClasses()) {
            Check.due(inside + " is static", Modifier.isStatic(inside.getModifiers()) ? 1 : 0, 1);
            Check.due(inside + " is public", Modifier.isPublic(inside.getModifiers()) ? 1 : 0, 0);
        }
        Check.end("FaceTest");
    }

    private static void methods(Class<?> face) {
        Set<String> seen = new TreeSet<>();
        Set<String> names = new TreeSet<>();
        for (Method m : face.getDeclaredMethods()) {
            if (Modifier.isPublic(m.getModifiers())) {
                seen.add(shape(m));
                names.add(m.getName());
                Check.due(m.getName() + " is static", Modifier.isStatic(m.getModifiers()) ? 1 : 0, 0);
            }
        }
        Check.due("the public methods", seen.toString(), METHODS.toString());
        for (Method m : face.getDeclaredMethods()) {
            if (!Modifier.isPublic(m.getModifiers())) {
                requirePrivate(m.getName(), m.getModifiers());
                Check.due(m.getName() + " bears a public name", names.contains(m.getName()) ? 1 : 0, 0);
            }
        }
    }

    private static String shape(Method m) {
        String thrown = listed(m.getExceptionTypes());
        return m.getReturnType() + " " + m.getName() + "(" + listed(m.getParameterTypes()) + ")"
            + (thrown.isEmpty() ? "" : " throws " + thrown);
    }

    private static String listed(Class<?>[] types) {
        StringBuilder text = new StringBuilder();
        for (int i = 0; i < types.length; i++) {
            text.append(i == 0 ? "" : ", ").append(types[i].getSimpleName());
        }
        return text.toString();
    }

    private static void requirePrivate(String name, int modifiers) {
        Check.due(name + " is private", Modifier.isPrivate(modifiers) ? 1 : 0, 1);
    }
}
