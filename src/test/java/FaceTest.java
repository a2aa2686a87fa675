import java.lang.reflect.Constructor;
import java.lang.reflect.Field;
import java.lang.reflect.Method;
import java.lang.reflect.Modifier;
import java.util.Arrays;
import java.util.Set;
import java.util.TreeSet;

/**
 * The class shows the document's face, with the exceptions that each call names in their order, and
 * no other member that is not private.
 */
public final class FaceTest {

    private static final String[] DUE = {
        "public static final int NONE",
        "public FormulaShapes()",
        "public int parameter(int, int, int)"
            + " throws IndexOutOfBoundsException, IllegalArgumentException",
        "public int set(int, int) throws IndexOutOfBoundsException, IllegalArgumentException",
        "public int box(int, int, int)"
            + " throws IllegalArgumentException, UnsupportedOperationException",
        "public int sign(int, int) throws IndexOutOfBoundsException, UnsupportedOperationException",
        "public void pieces(int, int, int, int, int)"
            + " throws IndexOutOfBoundsException, IllegalArgumentException",
        "public int signOf(int, int)"
            + " throws IndexOutOfBoundsException, IllegalArgumentException, "
            + "IllegalStateException, UnsupportedOperationException",
        "public int fraction(int, int, int, int)"
            + " throws IndexOutOfBoundsException, IllegalArgumentException, "
            + "UnsupportedOperationException",
        "public int root(int, int, int)"
            + " throws IndexOutOfBoundsException, IllegalArgumentException, "
            + "IllegalStateException, UnsupportedOperationException",
        "public int signs(int, boolean, int, boolean, int, int)"
            + " throws IndexOutOfBoundsException, IllegalArgumentException, "
            + "UnsupportedOperationException",
        "public int limits(int, int, int, int)"
            + " throws IndexOutOfBoundsException, IllegalArgumentException, "
            + "UnsupportedOperationException",
        "public int brackets(int, int, int, int)"
            + " throws IndexOutOfBoundsException, IllegalArgumentException, "
            + "IllegalStateException, UnsupportedOperationException",
        "public int row(int, int, int)"
            + " throws IndexOutOfBoundsException, IllegalArgumentException, "
            + "UnsupportedOperationException",
        "public int centre(int, int)"
            + " throws IndexOutOfBoundsException, IllegalArgumentException, "
            + "UnsupportedOperationException",
        "public int told(int, int) throws IndexOutOfBoundsException",
        "public int part(int, int, int) throws IndexOutOfBoundsException",
        "public int boxes()",
    };

    public static void main(String[] args) {
        Class<?> c = FormulaShapes.class;
        Set<String> got = new TreeSet<>();
        Set<String> faceNames = new TreeSet<>();
        Set<String> privateNames = new TreeSet<>();
        for (Field f : c.getDeclaredFields()) {
            if (!Modifier.isPrivate(f.getModifiers())) {
                got.add(Modifier.toString(f.getModifiers()) + " " + f.getType() + " "
                        + f.getName());
            }
        }
        for (Constructor<?> k : c.getDeclaredConstructors()) {
            if (!Modifier.isPrivate(k.getModifiers())) {
                got.add(Modifier.toString(k.getModifiers()) + " " + c.getName()
                        + types(k.getParameterTypes()));
            }
        }
        for (Method m : c.getDeclaredMethods()) {
            if (Modifier.isPrivate(m.getModifiers())) {
                privateNames.add(m.getName());
                continue;
            }
            faceNames.add(m.getName());
            got.add(Modifier.toString(m.getModifiers()) + " " + m.getReturnType() + " "
                    + m.getName() + types(m.getParameterTypes()) + named(m.getExceptionTypes()));
        }
        boolean right = true;
        if (FormulaShapes.NONE != -1) {
            right = false;
            System.out.println("NONE is " + FormulaShapes.NONE + ", due is -1");
        }
        Set<String> due = new TreeSet<>(Arrays.asList(DUE));
        if (!got.equals(due)) {
            right = false;
            System.out.println("the face is " + got + ", due is " + due);
        }
        privateNames.retainAll(faceNames);
        if (!privateNames.isEmpty()) {
            right = false;
            System.out.println("private methods bear names of public ones: " + privateNames);
        }
        if (!Modifier.isPublic(c.getModifiers()) || !Modifier.isFinal(c.getModifiers())) {
            right = false;
            System.out.println("the class must be public and final");
        }
        for (Class<?> inside : c.getDeclaredClasses()) {
            int m = inside.getModifiers();
            if (!Modifier.isStatic(m) || Modifier.isPublic(m) || Modifier.isProtected(m)) {
                right = false;
                System.out.println(inside + " must be static, and private or package-visible");
            }
        }
        System.out.println(right ? "the face is as due" : "the face is not as due");
        if (!right) {
            System.exit(1);
        }
    }

    private static String types(Class<?>[] types) {
        StringBuilder b = new StringBuilder("(");
        for (int i = 0; i < types.length; i++) {
            b.append(i == 0 ? "" : ", ").append(types[i]);
        }
        return b.append(")").toString();
    }

    /** The exceptions that a call names, in their order. */
    private static String named(Class<?>[] exceptions) {
        StringBuilder b = new StringBuilder();
        for (int i = 0; i < exceptions.length; i++) {
            b.append(i == 0 ? " throws " : ", ").append(exceptions[i].getSimpleName());
        }
        return b.toString();
    }
}
