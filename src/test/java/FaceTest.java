import java.lang.reflect.Constructor;
import java.lang.reflect.Field;
import java.lang.reflect.Method;
import java.lang.reflect.Modifier;
import java.util.Arrays;
import java.util.Set;
import java.util.TreeSet;

/** The class shows the document's face and no other member that is not private. */
public final class FaceTest {

    private static final String[] DUE = {
        "public static final int NONE",
        "public FormulaShapes()",
        "public int parameter(int, int, int)",
        "public int set(int, int)",
        "public int box(int, int, int)",
        "public int sign(int, int)",
        "public void pieces(int, int, int, int, int)",
        "public int signOf(int, int)",
        "public int fraction(int, int, int, int)",
        "public int root(int, int, int)",
        "public int signs(int, boolean, int, boolean, int, int)",
        "public int limits(int, int, int, int)",
        "public int brackets(int, int, int, int)",
        "public int row(int, int, int)",
        "public int centre(int, int)",
        "public int told(int, int)",
        "public int part(int, int, int)",
        "public int boxes()",
    };

    public static void main(String[] args) {
        Class<?> c = FormulaShapes.class;
        Set<String> got = new TreeSet<>();
        Set<String> faceNames = new TreeSet<>();
        Set<String> privateNames = new TreeSet<>();
        for (Field f : c.getDeclaredFields()) {
            if (!Modifier.isPrivate(f.getModifiers())) {
                got.add(Modifier.toString(f.getModifiers()) + " " + f.getType() + " "
                        + f.getName());
            }
        }
        for (Constructor<?> k : c.getDeclaredConstructors()) {
            if (!Modifier.isPrivate(k.getModifiers())) {
                got.add(Modifier.toString(k.getModifiers()) + " " + c.getName()
                        + types(k.getParameterTypes()));
            }
        }
        for (Method m : c.getDeclaredMethods()) {
            if (Modifier.isPrivate(m.getModifiers())) {
                privateNames.add(m.getName());
                continue;
            }
            faceNames.add(m.getName());
            got.add(Modifier.toString(m.getModifiers()) + " " + m.getReturnType() + " "
                    + m.getName() + types(m.getParameterTypes()));
        }
        boolean right = true;
        Set<String> due = new TreeSet<>(Arrays.asList(DUE));
        if (!got.equals(due)) {
            right = false;
            System.out.println("the face is " + got + ", due is " + due);
        }
        privateNames.retainAll(faceNames);
        if (!privateNames.isEmpty()) {
            right = false;
            System.out.println("private methods bear names of public ones: " + privateNames);
        }
        if (!Modifier.isPublic(c.getModifiers()) || !Modifier.isFinal(c.getModifiers())) {
            right = false;
            System.out.println("the class must be public and final");
        }
        for (Class<?> inside : c.getDeclaredClasses()) {
            int m = inside.getModifiers();
            if (!Modifier.isStatic(m) || Modifier.isPublic(m) || Modifier.isProtected(m)) {
                right = false;
                System.out.println(inside + " must be static, and private or package-visible");
            }
        }
        System.out.println(right ? "the face is as due" : "the face is not as due");
        if (!right) {
            System.exit(1);
        }
    }

    private static String types(Class<?>[] types) {
        StringBuilder b = new StringBuilder("(");
        for (int i = 0; i < types.length; i++) {
            b.append(i == 0 ? "" : ", ").append(types[i]);
        }
        return b.append(")").toString();
    }
}
