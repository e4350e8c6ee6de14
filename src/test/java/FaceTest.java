import java.lang.reflect.Constructor;
import java.lang.reflect.Field;
import java.lang.reflect.Method;
import java.lang.reflect.Modifier;
import java.util.Arrays;
import java.util.Set;
import java.util.TreeSet;

/** The public face is the document's, and the members beside it are as LANGUAGE.md lets them be. */
public final class FaceTest {
    private static final String ARG = "IllegalArgumentException";
    private static final String INDEX = "IndexOutOfBoundsException";
    private static final String STATE = "IllegalStateException";

    public static void main(String[] args) {
        Checks checks = new Checks();
        face(checks);
        members(checks, CertificateDesk.class);
        for (Class<?> inside : CertificateDesk.class.getDeclaredClasses()) {
            checks.due(inside + " static", "" + Modifier.isStatic(inside.getModifiers()), "true");
            checks.due(inside + " shown", "" + Modifier.isPublic(inside.getModifiers()), "false");
            members(checks, inside);
        }
        checks.end();
    }

    private static void face(Checks checks) {
        Set<String> want = new TreeSet<>(Arrays.asList(
                "CertificateDesk() []",
                "void constant(double) [" + ARG + "]",
                "int row(int, double, double) [" + ARG + ", " + INDEX + "]",
                "int column(double, int, double, double) [" + ARG + ", " + INDEX + "]",
                "int entry(int, int, double) [" + ARG + ", " + STATE + ", " + INDEX + "]",
                "int pair(int, int, double) [" + ARG + ", " + STATE + ", " + INDEX + "]",
                "void x(int, double, int) [" + ARG + ", " + INDEX + "]",
                "void y(int, double, int) [" + ARG + ", " + INDEX + "]",
                "double certify(int, int) [" + ARG + ", " + INDEX + ", ArithmeticException]",
                "int sign(int, int) [" + ARG + ", " + INDEX + "]"));
        Set<String> got = new TreeSet<>();
        Set<String> names = new TreeSet<>();
        for (Constructor<?> c : CertificateDesk.class.getDeclaredConstructors()) {
            got.add("CertificateDesk" + names(c.getParameterTypes(), "(", ")") + " "
                    + names(c.getExceptionTypes(), "[", "]"));
        }
        for (Method m : CertificateDesk.class.getDeclaredMethods()) {
            if (Modifier.isPublic(m.getModifiers())) {
                names.add(m.getName());
                got.add(m.getReturnType() + " " + m.getName() + names(m.getParameterTypes(), "(", ")")
                        + " " + names(m.getExceptionTypes(), "[", "]"));
            }
        }
        checks.due("the face", got.toString(), want.toString());
        for (Method m : CertificateDesk.class.getDeclaredMethods()) {
            if (!Modifier.isPublic(m.getModifiers())) {
                checks.due(m + " private", "" + Modifier.isPrivate(m.getModifiers()), "true");
                checks.due(m + " named as a public one", "" + names.contains(m.getName()), "false");
            }
        }
        int open = Modifier.PUBLIC | Modifier.FINAL;
        checks.due("the class", "" + CertificateDesk.class.getModifiers(), "" + open);
    }

    private static void members(Checks checks, Class<?> type) {
        for (Field f : type.getDeclaredFields()) {
            checks.due(f + " private", "" + Modifier.isPrivate(f.getModifiers()), "true");
            if (Modifier.isStatic(f.getModifiers())) {
                boolean plain = f.getType() == int.class || f.getType() == long.class;
                checks.due(f + " constant", "" + (plain && Modifier.isFinal(f.getModifiers())), "true");
            }
        }
    }

    private static String names(Class<?>[] types, String open, String close) {
        StringBuilder text = new StringBuilder(open);
        for (int k = 0; k < types.length; k++) {
            text.append(k == 0 ? "" : ", ").append(types[k].getSimpleName());
        }
        return text.append(close).toString();
    }
}
