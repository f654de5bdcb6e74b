import java.lang.reflect.Constructor;
import java.lang.reflect.Field;
import java.lang.reflect.Method;
import java.lang.reflect.Modifier;
import java.util.Arrays;
import java.util.TreeSet;

/** The class has the document's face and nothing else that can be seen from outside. */
public final class FaceTest {
    private static final String IAE = "IllegalArgumentException";
    private static final String IOOBE = "IndexOutOfBoundsException";
    private static final String ISE = "IllegalStateException";
    private static final String UOE = "UnsupportedOperationException";
    private static final String AE = "ArithmeticException";

    private static final String[] FACE = {
        "int station(2) " + IOOBE + " " + UOE,
        "int area(3) " + IOOBE + " " + UOE,
        "int unit(1) " + IAE + " " + ISE + " " + UOE,
        "void change(3) " + IAE + " " + ISE,
        "void rules(2) " + IOOBE,
        "int run(4) " + IAE + " " + IOOBE + " " + ISE,
        "int call(2) " + IAE,
        "int share(1) " + IAE + " " + AE,
        "int mean(0) " + AE,
        "int missed(0)",
        "int work(1) " + IAE,
        "int worst(0)",
        "int arrived(1) " + IOOBE,
        "int unlucky(5) " + IAE + " " + IOOBE + " " + ISE,
        "int compare(6) " + IAE + " " + IOOBE + " " + ISE,
    };

    public static void main(String[] args) {
        int modifiers = DaySimulate.class.getModifiers();
        Check.due("public and final", 1, () -> Modifier.isPublic(modifiers) && Modifier.isFinal(modifiers) ? 1 : 0);
        methods();
        constructors();
        fields(DaySimulate.class);
        for (Class<?> inside : DaySimulate.class.getDeclaredClasses()) {
            int m = inside.getModifiers();
            Check.due(inside + " is static, not seen outside", 1,
                    () -> Modifier.isStatic(m) && !Modifier.isPublic(m) && !Modifier.isProtected(m) ? 1 : 0);
        }
        Check.finish();
    }

    private static void methods() {
        TreeSet<String> seen = new TreeSet<>();
        for (Method m : DaySimulate.class.getDeclaredMethods()) {
            if (Modifier.isPrivate(m.getModifiers())) {
                continue;
            }
            StringBuilder line = new StringBuilder();
            line.append(m.getReturnType()).append(' ').append(m.getName());
            line.append('(').append(m.getParameterCount()).append(')');
            for (Class<?> e : m.getExceptionTypes()) {
                line.append(' ').append(e.getSimpleName());
            }
            seen.add(line.toString());
            for (Class<?> p : m.getParameterTypes()) {
                Check.same("parameter of " + m.getName(), "int", p.toString());
            }
        }
        Check.same("the methods", new TreeSet<>(Arrays.asList(FACE)).toString(), seen.toString());
    }

    private static void constructors() {
        Constructor<?>[] all = DaySimulate.class.getDeclaredConstructors();
        Check.due("constructors", 1, () -> all.length);
        Check.due("constructor's parameters", 0, () -> all[0].getParameterCount());
        Check.due("constructor is public", 1, () -> Modifier.isPublic(all[0].getModifiers()) ? 1 : 0);
    }

    private static void fields(Class<?> c) {
        for (Field f : c.getDeclaredFields()) {
            int m = f.getModifiers();
            Check.due("private: " + f, 1, () -> Modifier.isPrivate(m) ? 1 : 0);
            Check.due("no static state: " + f, 1, () -> !Modifier.isStatic(m) || Modifier.isFinal(m) ? 1 : 0);
        }
    }
}
