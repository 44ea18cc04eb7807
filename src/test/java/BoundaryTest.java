import java.lang.reflect.InvocationTargetException;
import java.lang.reflect.Method;
import java.lang.reflect.Modifier;
import java.util.TreeMap;

/** Runs each test of a sentence that names a boundary case; each promise must have one at least. */
public final class BoundaryTest extends Checks {
    private static final Class<?>[] TESTS = {TextBoundaries.class, PointBoundaries.class, ChangeBoundaries.class};

    public static void main(String[] args) throws IllegalAccessException {
        int tests = 0;
        for (Class<?> c : TESTS) {
            TreeMap<String, Method> byName = new TreeMap<>();
            for (Method m : c.getDeclaredMethods()) {
                boolean isTest = m.getParameterCount() == 0 && Modifier.isStatic(m.getModifiers())
                    && !Modifier.isPrivate(m.getModifiers()) && !m.isSynthetic();
                if (isTest) {
                    byName.put(m.getName(), m);
                }
            }
            for (Method m : byName.values()) {
                tests++;
                play(m);
            }
        }
        for (int p = 1; p <= 58; p++) {
            promise = p;
            if (!told().contains(p)) {
                wrong(" has no test of a boundary case");
            }
        }
        System.out.println(tests + " tests of boundary cases, " + checks + " checks, " + wrong + " wrong");
        if (wrong != 0) {
            System.exit(1);
        }
    }

    private static void play(Method m) throws IllegalAccessException {
        try {
            m.invoke(null);
        } catch (InvocationTargetException e) {
            wrong(" " + m.getName() + " ended with " + e.getCause());
        }
    }
}
