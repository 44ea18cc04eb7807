import java.lang.reflect.InvocationTargetException;
import java.lang.reflect.Method;
import java.lang.reflect.Modifier;
import java.util.TreeMap;
import java.util.regex.Matcher;
import java.util.regex.Pattern;

/** Runs each test of a sentence that names a boundary case; each promise must have one, and each exception of a promise. */
public final class BoundaryTest extends Checks {
    private static final Class<?>[] TESTS = {TextBoundaries.class, PointBoundaries.class, ChangeBoundaries.class};

    public static void main(String[] args) throws IllegalAccessException {
        int tests = 0;
        for (Class<?> c : TESTS) {
            TreeMap<String, Method> byName = new TreeMap<>();
            for (Method m : c.getDeclaredMethods()) {
                boolean isTest = m.getParameterCount() == 0 && Modifier.isStatic(m.getModifiers())
                    && !Modifier.isPrivate(m.getModifiers()) && !m.isSynthetic();
                if (isTest) {
                    byName.put(m.getName(), m);
                }
            }
            for (Method m : byName.values()) {
                tests++;
                play(m);
            }
        }
        for (int p = 1; p <= 58; p++) {
            promise = p;
            checks++;
            if (told(p) == null) {
                wrong(" has no test of a boundary case");
            }
        }
        exceptionsTold();
        System.out.println(tests + " tests of boundary cases, " + checks + " checks, " + wrong + " wrong");
        if (wrong != 0) {
            System.exit(1);
        }
    }

    /** Each condition of an exception that the document tells must be one that a test is about. */
    private static void exceptionsTold() {
        Pattern section = Pattern.compile("## Promise (\\d+): (.*?)(?= ## )");
        Pattern condition = Pattern.compile("[Tt]hrows `?\\w+Exception`? if (.*?)(?=\\.? @throws|\\. |\\.$| Throws |$)");
        Matcher s = section.matcher(document());
        while (s.find()) {
            promise = Integer.parseInt(s.group(1));
            Matcher c = condition.matcher(s.group(2));
            while (c.find()) {
                checks++;
                if (told(promise) == null || !told(promise).contains(c.group(1))) {
                    wrong(" has no test of: " + c.group(1));
                }
            }
        }
    }

    private static void play(Method m) throws IllegalAccessException {
        try {
            m.invoke(null);
        } catch (InvocationTargetException e) {
            wrong(" " + m.getName() + " ended with " + e.getCause());
        }
    }
}
