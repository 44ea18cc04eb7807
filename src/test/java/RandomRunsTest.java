import java.lang.reflect.InvocationTargetException;
import java.lang.reflect.Method;
import java.util.ArrayList;
import java.util.List;
import java.util.Random;
import java.util.TreeMap;

/** Random runs of calls, always the same ones, on RootDiscs and on Model: each answer must be the same. */
public final class RandomRunsTest {
    private static final TreeMap<String, Method> OURS = methods(RootDiscs.class);
    private static final TreeMap<String, Method> MODELS = methods(Model.class);
    private static final String[] CHANGES = {"refine", "sweep", "run", "spread", "start", "move", "join", "part",
        "divide", "dividePair", "setGoal", "undo", "save", "restore", "report", "move", "join", "refine", "sweep"};
    private static final String SIGNS = "poly at pair goal; -()0123456789\n repeat refine sweep run \t\u00e9\u0000zZ";

    private final Random random;
    private final RootDiscs ours = new RootDiscs();
    private final Model model = new Model();
    private final List<String> log = new ArrayList<>();
    private static final TreeMap<String, Integer> TALLY = new TreeMap<>();

    private RandomRunsTest(long seed) {
        random = new Random(seed);
    }

    public static void main(String[] args) {
        int runs = args.length > 0 ? Integer.parseInt(args[0]) : 1500;
        long from = args.length > 1 ? Long.parseLong(args[1]) : 0;
        for (long seed = from; seed < from + runs; seed++) {
            RandomRunsTest run = new RandomRunsTest(seed);
            String wrong = run.play();
            if (wrong != null) {
                System.out.println("seed " + seed + ": " + wrong);
                for (String line : run.log) {
                    System.out.println("  " + line);
                }
                System.exit(1);
            }
        }
        if (args.length > 2) {
            TALLY.forEach((k, v) -> System.out.println(k + " " + v));
        }
        for (String name : OURS.keySet()) {
            if (TALLY.getOrDefault(name, 0) == 0) {
                System.out.println(name + " was never called");
                System.exit(1);
            }
        }
        System.out.println(runs + " random runs answered as the model does");
    }

    private static TreeMap<String, Method> methods(Class<?> of) {
        TreeMap<String, Method> all = new TreeMap<>();
        for (Method m : of.getDeclaredMethods()) {
            if (java.lang.reflect.Modifier.isPublic(m.getModifiers())) {
                m.setAccessible(true);
                all.put(m.getName(), m);
            }
        }
        return all;
    }

    private String play() {
        int left = 500;
        String wrong = ask("report");
        if (random.nextInt(8) != 0) {
            wrong = wrong != null ? wrong : text(goodText(), "readText");
        }
        while (wrong == null && left > 0) {
            int kind = random.nextInt(20);
            int before = log.size();
            if (kind == 0) {
                wrong = text(random.nextInt(3) == 0 ? broken(goodText()) : goodText(), "readText");
            } else if (kind <= 2) {
                wrong = text(random.nextInt(3) == 0 ? broken(script(2)) : script(2), "runScript");
            } else if (kind <= 8) {
                wrong = ask(CHANGES[random.nextInt(CHANGES.length)]);
            } else {
                wrong = ask(any());
            }
            left -= log.size() - before;
        }
        return wrong;
    }

    private String any() {
        int i = random.nextInt(OURS.size());
        for (String name : OURS.keySet()) {
            if (i-- == 0) {
                return name;
            }
        }
        return "degree";
    }

    private String ask(String name) {
        Class<?>[] types = OURS.get(name).getParameterTypes();
        Object[] a = new Object[types.length];
        for (int i = 0; i < a.length; i++) {
            a[i] = types[i] == boolean.class ? (Object) random.nextBoolean() : (Object) number(name, i);
        }
        if (name.equals("rootsIn") && random.nextInt(8) != 0) {
            order(a, 0, 2);
            order(a, 1, 3);
        }
        if (name.equals("sweepsToSettle") && random.nextInt(4) != 0) {
            a[0] = random.nextInt(12);
        }
        return both(name, a);
    }

    private static void order(Object[] a, int i, int j) {
        if ((Integer) a[i] > (Integer) a[j]) {
            Object h = a[i];
            a[i] = a[j];
            a[j] = h;
        }
    }

    private int number(String name, int i) {
        switch (random.nextInt(40)) {
            case 0: return Integer.MAX_VALUE - random.nextInt(2);
            case 1: return Integer.MIN_VALUE + random.nextInt(2);
            case 2: return -1;
            case 3: return edge(1, 8, 50, 64, 99, 200, 255, 256, 9999, 16384);
            default:
        }
        switch (name) {
            case "point": return i == 0 ? existing() : random.nextInt(8);
            case "edge": return random.nextInt(4);
            case "debt": return i == 0 ? random.nextInt(3) : random.nextInt(6);
            case "move": return i == 0 ? existing() : place();
            case "sweep": case "refine": case "join": case "part": case "value": case "product": case "span":
            case "step": case "touch": case "cluster": case "byProduct": case "coefficient": return existing();
            case "valueAt": case "slopeAt": case "holding": return place();
            case "visits": return visited(i);
            case "rootsIn": return place() * (1 + random.nextInt(3));
            case "divide": case "whyNotDivide": return random.nextInt(4) == 0 ? random.nextInt(19) - 9 : random.nextInt(7) - 3;
            case "dividePair": case "whyNotDividePair":
                return i == 0 ? random.nextInt(7) - 3 + (random.nextInt(10) == 0 ? 7 : 0) : random.nextInt(5);
            case "setGoal": return 1 + random.nextInt(random.nextBoolean() ? 5 : 99);
            case "run": return 1 + random.nextInt(50);
            case "spread": return 1 + random.nextInt(256);
            case "sweepsToSettle": return random.nextInt(201);
            case "truncate": return random.nextInt(60);
            case "feed": return random.nextInt();
            case "reportByte": return random.nextInt(70);
            default: return random.nextInt(7);
        }
    }

    private int existing() {
        return random.nextInt(model.degree() + (random.nextInt(10) == 0 ? 2 : 0));
    }

    private int edge(int... numbers) {
        int n = numbers[random.nextInt(numbers.length)];
        return random.nextBoolean() ? n + random.nextInt(3) - 1 : -n + random.nextInt(3) - 1;
    }

    /** Mostly where a point is or was, so that the answers are not all 0. */
    private int visited(int i) {
        return random.nextBoolean() ? place() : model.point(random.nextInt(model.degree()), i);
    }

    private int place() {
        switch (random.nextInt(5)) {
            case 0: return 32 * (random.nextInt(17) - 8);
            case 1: return random.nextInt(9) - 4;
            case 2: return random.nextInt(65) - 32;
            case 3: return edge(255, 256);
            default: return random.nextInt(513) - 256;
        }
    }

    private String both(String name, Object... a) {
        TALLY.merge(name, 1, Integer::sum);
        Object mine = answer(OURS.get(name), ours, a);
        Object due = answer(MODELS.get(name), model, a);
        StringBuilder line = new StringBuilder(name).append('(');
        for (Object o : a) {
            line.append(o).append(' ');
        }
        log.add(line + ") " + mine);
        TALLY.merge(name + (due instanceof Class ? " " + ((Class<?>) due).getSimpleName() : " answers"), 1, Integer::sum);
        if (name.equals("errorCode")) {
            TALLY.merge("error " + due, 1, Integer::sum);
        }
        return mine.equals(due) ? null : log.get(log.size() - 1) + ", due is " + due;
    }

    private static Object answer(Method m, Object on, Object[] a) {
        try {
            return m.invoke(on, a);
        } catch (InvocationTargetException e) {
            return e.getCause().getClass();
        } catch (IllegalAccessException e) {
            return e;
        }
    }

    private String text(String text, String how) {
        String wrong = both("truncate", 0);
        byte[] bytes = new byte[(text.length() + 19) / 20 * 20];
        for (int i = 0; i < text.length(); i++) {
            bytes[i] = (byte) text.charAt(i);
        }
        for (int i = 0; i < bytes.length && wrong == null; i += 20) {
            wrong = both("feed", word(bytes, i), word(bytes, i + 4), word(bytes, i + 8), word(bytes, i + 12), word(bytes, i + 16));
        }
        wrong = wrong != null ? wrong : both("truncate", Math.min(text.length(), 400));
        log.add("    text: " + text);
        wrong = wrong != null ? wrong : both(how);
        wrong = wrong != null ? wrong : both("errorCode");
        wrong = wrong != null ? wrong : both("errorPosition");
        wrong = wrong != null ? wrong : both("report");
        for (int i = 0; i < 6 && wrong == null && i < model.degree(); i++) {
            wrong = both("point", i, 0);
            wrong = wrong != null ? wrong : both("point", i, 1);
        }
        return wrong;
    }

    private static int word(byte[] b, int i) {
        return (b[i] & 255) << 24 | (b[i + 1] & 255) << 16 | (b[i + 2] & 255) << 8 | (b[i + 3] & 255);
    }

    private String blank() {
        int r = random.nextInt(30);
        return r == 0 ? "\n" : r == 1 ? "  " : r == 2 ? " \n " : "";
    }

    private String s(int v) {
        String digits = "" + Math.abs(v);
        while (random.nextInt(20) == 0 && digits.length() < 4) {
            digits = "0" + digits;
        }
        boolean minus = v < 0 || (v == 0 && random.nextInt(10) == 0);
        return (random.nextBoolean() ? " " : "\n") + (minus ? "-" + blank() : "") + digits + blank();
    }

    /** A text without an error, mostly: sometimes a number is out of its range, or there are too few points or too many. */
    private String goodText() {
        int[] c = coefficients();
        int n = c.length - 1;
        StringBuilder t = new StringBuilder(blank() + "poly");
        for (int v : c) {
            t.append(s(v));
        }
        t.append(";");
        int points = random.nextInt(12) == 0 ? random.nextInt(9) : n;
        boolean goal = random.nextBoolean();
        boolean isNear = random.nextBoolean();
        for (int p = 0; p < points; p++) {
            if (goal && random.nextInt(3) == 0) {
                t.append("goal").append(s(1 + random.nextInt(random.nextBoolean() ? 4 : 99)).replace("-", "")).append(";");
                goal = random.nextInt(20) == 0;
            }
            int x = isNear ? random.nextInt(129) - 64 : place();
            int y = isNear ? random.nextInt(129) - 64 : place();
            if (points - p >= 2 && random.nextInt(3) == 0) {
                t.append("pair").append(s(x)).append(s(y == 0 || random.nextInt(20) == 0 ? y : Math.abs(y)));
                p++;
            } else {
                t.append(random.nextInt(15) == 0 ? " at" : "at").append(s(x)).append(s(random.nextBoolean() ? 0 : y));
            }
            t.append(";").append(blank());
        }
        return t.toString();
    }

    private int[] coefficients() {
        int n = 1 + random.nextInt(6);
        int[] c = new int[n + 1];
        if (random.nextInt(3) == 0) {
            int most = random.nextBoolean() ? 99 : 3;
            for (int k = 0; k <= n; k++) {
                c[k] = random.nextInt(4) == 0 ? 0 : random.nextInt(2 * most + 1) - most;
            }
            if (random.nextInt(30) == 0) {
                c[random.nextInt(n + 1)] = random.nextBoolean() ? 100 : -100;
            }
            if (c[n] == 0 && random.nextInt(10) != 0) {
                c[n] = 1 + random.nextInt(3);
            }
            return c;
        }
        // A product of factors with whole roots, which divide out without a rest.
        int[] all = {random.nextInt(3) == 0 ? 2 : -1};
        while (all.length <= n) {
            int a = random.nextInt(7) - 3;
            int b = 1 + random.nextInt(3);
            int[] f = random.nextBoolean() || all.length == n ? new int[] {-a, 1} : new int[] {a * a + b * b, -2 * a, 1};
            int[] next = new int[all.length + f.length - 1];
            for (int i = 0; i < all.length; i++) {
                for (int j = 0; j < f.length; j++) {
                    next[i + j] += all[i] * f[j];
                }
            }
            for (int v : next) {
                if (Math.abs(v) > 99) {
                    return all.length > 1 ? all : new int[] {-1, 0, 1};
                }
            }
            all = next;
        }
        return all;
    }

    private String script(int depth) {
        StringBuilder t = new StringBuilder();
        int most = random.nextInt(60) == 0 ? 32 : random.nextInt(8);
        for (int i = 0; i < most; i++) {
            t.append(blank()).append(command(depth)).append(";");
        }
        return t.toString();
    }

    private String command(int depth) {
        int p = random.nextInt(20) == 0 ? random.nextInt(9999) : random.nextInt(3);
        switch (random.nextInt(12)) {
            case 0: return "refine" + s(p);
            case 1: return "run" + s(random.nextInt(25) == 0 ? random.nextInt(60) : 1 + random.nextInt(50)).replace("-", "");
            case 2: return "spread" + s(random.nextInt(25) == 0 ? random.nextInt(1000) : 1 + random.nextInt(256)).replace("-", "");
            case 3: return "start";
            case 4: return "move" + s(p).replace("-", "") + s(place()) + s(place());
            case 5: return "divide" + s(random.nextInt(18) - 9);
            case 6: return "divide" + s(random.nextInt(7) - 3) + "pair" + s(random.nextInt(4)).replace("-", "");
            case 7: return "goal" + s(random.nextInt(20) == 0 ? 100 : 1 + random.nextInt(99)).replace("-", "");
            case 8: case 9:
                return depth < 0 ? "sweep"
                    : "repeat" + s(random.nextInt(20) == 0 ? random.nextInt(25) : 1 + random.nextInt(4)).replace("-", "")
                        + "(" + script(depth > 0 ? depth - 1 : random.nextInt(4) == 0 ? 0 : -1) + ")";
            default: return "sweep";
        }
    }

    private String broken(String text) {
        StringBuilder t = new StringBuilder(text);
        for (int i = random.nextInt(3); i >= 0; i--) {
            int at = random.nextInt(t.length() + 1);
            char sign = SIGNS.charAt(random.nextInt(SIGNS.length()));
            switch (random.nextInt(4)) {
                case 0: t.insert(at, sign); break;
                case 1: if (at < t.length()) t.deleteCharAt(at); break;
                case 2: if (at < t.length()) t.setCharAt(at, sign); break;
                default: t.setLength(at);
            }
        }
        return t.toString();
    }
}
