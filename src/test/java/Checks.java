import java.io.IOException;
import java.nio.file.Files;
import java.nio.file.Path;
import java.util.Map;
import java.util.TreeMap;

/** How a test asks an object, and how it tells what is wrong. */
abstract class Checks {
    static final Class<?> INDEX = IndexOutOfBoundsException.class;
    static final Class<?> ARGUMENT = IllegalArgumentException.class;
    static final Class<?> STATE = IllegalStateException.class;
    static final int LEAST = Integer.MIN_VALUE;
    static final int MOST = Integer.MAX_VALUE;
    static final int NONE = RootDiscs.NONE;

    static int promise;
    static int checks;
    static int wrong;
    private static String document;
    private static final Map<Integer, String> TOLD = new TreeMap<>();

    interface Call {
        Object go();
    }

    interface Maker {
        RootDiscs make();
    }

    interface CallOn {
        Object go(RootDiscs d);
    }

    /** Names the promise that the next checks are for, and the sentence, which the document must hold. */
    static void about(int ofPromise, String sentence) {
        promise = ofPromise;
        TOLD.merge(ofPromise, sentence, (a, b) -> a + " " + b);
        checks++;
        if (!document().isEmpty() && !document().contains(sentence)) {
            wrong(" the document does not say: " + sentence);
        }
    }

    /** The document in one line, or nothing where it can not be read. */
    static String document() {
        if (document == null) {
            Path path = Path.of("../shared/DOC.md");
            try {
                document = Files.exists(path) ? Files.readString(path).replaceAll("\\s+", " ") : "";
            } catch (IOException e) {
                document = "";
            }
        }
        return document;
    }

    /** All sentences that tests were about, of one promise; null if there are none. */
    static String told(int ofPromise) {
        return TOLD.get(ofPromise);
    }

    static void is(long due, long got) {
        checks++;
        if (due != got) {
            wrong(" answered " + got + ", due is " + due);
        }
    }

    static void is(boolean due, boolean got) {
        is(due ? 1 : 0, got ? 1 : 0);
    }

    static void isText(String due, String got) {
        checks++;
        if (!due.equals(got)) {
            wrong(" answered " + got + ", due is " + due);
        }
    }

    static void fails(Class<?> due, Call call) {
        checks++;
        Object got;
        try {
            got = call.go();
        } catch (RuntimeException e) {
            got = e.getClass();
        }
        if (got != due) {
            wrong(" answered " + got + ", due is " + due);
        }
    }

    /** Tells the line of the test, not that of the helper. */
    static void wrong(String what) {
        wrong++;
        StackTraceElement[] trace = new RuntimeException().getStackTrace();
        String where = "";
        for (StackTraceElement e : trace) {
            if (where.isEmpty() && !e.getClassName().startsWith("Checks")) {
                where = e.getFileName() + " line " + e.getLineNumber();
            }
        }
        System.out.println("promise " + promise + ", " + where + ":" + what);
    }

    /** Whatever the buffer holds, it holds this text then. */
    static RootDiscs put(RootDiscs d, String text) {
        d.truncate(0);
        for (int i = 0; i < text.length(); i += 20) {
            d.feed(word(text, i), word(text, i + 4), word(text, i + 8), word(text, i + 12), word(text, i + 16));
        }
        d.truncate(text.length());
        return d;
    }

    private static int word(String text, int from) {
        int word = 0;
        for (int i = from; i < from + 4; i++) {
            word = word << 8 | (i < text.length() ? text.charAt(i) & 255 : 0);
        }
        return word;
    }

    static RootDiscs of(String text) {
        RootDiscs d = put(new RootDiscs(), text);
        d.readText();
        return d;
    }

    static int run(RootDiscs d, String script) {
        return put(d, script).runScript();
    }

    static void error(String text, int code, int position) {
        RootDiscs d = put(new RootDiscs(), text);
        fails(ARGUMENT, () -> d.readText());
        is(code, d.errorCode());
        is(position, d.errorPosition());
        isLength(0, d);
        isNew(d);
    }

    static void scriptError(String script, int code, int position) {
        RootDiscs d = put(new RootDiscs(), script);
        fails(ARGUMENT, () -> d.runScript());
        is(code, d.errorCode());
        is(position, d.errorPosition());
        isLength(0, d);
        isNew(d);
    }

    /** How many bytes the buffer holds; it is left as it is. */
    static void isLength(int due, RootDiscs d) {
        fails(ARGUMENT, () -> d.truncate(due + 1));
        is(due, d.truncate(due));
    }

    /** All that a new object tells, but for the buffer and the error. */
    static void isNew(RootDiscs d) {
        is(2, d.degree());
        is(-1, d.coefficient(0));
        is(0, d.coefficient(1));
        is(1, d.coefficient(2));
        is(2, d.firstDegree());
        is(-1, d.firstCoefficient(0));
        isPlaces(d, 64, 0, -64, 0);
        is(NONE, d.point(0, 3));
        is(2, d.goal());
        is(0, d.debts());
        is(1, d.visits(64, 0));
        is(1, d.visits(-64, 0));
        is(2, d.places());
        is(NONE, d.undo());
    }

    static void isPlaces(RootDiscs d, int... due) {
        is(due.length / 2, d.degree());
        for (int p = 0; p < due.length / 2 && p < d.degree(); p++) {
            is(due[2 * p], d.point(p, 0));
            is(due[2 * p + 1], d.point(p, 1));
        }
    }

    static void isPolynomial(RootDiscs d, int... due) {
        is(due.length - 1, d.degree());
        for (int k = 0; k < due.length && k <= d.degree(); k++) {
            is(due[k], d.coefficient(k));
        }
    }

    static String reported(RootDiscs d) {
        return kept(d, d.report());
    }

    static String kept(RootDiscs d, int length) {
        StringBuilder s = new StringBuilder();
        for (int i = 0; i < length; i++) {
            s.append((char) d.reportByte(i));
        }
        return s.toString();
    }

    /** All that undo, save and restore are about; nothing is changed by the asking. */
    static String state(RootDiscs d) {
        StringBuilder s = new StringBuilder("c");
        for (int k = 0; k <= d.degree(); k++) {
            s.append(' ').append(d.coefficient(k));
        }
        s.append(" first");
        for (int k = 0; k <= d.firstDegree(); k++) {
            s.append(' ').append(d.firstCoefficient(k));
        }
        s.append(" points");
        for (int p = 0; p < d.degree(); p++) {
            int x = d.point(p, 0);
            int y = d.point(p, 1);
            s.append(" (").append(x).append(' ').append(y).append(' ').append(d.point(p, 3));
            s.append(" v").append(d.visits(x, y)).append(')');
        }
        s.append(" debts");
        for (int k = 0; k < d.debts(); k++) {
            s.append(" (");
            for (int what = 0; what <= 4; what++) {
                s.append(d.debt(k, what)).append(' ');
            }
            s.append(')');
        }
        return s.append(" goal ").append(d.goal()).append(" places ").append(d.places()).toString();
    }

    /** The error and the first bytes of the report, which no undo brings back. */
    static String aside(RootDiscs d) {
        StringBuilder s = new StringBuilder("error ").append(d.errorCode()).append(' ').append(d.errorPosition());
        for (int i = 0; i < 4; i++) {
            try {
                s.append(' ').append(d.reportByte(i));
            } catch (IndexOutOfBoundsException e) {
                s.append(" none");
            }
        }
        return s.toString();
    }

    /** An object that has something of all: a pair, a debt, visits, a report, a saved state, calls to undo, an error. */
    static RootDiscs busy() {
        RootDiscs d = of("poly 7 3 -5 0 2 1;pair 30 20;at 0 0;at 5 7;at 90 -5;goal 9;");
        d.save();
        d.report();
        d.divide(2);
        d.move(3, 8, -8);
        put(d, "sweep");
        fails(ARGUMENT, () -> d.runScript());
        return put(d, "ab;");
    }

    /** An object that read this text; it has saved it, told a report and got a buffer of three bytes. */
    static RootDiscs kept(String text) {
        RootDiscs d = of(text);
        d.save();
        d.report();
        return put(d, "ab;");
    }

    static void refuses(Class<?> due, CallOn call) {
        refuses(due, () -> busy(), call);
    }

    static void refuses(String text, Class<?> due, CallOn call) {
        refuses(due, () -> kept(text), call);
    }

    /** The call throws, and changes nothing: not the buffer, not what can be undone, not what is saved. */
    private static void refuses(Class<?> due, Maker maker, CallOn call) {
        RootDiscs d = maker.make();
        RootDiscs twin = maker.make();
        fails(due, () -> call.go(d));
        isText(state(twin), state(d));
        isText(aside(twin), aside(d));
        isLength(3, d);
        is(twin.undo(), d.undo());
        isText(state(twin), state(d));
        is(twin.restore(), d.restore());
        isText(state(twin), state(d));
    }
}
