import java.io.IOException;
import java.lang.reflect.Constructor;
import java.lang.reflect.Field;
import java.lang.reflect.Method;
import java.lang.reflect.Modifier;
import java.nio.file.Files;
import java.nio.file.Path;
import java.util.Arrays;
import java.util.HashSet;
import java.util.Set;
import java.util.TreeSet;
import java.util.regex.Matcher;
import java.util.regex.Pattern;

/** The face of the class, and the rules of LANGUAGE.md that can be seen in the source or by reflection. */
public final class LanguageTest {
    private static final String FACE = "feed(int,int,int,int,int)int truncate(int)int readText()int runScript()int"
        + " errorCode()int errorPosition()int degree()int coefficient(int)int firstDegree()int firstCoefficient(int)int"
        + " valueAt(int,int,boolean)long slopeAt(int,int,boolean)long edges()int edge(int,int)int bound()int"
        + " point(int,int)int value(int,boolean)long product(int,boolean)long span(int)long step(int,boolean)int"
        + " touch(int,int)boolean cluster(int)int clusters()int settled()int real()int holding(int,int)int worst()int"
        + " byProduct(int)int goal()int rootsIn(int,int,int,int,boolean)int sumError()int visits(int,int)int places()int"
        + " whyNotDivide(int)int whyNotDividePair(int,int)int debts()int debt(int,int)int recombined(int)int"
        + " debtShare()float sweepsToSettle(int)int meanRadiusBehind()double refine(int)int sweep()int run(int)int"
        + " spread(int)int start()int move(int,int,int)int join(int)int part(int)int divide(int)int dividePair(int,int)int"
        + " setGoal(int)int report()int reportByte(int)int undo()int save()int restore()int";
    private static final String[] BANNED = {"->", "::", "\\bfinally\\b", "\\bcatch\\b", "\\btry\\b", "\\bsynchronized\\b",
        "\\bassert\\b", "\\binstanceof\\b.*\\brecord\\b", "Exact\\(", "\\bimport\\b", "\\bpackage\\b", "getMessage",
        "System\\.(?!arraycopy)", "\"\\s*\\+", "\\+\\s*\"", "Math\\.(?!abs|max|min|floorDiv|floorMod)", "\\bnull\\s*\\.",
        "@Override.*(equals|hashCode|toString)", "\\bRandom\\b", "\\bThread\\b", "\\byield\\b", "\\bvar\\b"};

    private static int wrong;

    public static void main(String[] args) throws IOException {
        face();
        String source = Files.readString(Path.of("src/main/java/RootDiscs.java"));
        for (int i = 0; i < source.length(); i++) {
            if (source.charAt(i) > 126 || (source.charAt(i) < 32 && source.charAt(i) != '\n')) {
                tell("a sign outside 32 to 126 at " + i);
            }
        }
        String code = source.replaceAll("(?s)/\\*.*?\\*/", "").replaceAll("//[^\\n]*", "");
        String plain = code.replaceAll("\"[^\"\\n]*\"", "\"\"");
        for (String banned : BANNED) {
            Matcher m = Pattern.compile(banned).matcher(plain);
            if (m.find()) {
                tell("the source holds " + m.group());
            }
        }
        methodLengths(plain);
        System.out.println(wrong == 0 ? "the language's rules hold" : wrong + " breaches");
        if (wrong != 0) {
            System.exit(1);
        }
    }

    private static void tell(String what) {
        wrong++;
        System.out.println(what);
    }

    private static void face() {
        Class<?> c = RootDiscs.class;
        Set<String> due = new TreeSet<>(Arrays.asList(FACE.split(" ")));
        Set<String> publicNames = new HashSet<>();
        Set<String> got = new TreeSet<>();
        for (Method m : c.getDeclaredMethods()) {
            if (Modifier.isPublic(m.getModifiers())) {
                got.add(told(m));
                publicNames.add(m.getName());
            }
        }
        if (!got.equals(due)) {
            tell("the face is " + got);
        }
        for (Class<?> k : classes()) {
            int fields = 0;
            for (Method m : k.getDeclaredMethods()) {
                if (Modifier.isPrivate(m.getModifiers()) && publicNames.contains(m.getName())) {
                    tell("the private method " + m.getName() + " bears a public name");
                }
                if (k == c && !m.isSynthetic() && !Modifier.isPrivate(m.getModifiers()) && !Modifier.isPublic(m.getModifiers())) {
                    tell(m + " is no member of the face");
                }
                if (m.getParameterCount() > 7) {
                    tell(m + " takes too many parameters");
                }
            }
            for (Field f : k.getDeclaredFields()) {
                boolean isConstant = Modifier.isStatic(f.getModifiers());
                fields += isConstant ? 0 : 1;
                if (isConstant && !Modifier.isFinal(f.getModifiers())) {
                    tell(f + " is static state");
                }
                if (k == c && !f.isSynthetic() && !Modifier.isPrivate(f.getModifiers()) && !f.getName().equals("NONE")) {
                    tell(f + " is no member of the face");
                }
            }
            if (fields > 20) {
                tell(k + " has " + fields + " fields");
            }
            if (k != c && !Modifier.isStatic(k.getModifiers())) {
                tell(k + " is not static");
            }
        }
        Constructor<?>[] made = c.getDeclaredConstructors();
        if (made.length != 1 || made[0].getParameterCount() != 0 || !Modifier.isPublic(c.getModifiers())
                || !Modifier.isFinal(c.getModifiers()) || classes().size() > 12) {
            tell("the class or its constructor is not as the face tells, or there are too many classes");
        }
    }

    private static Set<Class<?>> classes() {
        Set<Class<?>> all = new HashSet<>(Arrays.asList(RootDiscs.class.getDeclaredClasses()));
        all.add(RootDiscs.class);
        return all;
    }

    private static String told(Method m) {
        StringBuilder s = new StringBuilder(m.getName()).append('(');
        for (Class<?> p : m.getParameterTypes()) {
            s.append(s.charAt(s.length() - 1) == '(' ? "" : ",").append(p.getName());
        }
        return s.append(')').append(m.getReturnType().getName()).toString();
    }

    private static void methodLengths(String code) {
        Pattern head = Pattern.compile("^(?: {4}| {8})(?! )(?!.*\\b(?:class|enum|interface|record)\\b).*\\(.*\\).*\\{$");
        String[] lines = code.split("\n");
        for (int i = 0; i < lines.length; i++) {
            if (head.matcher(lines[i]).matches()) {
                String end = lines[i].substring(0, lines[i].length() - lines[i].stripLeading().length()) + "}";
                int j = i;
                while (j < lines.length && !lines[j].equals(end)) {
                    j++;
                }
                if (j - i > 60) {
                    tell("a method of " + (j - i) + " lines: " + lines[i].strip());
                }
            }
        }
    }
}
