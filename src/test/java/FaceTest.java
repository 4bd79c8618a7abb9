import java.io.IOException;
import java.lang.reflect.Constructor;
import java.lang.reflect.Field;
import java.lang.reflect.Method;
import java.lang.reflect.Modifier;
import java.nio.file.Files;
import java.nio.file.Path;
import java.util.Arrays;
import java.util.Set;
import java.util.TreeSet;
import java.util.regex.Matcher;
import java.util.regex.Pattern;

// The face is the document's and no wider, and the source keeps to LANGUAGE.md as far as a scan can tell.
public final class FaceTest {
    private static final String[] METHODS = {"int write(int,long)", "int wipe()", "int fault()", "int lay()",
        "int falls(int,int)", "int fall()", "int layer(int,int)", "int firstOut()", "int thaw(int)",
        "int doors(int,int)", "int sell(int,int)", "int undo()", "int swap(int,int)", "int letGo(int,int,int)",
        "int odds(int,int,int,int)", "int likeliest(int,int)", "int mark(int)", "int noMarks()", "int far()",
        "int odd()", "int wish(int)", "int nearest(int,int)", "int moved(int)", "long rent(int)", "int winter(int)",
        "int ten(int)", "int keep()", "int back()", "int count(int)"};
    /** What LANGUAGE.md rules out in so many words, and what no promise needs. */
    private static final String[] FORBIDDEN = {"\\bfinally\\b", "\\bassert\\b", "\\bsynchronized\\b", "::", "\\w+Exact\\b",
        "System\\.(?!arraycopy)", "\\bRandom\\b", "\\bThread\\b", "import (?!java\\.util\\.)", "\\bpackage\\b",
        "\\bprotected\\b", "\\bgetMessage\\b", "Math\\.random", "\\b(int|boolean|String)\\s+(hashCode|equals|toString)\\s*\\(",
        // Of the library's number classes functions alone, of Arrays three; no lambda; nothing thrown, for no promise asks it.
        "\\b(Integer|Long|Math|Short|Byte|Character|Double|Float)\\.\\w+\\b(?!\\s*\\()",
        "\\bArrays\\.(?!fill|copyOf|copyOfRange)", "->", "\\bthrows?\\b", "\\bcatch\\b"};
    private static final int MOST_LINES = 60;
    private static int wrong = 0;

    private static void due(String what, Object got, Object want) {
        if (!got.equals(want)) {
            wrong++;
            System.out.println(what + " is " + got + ", due is " + want);
        }
    }

    private static String signature(Method m) {
        StringBuilder s = new StringBuilder(m.getReturnType().getName() + " " + m.getName() + "(");
        for (Class<?> type : m.getParameterTypes()) {
            s.append(s.charAt(s.length() - 1) == '(' ? "" : ",").append(type.getName());
        }
        return s.append(")").toString();
    }

    private static void face() {
        Class<?> face = SnowByNumber.class;
        due("the class's modifiers", Modifier.toString(face.getModifiers()), "public final");
        due("its constructors", face.getDeclaredConstructors().length, 1);
        for (Constructor<?> c : face.getDeclaredConstructors()) {
            due("the constructor", c.toString(), "public SnowByNumber()");
        }
        Set<String> open = new TreeSet<>();
        Set<String> names = new TreeSet<>();
        for (Method m : face.getDeclaredMethods()) {
            if (!Modifier.isPrivate(m.getModifiers()) && !m.isSynthetic()) {
                open.add(signature(m));
                names.add(m.getName());
                due("the modifiers of " + m.getName(), Modifier.toString(m.getModifiers()), "public");
            }
        }
        due("the methods", open, new TreeSet<>(Arrays.asList(METHODS)));
        Set<String> constants = new TreeSet<>();
        for (Field f : face.getDeclaredFields()) {
            if (!Modifier.isPrivate(f.getModifiers())) {
                constants.add(f.toString());
            }
        }
        due("the constants", constants.toString(), "[public static final int SnowByNumber.BAD, "
            + "public static final int SnowByNumber.FULL, public static final int SnowByNumber.NO, "
            + "public static final int SnowByNumber.NONE]");
        insides(face, names);
        for (Class<?> inside : face.getDeclaredClasses()) {
            int is = inside.getModifiers();
            due(inside + " is open", Modifier.isPublic(is) || Modifier.isProtected(is), false);
            insides(inside, names);
        }
        due("some twelve classes", face.getDeclaredClasses().length <= 14, true);
    }

    private static void insides(Class<?> c, Set<String> names) {
        int fields = 0;
        for (Field f : c.getDeclaredFields()) {
            due(f + " is changeable and static",
                Modifier.isStatic(f.getModifiers()) && !Modifier.isFinal(f.getModifiers()), false);
            fields += Modifier.isStatic(f.getModifiers()) ? 0 : 1;
        }
        due("some twenty fields in " + c, fields <= 24, true);
        for (Method m : c.getDeclaredMethods()) {
            due(m + " bears a name of the face",
                Modifier.isPrivate(m.getModifiers()) && names.contains(m.getName()), false);
            due(m + " takes at most seven", m.getParameterCount() <= 7, true);
        }
    }

    private static void source() throws IOException {
        String source = Files.readString(Path.of("src/main/java/SnowByNumber.java"));
        String code = source.replaceAll("(?s)/\\*.*?\\*/", "").replaceAll("//[^\n]*", "");
        for (String forbidden : FORBIDDEN) {
            Matcher found = Pattern.compile(forbidden).matcher(code);
            due("a find of " + forbidden, found.find() ? found.group() : "none", "none");
        }
        due("signs beyond 127", source.chars().anyMatch(c -> c > 127), false);
        noCallMakesAnObject(code);
        methodsAreShort(source);
    }

    /** All calls of a run live in one room: what is made is made with the object, by its fields. */
    private static void noCallMakesAnObject(String code) {
        for (String line : code.split("\n")) {
            if (Pattern.compile("\\bnew\\b").matcher(line).find()) {
                due("a field's own: " + line.strip(), line.matches("\\s+private (final )?[\\w\\[\\]]+ \\w+ = new [^;]+;"), true);
            }
        }
    }

    private static void methodsAreShort(String source) {
        String[] lines = source.split("\n");
        for (int from = 0; from < lines.length; from++) {
            if (lines[from].matches("( {4}| {8})\\w[^=;]*\\) \\{")) {
                String end = lines[from].replaceAll("\\S.*", "") + "}";
                int to = from;
                while (to < lines.length && !lines[to].equals(end)) {
                    to++;
                }
                due("short: " + lines[from].strip(), to - from < MOST_LINES, true);
            }
        }
    }

    public static void main(String[] args) throws IOException {
        face();
        source();
        System.out.println(wrong == 0 ? "the face is as due" : wrong + " things are not as due");
        if (wrong != 0) {
            System.exit(1);
        }
    }
}
