import java.io.IOException;
import java.lang.reflect.InvocationTargetException;
import java.lang.reflect.Method;
import java.lang.reflect.Modifier;
import java.nio.file.Files;
import java.nio.file.Path;
import java.util.LinkedHashMap;
import java.util.Map;
import java.util.Random;
import java.util.Set;
import java.util.TreeMap;
import java.util.TreeSet;
import java.util.regex.Matcher;
import java.util.regex.Pattern;

// README.md tells how the class is used: its example runs, its table of calls is the document's and the program's.
public final class ReadmeTest {
    private static final Map<String, Integer> BELOW_0 = Map.of("BAD", -1, "NO", -2, "FULL", -3, "NONE", -4);
    private static final int ROUNDS = 3000;
    private static final int CALLS = 100;
    private static final Random DRAW = new Random(20261120);
    private static int wrong = 0;

    private static void due(String what, Object got, Object want) {
        if (!got.equals(want)) {
            wrong++;
            System.out.println(what + " is " + got + ", due is " + want);
        }
    }

    private static String part(String page, String from, String to) {
        int start = page.indexOf(from);
        int end = page.indexOf(to, start + from.length());
        due("'" + from + "' .. '" + to + "' is there", start >= 0 && end >= 0, true);
        return start >= 0 && end >= 0 ? page.substring(start + from.length(), end) : "";
    }

    private static Map<String, Method> calls() {
        Map<String, Method> calls = new TreeMap<>();
        for (Method m : SnowByNumber.class.getDeclaredMethods()) {
            if (Modifier.isPublic(m.getModifiers())) {
                calls.put(m.getName(), m);
            }
        }
        return calls;
    }

    private static Set<String> below0In(String text) {
        Set<String> names = new TreeSet<>();
        Matcher name = Pattern.compile("\\b(BAD|NO|FULL|NONE)\\b").matcher(text);
        while (name.find()) {
            names.add(name.group());
        }
        return names;
    }

    // ---- the example

    private static Object argument(Class<?> type, String number) {
        long n = Long.decode(number.replaceAll("L$", ""));
        return type == long.class ? (Object) n : (Object) (int) n;
    }

    private static void example(String readme) throws IllegalAccessException, InvocationTargetException {
        SnowByNumber snow = new SnowByNumber();
        Matcher line = Pattern.compile("snow\\.(\\w+)\\(([^)]*)\\);\\s*// (-?\\d+): .*").matcher(
            part(readme, "```java\nSnowByNumber snow = new SnowByNumber();\n", "```"));
        int lines = 0;
        while (line.find()) {
            Method m = calls().get(line.group(1));
            String[] numbers = line.group(2).isEmpty() ? new String[0] : line.group(2).split(", *");
            Object[] arguments = new Object[numbers.length];
            for (int k = 0; k < numbers.length; k++) {
                arguments[k] = argument(m.getParameterTypes()[k], numbers[k]);
            }
            due("the example's " + line.group(), "" + m.invoke(snow, arguments), line.group(3));
            lines++;
        }
        due("the example's lines", lines, 15);
    }

    // ---- the tables

    private static void constants(String readme) {
        Map<String, Integer> told = new TreeMap<>();
        StringBuilder order = new StringBuilder();
        Matcher row = Pattern.compile("\n\\| `([A-Z]+)` \\| (-\\d) \\| ").matcher(readme);
        while (row.find()) {
            told.put(row.group(1), Integer.valueOf(row.group(2)));
            order.append(row.group(1)).append(' ');
        }
        due("the table of what is below 0", told, new TreeMap<>(BELOW_0));
        due("BAD", SnowByNumber.BAD, BELOW_0.get("BAD"));
        due("NO", SnowByNumber.NO, BELOW_0.get("NO"));
        due("FULL", SnowByNumber.FULL, BELOW_0.get("FULL"));
        due("NONE", SnowByNumber.NONE, BELOW_0.get("NONE"));
        due("its order", order.toString(), "BAD NO NONE FULL ");
    }

    /** The README's rows: a call as it is written there, and what it can answer below 0. */
    private static Map<String, Set<String>> rows(String readme) {
        Map<String, Set<String>> rows = new LinkedHashMap<>();
        Matcher row = Pattern.compile("\n\\| `(\\w+\\([^`]*\\))` \\| .* \\| ([A-Z, ]*)\\|").matcher(readme);
        while (row.find()) {
            rows.put(row.group(1), below0In(row.group(2)));
        }
        return rows;
    }

    /** The same of the document: each promise's call without types, and what its text names. */
    private static Map<String, Set<String>> promises(String doc) {
        Map<String, Set<String>> promises = new LinkedHashMap<>();
        Matcher promise = Pattern.compile("\n## Promise \\d+: \\w+\n\n`(?:int|long) (\\w+)\\(([^)]*)\\)`: (.*)").matcher(doc);
        while (promise.find()) {
            promises.put(promise.group(1) + "(" + promise.group(2).replaceAll("(int|long) ", "") + ")",
                below0In(promise.group(3)));
        }
        return promises;
    }

    // ---- what calls answer

    private static int number() {
        int[] edges = {-2, -1, 0, 1, 9, 10, 99, 100, 999, 1000, 9999, 10000, 999999, 1000000, Integer.MIN_VALUE,
            Integer.MAX_VALUE};
        switch (DRAW.nextInt(8)) {
            case 0: return edges[DRAW.nextInt(edges.length)];
            case 1: return DRAW.nextInt(1000);
            case 2: return DRAW.nextInt(100);
            default: return DRAW.nextInt(9);
        }
    }

    private static SnowByNumber scene() {
        switch (DRAW.nextInt(6)) {
            case 0: return new SnowByNumber();
            case 1: return Cases.full();
            case 2: return Cases.busy();
            case 3: return Cases.laid("b9,9;s0;t50;f0,3,1,1;f5,1,2,2;f5,9,9,3;f6,1,1,1;", 2);
            case 4: return Cases.laid("f0,1,1,0;f1,1,1,0;", 2);
            default: return Cases.laid(Cases.SEVEN, DRAW.nextInt(8));
        }
    }

    private static Object[] arguments(Method m) {
        Object[] arguments = new Object[m.getParameterCount()];
        for (int k = 0; k < arguments.length; k++) {
            int n = number();
            arguments[k] = m.getParameterTypes()[k] == long.class ? (Object) (long) n : (Object) n;
        }
        return arguments;
    }

    private static void answers(Map<String, Set<String>> rows) throws IllegalAccessException, InvocationTargetException {
        Method[] methods = calls().values().toArray(new Method[0]);
        Map<String, Set<Long>> below = new TreeMap<>();
        for (int round = 0; round < ROUNDS; round++) {
            SnowByNumber x = scene();
            for (int call = 0; call < CALLS; call++) {
                Method m = methods[DRAW.nextInt(methods.length)];
                long answer = ((Number) m.invoke(x, arguments(m))).longValue();
                if (answer < 0) {
                    below.computeIfAbsent(m.getName(), name -> new TreeSet<>()).add(answer);
                }
            }
        }
        for (Map.Entry<String, Set<String>> row : rows.entrySet()) {
            Set<Long> told = new TreeSet<>();
            for (String name : row.getValue()) {
                told.add((long) BELOW_0.get(name));
            }
            String name = row.getKey().substring(0, row.getKey().indexOf('('));
            due("what " + name + " answered below 0", below.getOrDefault(name, new TreeSet<>()), told);
        }
    }

    public static void main(String[] args) throws IOException, IllegalAccessException, InvocationTargetException {
        String readme = Files.readString(Path.of("README.md"));
        String doc = Files.readString(Path.of("../shared/DOC.md"));
        example(readme);
        constants(readme);
        Map<String, Set<String>> rows = rows(readme);
        due("how many calls the document promises", promises(doc).size(), 29);
        due("the table of calls", rows, promises(doc));
        answers(rows);
        System.out.println(wrong == 0 ? "the page is as due" : wrong + " things are not as due");
        if (wrong != 0) {
            System.exit(1);
        }
    }
}
