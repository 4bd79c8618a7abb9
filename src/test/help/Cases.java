import java.lang.reflect.InvocationTargetException;
import java.lang.reflect.Method;
import java.lang.reflect.Modifier;
import java.util.Map;
import java.util.TreeMap;

/**
 * What the tests of bounds share. A case is a static method without arguments, named after the promise, the call and
 * the case (p02_write_the401stByteIsFull); run finds the cases by that name, so that none is forgotten.
 */
final class Cases {
    static final int BAD = -1, NO = -2, FULL = -3, NONE = -4;
    /** Numbers that no promise tells, as far off as an int can be and near to what a narrower type would cut. */
    static final int[] FAR_OFF = {Integer.MIN_VALUE, Integer.MIN_VALUE + 1, -65536, -256, -5, -4, -3, -2,
        1 << 24, 100000000, Integer.MAX_VALUE - 1, Integer.MAX_VALUE};
    /** Seven FALLS of five YEARS; five come in to 260 tenths, all seven to 370. */
    static final String SEVEN = "b120,45;f3,5,2,1;f3,4,3,4;f7,8,1,1;f8,3,5,9;f8,6,2,4;"
        + "f12,2,9,0;f20,9,1,1;t12;p3,30;p8,7;p20,99;s2;v4;";

    private static String name = "";
    private static int wrong = 0;

    private Cases() {
    }

    /** A call, or some, on an object; its answer. */
    interface Call {
        long on(SnowByNumber x);
    }

    /** Makes the same object anew each time. */
    interface Scene {
        SnowByNumber made();
    }

    static void due(String call, long got, long want) {
        if (got != want) {
            wrong++;
            System.out.println(name + ": " + call + " answered " + got + ", due is " + want);
        }
    }

    private static void dueText(String what, String got, String want) {
        if (!got.equals(want)) {
            wrong++;
            System.out.println(name + ": " + what + " is\n  " + got + "\ndue is\n  " + want);
        }
    }

    static void run(Class<?> tests) {
        Map<String, Method> cases = new TreeMap<>();
        for (Method m : tests.getDeclaredMethods()) {
            if (m.getName().matches("p[0-3][0-9]_.*")) {
                cases.put(m.getName(), m);
            }
        }
        for (Map.Entry<String, Method> one : cases.entrySet()) {
            name = one.getKey();
            runOne(one.getValue());
        }
        System.out.println(cases.size() + " cases, " + (wrong == 0 ? "all answers are as due"
            : wrong + " answers are not as due"));
        if (wrong != 0 || cases.isEmpty()) {
            System.exit(1);
        }
    }

    private static void runOne(Method m) {
        try {
            if (!Modifier.isStatic(m.getModifiers())) {
                throw new IllegalStateException("not static");
            }
            m.setAccessible(true);
            m.invoke(null);
        } catch (InvocationTargetException thrown) {
            wrong++;
            System.out.println(name + ": thrown was " + thrown.getCause());
        } catch (IllegalAccessException | RuntimeException cannot) {
            wrong++;
            System.out.println(name + ": could not run, " + cannot);
        }
    }

    /** Writes a TEXT, eight bytes a call. */
    static SnowByNumber write(SnowByNumber x, String text) {
        for (int at = 0; at < text.length(); at += 8) {
            int n = Math.min(8, text.length() - at);
            long v = 0;
            for (int k = 0; k < n; k++) {
                v = v << 8 | text.charAt(at + k) & 255;
            }
            x.write(n, v);
        }
        return x;
    }

    /** A new object with THE TEXT written and not LAID. */
    static SnowByNumber told(String text) {
        return write(new SnowByNumber(), text);
    }

    /** A new object with THE TEXT LAID and so many LAYERS. */
    static SnowByNumber laid(String text, int layers) {
        SnowByNumber x = new SnowByNumber();
        layAnew(x, text);
        for (int i = 1; i <= layers; i++) {
            due("fall() of " + text, x.fall(), i);
        }
        return x;
    }

    static int layAnew(SnowByNumber x, String text) {
        x.wipe();
        write(x, text);
        return x.lay();
    }

    static void marks(SnowByNumber x, String dusts) {
        x.noMarks();
        for (int i = 0; i < dusts.length(); i++) {
            due("mark", x.mark(dusts.charAt(i) - '0'), i + 1);
        }
    }

    /** Sells the LAYER down to so many tenths. */
    static void sellDownTo(SnowByNumber x, int i, int tenths) {
        int q = x.layer(i, 0) - tenths;
        if (q > 0) {
            due("a sale down to " + tenths, x.sell(i, q) >= 0 ? 0 : 1, 0);
        }
        due("layer(" + i + ", 0)", x.layer(i, 0), tenths);
    }

    static void dueCounts(SnowByNumber x, int... counts) {
        for (int what = 0; what < counts.length; what++) {
            due("count(" + what + ")", x.count(what), counts[what]);
        }
    }

    static void dueFalls(SnowByNumber x, int i, int... falls) {
        for (int what = 0; what < falls.length; what++) {
            due("falls(" + i + ", " + what + ")", x.falls(i, what), falls[what]);
        }
    }

    static void dueLayers(SnowByNumber x, int what, int... layers) {
        for (int i = 0; i < layers.length; i++) {
            due("layer(" + i + ", " + what + ")", x.layer(i, what), layers[i]);
        }
    }

    /** FAULT is at the place; a TEXT with a FAULT is not LAID. */
    static void dueFault(String text, int place) {
        SnowByNumber x = told(text);
        due("fault() of " + text, x.fault(), place);
        if (place != NONE) {
            due("lay() of " + text, x.lay(), NO);
        }
    }

    /** The ITEM is so: alone, behind another one and ahead of another one. */
    static void dueSo(String... items) {
        for (String item : items) {
            dueFault(item, NONE);
            dueFault("t1;" + item, NONE);
            dueFault(item + "t1;x", item.length() + 3);
        }
    }

    /** The ITEM is not so, wherever it stands; the ITEM ahead of it is. */
    static void dueNotSo(String... items) {
        for (String item : items) {
            dueFault(item, 0);
            dueFault("t1;" + item, 3);
            dueFault("f0,20,9,9;v9;" + item + "t1;", 13);
        }
    }

    /** The number is the least, and those below it are not told; up to the most. */
    static void dueBadOutside(SnowByNumber x, String call, int least, int most, NumberCall c) {
        due(call + " by " + (least - 1), c.on(x, least - 1), BAD);
        due(call + " by " + (most + 1), c.on(x, most + 1), BAD);
        for (int far : FAR_OFF) {
            if (far < least || far > most) {
                due(call + " by " + far, c.on(x, far), BAD);
            }
        }
        for (int edge : new int[] {least, most}) {
            long answer = c.on(x, edge);
            due(call + " by " + edge + " is told: " + answer, answer == BAD ? 1 : 0, 0);
        }
    }

    /** A call by one number. */
    interface NumberCall {
        long on(SnowByNumber x, int n);
    }

    /** The call is refused, and all that can be seen behind it is as without the call. */
    static void dueRefused(Scene scene, String call, Call c, int want) {
        SnowByNumber x = scene.made();
        SnowByNumber twin = scene.made();
        due(call, c.on(x), want);
        dueSame(call, x, twin);
    }

    /** All that can be seen of both is the same. Both are used up by it. */
    static void dueSame(String after, SnowByNumber x, SnowByNumber twin) {
        dueText("the state behind " + after, look(x), look(twin));
        dueText("what is undone behind " + after, undone(x), undone(twin));
        dueText("what was KEPT last behind " + after, back(x), back(twin));
        dueText("what was KEPT first behind " + after, back(x), back(twin));
        dueText("KEPT once more behind " + after, back(x), back(twin));
        dueText("the next MARK and byte behind " + after, next(x), next(twin));
    }

    /** By calls that change nothing. */
    private static String look(SnowByNumber x) {
        StringBuilder s = new StringBuilder(lookAtBarn(x));
        s.append(" fault ").append(x.fault());
        for (int what = 0; what < 5; what++) {
            s.append(' ').append(x.falls(0, what)).append(',').append(x.falls(6, what));
        }
        s.append(" firstOut ").append(x.firstOut()).append(" doors ").append(x.doors(6, -1)).append(x.doors(6, 5));
        s.append(" letGo ").append(x.letGo(20, 9, 0)).append(" odds ").append(x.odds(1, 2, 3, 0)).append('/')
            .append(x.odds(1, 2, 3, 1)).append(" likeliest ").append(x.likeliest(4, 1));
        s.append(" wish ").append(x.wish(3)).append(" nearest ").append(x.nearest(9, 40)).append(" moved ")
            .append(x.moved(900)).append(" rent ").append(x.rent(777)).append(" winter ").append(x.winter(5000))
            .append(" ten ").append(x.ten(5000));
        return s.toString();
    }

    private static String lookAtBarn(SnowByNumber x) {
        StringBuilder s = new StringBuilder("counts");
        for (int what = 0; what <= 8; what++) {
            s.append(' ').append(x.count(what));
        }
        s.append(" layers");
        for (int i = 0; i < x.count(1) && i < 12; i++) {
            s.append(' ').append(x.layer(i, 0)).append(',').append(x.layer(i, 1));
        }
        return s.append(" far ").append(x.far()).append(" odd ").append(x.odd()).toString();
    }

    private static String undone(SnowByNumber x) {
        StringBuilder s = new StringBuilder();
        for (int k = 0; k < 9; k++) {
            s.append(x.undo()).append(' ').append(x.count(3)).append(' ').append(x.count(4)).append("; ");
        }
        return s.toString();
    }

    private static String back(SnowByNumber x) {
        StringBuilder s = new StringBuilder();
        return s.append(x.back()).append(": ").append(lookAtBarn(x)).append(' ').append(undone(x)).toString();
    }

    /** MARKS that still come, told by FAR to the last; and what THE TEXT was, by laying it with an ITEM more. */
    private static String next(SnowByNumber x) {
        StringBuilder s = new StringBuilder();
        s.append(x.mark(1)).append(' ').append(x.far()).append(' ').append(x.noMarks()).append(' ');
        s.append(x.write(1, ';')).append(' ').append(x.fault()).append(' ').append(x.lay()).append(' ');
        s.append(x.write(3, 0x74393b)).append(' ').append(x.fault()).append(' ').append(x.lay()).append(' ');
        for (int what = 0; what < 5; what++) {
            s.append(x.falls(0, what)).append(',').append(x.falls(6, what)).append(' ');
        }
        return s.append(x.fall()).append(x.fall()).append(x.thaw(0)).append(' ').append(x.wipe()).toString();
    }

    /** Much of everything, nothing of it full: 4 LAYERS, 3 SALES, 3 MARKS, 1 KEPT, a TEXT that begins anew. */
    static SnowByNumber busy() {
        SnowByNumber x = laid(SEVEN, 3);
        x.sell(0, 11);
        x.swap(1, 7);
        x.keep();
        x.fall();
        x.sell(1, 23);
        x.thaw(2);
        x.sell(3, 5);
        x.swap(2, 0);
        marks(x, "170");
        x.wipe();
        return write(x, "t7;f5,6,7,8");
    }

    /** All is full: 400 bytes, 12 LAYERS to the roof, 8 SALES undone into it, 14 MARKS, 2 KEPT. */
    static SnowByNumber full() {
        SnowByNumber x = laid("f3,2,2,1;".repeat(6) + "f8,8,1,4;".repeat(6) + "b999,60;p3,9;s2;v3;", 12);
        x.keep();
        for (int k = 1; k <= 9; k++) {
            x.sell(k % 2 * 10, k);
        }
        x.swap(5, 6);
        x.keep();
        marks(x, "11111644444400");
        x.wipe();
        for (int k = 1; k <= 49; k++) {
            x.write(8, 0x663132333435363bL);
        }
        x.write(8, 0x66302c312c312c31L);
        return x;
    }
}
