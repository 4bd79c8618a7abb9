// Each promise of the document by hand: ordinary inputs, edges, wrong inputs.
public final class PromisesTest {
    private static final int BAD = -1, NO = -2, FULL = -3, NONE = -4;
    private static final int[] FAR_OFF = {Integer.MIN_VALUE, -1000, 100000000, Integer.MAX_VALUE};
    private static final String SEVEN = "b120,45;f3,5,2,1;f3,4,3,4;f7,8,1,1;f8,3,5,9;f8,6,2,4;"
        + "f12,2,9,0;f20,9,1,1;t12;p3,30;p8,7;p20,99;s2;v4;";
    private static int wrong = 0;
    private static int promise = 0;

    private static void due(String call, long got, long want) {
        if (got != want) {
            wrong++;
            System.out.println("promise " + promise + ": " + call + " answered " + got + ", due is " + want);
        }
    }

    private static void write(SnowByNumber x, String text) {
        for (int at = 0; at < text.length(); at += 8) {
            int n = Math.min(8, text.length() - at);
            long v = 0;
            for (int k = 0; k < n; k++) {
                v = v << 8 | text.charAt(at + k);
            }
            x.write(n, v);
        }
    }

    private static SnowByNumber laid(String text, int falls) {
        SnowByNumber x = new SnowByNumber();
        layAnew(x, text);
        for (int i = 0; i < falls; i++) {
            due("fall() of " + text, x.fall(), i + 1);
        }
        return x;
    }

    private static int layAnew(SnowByNumber x, String text) {
        x.wipe();
        write(x, text);
        return x.lay();
    }

    private static void dueFault(String text, int place) {
        SnowByNumber x = new SnowByNumber();
        write(x, text);
        due("fault() of " + text, x.fault(), place);
        due("lay() of " + text, x.lay(), place == NONE && text.indexOf('f') >= 0
            ? text.chars().filter(c -> c == 'f').count() : NO);
        due("count(8) of " + text, x.count(8), text.length());
    }

    private static void marks(SnowByNumber x, String dusts) {
        x.noMarks();
        for (int i = 0; i < dusts.length(); i++) {
            due("mark", x.mark(dusts.charAt(i) - '0'), i + 1);
        }
    }

    private static void constants() {
        due("BAD", SnowByNumber.BAD, -1);
        due("NO", SnowByNumber.NO, -2);
        due("FULL", SnowByNumber.FULL, -3);
        due("NONE", SnowByNumber.NONE, -4);
    }

    private static void newObject() {
        promise = 1;
        SnowByNumber x = new SnowByNumber();
        int[] counts = {1, 0, 0, 0, 0, 0, 0, 0, 0};
        for (int what = 0; what < counts.length; what++) {
            due("count(" + what + ")", x.count(what), counts[what]);
        }
        int[] fall = {0, 5, 2, 1, 10};
        for (int what = 0; what < fall.length; what++) {
            due("falls(0, " + what + ")", x.falls(0, what), fall[what]);
        }
        due("fault()", x.fault(), NONE);
        due("lay()", x.lay(), NO);
        due("fall()", x.fall(), 1);
        due("thaw(0), 5 without a t", x.thaw(0), 5);
        due("likeliest(9, 9), slip 1 without an s", x.likeliest(9, 9), 0);
        due("winter(9), 0 more without a v", x.winter(9), 1);
        SnowByNumber other = new SnowByNumber();
        due("count(1) of another object", other.count(1), 0);
    }

    private static void write() {
        promise = 2;
        SnowByNumber x = new SnowByNumber();
        due("write(0, 1)", x.write(0, 1), BAD);
        due("write(9, 1)", x.write(9, 1), BAD);
        for (int n : FAR_OFF) {
            due("write(" + n + ", 1)", x.write(n, 1), BAD);
        }
        due("count(8)", x.count(8), 0);
        // 't7;' in the lowest three bytes; what stands above them does not come.
        due("write(3, ..)", x.write(3, 0x7fffffffff74373bL), 3);
        due("fault()", x.fault(), NONE);
        due("write(1, -159)", x.write(1, -159L), 4);
        due("fault()", x.fault(), 3);
        due("wipe()", x.wipe(), 4);
        // 'f0,1,1,1' and ';'
        due("write(8, ..)", x.write(8, 0x66302c312c312c31L), 8);
        due("fault()", x.fault(), 0);
        due("write(1, ..)", x.write(1, 0x3bL), 9);
        due("fault()", x.fault(), NONE);
        due("lay()", x.lay(), 1);
        x.wipe();
        for (int k = 1; k <= 49; k++) {
            due("write(8, 0)", x.write(8, 0), 8 * k);
        }
        due("write(7, 0)", x.write(7, 0), 399);
        due("write(2, 0) at 399", x.write(2, 0), FULL);
        due("write(8, 0) at 399", x.write(8, 0), FULL);
        due("count(8)", x.count(8), 399);
        due("write(1, 0)", x.write(1, 0), 400);
        due("write(1, 0) at 400", x.write(1, 0), FULL);
        due("write(0, 0) at 400", x.write(0, 0), BAD);
        due("write(9, 0) at 400", x.write(9, 0), BAD);
        due("count(8)", x.count(8), 400);
        due("wipe()", x.wipe(), 400);
    }

    private static void wipe() {
        promise = 3;
        SnowByNumber x = laid("f9,3,3,3;", 1);
        due("wipe()", x.wipe(), 9);
        due("wipe()", x.wipe(), 0);
        due("fault()", x.fault(), NONE);
        due("lay()", x.lay(), NO);
        due("falls(0, 0): what is LAID stays", x.falls(0, 0), 9);
        due("count(1): what came in stays", x.count(1), 1);
        due("write(3, ..)", x.write(3, 0x74373b), 3);
        due("count(8)", x.count(8), 3);
    }

    private static void fault() {
        promise = 4;
        String[] so = {"", "b1,1;", "b999,99;", "b001,01;", "t1;", "t50;", "t050;", "p0,0;", "p99,99;", "s0;", "s4;",
            "v0;", "v9;", "f0,1,1,0;", "f99,20,9,9;", "f5,1,1,1;f5,1,1,1;", "b1,1;b2,2;t1;t2;p1,1;p1,2;s1;s2;v1;v2;",
            "f0,1,1,0;".repeat(12), "f000,020,009,009;f000,001,001,000;"};
        for (String text : so) {
            dueFault(text, NONE);
        }
        String[] notSo = {"b0,1;", "b1,0;", "b1000,1;", "b1,100;", "b1;", "b1,1,1;", "b1,1", "b1,1,;", "b,1;", "b;", "b",
            "b1,1:", "b 1,1;", "b1, 1;", "b-1,1;", "b1,,1;", "bb1,1;", "B1,1;", "1,1;", ";", ",", ";;", "b1,1,1,1;",
            "t0;", "t51;", "t;", "t1,1;", "t0001;", "t999;", "p100,1;", "p1,100;", "p1;", "p1,1,1;", "s5;", "s;",
            "s1,1;", "v10;", "v;", "v1,1;", "x1;", "a1;", "g1,1,1,1;", "f0,0,1,1;", "f0,21,1,1;", "f0,1,0,1;",
            "f0,1,10,1;", "f0,1,1,10;", "f100,1,1,1;", "f0,1,1;", "f0,1,1,1,1;", "f0,1,1,1,1,1;", "f0,1,1,1",
            "f0,1,1,1,", "f", "f0000,1,1,1;", "f0,1,1,\u00b1;", "\u00e61;", "\u0000", "F0,1,1,1;", "t\u00b1;"};
        for (String text : notSo) {
            dueFault(text, 0);
            dueFault("t1;" + text, 3);
            dueFault("f0,1,1,0;v1;" + text + "f0,1,1,0;x", 12);
        }
        dueFault("f5,1,1,1;f4,1,1,1;", 9);
        dueFault("f5,1,1,1;t1;f4,1,1,1;", 12);
        dueFault("f0,1,1,0;".repeat(12) + "f0,1,1,0;", 108);
        dueFault("f0,1,1,0;".repeat(12) + "t1;f9,1,1,0;", 111);
        dueFault("f1,1,1,0;f3,1,1,0;f2,1,1,0;f0,1,1,0;", 18);
        dueFault("t1;;", 3);
        SnowByNumber parts = new SnowByNumber();
        write(parts, "t5");
        due("fault() of t5", parts.fault(), 0);
        write(parts, ";f0,20,1,");
        due("fault() of t5;f0,20,1,", parts.fault(), 3);
        write(parts, "1;");
        due("fault() of t5;f0,20,1,1;", parts.fault(), NONE);
        parts.wipe();
        write(parts, "t005");
        due("fault() of t005", parts.fault(), 0);
        write(parts, ";");
        due("fault() of t005;", parts.fault(), NONE);
        SnowByNumber x = laid("f9,3,3,3;", 1);
        write(x, "f8,1,1,1;");
        due("fault()", x.fault(), 9);
        due("falls(0, 0) after a fault", x.falls(0, 0), 9);
        due("count(1) after a fault", x.count(1), 1);
    }

    private static void lay() {
        promise = 5;
        SnowByNumber x = laid(SEVEN, 3);
        due("sell(0, 10)", x.sell(0, 10), 30);
        due("swap(1, 9)", x.swap(1, 9), 4);
        marks(x, "141");
        due("keep()", x.keep(), 1);
        x.wipe();
        String[] no = {"", "b1,1;t1;", "f0,1,1,1;x"};
        for (String text : no) {
            due("lay() of " + text, layAnew(x, text), NO);
            int[] counts = {7, 3, 160, 280, 30, 1, 3, 1, text.length()};
            for (int what = 0; what < counts.length; what++) {
                due("count(" + what + ") after NO", x.count(what), counts[what]);
            }
        }
        due("lay()", layAnew(x, "f5,2,3,4;f6,1,1,1;"), 2);
        int[] counts = {2, 0, 0, 0, 0, 0, 0, 0, 18};
        for (int what = 0; what < counts.length; what++) {
            due("count(" + what + ") after lay", x.count(what), counts[what]);
        }
        due("undo()", x.undo(), NO);
        due("back()", x.back(), NO);
        due("far()", x.far(), 0);
        due("falls(0, 4)", x.falls(0, 4), 10);
        due("fall()", x.fall(), 1);
        due("layer(0, 1)", x.layer(0, 1), 4);
        due("thaw(0): no t of before", x.thaw(0), 5);
        due("likeliest(9, 9)", x.likeliest(9, 9), 5);
        due("lay() once more", x.lay(), 2);
        due("count(1)", x.count(1), 0);
        due("lay() of 12", layAnew(x, "f1,1,1,1;".repeat(12)), 12);
        for (int i = 1; i <= 12; i++) {
            due("fall()", x.fall(), i);
        }
        due("fall() behind the last", x.fall(), NO);
    }

    private static void lastOnesCount() {
        promise = 5;
        SnowByNumber x = laid("b1,1;t9;s4;v9;p0,77;p0,33;f0,2,1,0;b40,4;t3;s0;v0;", 1);
        due("falls(0, 4)", x.falls(0, 4), 33);
        due("thaw(0)", x.thaw(0), 3);
        due("likeliest(5, 1)", x.likeliest(5, 1), NONE);
        due("winter(3)", x.winter(3), 1);
        SnowByNumber y = laid("f0,20,1,0;f0,20,1,0;f0,20,1,0;f0,1,1,0;", 3);
        due("fall() into the roof of 60", y.fall(), FULL);
        SnowByNumber z = laid("f0,20,9,0;f0,20,9,0;f0,4,9,0;f0,2,2,0;f0,1,1,0;", 4);
        due("count(3)", z.count(3), 4000);
        due("fall() over the beams of 400", z.fall(), FULL);
    }

    /** Nothing of the TEXT that was LAID before, and of LAYERS that were there, stays. */
    private static void nothingStays() {
        promise = 5;
        SnowByNumber x = laid("b999,99;f3,5,1,1;f3,5,1,2;f3,5,1,3;f4,5,1,4;t50;p3,0;s0;v9;", 4);
        due("lay() of the same", x.lay(), 4);
        for (int i = 1; i <= 4; i++) {
            due("fall()", x.fall(), i);
        }
        due("lay()", layAnew(x, "f3,5,1,1;f4,20,1,1;f5,20,1,1;f6,15,1,1;"), 4);
        due("falls(0, 4)", x.falls(0, 4), 10);
        due("winter(5)", x.winter(5), 4);
        due("count(2)", x.count(2), 0);
        due("wish(3)", x.wish(3), 0);
        due("nearest(3, 1)", x.nearest(3, 1), NONE);
        due("rent(999)", x.rent(999), 0);
        due("moved(10)", x.moved(10), 0);
        due("likeliest(1, 1)", x.likeliest(1, 1), NONE);
        due("odds(1, 1, 3, 1)", x.odds(1, 1, 3, 1), NONE);
        due("far()", x.far(), 0);
        due("letGo(1, 1, 0)", x.letGo(1, 1, 0), 0);
        due("letGo(999, 99, 1)", x.letGo(999, 99, 1), 0);
        due("doors(1, -1)", x.doors(1, -1), 0);
        due("thaw(0)", x.thaw(0), 0);
        due("fall()", x.fall(), 1);
        marks(x, "2");
        due("far()", x.far(), 1);
        due("odd()", x.odd(), 0);
        marks(x, "1");
        due("far()", x.far(), 0);
        due("thaw(0)", x.thaw(0), 5);
        due("nearest(4, 1)", x.nearest(4, 1), 3);
        due("moved(50)", x.moved(50), 1);
        due("odds(9, 1, 3, 1)", x.odds(9, 1, 3, 1), 1);
        due("odds(9, 1, 4, 0)", x.odds(9, 1, 4, 0), 0);
        due("letGo(1, 1, 0)", x.letGo(1, 1, 0), 1);
        due("letGo(999, 99, 2)", x.letGo(999, 99, 2), 45);
        due("lay()", layAnew(x, "f3,5,1,1;t1;p3,5;s3;"), 1);
        due("lay()", layAnew(x, "t5"), NO);
        due("fall() after a lay that was none", x.fall(), 1);
        due("thaw(0) after a lay that was none", x.thaw(0), 1);
        due("falls(0, 4) after a lay that was none", x.falls(0, 4), 5);
    }

    private static void falls() {
        promise = 6;
        SnowByNumber x = laid(SEVEN, 0);
        int[][] falls = {{3, 5, 2, 1, 30}, {3, 4, 3, 4, 30}, {7, 8, 1, 1, 10}, {8, 3, 5, 9, 7}, {8, 6, 2, 4, 7},
            {12, 2, 9, 0, 10}, {20, 9, 1, 1, 99}};
        for (int i = 0; i < falls.length; i++) {
            for (int what = 0; what < 5; what++) {
                due("falls(" + i + ", " + what + ")", x.falls(i, what), falls[i][what]);
            }
            due("falls(" + i + ", 5)", x.falls(i, 5), BAD);
            due("falls(" + i + ", -1)", x.falls(i, -1), BAD);
        }
        due("falls(7, 0)", x.falls(7, 0), BAD);
        due("falls(-1, 0)", x.falls(-1, 0), BAD);
        for (int far : FAR_OFF) {
            due("falls(" + far + ", 0)", x.falls(far, 0), BAD);
            due("falls(0, " + far + ")", x.falls(0, far), BAD);
        }
    }

    private static void fall() {
        promise = 7;
        SnowByNumber x = laid("b999,3;f0,2,9,5;f1,1,1,6;f2,1,1,7;", 2);
        due("fall() over the roof", x.fall(), FULL);
        due("fall() over the roof again", x.fall(), FULL);
        due("count(1)", x.count(1), 2);
        due("thaw(0)", x.thaw(0), 5);
        due("fall() with 25 in 30", x.fall(), FULL);
        due("thaw(1)", x.thaw(1), 5);
        due("fall() with 20 in 30", x.fall(), 3);
        due("fall()", x.fall(), NO);
        due("layer(2, 0)", x.layer(2, 0), 10);
        due("layer(2, 1)", x.layer(2, 1), 7);
        due("count(2)", x.count(2), 30);
        due("count(3)", x.count(3), 15 * 9 + 5 + 10);
        SnowByNumber y = laid("b5,99;f0,2,2,0;f0,1,1,0;f0,1,1,0;", 2);
        due("fall() over the beams", y.fall(), FULL);
        due("sell(1, 9)", y.sell(1, 9), 9);
        due("fall() with 41 and 10", y.fall(), FULL);
        due("sell(1, 1)", y.sell(1, 1), 1);
        due("fall() with 40 and 10", y.fall(), 3);
        due("undo()", y.undo(), 1);
        due("undo()", y.undo(), 9);
        due("count(3) over the beams by undo", y.count(3), 60);
    }

    private static void layer() {
        promise = 8;
        SnowByNumber x = laid(SEVEN, 0);
        int[][] doors = {{0}, {0, 1}, {0, 1, 2}, {0, 0, 1, 2}, {0, 0, 1, 1, 2}, {0, 0, 1, 1, 2, 2},
            {0, 0, 0, 1, 1, 2, 2}};
        for (int n = 1; n <= 7; n++) {
            due("layer(" + (n - 1) + ", 0) ahead of it", x.layer(n - 1, 0), BAD);
            x.fall();
            for (int i = 0; i < n; i++) {
                due("layer(" + i + ", 2) of " + n, x.layer(i, 2), doors[n - 1][i]);
            }
        }
        due("layer(3, 0)", x.layer(3, 0), 30);
        due("layer(3, 1)", x.layer(3, 1), 9);
        due("layer(3, 3)", x.layer(3, 3), BAD);
        due("layer(3, -1)", x.layer(3, -1), BAD);
        due("layer(7, 0)", x.layer(7, 0), BAD);
        due("layer(-1, 0)", x.layer(-1, 0), BAD);
        for (int far : FAR_OFF) {
            due("layer(" + far + ", 0)", x.layer(far, 0), BAD);
            due("layer(0, " + far + ")", x.layer(0, far), BAD);
        }
    }

    private static void firstOut() {
        promise = 9;
        SnowByNumber x = laid("b999,10;f0,5,1,0;f1,5,1,0;f2,1,1,0;f3,1,1,0;t9;", 0);
        due("firstOut()", x.firstOut(), 2);
        x.fall();
        due("firstOut()", x.firstOut(), 2);
        due("thaw(0)", x.thaw(0), 9);
        due("firstOut() with 9 less", x.firstOut(), 2);
        due("thaw(0)", x.thaw(0), 9);
        due("firstOut() with 18 less", x.firstOut(), 3);
        due("thaw(0)", x.thaw(0), 9);
        due("firstOut() with 27 less", x.firstOut(), NONE);
        SnowByNumber y = laid("b10,99;f0,5,2,0;f0,1,1,0;f0,1,1,0;", 1);
        due("firstOut() by load", y.firstOut(), 1);
        SnowByNumber z = laid("b1,1;f0,2,1,0;f0,1,1,0;", 0);
        due("firstOut() of the very first", z.firstOut(), 0);
        SnowByNumber full = laid("f0,1,1,0;", 1);
        due("firstOut() with none left", full.firstOut(), NONE);
    }

    private static void thaw() {
        promise = 10;
        SnowByNumber x = laid(SEVEN, 7);
        due("thaw(0)", x.thaw(0), 36);
        due("thaw(1)", x.thaw(1), 24);
        due("thaw(2)", x.thaw(2), 24);
        int[] left = {38, 28, 68, 18, 48, 8, 78};
        for (int i = 0; i < left.length; i++) {
            due("layer(" + i + ", 0)", x.layer(i, 0), left[i]);
        }
        due("thaw(2), no more than there are", x.thaw(2), 20);
        due("thaw(2)", x.thaw(2), 12);
        due("thaw(3)", x.thaw(3), BAD);
        due("thaw(-1)", x.thaw(-1), BAD);
        for (int far : FAR_OFF) {
            due("thaw(" + far + ")", x.thaw(far), BAD);
        }
        due("count(2)", x.count(2), 370 - 36 - 24 - 24 - 20 - 12);
        SnowByNumber y = laid(SEVEN, 1);
        due("thaw(1) without LAYERS there", y.thaw(1), 0);
        due("thaw(2) without LAYERS there", y.thaw(2), 0);
        due("thaw(0)", y.thaw(0), 12);
    }

    private static void doors() {
        promise = 11;
        SnowByNumber same = laid("f0,1,1,0;f1,1,1,0;f2,1,1,0;", 3);
        due("doors(1, -1)", same.doors(1, -1), 50);
        due("doors(2, -1)", same.doors(2, -1), 100);
        due("doors(6, -1), 10 tenths at most", same.doors(6, -1), 100);
        for (int i = 0; i < 6; i++) {
            due("doors(6, " + i + ") of equal ones", same.doors(6, i), 0);
        }
        due("count(2): nothing melts", same.count(2), 30);
        SnowByNumber third = laid("f0,3,1,0;f1,3,1,0;f2,3,1,0;p0,9;p1,8;p2,7;t10;", 3);
        due("doors(2, -1)", third.doors(2, -1), 140);
        due("doors(2, 0)", third.doors(2, 0), 2);
        due("doors(2, 1)", third.doors(2, 1), 2);
        SnowByNumber small = laid("f0,3,1,0;f1,1,1,0;f2,3,1,0;p0,3;p1,4;p2,3;t10;", 3);
        due("doors(1, -1)", small.doors(1, -1), 30);
        due("doors(1, 0)", small.doors(1, 0), 0);
        due("doors(2, -1)", small.doors(2, -1), 40);
        due("doors(2, 0)", small.doors(2, 0), 1);
        due("doors(2, 1)", small.doors(2, 1), 1);
        SnowByNumber one = laid(SEVEN, 1);
        due("doors(3, -1)", one.doors(3, -1), 0);
        due("doors(3, 2)", one.doors(3, 2), 1);
        due("doors(0, -1)", one.doors(0, -1), BAD);
        due("doors(7, -1)", one.doors(7, -1), BAD);
        due("doors(3, 3)", one.doors(3, 3), BAD);
        due("doors(3, -2)", one.doors(3, -2), BAD);
        for (int far : FAR_OFF) {
            due("doors(" + far + ", 0)", one.doors(far, 0), BAD);
            due("doors(6, " + far + ")", one.doors(6, far), BAD);
        }
    }

    private static void sell() {
        promise = 12;
        SnowByNumber x = laid("f0,20,1,0;f1,3,1,0;p0,99;p1,7;", 2);
        due("sell(1, 9)", x.sell(1, 9), 6);
        due("sell(1, 1)", x.sell(1, 1), 0);
        due("sell(1, 21)", x.sell(1, 21), NO);
        due("sell(1, 200)", x.sell(1, 200), NO);
        due("sell(1, 201)", x.sell(1, 201), BAD);
        due("sell(1, 0)", x.sell(1, 0), BAD);
        due("sell(2, 1)", x.sell(2, 1), BAD);
        due("sell(-1, 1)", x.sell(-1, 1), BAD);
        for (int far : FAR_OFF) {
            due("sell(" + far + ", 1)", x.sell(far, 1), BAD);
            due("sell(1, " + far + ")", x.sell(1, far), BAD);
        }
        due("layer(1, 0)", x.layer(1, 0), 20);
        due("count(4)", x.count(4), 6);
        due("count(5)", x.count(5), 2);
        due("sell(0, 200)", x.sell(0, 200), 1980);
        due("layer(0, 0)", x.layer(0, 0), 0);
        due("sell(0, 1)", x.sell(0, 1), NO);
        due("count(4)", x.count(4), 1986);
        due("count(1)", x.count(1), 2);
    }

    private static void undo() {
        promise = 13;
        SnowByNumber x = laid("f0,20,1,0;f1,20,1,0;p1,5;", 2);
        due("undo()", x.undo(), NO);
        for (int q = 1; q <= 10; q++) {
            due("sell", x.sell(q % 2, q), q % 2 == 0 ? q : q / 2);
        }
        due("count(5)", x.count(5), 8);
        due("count(4)", x.count(4), 30 + 0 + 1 + 2 + 3 + 4);
        due("undo()", x.undo(), 10);
        due("layer(0, 0)", x.layer(0, 0), 200 - 20);
        due("count(4)", x.count(4), 30);
        due("undo()", x.undo(), 9);
        due("layer(1, 0)", x.layer(1, 0), 200 - 16);
        due("count(5)", x.count(5), 6);
        due("sell(1, 100)", x.sell(1, 100), 50);
        due("count(5)", x.count(5), 7);
        due("undo()", x.undo(), 100);
        for (int q = 8; q >= 3; q--) {
            due("undo()", x.undo(), q);
        }
        due("undo() of the ninth", x.undo(), NO);
        due("count(4)", x.count(4), 2);
        due("count(2)", x.count(2), 397);
        int[] from = {0, 1, 1, 0, 1, 0, 0, 1, 1};
        for (int i = 0; i < 9; i++) {
            int q = 1 + i;
            due("sell(" + from[i] + ", " + q + ")", x.sell(from[i], q), from[i] == 0 ? q : q / 2);
        }
        for (int i = 8; i > 0; i--) {
            int before = x.layer(from[i], 0);
            due("undo()", x.undo(), 1 + i);
            due("layer(" + from[i] + ", 0)", x.layer(from[i], 0), before + 1 + i);
        }
        due("undo() of the ninth", x.undo(), NO);
        x = laid("f0,20,1,0;f1,20,1,0;p1,5;", 2);
        due("sell(0, 2)", x.sell(0, 2), 2);
        due("sell(0, 198)", x.sell(0, 198), 198);
        due("thaw(0)", x.thaw(0), 0);
        due("undo() after a THAW", x.undo(), 198);
        due("layer(0, 0)", x.layer(0, 0), 198);
    }

    private static void swap() {
        promise = 14;
        SnowByNumber x = laid(SEVEN, 3);
        due("swap(1, 0)", x.swap(1, 0), 4);
        due("swap(1, 9)", x.swap(1, 9), 0);
        due("layer(1, 1)", x.layer(1, 1), 9);
        due("layer(0, 1)", x.layer(0, 1), 1);
        due("falls(1, 3): the FALL's DUST stays", x.falls(1, 3), 4);
        due("swap(3, 0)", x.swap(3, 0), BAD);
        due("swap(-1, 0)", x.swap(-1, 0), BAD);
        due("swap(1, 10)", x.swap(1, 10), BAD);
        due("swap(1, -1)", x.swap(1, -1), BAD);
        for (int far : FAR_OFF) {
            due("swap(" + far + ", 1)", x.swap(far, 1), BAD);
            due("swap(1, " + far + ")", x.swap(1, far), BAD);
        }
        due("swap(1, 9) as it shows", x.swap(1, 9), 9);
    }

    private static void dueLetGo(SnowByNumber x, int l, int w, int set, int years, int tenths) {
        String call = "letGo(" + l + ", " + w + ", ";
        due(call + "0)", x.letGo(l, w, 0), set);
        due(call + "1)", x.letGo(l, w, 1), years);
        due(call + "2)", x.letGo(l, w, 2), tenths);
    }

    private static void letGo() {
        promise = 15;
        SnowByNumber years = laid("f0,10,1,0;f1,2,1,0;f2,2,1,0;", 3);
        dueLetGo(years, 999, 10, 1, 2, 40);
        dueLetGo(years, 999, 12, 2, 2, 120);
        dueLetGo(years, 999, 14, 0, 3, 140);
        dueLetGo(years, 4, 99, 1, 2, 40);
        dueLetGo(years, 1, 99, 7, 0, 0);
        SnowByNumber bits = laid("f0,1,1,0;f0,1,1,0;f0,2,1,0;", 3);
        dueLetGo(bits, 999, 2, 3, 1, 20);
        dueLetGo(bits, 999, 1, 5, 1, 10);
        SnowByNumber load = laid("f0,2,9,0;f1,2,1,0;f1,2,8,0;", 3);
        dueLetGo(load, 20, 99, 4, 2, 40);
        dueLetGo(load, 19, 99, 1, 1, 40);
        dueLetGo(load, 18, 99, 1, 1, 40);
        dueLetGo(load, 17, 99, 3, 1, 20);
        SnowByNumber gone = laid("f0,1,1,0;f1,1,1,0;f1,1,1,0;", 3);
        due("sell(1, 10)", gone.sell(1, 10), 10);
        dueLetGo(gone, 999, 1, 1, 1, 10);
        dueLetGo(gone, 999, 2, 0, 2, 20);
        due("letGo(0, 1, 0)", gone.letGo(0, 1, 0), BAD);
        due("letGo(1000, 1, 0)", gone.letGo(1000, 1, 0), BAD);
        due("letGo(1, 0, 0)", gone.letGo(1, 0, 0), BAD);
        due("letGo(1, 100, 0)", gone.letGo(1, 100, 0), BAD);
        due("letGo(1, 1, 3)", gone.letGo(1, 1, 3), BAD);
        due("letGo(1, 1, -1)", gone.letGo(1, 1, -1), BAD);
        for (int far : FAR_OFF) {
            due("letGo(" + far + ", 1, 0)", gone.letGo(far, 1, 0), BAD);
            due("letGo(1, " + far + ", 0)", gone.letGo(1, far, 0), BAD);
            due("letGo(1, 1, " + far + ")", gone.letGo(1, 1, far), BAD);
        }
        due("count(2): nothing goes", gone.count(2), 20);
        dueLetGo(new SnowByNumber(), 1, 1, 0, 0, 0);
        SnowByNumber edge = laid("f0,10,1,0;f1,1,1,0;", 2);
        dueLetGo(edge, 999, 10, 2, 1, 100);
        dueLetGo(edge, 999, 11, 0, 2, 110);
        dueLetGo(edge, 10, 99, 2, 1, 100);
        dueLetGo(edge, 11, 99, 0, 2, 110);
        edge.sell(1, 9);
        dueLetGo(edge, 999, 11, 0, 2, 101);
        dueLetGo(edge, 999, 10, 2, 1, 100);
        dueLetGo(edge, 999, 9, 1, 1, 1);
        SnowByNumber empty = laid("f0,1,1,0;f1,1,1,0;f2,2,1,0;", 3);
        empty.sell(1, 10);
        dueLetGo(empty, 999, 2, 1, 1, 20);
        dueLetGo(empty, 999, 3, 0, 2, 30);
        empty.sell(0, 10);
        dueLetGo(empty, 999, 1, 4, 0, 0);
        SnowByNumber among = laid("f0,1,1,0;f1,1,1,0;f1,1,1,0;f2,9,1,0;", 4);
        among.sell(1, 10);
        dueLetGo(among, 999, 2, 8, 2, 20);
    }

    private static void dueOdds(SnowByNumber x, int dust, int heavy, int year, int above, int below) {
        String call = "odds(" + dust + ", " + heavy + ", " + year + ", ";
        due(call + "0)", x.odds(dust, heavy, year, 0), above);
        due(call + "1)", x.odds(dust, heavy, year, 1), below);
    }

    private static void odds() {
        promise = 16;
        SnowByNumber x = laid("f1,1,1,1;f1,2,2,2;f4,3,1,2;s3;", 3);
        // 10*7*9 = 630, 20*3*1 = 60, 30*3*9 = 810: 690 and 810 of 1500
        dueOdds(x, 1, 1, 1, 23, 50);
        dueOdds(x, 1, 1, 4, 27, 50);
        x = laid("f1,1,1,1;f1,2,2,2;f4,3,1,2;s4;", 3);
        // 10*6*9 = 540, 20*4*1 = 80, 30*4*9 = 1080: 620 and 1080 of 1700
        dueOdds(x, 1, 1, 1, 31, 85);
        dueOdds(x, 1, 1, 4, 54, 85);
        dueOdds(x, 1, 1, 2, 0, 1);
        x.swap(0, 2);
        dueOdds(x, 1, 1, 1, 31, 85);
        // of DUST 0: 10*4*9 = 360, 20*4*1 = 80, 30*4*9 = 1080: 440 of 1520
        dueOdds(x, 0, 1, 1, 11, 38);
        dueOdds(x, 9, 9, 1, 1, 2);
        x = laid("f1,1,1,1;f2,1,2,2;", 2);
        // S is 1 without an s: 10*9*9 = 810 and 10*1*1
        dueOdds(x, 1, 1, 1, 81, 82);
        due("odds(-1, 1, 1, 0)", x.odds(-1, 1, 1, 0), BAD);
        due("odds(10, 1, 1, 0)", x.odds(10, 1, 1, 0), BAD);
        due("odds(1, 0, 1, 0)", x.odds(1, 0, 1, 0), BAD);
        due("odds(1, 10, 1, 0)", x.odds(1, 10, 1, 0), BAD);
        due("odds(1, 1, -1, 0)", x.odds(1, 1, -1, 0), BAD);
        due("odds(1, 1, 100, 0)", x.odds(1, 1, 100, 0), BAD);
        due("odds(1, 1, 1, 2)", x.odds(1, 1, 1, 2), BAD);
        due("odds(1, 1, 1, -1)", x.odds(1, 1, 1, -1), BAD);
        for (int far : FAR_OFF) {
            due("odds, dust " + far, x.odds(far, 1, 1, 0), BAD);
            due("odds, heavy " + far, x.odds(1, far, 1, 0), BAD);
            due("odds, year " + far, x.odds(1, 1, far, 0), BAD);
            due("odds, part " + far, x.odds(1, 1, 1, far), BAD);
        }
        SnowByNumber sure = laid("f1,1,1,1;f4,3,1,2;s0;", 2);
        dueOdds(sure, 2, 1, 4, 1, 1);
        dueOdds(sure, 2, 1, 1, 0, 1);
        dueOdds(sure, 3, 1, 1, NONE, NONE);
        due("odds(3, 1, 100, 0): BAD ahead of NONE", sure.odds(3, 1, 100, 0), BAD);
        due("odds(3, 1, 1, 2): BAD ahead of NONE", sure.odds(3, 1, 1, 2), BAD);
        dueOdds(new SnowByNumber(), 1, 2, 0, NONE, NONE);
    }

    private static void likeliest() {
        promise = 17;
        SnowByNumber x = laid("f1,1,1,1;f1,2,2,2;f4,3,1,2;s4;", 3);
        due("likeliest(1, 1)", x.likeliest(1, 1), 4);
        due("likeliest(1, 2)", x.likeliest(1, 2), 1);
        due("likeliest(2, 9)", x.likeliest(2, 9), 4);
        due("likeliest(0, 2)", x.likeliest(0, 2), 1);
        SnowByNumber little = laid("f7,1,1,1;", 1);
        little.sell(0, 9);
        due("likeliest(9, 9) of a tenth", little.likeliest(9, 9), 7);
        SnowByNumber even = laid("f1,1,1,1;f5,2,1,1;f7,1,1,1;f7,1,1,1;", 4);
        due("likeliest(1, 1) of two as likely", even.likeliest(1, 1), 5);
        SnowByNumber none = laid("f1,1,1,1;f4,3,1,2;s0;", 2);
        due("likeliest(3, 1)", none.likeliest(3, 1), NONE);
        due("likeliest(2, 1)", none.likeliest(2, 1), 4);
        none.swap(0, 3);
        due("likeliest(3, 1) by what is shown", none.likeliest(3, 1), NONE);
        due("likeliest(-1, 1)", none.likeliest(-1, 1), BAD);
        due("likeliest(10, 1)", none.likeliest(10, 1), BAD);
        due("likeliest(3, 0)", none.likeliest(3, 0), BAD);
        due("likeliest(3, 10)", none.likeliest(3, 10), BAD);
        for (int far : FAR_OFF) {
            due("likeliest(" + far + ", 1)", none.likeliest(far, 1), BAD);
            due("likeliest(1, " + far + ")", none.likeliest(1, far), BAD);
        }
        due("likeliest(1, 2) of an empty barn", new SnowByNumber().likeliest(1, 2), NONE);
    }

    private static void mark() {
        promise = 18;
        SnowByNumber x = new SnowByNumber();
        due("mark(-1)", x.mark(-1), BAD);
        due("mark(10)", x.mark(10), BAD);
        for (int far : FAR_OFF) {
            due("mark(" + far + ")", x.mark(far), BAD);
        }
        for (int k = 1; k <= 14; k++) {
            due("mark", x.mark(k % 2 * 9), k);
        }
        due("mark(1)", x.mark(1), FULL);
        due("mark(10): BAD ahead of FULL", x.mark(10), BAD);
        due("count(6)", x.count(6), 14);
        promise = 19;
        due("noMarks()", x.noMarks(), 14);
        due("noMarks()", x.noMarks(), 0);
        due("far()", x.far(), 0);
        due("mark(2)", x.mark(2), 1);
    }

    private static void dueFar(SnowByNumber x, String dusts, int far, int odd) {
        marks(x, dusts);
        promise = 20;
        due("far() of " + dusts, x.far(), far);
        promise = 21;
        due("odd() of " + dusts, x.odd(), odd);
    }

    private static void farAndOdd() {
        promise = 20;
        SnowByNumber x = laid("f1,1,1,1;f1,1,1,2;f1,1,1,3;f1,1,1,4;", 4);
        dueFar(x, "", 4, 0);
        dueFar(x, "1234", 0, NONE);
        dueFar(x, "12345", 1, 4);
        dueFar(x, "123", 1, 3);
        dueFar(x, "234", 1, 0);
        dueFar(x, "1934", 1, 1);
        dueFar(x, "12934", 1, 2);
        dueFar(x, "124", 1, 2);
        dueFar(x, "4321", 4, 0);
        dueFar(x, "2143", 3, 0);
        dueFar(x, "12341234", 4, 4);
        dueFar(x, "99999999999999", 14, 0);
        due("sell(1, 10)", x.sell(1, 10), 10);
        dueFar(x, "134", 0, NONE);
        dueFar(x, "1234", 1, 2);
        dueFar(x, "13", 1, 3);
        dueFar(x, "1349", 1, 4);
        due("sell(0, 10)", x.sell(0, 10), 10);
        dueFar(x, "9", 2, 2);
        due("swap(2, 9)", x.swap(2, 9), 3);
        dueFar(x, "9", 1, 3);
        dueFar(x, "94", 0, NONE);
        due("count(6)", x.count(6), 2);
        due("sell(3, 9)", x.sell(3, 9), 9);
        dueFar(x, "94", 0, NONE);
        dueFar(x, "99", 1, 3);
        dueFar(new SnowByNumber(), "", 0, NONE);
        dueFar(new SnowByNumber(), "12", 2, 0);
    }

    private static void wish() {
        promise = 22;
        SnowByNumber x = laid(SEVEN, 5);
        due("wish(3)", x.wish(3), 90);
        due("wish(8)", x.wish(8), 90);
        due("wish(12)", x.wish(12), 0);
        due("wish(99)", x.wish(99), 0);
        x.sell(3, 30);
        due("wish(8)", x.wish(8), 60);
        due("wish(-1)", x.wish(-1), BAD);
        due("wish(100)", x.wish(100), BAD);
        for (int far : FAR_OFF) {
            due("wish(" + far + ")", x.wish(far), BAD);
        }
    }

    private static void nearest() {
        promise = 23;
        SnowByNumber x = laid("b999,99;f0,20,1,0;f10,2,1,0;f10,2,1,0;f20,3,1,0;f30,20,1,0;f99,1,1,0;", 6);
        due("nearest(15, 1)", x.nearest(15, 1), 10);
        due("nearest(16, 1)", x.nearest(16, 1), 20);
        due("nearest(15, 40)", x.nearest(15, 40), 10);
        due("nearest(16, 40)", x.nearest(16, 40), 10);
        due("nearest(15, 41)", x.nearest(15, 41), 0);
        due("nearest(16, 41)", x.nearest(16, 41), 30);
        due("nearest(15, 200)", x.nearest(15, 200), 0);
        due("nearest(15, 201)", x.nearest(15, 201), NONE);
        due("nearest(99, 200)", x.nearest(99, 200), 30);
        due("nearest(99, 10)", x.nearest(99, 10), 99);
        due("nearest(0, 10)", x.nearest(0, 10), 0);
        due("nearest(0, 999)", x.nearest(0, 999), NONE);
        due("nearest(0, 1000)", x.nearest(0, 1000), BAD);
        due("nearest(0, 0)", x.nearest(0, 0), BAD);
        due("nearest(-1, 1)", x.nearest(-1, 1), BAD);
        due("nearest(100, 1)", x.nearest(100, 1), BAD);
        for (int far : FAR_OFF) {
            due("nearest(" + far + ", 1)", x.nearest(far, 1), BAD);
            due("nearest(0, " + far + ")", x.nearest(0, far), BAD);
        }
        SnowByNumber wide = laid("f0,1,1,0;", 1);
        due("nearest(99, 1)", wide.nearest(99, 1), 0);
    }

    private static void moved() {
        promise = 24;
        SnowByNumber x = laid(SEVEN, 5);
        due("moved(149)", x.moved(149), NONE);
        due("moved(150)", x.moved(150), 9);
        due("moved(200)", x.moved(200), 7);
        due("moved(229)", x.moved(229), 7);
        due("moved(230)", x.moved(230), 5);
        due("moved(569)", x.moved(569), 3);
        due("moved(570)", x.moved(570), 1);
        due("moved(9990)", x.moved(9990), 1);
        due("moved(9)", x.moved(9), BAD);
        due("moved(9991)", x.moved(9991), BAD);
        for (int far : FAR_OFF) {
            due("moved(" + far + ")", x.moved(far), BAD);
        }
        SnowByNumber gap = laid("f0,1,1,0;f0,5,1,0;f0,1,1,0;", 3);
        due("moved(50)", gap.moved(50), 5);
        gap.sell(1, 50);
        due("moved(20) over an empty LAYER", gap.moved(20), 1);
        due("moved(10) over an empty LAYER", gap.moved(10), 3);
        gap.sell(2, 9);
        due("moved(10) with a tenth on top", gap.moved(10), 3);
        due("moved(11) with a tenth on top", gap.moved(11), 1);
        gap.undo();
        gap.sell(0, 10);
        due("moved(10)", gap.moved(10), 1);
        gap.sell(2, 10);
        due("moved(10) of nothing", gap.moved(10), 0);
        due("moved(10) of a new object", new SnowByNumber().moved(10), 0);
    }

    private static void rent() {
        promise = 25;
        SnowByNumber x = laid(SEVEN, 5);
        // 90 of 30, 80 of 10, 90 of 7: 4130
        due("rent(1)", x.rent(1), 41);
        due("rent(2)", x.rent(2), 82);
        due("rent(10)", x.rent(10), 413);
        due("rent(999999)", x.rent(999999), 41299958L);
        due("rent(0)", x.rent(0), BAD);
        due("rent(1000000)", x.rent(1000000), BAD);
        for (int far : FAR_OFF) {
            due("rent(" + far + ")", x.rent(far), BAD);
        }
        SnowByNumber dear = laid("b999,99;f0,20,1,0;f0,20,1,0;f0,20,1,0;f0,20,1,0;f0,19,1,0;p0,99;", 5);
        due("rent(999999)", dear.rent(999999), 999999L * 990 * 99 / 100);
        due("rent(5) of nothing", new SnowByNumber().rent(5), 0);
    }

    private static void winters() {
        promise = 26;
        SnowByNumber x = laid("b999,15;f0,5,1,0;f1,5,1,0;v9;", 0);
        // z = 0: x is 1 and 6152: 1 and 7 inches more, 6 and 12 of 15
        int[] winters = {1, 2, 2, 1, 1, 1, 1, 1, 1, 1};
        for (int z = 0; z < winters.length; z++) {
            due("winter(" + z + ")", x.winter(z), winters[z]);
        }
        due("winter(5000)", x.winter(5000), 2);
        due("winter(9999), x times x beyond an int", x.winter(9999), 2);
        x.fall();
        due("winter(0): an empty BARN", x.winter(0), 1);
        due("winter(1): an empty BARN", x.winter(1), 2);
        due("count(1)", x.count(1), 1);
        due("winter(-1)", x.winter(-1), BAD);
        due("winter(10000)", x.winter(10000), BAD);
        promise = 27;
        due("ten(-1)", x.ten(-1), BAD);
        due("ten(10000)", x.ten(10000), BAD);
        for (int far : FAR_OFF) {
            promise = 26;
            due("winter(" + far + ")", x.winter(far), BAD);
            promise = 27;
            due("ten(" + far + ")", x.ten(far), BAD);
        }
        int[][] tens = {{0, 2}, {77, 1}, {9990, 2}, {9991, 2}, {9995, 4}, {9999, 3}};
        for (int[] ten : tens) {
            due("ten(" + ten[0] + ")", x.ten(ten[0]), ten[1]);
        }
        promise = 26;
        SnowByNumber heavy = laid("b4,99;f0,1,2,0;f0,1,2,0;f0,1,1,0;", 0);
        due("winter(5) by load", heavy.winter(5), 2);
        due("ten(5) by load", heavy.ten(5), 0);
        SnowByNumber edge = laid("b1,99;f0,1,1,0;", 0);
        due("winter(5) that just can", edge.winter(5), 1);
        due("ten(5) that just can", edge.ten(5), 10);
        SnowByNumber none = laid("b1,1;f0,2,1,0;", 0);
        due("winter(5)", none.winter(5), 0);
        due("winter(5) of a new object", new SnowByNumber().winter(5), 1);
        due("ten(5) of a new object", new SnowByNumber().ten(5), 10);
    }

    private static void keepAndBack() {
        promise = 28;
        SnowByNumber x = laid(SEVEN, 3);
        due("back()", x.back(), NO);
        x.sell(0, 10);
        x.swap(1, 7);
        marks(x, "17");
        due("keep()", x.keep(), 1);
        due("count(7)", x.count(7), 1);
        x.fall();
        x.sell(0, 20);
        x.swap(1, 8);
        x.thaw(2);
        due("keep()", x.keep(), 2);
        due("keep()", x.keep(), FULL);
        due("count(7)", x.count(7), 2);
        x.undo();
        x.undo();
        x.swap(3, 0);
        marks(x, "1");
        promise = 29;
        due("back()", x.back(), 1);
        int[] second = {7, 4, 20 + 40 + 80 + 18, 40 + 120 + 80 + 90, 90, 2, 1, 1};
        for (int what = 0; what < second.length; what++) {
            due("count(" + what + ") of the second", x.count(what), second[what]);
        }
        due("layer(1, 1)", x.layer(1, 1), 8);
        due("layer(3, 1)", x.layer(3, 1), 9);
        due("layer(3, 0)", x.layer(3, 0), 18);
        due("undo()", x.undo(), 20);
        due("back()", x.back(), 0);
        int[] first = {7, 3, 40 + 40 + 80, 80 + 120 + 80, 30, 1, 1, 0};
        for (int what = 0; what < first.length; what++) {
            due("count(" + what + ") of the first", x.count(what), first[what]);
        }
        due("layer(1, 1)", x.layer(1, 1), 7);
        due("layer(3, 0)", x.layer(3, 0), BAD);
        due("undo()", x.undo(), 10);
        due("layer(0, 0)", x.layer(0, 0), 50);
        due("undo()", x.undo(), NO);
        due("back()", x.back(), NO);
        due("fall()", x.fall(), 4);
        due("layer(3, 0)", x.layer(3, 0), 30);
        due("keep()", x.keep(), 1);
        due("sell(2, 5)", x.sell(2, 5), 5);
        due("back()", x.back(), 0);
        due("sell(0, 4)", x.sell(0, 4), 12);
        due("keep()", x.keep(), 1);
        due("undo()", x.undo(), 4);
        due("sell(2, 5)", x.sell(2, 5), 5);
        due("back()", x.back(), 0);
        due("undo() of what was KEPT", x.undo(), 4);
        due("layer(0, 0)", x.layer(0, 0), 50);
        due("layer(2, 0)", x.layer(2, 0), 80);
        due("count(4)", x.count(4), 0);
        x.keep();
        for (int i = 4; i <= 7; i++) {
            x.fall();
        }
        due("count(1)", x.count(1), 7);
        due("back()", x.back(), 0);
        due("count(2) with none of the later LAYERS", x.count(2), 200);
        due("wish(8)", x.wish(8), 30);
        due("far()", x.far(), 3);
    }

    private static void count() {
        promise = 30;
        SnowByNumber x = laid(SEVEN, 4);
        x.sell(0, 10);
        x.sell(1, 10);
        marks(x, "123");
        x.keep();
        int[] counts = {7, 4, 180, 100 + 120 + 80 + 150 - 20 - 30, 60, 2, 3, 1, SEVEN.length()};
        for (int what = 0; what < counts.length; what++) {
            due("count(" + what + ")", x.count(what), counts[what]);
        }
        due("count(-1)", x.count(-1), BAD);
        due("count(9)", x.count(9), BAD);
        for (int far : FAR_OFF) {
            due("count(" + far + ")", x.count(far), BAD);
        }
    }

    public static void main(String[] args) {
        constants();
        newObject();
        write();
        wipe();
        fault();
        lay();
        lastOnesCount();
        nothingStays();
        falls();
        fall();
        layer();
        firstOut();
        thaw();
        doors();
        sell();
        undo();
        swap();
        letGo();
        odds();
        likeliest();
        mark();
        farAndOdd();
        wish();
        nearest();
        moved();
        rent();
        winters();
        keepAndBack();
        count();
        System.out.println(wrong == 0 ? "all answers are as due" : wrong + " answers are not as due");
        if (wrong != 0) {
            System.exit(1);
        }
    }
}
