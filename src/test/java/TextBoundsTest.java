// Promises 1 to 6: each boundary case that the document names of a new object, THE TEXT, its ITEMS and what is LAID.
public final class TextBoundsTest {
    private static final int BAD = -1, NO = -2, FULL = -3, NONE = -4;

    // ---- promise 1: a new object

    static void p01_newObject_theTextIsEmpty() {
        Cases.due("count(8)", new SnowByNumber().count(8), 0);
        Cases.due("wipe()", new SnowByNumber().wipe(), 0);
        Cases.due("fault()", new SnowByNumber().fault(), NONE);
        Cases.due("lay()", new SnowByNumber().lay(), NO);
    }

    static void p01_newObject_atFirstOneFallIsLaid() {
        SnowByNumber x = new SnowByNumber();
        Cases.due("count(0)", x.count(0), 1);
        Cases.dueFalls(x, 0, 0, 5, 2, 1, 10);
        Cases.due("falls(1, 0)", x.falls(1, 0), BAD);
        Cases.due("fall()", x.fall(), 1);
        Cases.due("fall() of the second", x.fall(), NO);
        Cases.due("layer(0, 0)", x.layer(0, 0), 50);
        Cases.due("layer(0, 1)", x.layer(0, 1), 1);
    }

    static void p01_newObject_theBarnIsEmpty() {
        SnowByNumber x = new SnowByNumber();
        Cases.dueCounts(x, 1, 0, 0, 0, 0, 0, 0, 0, 0);
        Cases.due("layer(0, 0)", x.layer(0, 0), BAD);
        Cases.due("undo()", x.undo(), NO);
        Cases.due("noMarks()", x.noMarks(), 0);
        Cases.due("back()", x.back(), NO);
    }

    static void p01_newObject_settingsAsWithoutItems() {
        SnowByNumber x = new SnowByNumber();
        Cases.due("falls(0, 4): 10 without a p", x.falls(0, 4), 10);
        for (int z = 0; z < 10000; z += 1111) {
            Cases.due("winter(" + z + "): 0 more without a v", x.winter(z), 1);
        }
        Cases.due("fall()", x.fall(), 1);
        Cases.due("thaw(0): 5 without a t", x.thaw(0), 5);
        Cases.due("likeliest(9, 9): 1 slips without an s", x.likeliest(9, 9), 0);
    }

    static void p01_newObject_knowsNothingOfAnother() {
        SnowByNumber other = Cases.full();
        SnowByNumber x = new SnowByNumber();
        Cases.dueCounts(x, 1, 0, 0, 0, 0, 0, 0, 0, 0);
        Cases.dueFalls(x, 0, 0, 5, 2, 1, 10);
        x.fall();
        x.mark(1);
        x.keep();
        Cases.dueCounts(other, 12, 12, 555, 655, 41, 8, 14, 2, 400);
    }

    static void p01_newObject_the512thCallAnswers() {
        SnowByNumber x = new SnowByNumber();
        x.fall();
        for (int call = 2; call <= 510; call += 2) {
            Cases.due("sell(0, 50) at call " + call, x.sell(0, 50), 50);
            Cases.due("undo() at call " + (call + 1), x.undo(), 50);
        }
        Cases.due("the 512th call, sell(0, 50)", x.sell(0, 50), 50);
    }

    // ---- promise 2: write

    static void p02_write_nIs1To8() {
        for (int n = 1; n <= 8; n++) {
            SnowByNumber x = new SnowByNumber();
            Cases.due("write(" + n + ", 0)", x.write(n, 0), n);
            Cases.due("count(8)", x.count(8), n);
        }
    }

    static void p02_write_nOf0And9IsBad() {
        Cases.dueBadOutside(new SnowByNumber(), "write(n, 1)", 1, 8, (x, n) -> x.write(n, 1));
    }

    static void p02_write_theLowestNBytesTheHighestFirst() {
        String text = "f98,7,6,5;";
        for (int n = 1; n <= 8; n++) {
            for (long above : new long[] {0, -1, 0x3b3b3b3b3b3b3b3bL, Long.MIN_VALUE}) {
                long v = above;
                for (int k = 0; k < n; k++) {
                    v = v << 8 | text.charAt(k);
                }
                SnowByNumber x = new SnowByNumber();
                Cases.due("write(" + n + ", " + v + ")", x.write(n, v), n);
                Cases.write(x, text.substring(n));
                Cases.due("lay() behind it", x.lay(), 1);
                Cases.dueFalls(x, 0, 98, 7, 6, 5);
            }
        }
    }

    static void p02_write_bytes0And255Come() {
        SnowByNumber x = Cases.told("t1;");
        Cases.due("write(1, 0)", x.write(1, 0), 4);
        Cases.due("fault()", x.fault(), 3);
        x = Cases.told("t1;");
        Cases.due("write(1, 255)", x.write(1, 255), 4);
        Cases.due("fault()", x.fault(), 3);
        x = Cases.told("t1;t2");
        Cases.due("write(1, -197): ; below", x.write(1, -197), 6);
        Cases.due("fault()", x.fault(), NONE);
    }

    static void p02_write_behindTheText() {
        SnowByNumber x = Cases.told("f1,2,");
        Cases.due("write(4, ..)", x.write(4, 0x332c343bL), 9);
        Cases.due("lay()", x.lay(), 1);
        Cases.dueFalls(x, 0, 1, 2, 3, 4);
    }

    private static SnowByNumber ofBytes(int length) {
        return Cases.told("t1;".repeat(134).substring(0, length));
    }

    static void p02_write_the400thByteComes() {
        for (int n = 1; n <= 8; n++) {
            SnowByNumber x = ofBytes(400 - n);
            Cases.due("write(" + n + ", 0) behind " + (400 - n), x.write(n, 0), 400);
            Cases.due("count(8)", x.count(8), 400);
        }
    }

    static void p02_write_the401stByteIsFull() {
        for (int n = 1; n <= 8; n++) {
            SnowByNumber x = ofBytes(401 - n);
            Cases.due("write(" + n + ", 0) behind " + (401 - n), x.write(n, 0), FULL);
            Cases.due("count(8)", x.count(8), 401 - n);
            x = ofBytes(400);
            Cases.due("write(" + n + ", 0) behind 400", x.write(n, 0), FULL);
            Cases.due("count(8)", x.count(8), 400);
        }
    }

    static void p02_write_ofTooManyNoneComes() {
        SnowByNumber x = Cases.told("t1;".repeat(132) + "t2");
        Cases.due("write(3, ..) behind 398", x.write(3, 0x3b3b3bL), FULL);
        Cases.due("fault()", x.fault(), 396);
        Cases.due("write(2, 7;) behind 398", x.write(2, 0x373bL), 400);
        Cases.due("fault()", x.fault(), NONE);
    }

    static void p02_write_badAheadOfFull() {
        SnowByNumber x = ofBytes(400);
        Cases.due("write(0, 0)", x.write(0, 0), BAD);
        Cases.due("write(9, 0)", x.write(9, 0), BAD);
        Cases.due("write(most, 0)", x.write(Integer.MAX_VALUE, 0), BAD);
    }

    static void p02_write_badChangesNothing() {
        Cases.dueRefused(Cases::busy, "write(0, ..)", x -> x.write(0, 0x3b), BAD);
        Cases.dueRefused(Cases::busy, "write(9, ..)", x -> x.write(9, 0x3b), BAD);
        Cases.dueRefused(Cases::full, "write(9, ..)", x -> x.write(9, 0x3b), BAD);
    }

    static void p02_write_fullChangesNothing() {
        Cases.dueRefused(Cases::full, "write(1, ..)", x -> x.write(1, 0x3b), FULL);
        Cases.dueRefused(Cases::full, "write(8, ..)", x -> x.write(8, 0x3b), FULL);
        Cases.dueRefused(() -> ofBytes(399), "write(2, ..)", x -> x.write(2, 0x3b3b), FULL);
    }

    // ---- promise 3: wipe

    static void p03_wipe_theEmptyText() {
        SnowByNumber x = new SnowByNumber();
        Cases.due("wipe()", x.wipe(), 0);
        Cases.due("wipe() once more", x.wipe(), 0);
        Cases.due("write(1, 0)", x.write(1, 0), 1);
    }

    static void p03_wipe_aTextOf1Byte() {
        SnowByNumber x = Cases.told("t");
        Cases.due("wipe()", x.wipe(), 1);
        Cases.due("count(8)", x.count(8), 0);
    }

    static void p03_wipe_theFullText() {
        SnowByNumber x = ofBytes(400);
        Cases.due("wipe()", x.wipe(), 400);
        Cases.due("count(8)", x.count(8), 0);
        Cases.due("fault()", x.fault(), NONE);
        Cases.due("write(8, 0)", x.write(8, 0), 8);
    }

    static void p03_wipe_nothingOfTheTextStays() {
        SnowByNumber x = Cases.told("f0,1,1,1;");
        x.wipe();
        Cases.write(x, "f0,1,1,");
        Cases.due("fault()", x.fault(), 0);
        Cases.due("lay()", x.lay(), NO);
        Cases.write(x, "2;");
        Cases.due("lay()", x.lay(), 1);
        Cases.due("falls(0, 3)", x.falls(0, 3), 2);
    }

    static void p03_wipe_allElseStays() {
        SnowByNumber x = Cases.busy();
        SnowByNumber twin = Cases.busy();
        Cases.due("wipe()", x.wipe(), 11);
        Cases.write(x, "t7;f5,6,7,8");
        Cases.dueSame("wipe() and the same TEXT", x, twin);
    }

    // ---- promise 4: fault

    static void p04_fault_noneOfTheEmptyText() {
        Cases.dueFault("", NONE);
    }

    static void p04_fault_ofTheFullText() {
        String many = "t1;".repeat(128);
        Cases.dueFault(many + "f0,20,9,9;t50;x;", 398);
        Cases.dueFault(many + "f00,020,09,09;t1", 398);
        Cases.dueFault(many + "f000,20,009,9;t", 398);
        Cases.dueFault(many + "f000,20,009,9;t1;", 398);
        Cases.dueFault(many + "f00,020,09,09;;;", 398);
        Cases.dueFault(many + "f0,020,9,9;p0,1;", NONE);
        Cases.dueFault(many + "f000,020,09,009x", 384);
        Cases.dueFault(many + "f000,020,09,009;", NONE);
    }

    static void p04_fault_placesAreFrom0On() {
        Cases.dueFault("x", 0);
        Cases.dueFault("t1;x", 3);
        Cases.dueFault("t10;p1,1;x", 9);
        for (int k = 0; k <= 100; k++) {
            Cases.dueFault("s4;".repeat(k) + "?", 3 * k);
        }
    }

    static void p04_fault_theFirstByteOfTheItemWhateverByteIsNotSo() {
        for (String item : new String[] {"f100,1,1,1;", "f0,21,1,1;", "f0,1,10,1;", "f0,1,1,10;", "f0,1,1,1", "f0,1,1,1,"}) {
            Cases.dueFault("v1;b1,1;" + item, 8);
        }
    }

    static void p04_fault_theFirstOfSeveral() {
        Cases.dueFault("t1;t51;t52;x", 3);
        Cases.dueFault("x;t51;", 0);
        Cases.dueFault("f5,1,1,1;f4,1,1,1;f3,1,1,1;", 9);
        Cases.dueFault("f5,1,1,1;s5;f4,1,1,1;", 9);
        Cases.dueFault("f5,1,1,1;f4,1,1,1;s5;", 9);
    }

    static void p04_fault_itemsOneBehindTheOther() {
        Cases.dueSo("t1;s1;v1;", "b1,1;p0,0;f0,1,1,0;");
        Cases.dueNotSo(" t1;", "\nt1;", ";t1;", ",t1;", "\u0000t1;");
        Cases.dueFault("t1; t1;", 3);
        Cases.dueFault("t1;;t1;", 3);
        Cases.dueFault("t1;\n", 3);
        Cases.dueFault("t1; ", 3);
    }

    static void p04_fault_eachALetter() {
        Cases.dueSo("b1,1;", "f0,1,1,0;", "t1;", "p1,1;", "s1;", "v1;");
        for (int c = 0; c < 256; c++) {
            boolean letter = c == 'b' || c == 'f' || c == 't' || c == 'p' || c == 's' || c == 'v';
            if (!letter) {
                Cases.dueFault("t1;" + (char) c + "1;", 3);
                Cases.dueFault("t1;" + (char) c + "1,1;", 3);
                Cases.dueFault("t1;" + (char) c + "1,1,1,1;", 3);
            }
        }
        Cases.dueNotSo("1;", "1,1;", "0,1,1,0;", "tt1;", "bb1,1;", "t1t;", "t1t1;", "tt;");
    }

    static void p04_fault_theLetterTellsHowManyNumbers() {
        String[] numbers = {";", "1;", "1,1;", "1,1,1;", "1,1,1,1;", "1,1,1,1,1;", "1,1,1,1,1,1;", "1,1,1,1,1,1,1,1,1;"};
        for (int n = 0; n < numbers.length; n++) {
            Cases.dueFault("b" + numbers[n], n == 2 ? NONE : 0);
            Cases.dueFault("f" + numbers[n], n == 4 ? NONE : 0);
            Cases.dueFault("t" + numbers[n], n == 1 ? NONE : 0);
            Cases.dueFault("p" + numbers[n], n == 2 ? NONE : 0);
            Cases.dueFault("s" + numbers[n], n == 1 ? NONE : 0);
            Cases.dueFault("v" + numbers[n], n == 1 ? NONE : 0);
        }
    }

    static void p04_fault_numbersOf1To3Figures() {
        Cases.dueSo("t1;", "t01;", "t001;", "b9,9;", "b99,99;", "b999,099;", "p0,0;", "p00,00;", "p000,000;",
            "s4;", "s04;", "s004;", "v9;", "v09;", "v009;", "f1,1,1,1;", "f01,01,01,01;", "f001,001,001,001;");
    }

    static void p04_fault_numbersOf0Figures() {
        Cases.dueNotSo("t;", "s;", "v;", "b,;", "b,1;", "b1,;", "p,1;", "p1,;", "f,1,1,1;", "f1,,1,1;", "f1,1,,1;",
            "f1,1,1,;", "f,,,;", "b;", "p;", "f;", "t", "f1,1,1,", "b1,", "b1,,1;", "t1,;", "t,1;", "p1,1,;");
    }

    static void p04_fault_numbersOf4Figures() {
        Cases.dueNotSo("t0001;", "s0001;", "v0001;", "b0001,1;", "b1,0001;", "b1000,1;", "p0001,1;", "p1,0001;",
            "f0001,1,1,1;", "f1,0001,1,1;", "f1,1,0001,1;", "f1,1,1,0001;", "t00001;", "t0000000001;",
            "v4294967297;", "v18446744073709551617;", "s65536;", "v256;");
    }

    static void p04_fault_figuresAre0To9() {
        Cases.dueSo("t10;", "t12;", "t34;", "b567,89;", "p90,90;");
        Cases.dueNotSo("t/;", "t:;", "t1/;", "t1:;", "t\u00b1;", "t\u0001;", "ta;", "t-1;", "t+1;",
            "t 1;", "t1 ;", "t1.;", "t.1;", "v-0;", "v0x1;", "v1e;");
    }

    static void p04_fault_numbersPartedByCommas() {
        Cases.dueSo("b1,1;", "p1,1;", "f1,1,1,1;");
        for (String parting : new String[] {"+", "-", ".", ":", " ", ", ", " ,", ",,", ";", "\u00ac"}) {
            Cases.dueNotSo("b1" + parting + "1;", "p1" + parting + "1;");
            Cases.dueNotSo("f1" + parting + "1,1,1;", "f1,1" + parting + "1,1;", "f1,1,1" + parting + "1;");
        }
        Cases.dueNotSo("t,1;", "b,1,1;", "b1,1,;");
    }

    static void p04_fault_aSemicolonBehindTheLastOneToo() {
        Cases.dueNotSo("t1", "b1,1", "p1,1", "s1", "v1", "t1:", "t1<", "t1,", "t1\u00bb");
        Cases.dueFault("f0,1,1,1", 0);
        Cases.dueFault("f0,1,1,1;f0,1,1,1", 9);
        Cases.dueFault("t1;t", 3);
        Cases.dueFault("t1;t1", 3);
    }

    static void p04_fault_beamsBear1To999() {
        Cases.dueSo("b1,5;", "b2,5;", "b998,5;", "b999,5;");
        Cases.dueNotSo("b0,5;", "b00,5;", "b000,5;", "b1000,5;");
    }

    static void p04_fault_theRoofLets1To99In() {
        Cases.dueSo("b5,1;", "b5,2;", "b5,98;", "b5,99;");
        Cases.dueNotSo("b5,0;", "b5,000;", "b5,100;", "b5,101;", "b5,999;");
    }

    static void p04_fault_yearsOfFalls0To99() {
        Cases.dueSo("f99,5,5,5;", "f098,5,5,5;");
        Cases.dueFault("f0,5,5,5;", NONE);
        Cases.dueFault("f1,5,5,5;", NONE);
        Cases.dueNotSo("f100,5,5,5;", "f101,5,5,5;", "f999,5,5,5;");
    }

    static void p04_fault_inchesOfFalls1To20() {
        Cases.dueSo("f5,1,5,5;", "f5,2,5,5;", "f5,19,5,5;", "f5,20,5,5;");
        Cases.dueNotSo("f5,0,5,5;", "f5,21,5,5;", "f5,22,5,5;", "f5,120,5,5;");
    }

    static void p04_fault_falls1To9HeavyAnInch() {
        Cases.dueSo("f5,5,1,5;", "f5,5,2,5;", "f5,5,8,5;", "f5,5,9,5;");
        Cases.dueNotSo("f5,5,0,5;", "f5,5,10,5;", "f5,5,11,5;", "f5,5,100,5;");
    }

    static void p04_fault_dustOfFalls0To9() {
        Cases.dueSo("f5,5,5,0;", "f5,5,5,1;", "f5,5,5,8;", "f5,5,5,9;");
        Cases.dueNotSo("f5,5,5,10;", "f5,5,5,11;", "f5,5,5,100;");
    }

    static void p04_fault_the12thFallIsSo() {
        Cases.dueFault("f0,1,1,1;".repeat(11) + "f0,1,1,1;", NONE);
        Cases.dueFault("t1;" + "f0,1,1,1;v1;".repeat(12), NONE);
    }

    static void p04_fault_the13thFallIsNot() {
        Cases.dueFault("f0,1,1,1;".repeat(13), 108);
        Cases.dueFault("f0,1,1,1;".repeat(12) + "t1;s1;f99,1,1,1;", 114);
        Cases.dueFault("f0,1,1,1;".repeat(12) + "f0,1,1,1;x", 108);
        Cases.dueFault("f0,1,1,1;".repeat(20), 108);
    }

    static void p04_fault_noneOfAnEarlierYearThanTheOneAhead() {
        Cases.dueFault("f7,1,1,1;f7,1,1,1;", NONE);
        Cases.dueFault("f7,1,1,1;f8,1,1,1;", NONE);
        Cases.dueFault("f7,1,1,1;f6,1,1,1;", 9);
        Cases.dueFault("f1,1,1,1;f0,1,1,1;", 9);
        Cases.dueFault("f99,1,1,1;f98,1,1,1;", 10);
        Cases.dueFault("f99,1,1,1;f99,1,1,1;", NONE);
        Cases.dueFault("f7,1,1,1;f9,1,1,1;f8,1,1,1;", 18);
        Cases.dueFault("f7,1,1,1;t1;b1,1;p6,1;f6,1,1,1;", 22);
        Cases.dueFault("f0,1,1,1;".repeat(10) + "f2,1,1,1;f1,1,1,1;", 99);
    }

    static void p04_fault_aThawTakes1To50() {
        Cases.dueSo("t1;", "t2;", "t49;", "t50;");
        Cases.dueNotSo("t0;", "t00;", "t000;", "t51;", "t52;", "t100;", "t999;");
    }

    static void p04_fault_yearsThatCost0To99() {
        Cases.dueSo("p0,5;", "p1,5;", "p98,5;", "p99,5;");
        Cases.dueNotSo("p100,5;", "p101,5;", "p999,5;");
    }

    static void p04_fault_anInchCosts0To99() {
        Cases.dueSo("p5,0;", "p5,1;", "p5,98;", "p5,99;");
        Cases.dueNotSo("p5,100;", "p5,101;", "p5,999;");
    }

    static void p04_fault_readingsThatSlip0To4() {
        Cases.dueSo("s0;", "s1;", "s2;", "s3;", "s4;");
        Cases.dueNotSo("s5;", "s6;", "s10;", "s100;");
    }

    static void p04_fault_more0To9() {
        Cases.dueSo("v0;", "v1;", "v8;", "v9;");
        Cases.dueNotSo("v10;", "v11;", "v100;");
    }

    static void p04_fault_settingsMayComeOftenAndAnywhere() {
        Cases.dueFault("b1,1;b2,2;t1;t2;p1,1;p1,2;s1;s2;v1;v2;f0,1,1,1;v3;s3;p1,3;t3;b3,3;f0,1,1,1;b4,4;", NONE);
        Cases.dueFault("v1;".repeat(133), NONE);
    }

    static void p04_fault_laysNothing() {
        SnowByNumber x = Cases.laid("b99,9;t2;p0,4;s3;v1;f0,7,1,1;", 1);
        x.mark(1);
        x.keep();
        x.wipe();
        Cases.write(x, "b1,1;t9;p0,9;s0;v9;f0,2,2,2;f0,3,3,3;");
        Cases.due("fault()", x.fault(), NONE);
        Cases.dueCounts(x, 1, 1, 70, 70, 0, 0, 1, 1, 37);
        Cases.dueFalls(x, 0, 0, 7, 1, 1, 4);
        Cases.due("falls(1, 0)", x.falls(1, 0), BAD);
        Cases.due("winter(0): 1 modulo 2 more", x.winter(0), 1);
        Cases.due("thaw(0)", x.thaw(0), 2);
        Cases.due("likeliest(9, 9)", x.likeliest(9, 9), 0);
        Cases.due("fall()", x.fall(), NO);
    }

    static void p04_fault_changesNothing() {
        SnowByNumber x = Cases.busy();
        Cases.due("fault()", x.fault(), 3);
        Cases.due("fault() once more", x.fault(), 3);
        Cases.dueSame("fault()", x, Cases.busy());
        x = Cases.laid(Cases.SEVEN, 5);
        SnowByNumber twin = Cases.laid(Cases.SEVEN, 5);
        Cases.layAnew(x, "t9");
        Cases.layAnew(twin, "t9");
        x.fault();
        Cases.dueSame("fault() of t9", x, twin);
    }

    // ---- promise 5: lay

    static void p05_lay_noOfTheEmptyText() {
        Cases.due("lay()", new SnowByNumber().lay(), NO);
        SnowByNumber x = Cases.laid(Cases.SEVEN, 2);
        x.wipe();
        Cases.due("lay()", x.lay(), NO);
    }

    static void p05_lay_noWithoutAFall() {
        Cases.due("lay() of t1;", Cases.told("t1;").lay(), NO);
        Cases.due("lay() of all but a FALL", Cases.told("b1,1;t1;p1,1;s1;v1;").lay(), NO);
    }

    static void p05_lay_aFallIsEnough() {
        Cases.due("lay() of one FALL", Cases.told("f0,1,1,0;").lay(), 1);
        Cases.due("lay() of one FALL in the middle", Cases.told("t1;f0,1,1,0;v1;").lay(), 1);
    }

    static void p05_lay_12Falls() {
        SnowByNumber x = Cases.told("f0,1,1,0;".repeat(11) + "f9,2,3,4;");
        Cases.due("lay()", x.lay(), 12);
        Cases.due("count(0)", x.count(0), 12);
        Cases.dueFalls(x, 11, 9, 2, 3, 4, 10);
    }

    static void p05_lay_noOf13Falls() {
        SnowByNumber x = Cases.told("f0,1,1,0;".repeat(13));
        Cases.due("lay()", x.lay(), NO);
        Cases.due("count(0)", x.count(0), 1);
        Cases.due("falls(0, 1)", x.falls(0, 1), 5);
    }

    static void p05_lay_noWithAFaultInTheLastByte() {
        Cases.due("lay()", Cases.told("f0,1,1,0;t").lay(), NO);
        Cases.due("lay()", Cases.told("f0,1,1,0;;").lay(), NO);
        Cases.due("lay()", Cases.told("f0,1,1,0").lay(), NO);
    }

    static void p05_lay_theFullText() {
        SnowByNumber x = Cases.told("t1;".repeat(128) + "f000,020,09,009;");
        Cases.due("lay() of 400 bytes", x.lay(), 1);
        Cases.dueFalls(x, 0, 0, 20, 9, 9, 10);
        Cases.due("count(8)", x.count(8), 400);
    }

    static void p05_lay_noChangesNothing() {
        Cases.dueRefused(Cases::busy, "lay() of t7;f5,6,7,8", x -> x.lay(), NO);
        Cases.dueRefused(Cases::full, "lay() of 400 bytes", x -> x.lay(), NO);
        Cases.dueRefused(() -> {
            SnowByNumber x = Cases.busy();
            x.wipe();
            return Cases.write(x, "b1,1;t50;p3,99;p7,99;p8,99;s4;v9;");
        }, "lay() without a FALL", x -> x.lay(), NO);
        Cases.dueRefused(() -> {
            SnowByNumber x = Cases.busy();
            x.wipe();
            return x;
        }, "lay() of the empty TEXT", x -> x.lay(), NO);
    }

    static void p05_lay_theTextStays() {
        SnowByNumber x = Cases.told("f4,3,2,1;");
        Cases.due("lay()", x.lay(), 1);
        Cases.due("count(8)", x.count(8), 9);
        Cases.write(x, "f5,1,1,1;");
        Cases.due("lay() of more", x.lay(), 2);
        Cases.dueFalls(x, 0, 4, 3, 2, 1);
        Cases.dueFalls(x, 1, 5, 1, 1, 1);
    }

    static void p05_lay_theBarnIsEmpty() {
        SnowByNumber x = Cases.busy();
        x.wipe();
        Cases.write(x, Cases.SEVEN);
        Cases.due("lay()", x.lay(), 7);
        Cases.due("count(1)", x.count(1), 0);
        Cases.due("count(2)", x.count(2), 0);
        Cases.due("count(3)", x.count(3), 0);
        Cases.due("layer(0, 0)", x.layer(0, 0), BAD);
        Cases.due("fall()", x.fall(), 1);
        Cases.due("layer(0, 0)", x.layer(0, 0), 50);
        Cases.due("fall()", x.fall(), 2);
        Cases.due("layer(1, 1): not as it was swapped", x.layer(1, 1), 4);
    }

    static void p05_lay_noCoinAndNoSales() {
        SnowByNumber x = Cases.busy();
        Cases.due("lay()", Cases.layAnew(x, Cases.SEVEN), 7);
        Cases.due("count(4)", x.count(4), 0);
        Cases.due("count(5)", x.count(5), 0);
        Cases.due("undo()", x.undo(), NO);
    }

    static void p05_lay_noMarks() {
        SnowByNumber x = Cases.full();
        Cases.due("lay()", Cases.layAnew(x, Cases.SEVEN), 7);
        Cases.due("count(6)", x.count(6), 0);
        Cases.due("far()", x.far(), 0);
        Cases.due("mark(1)", x.mark(1), 1);
    }

    static void p05_lay_nothingKept() {
        SnowByNumber x = Cases.full();
        Cases.due("lay()", Cases.layAnew(x, Cases.SEVEN), 7);
        Cases.due("count(7)", x.count(7), 0);
        Cases.due("back()", x.back(), NO);
        Cases.due("keep()", x.keep(), 1);
    }

    static void p05_lay_theSameTextOnceMore() {
        SnowByNumber x = Cases.laid(Cases.SEVEN, 4);
        Cases.due("lay()", x.lay(), 7);
        Cases.dueCounts(x, 7, 0, 0, 0, 0, 0, 0, 0, Cases.SEVEN.length());
    }

    static void p05_lay_nothingOfATextBeforeCounts() {
        String first = "b1,1;t50;p0,99;s0;v9;f0,1,1,1;f0,1,1,1;f0,1,1,1;f9,1,1,1;";
        SnowByNumber x = Cases.laid(first, 0);
        for (int k = 0; k < 3; k++) {
            Cases.due("lay()", Cases.layAnew(x, "f0,20,4,1;f0,20,6,1;f0,20,1,2;"), 3);
            Cases.due("falls(0, 4)", x.falls(0, 4), 10);
            for (int z = 0; z < 10; z++) {
                Cases.due("winter(" + z + ")", x.winter(z), 3);
            }
            Cases.due("fall()", x.fall(), 1);
            Cases.due("fall()", x.fall(), 2);
            Cases.due("thaw(0)", x.thaw(0), 5);
            Cases.due("likeliest(9, 9)", x.likeliest(9, 9), 0);
            Cases.due("fall()", x.fall(), 3);
            Cases.due("fall()", x.fall(), NO);
            if (k == 0) {
                // Twice, so that it has been read wherever a TEXT is read to.
                Cases.layAnew(x, first);
                Cases.layAnew(x, first);
            }
        }
    }

    static void p05_lay_nothingOfATextWithAFaultCounts() {
        SnowByNumber x = Cases.told("b1,1;t50;p0,99;s0;v9;f0,1,1,1;x");
        Cases.due("lay()", x.lay(), NO);
        Cases.due("lay()", Cases.layAnew(x, "f0,20,1,1;"), 1);
        Cases.due("lay()", Cases.layAnew(x, "b1,1;t50;p0,99;s0;v9;f0,1,1,1;f0,0,1,1;"), NO);
        Cases.dueFalls(x, 0, 0, 20, 1, 1, 10);
        Cases.due("count(0)", x.count(0), 1);
        Cases.due("winter(0)", x.winter(0), 1);
        Cases.due("fall()", x.fall(), 1);
        Cases.due("thaw(0)", x.thaw(0), 5);
        Cases.due("likeliest(9, 9)", x.likeliest(9, 9), 0);
    }

    // ---- promise 5: what counts of ITEMS that come often, or not

    static void p05_lay_aRoofOf60WithoutB() {
        SnowByNumber x = Cases.laid("f0,20,1,0;f0,20,1,0;f0,19,1,0;f0,1,1,0;f0,1,1,0;", 4);
        Cases.due("count(2)", x.count(2), 600);
        Cases.due("fall() to 610", x.fall(), FULL);
        x.sell(0, 10);
        Cases.due("fall() to 600", x.fall(), 5);
    }

    static void p05_lay_beamsOf400WithoutB() {
        SnowByNumber x = Cases.laid("f0,20,9,0;f0,20,9,0;f0,10,4,0;f0,1,1,0;", 3);
        Cases.due("count(3)", x.count(3), 4000);
        Cases.due("fall() to 4010", x.fall(), FULL);
        x.sell(2, 2);
        Cases.due("fall() to 4002", x.fall(), FULL);
        x.sell(2, 1);
        Cases.due("fall() to 3998", x.fall(), 4);
    }

    static void p05_lay_ofSeveralBTheLastCounts() {
        SnowByNumber x = Cases.laid("b999,99;f0,2,1,0;b1,1;f0,1,1,0;b3,2;", 1);
        Cases.due("fall() over the roof of 2", x.fall(), FULL);
        x = Cases.laid("b1,1;f0,2,1,0;f0,1,1,0;b999,3;", 2);
        x = Cases.laid("b999,99;b3,99;f0,2,1,0;f0,1,2,0;", 1);
        Cases.due("fall() over the beams of 3", x.fall(), FULL);
        x = Cases.laid("b3,99;f0,2,1,0;f0,1,2,0;b4,99;", 2);
    }

    static void p05_lay_5OfAThawWithoutT() {
        SnowByNumber x = Cases.laid("f0,1,1,0;", 1);
        Cases.due("thaw(0)", x.thaw(0), 5);
        Cases.due("thaw(0)", x.thaw(0), 5);
        Cases.due("thaw(0)", x.thaw(0), 0);
    }

    static void p05_lay_ofSeveralTTheLastCounts() {
        Cases.due("thaw(0)", Cases.laid("t50;f0,9,1,0;t3;", 1).thaw(0), 3);
        Cases.due("thaw(0)", Cases.laid("t3;t50;f0,9,1,0;", 1).thaw(0), 50);
    }

    static void p05_lay_anInchCosts10WithoutP() {
        SnowByNumber x = Cases.laid("p1,7;p98,8;f0,1,1,0;f1,1,1,0;f98,1,1,0;f99,1,1,0;", 0);
        Cases.due("falls(0, 4)", x.falls(0, 4), 10);
        Cases.due("falls(1, 4)", x.falls(1, 4), 7);
        Cases.due("falls(2, 4)", x.falls(2, 4), 8);
        Cases.due("falls(3, 4)", x.falls(3, 4), 10);
    }

    static void p05_lay_ofPTheLastOfEachYearCounts() {
        SnowByNumber x = Cases.laid("p0,1;p0,2;f0,1,1,0;p99,3;f0,1,1,0;f99,1,1,0;p99,0;p50,77;", 0);
        Cases.due("falls(0, 4)", x.falls(0, 4), 2);
        Cases.due("falls(1, 4)", x.falls(1, 4), 2);
        Cases.due("falls(2, 4)", x.falls(2, 4), 0);
    }

    static void p05_lay_1SlipsWithoutS() {
        SnowByNumber x = Cases.laid("f0,1,1,0;f1,1,1,1;", 2);
        Cases.due("odds(0, 1, 0, 0): 9 of 10", x.odds(0, 1, 0, 0), 9);
        Cases.due("odds(0, 1, 0, 1)", x.odds(0, 1, 0, 1), 10);
    }

    static void p05_lay_ofSeveralSTheLastCounts() {
        SnowByNumber x = Cases.laid("s0;f0,1,1,0;s3;f1,1,1,1;s2;", 2);
        Cases.due("odds(0, 1, 0, 0): 8 of 10", x.odds(0, 1, 0, 0), 4);
        Cases.due("odds(0, 1, 0, 1)", x.odds(0, 1, 0, 1), 5);
        x = Cases.laid("s2;s0;f0,1,1,0;f1,1,1,1;", 2);
        Cases.due("odds(0, 1, 0, 1)", x.odds(0, 1, 0, 1), 1);
    }

    static void p05_lay_0MoreWithoutV() {
        SnowByNumber x = Cases.laid("b999,2;f0,1,1,0;f0,1,1,0;", 0);
        for (int z = 0; z <= 9999; z += 99) {
            Cases.due("winter(" + z + ")", x.winter(z), 2);
        }
    }

    static void p05_lay_ofSeveralVTheLastCounts() {
        SnowByNumber x = Cases.laid("b999,2;v9;f0,1,1,0;v5;f0,1,1,0;v0;", 0);
        for (int z = 0; z <= 9999; z += 99) {
            Cases.due("winter(" + z + ")", x.winter(z), 2);
        }
        // z = 0: x is 1, so 1 modulo 10 more than 1 of the roof's 1
        Cases.due("winter(0) by v9", Cases.laid("v0;b999,1;f0,1,1,0;v9;", 0).winter(0), 0);
    }

    // ---- promise 6: falls

    static void p06_falls_iFrom0ToTheLast() {
        SnowByNumber x = Cases.laid(Cases.SEVEN, 0);
        Cases.dueBadOutside(x, "falls(i, 0)", 0, 6, (y, i) -> y.falls(i, 0));
        Cases.dueFalls(x, 0, 3, 5, 2, 1, 30);
        Cases.dueFalls(x, 6, 20, 9, 1, 1, 99);
    }

    static void p06_falls_the12thAndTheOneBehindIt() {
        SnowByNumber x = Cases.laid("f0,1,1,0;".repeat(11) + "f99,20,9,9;p99,99;", 0);
        Cases.dueFalls(x, 11, 99, 20, 9, 9, 99);
        Cases.due("falls(12, 0)", x.falls(12, 0), BAD);
        Cases.due("falls(-1, 0)", x.falls(-1, 0), BAD);
    }

    static void p06_falls_theOnlyOne() {
        SnowByNumber x = Cases.laid("f7,1,1,1;", 0);
        Cases.due("falls(0, 0)", x.falls(0, 0), 7);
        Cases.due("falls(1, 0)", x.falls(1, 0), BAD);
        x = Cases.laid(Cases.SEVEN, 0);
        Cases.layAnew(x, "f7,1,1,1;");
        Cases.due("falls(1, 0) of fewer FALLS than before", x.falls(1, 0), BAD);
    }

    static void p06_falls_whatFrom0To4() {
        Cases.dueBadOutside(Cases.laid(Cases.SEVEN, 0), "falls(3, what)", 0, 4, (y, what) -> y.falls(3, what));
        Cases.dueFalls(Cases.laid(Cases.SEVEN, 0), 3, 8, 3, 5, 9, 7);
    }

    static void p06_falls_thoseThatDidNotComeInToo() {
        SnowByNumber x = Cases.laid("b1,1;f0,20,9,9;f1,20,9,9;", 0);
        Cases.dueFalls(x, 0, 0, 20, 9, 9, 10);
        Cases.dueFalls(x, 1, 1, 20, 9, 9, 10);
    }

    static void p06_falls_dustAsItFellNotAsItIsShown() {
        SnowByNumber x = Cases.laid(Cases.SEVEN, 1);
        x.swap(0, 9);
        Cases.due("falls(0, 3)", x.falls(0, 3), 1);
        x.thaw(0);
        Cases.due("falls(0, 1): inches as they fell", x.falls(0, 1), 5);
    }

    static void p06_falls_badChangesNothing() {
        Cases.dueRefused(Cases::busy, "falls(7, 0)", x -> x.falls(7, 0), BAD);
        Cases.dueRefused(Cases::busy, "falls(-1, 0)", x -> x.falls(-1, 0), BAD);
        Cases.dueRefused(Cases::busy, "falls(0, 5)", x -> x.falls(0, 5), BAD);
        Cases.dueRefused(Cases::full, "falls(12, 0)", x -> x.falls(12, 0), BAD);
    }

    public static void main(String[] args) {
        Cases.run(TextBoundsTest.class);
    }
}
