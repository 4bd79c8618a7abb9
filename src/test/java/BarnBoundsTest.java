// Promises 7 to 14: each boundary case that the document names of FALLS, LAYERS, THAWS, DOORS, SALES, swaps.
public final class BarnBoundsTest {
    private static final int BAD = -1, NO = -2, FULL = -3, NONE = -4;
    private static final String TWELVE = "f0,1,1,0;f1,1,1,1;f2,1,1,2;f3,1,1,3;f4,1,1,4;f5,1,1,5;f6,1,1,6;f7,1,1,7;"
        + "f8,1,1,8;f9,1,1,9;f10,1,1,8;f11,1,1,7;";
    /** The DOORS of all LAYERS, when so many came in. */
    private static final int[][] DOORS = {{}, {0}, {0, 1}, {0, 1, 2}, {0, 0, 1, 2}, {0, 0, 1, 1, 2},
        {0, 0, 1, 1, 2, 2}, {0, 0, 0, 1, 1, 2, 2}, {0, 0, 0, 1, 1, 1, 2, 2}, {0, 0, 0, 1, 1, 1, 2, 2, 2},
        {0, 0, 0, 0, 1, 1, 1, 2, 2, 2}, {0, 0, 0, 0, 1, 1, 1, 1, 2, 2, 2}, {0, 0, 0, 0, 1, 1, 1, 1, 2, 2, 2, 2}};

    // ---- promise 7: fall

    static void p07_fall_theFirst() {
        SnowByNumber x = Cases.laid(TWELVE, 0);
        Cases.due("fall()", x.fall(), 1);
        Cases.dueCounts(x, 12, 1, 10, 10, 0, 0, 0, 0);
    }

    static void p07_fall_the12th() {
        SnowByNumber x = Cases.laid(TWELVE, 11);
        Cases.due("fall()", x.fall(), 12);
        Cases.dueLayers(x, 1, 0, 1, 2, 3, 4, 5, 6, 7, 8, 9, 8, 7);
        Cases.dueLayers(x, 0, 10, 10, 10, 10, 10, 10, 10, 10, 10, 10, 10, 10);
    }

    static void p07_fall_noBehindTheLast() {
        SnowByNumber x = Cases.laid(TWELVE, 12);
        Cases.due("fall() of a 13th", x.fall(), NO);
        Cases.due("fall() once more", x.fall(), NO);
        Cases.due("count(1)", x.count(1), 12);
        x = Cases.laid("f0,1,1,1;", 1);
        Cases.due("fall() of a second", x.fall(), NO);
    }

    static void p07_fall_noAheadOfFull() {
        SnowByNumber x = Cases.laid("b1,1;f0,1,1,0;", 1);
        Cases.due("fall() behind the last, roof and beams full", x.fall(), NO);
    }

    static void p07_fall_10TenthsAnInch() {
        SnowByNumber x = Cases.laid("f0,1,1,0;f0,20,1,0;", 2);
        Cases.due("layer(0, 0) of 1 inch", x.layer(0, 0), 10);
        Cases.due("layer(1, 0) of 20 inches", x.layer(1, 0), 200);
    }

    static void p07_fall_showsItsDust() {
        SnowByNumber x = Cases.laid("f0,1,1,0;f0,1,1,9;", 2);
        Cases.due("layer(0, 1)", x.layer(0, 1), 0);
        Cases.due("layer(1, 1)", x.layer(1, 1), 9);
    }

    static void p07_fall_highOf10WComesIn() {
        SnowByNumber x = Cases.laid("b999,3;f0,2,1,0;f0,1,1,0;", 2);
        Cases.due("count(2)", x.count(2), 30);
        x = Cases.laid("b999,1;f0,1,1,0;", 1);
        Cases.due("count(2) under a roof of 1", x.count(2), 10);
        x = Cases.laid("b999,99;" + "f0,20,1,0;".repeat(4) + "f0,19,1,0;", 5);
        Cases.due("count(2) under a roof of 99", x.count(2), 990);
    }

    static void p07_fall_aTenthMoreThan10WIsFull() {
        SnowByNumber x = Cases.laid("b999,3;f0,3,1,0;f0,1,1,0;", 1);
        Cases.sellDownTo(x, 0, 21);
        Cases.due("fall() to 31", x.fall(), FULL);
        Cases.sellDownTo(x, 0, 20);
        Cases.due("fall() to 30", x.fall(), 2);
        x = Cases.laid("b999,99;" + "f0,20,1,0;".repeat(5) + "f0,1,1,0;", 4);
        Cases.due("fall() to 1000", x.fall(), FULL);
        Cases.sellDownTo(x, 3, 191);
        Cases.due("fall() to 991", x.fall(), FULL);
        Cases.sellDownTo(x, 3, 190);
        Cases.due("fall() to 990", x.fall(), 5);
    }

    static void p07_fall_loadOf10LComesIn() {
        SnowByNumber x = Cases.laid("b5,99;f0,1,3,0;f0,1,2,0;", 2);
        Cases.due("count(3)", x.count(3), 50);
        x = Cases.laid("b1,99;f0,1,1,0;", 1);
        Cases.due("count(3) on beams of 1", x.count(3), 10);
        x = Cases.laid("b891,99;" + "f0,20,9,0;".repeat(4) + "f0,19,9,0;", 5);
        Cases.due("count(3) on beams of 891", x.count(3), 8910);
        x = Cases.laid("b999,99;" + "f0,20,9,0;".repeat(4) + "f0,19,9,0;", 5);
        Cases.due("count(3) on beams of 999", x.count(3), 8910);
    }

    static void p07_fall_aLoadOf1MoreThan10LIsFull() {
        SnowByNumber x = Cases.laid("b5,99;f0,2,1,0;f0,2,2,0;", 1);
        Cases.sellDownTo(x, 0, 11);
        Cases.due("fall() to 51", x.fall(), FULL);
        Cases.sellDownTo(x, 0, 10);
        Cases.due("fall() to 50", x.fall(), 2);
        x = Cases.laid("b1,99;f0,1,2,0;", 0);
        Cases.due("fall() to 20 on beams of 1", x.fall(), FULL);
        x = Cases.laid("b890,99;" + "f0,20,9,0;".repeat(4) + "f0,19,9,0;", 4);
        Cases.due("fall() to 8910 on beams of 890", x.fall(), FULL);
    }

    static void p07_fall_roofAndBeamsBoth() {
        SnowByNumber x = Cases.laid("b2,9;f0,1,3,0;", 0);
        Cases.due("fall() under the roof, over the beams", x.fall(), FULL);
        x = Cases.laid("b9,2;f0,3,1,0;", 0);
        Cases.due("fall() on the beams, over the roof", x.fall(), FULL);
        x = Cases.laid("b2,2;f0,2,1,0;", 0);
        Cases.due("fall() full of both", x.fall(), 1);
    }

    static void p07_fall_fullLeavesTheNextTheNext() {
        SnowByNumber x = Cases.laid("b999,2;f0,2,1,0;f1,2,1,7;f2,1,1,8;t10;", 1);
        Cases.due("fall()", x.fall(), FULL);
        Cases.due("thaw(0)", x.thaw(0), 10);
        Cases.due("fall(): not the one behind it", x.fall(), FULL);
        Cases.due("thaw(0)", x.thaw(0), 10);
        Cases.due("fall()", x.fall(), 2);
        Cases.due("layer(1, 1)", x.layer(1, 1), 7);
    }

    static void p07_fall_overTheRoofAlready() {
        SnowByNumber x = Cases.laid("b999,2;f0,2,1,0;f0,1,1,0;f0,1,1,0;", 1);
        x.sell(0, 10);
        Cases.due("fall()", x.fall(), 2);
        Cases.due("undo()", x.undo(), 10);
        Cases.due("count(2)", x.count(2), 30);
        Cases.due("fall()", x.fall(), FULL);
        x.sell(0, 20);
        Cases.due("fall()", x.fall(), 3);
    }

    static void p07_fall_noChangesNothing() {
        Cases.dueRefused(Cases::full, "fall()", x -> x.fall(), NO);
    }

    static void p07_fall_fullChangesNothing() {
        Cases.dueRefused(() -> {
            SnowByNumber x = Cases.laid("b99,6;f3,5,2,1;f3,4,3,4;f7,8,1,1;f8,3,5,9;f8,6,2,4;f12,2,9,0;f20,9,1,1;", 1);
            x.sell(0, 7);
            x.keep();
            return x;
        }, "fall()", x -> x.fall(), FULL);
    }

    // ---- promise 8: layer

    static void p08_layer_ofTheEmptyBarn() {
        SnowByNumber x = Cases.laid(TWELVE, 0);
        for (int what = 0; what < 3; what++) {
            Cases.due("layer(0, " + what + ")", x.layer(0, what), BAD);
            Cases.due("layer(-1, " + what + ")", x.layer(-1, what), BAD);
        }
    }

    static void p08_layer_iFrom0ToTheLastThatCameIn() {
        for (int n = 1; n <= 12; n++) {
            SnowByNumber x = Cases.laid(TWELVE, n);
            for (int what = 0; what < 3; what++) {
                Cases.due("layer(0, ..) of " + n + " is told", x.layer(0, what) < 0 ? 1 : 0, 0);
                Cases.due("layer(" + (n - 1) + ", ..) is told", x.layer(n - 1, what) < 0 ? 1 : 0, 0);
                Cases.due("layer(" + n + ", " + what + ")", x.layer(n, what), BAD);
                Cases.due("layer(-1, " + what + ")", x.layer(-1, what), BAD);
            }
        }
        Cases.dueBadOutside(Cases.laid(TWELVE, 3), "layer(i, 0)", 0, 2, (x, i) -> x.layer(i, 0));
    }

    static void p08_layer_whatFrom0To2() {
        Cases.dueBadOutside(Cases.laid(TWELVE, 3), "layer(1, what)", 0, 2, (x, what) -> x.layer(1, what));
    }

    static void p08_layer_doorsOf1To12() {
        SnowByNumber x = Cases.laid(TWELVE, 0);
        for (int n = 1; n <= 12; n++) {
            Cases.due("fall()", x.fall(), n);
            Cases.dueLayers(x, 2, DOORS[n]);
        }
    }

    static void p08_layer_theDoorIsOfThoseThatCameInNotOfThoseWithTenths() {
        SnowByNumber x = Cases.laid(TWELVE, 6);
        for (int i = 0; i < 5; i++) {
            x.sell(i, 10);
        }
        Cases.dueLayers(x, 2, 0, 0, 1, 1, 2, 2);
    }

    static void p08_layer_ofAnEmptyLayer() {
        SnowByNumber x = Cases.laid(TWELVE, 3);
        x.sell(1, 10);
        Cases.due("layer(1, 0)", x.layer(1, 0), 0);
        Cases.due("layer(1, 1)", x.layer(1, 1), 1);
        Cases.due("layer(1, 2)", x.layer(1, 2), 1);
    }

    static void p08_layer_badChangesNothing() {
        Cases.dueRefused(Cases::busy, "layer(4, 0)", x -> x.layer(4, 0), BAD);
        Cases.dueRefused(Cases::busy, "layer(-1, 0)", x -> x.layer(-1, 0), BAD);
        Cases.dueRefused(Cases::full, "layer(12, 0)", x -> x.layer(12, 0), BAD);
        Cases.dueRefused(Cases::full, "layer(11, 3)", x -> x.layer(11, 3), BAD);
    }

    // ---- promise 9: firstOut

    static void p09_firstOut_noneIfAllCould() {
        Cases.due("firstOut()", Cases.laid("b4,4;f0,2,1,0;f0,1,1,0;f0,1,1,0;", 0).firstOut(), NONE);
        Cases.due("firstOut()", Cases.laid("b4,4;f0,2,1,0;f0,1,1,0;f0,1,1,0;", 2).firstOut(), NONE);
        Cases.due("firstOut()", new SnowByNumber().firstOut(), NONE);
    }

    static void p09_firstOut_noneIfNoneIsLeft() {
        Cases.due("firstOut()", Cases.laid(TWELVE, 12).firstOut(), NONE);
        Cases.due("firstOut()", Cases.laid("b1,1;f0,1,1,0;", 1).firstOut(), NONE);
        SnowByNumber over = Cases.laid("b2,2;f0,2,1,0;f0,1,1,0;", 1);
        over.sell(0, 10);
        Cases.due("fall()", over.fall(), 2);
        over.undo();
        Cases.due("firstOut() over the roof", over.firstOut(), NONE);
    }

    static void p09_firstOut_theVeryFirst() {
        Cases.due("firstOut() over the roof", Cases.laid("b9,1;f0,2,1,0;f0,1,1,0;", 0).firstOut(), 0);
        Cases.due("firstOut() over the beams", Cases.laid("b1,9;f0,1,2,0;f0,1,1,0;", 0).firstOut(), 0);
    }

    static void p09_firstOut_theVeryLast() {
        Cases.due("firstOut() over the roof", Cases.laid("b99,11;" + TWELVE, 0).firstOut(), 11);
        Cases.due("firstOut() over the beams", Cases.laid("b11,99;" + TWELVE, 0).firstOut(), 11);
        Cases.due("firstOut() of 12 and 12", Cases.laid("b12,12;" + TWELVE, 0).firstOut(), NONE);
        Cases.due("firstOut() of the last that is left", Cases.laid("b99,11;" + TWELVE, 11).firstOut(), 11);
    }

    static void p09_firstOut_theNextIfTheBarnIsOverItsRoof() {
        SnowByNumber x = Cases.laid("b999,2;f0,2,1,0;f0,1,1,0;f0,1,1,0;", 1);
        x.sell(0, 10);
        Cases.due("firstOut()", x.firstOut(), 2);
        x.fall();
        x.undo();
        Cases.due("firstOut() of 30 under 20", x.firstOut(), 2);
        x.sell(0, 20);
        Cases.due("firstOut() of 10 under 20", x.firstOut(), NONE);
    }

    static void p09_firstOut_highOf10WAndATenthMore() {
        SnowByNumber x = Cases.laid("b999,4;f0,3,1,0;f0,1,1,0;f0,1,1,0;", 1);
        Cases.sellDownTo(x, 0, 21);
        Cases.due("firstOut() to 41", x.firstOut(), 2);
        Cases.sellDownTo(x, 0, 20);
        Cases.due("firstOut() to 40", x.firstOut(), NONE);
    }

    static void p09_firstOut_loadOf10LAndOneMore() {
        SnowByNumber x = Cases.laid("b6,99;f0,3,1,0;f0,1,2,0;f0,1,2,0;", 1);
        Cases.sellDownTo(x, 0, 21);
        Cases.due("firstOut() to 61", x.firstOut(), 2);
        Cases.sellDownTo(x, 0, 20);
        Cases.due("firstOut() to 60", x.firstOut(), NONE);
    }

    static void p09_firstOut_theFirstOfSeveralOneBehindTheOther() {
        SnowByNumber x = Cases.laid("b999,9;f0,4,1,0;f0,4,1,0;f0,4,1,0;f0,1,1,0;f0,9,1,0;", 0);
        Cases.due("firstOut()", x.firstOut(), 2);
        x.fall();
        Cases.due("firstOut() behind one", x.firstOut(), 2);
        x.fall();
        Cases.due("firstOut() behind two", x.firstOut(), 2);
        Cases.sellDownTo(x, 0, 0);
        Cases.due("firstOut() with 40 gone", x.firstOut(), 4);
    }

    static void p09_firstOut_changesNothing() {
        SnowByNumber x = Cases.busy();
        x.firstOut();
        Cases.dueSame("firstOut()", x, Cases.busy());
    }

    // ---- promise 10: thaw

    static void p10_thaw_doorsFrom0To2() {
        Cases.dueBadOutside(Cases.laid(TWELVE, 3), "thaw(door)", 0, 2, (x, door) -> x.thaw(door));
    }

    static void p10_thaw_theEmptyBarn() {
        SnowByNumber x = Cases.laid(TWELVE, 0);
        for (int door = 0; door < 3; door++) {
            Cases.due("thaw(" + door + ")", x.thaw(door), 0);
        }
        Cases.due("thaw(3)", x.thaw(3), BAD);
        Cases.due("thaw(-1)", x.thaw(-1), BAD);
    }

    static void p10_thaw_aDoorWithoutLayers() {
        SnowByNumber x = Cases.laid(TWELVE, 1);
        Cases.due("thaw(1) of 1 LAYER", x.thaw(1), 0);
        Cases.due("thaw(2) of 1 LAYER", x.thaw(2), 0);
        Cases.due("count(2)", x.count(2), 10);
        x = Cases.laid(TWELVE, 2);
        Cases.due("thaw(2) of 2 LAYERS", x.thaw(2), 0);
        Cases.due("thaw(1) of 2 LAYERS", x.thaw(1), 5);
    }

    static void p10_thaw_takes1Or50() {
        Cases.due("thaw(0)", Cases.laid("t1;f0,20,1,0;", 1).thaw(0), 1);
        Cases.due("thaw(0)", Cases.laid("t50;f0,20,1,0;", 1).thaw(0), 50);
    }

    static void p10_thaw_noMoreThanThereAre() {
        SnowByNumber x = Cases.laid("t50;f0,6,1,0;f0,5,1,0;f0,5,1,0;f0,1,1,0;", 4);
        Cases.sellDownTo(x, 0, 51);
        Cases.sellDownTo(x, 2, 49);
        Cases.sellDownTo(x, 3, 0);
        Cases.due("thaw(0) of 51 and 50", x.thaw(0), 100);
        Cases.due("layer(0, 0)", x.layer(0, 0), 1);
        Cases.due("layer(1, 0)", x.layer(1, 0), 0);
        Cases.due("thaw(1) of 49", x.thaw(1), 49);
        Cases.due("layer(2, 0)", x.layer(2, 0), 0);
        Cases.due("thaw(2) of 0", x.thaw(2), 0);
        Cases.due("layer(3, 0)", x.layer(3, 0), 0);
        Cases.due("thaw(0) of 1 and 0", x.thaw(0), 1);
        Cases.due("thaw(0) of 0 and 0", x.thaw(0), 0);
        Cases.due("count(2)", x.count(2), 0);
    }

    static void p10_thaw_ofEachLayerThereAndOfNoOther() {
        for (int n = 1; n <= 12; n++) {
            for (int door = 0; door < 3; door++) {
                SnowByNumber x = Cases.laid("t3;" + TWELVE, n);
                int melted = x.thaw(door);
                int due = 0;
                for (int i = 0; i < n; i++) {
                    boolean there = DOORS[n][i] == door;
                    due += there ? 3 : 0;
                    Cases.due("layer(" + i + ", 0) of " + n, x.layer(i, 0), there ? 7 : 10);
                }
                Cases.due("thaw(" + door + ") of " + n, melted, due);
            }
        }
    }

    static void p10_thaw_costsNoCoinAndIsNoSale() {
        SnowByNumber x = Cases.laid(TWELVE, 3);
        x.thaw(0);
        Cases.dueCounts(x, 12, 3, 25, 25, 0, 0, 0, 0);
        Cases.due("undo()", x.undo(), NO);
    }

    static void p10_thaw_badChangesNothing() {
        Cases.dueRefused(Cases::busy, "thaw(3)", x -> x.thaw(3), BAD);
        Cases.dueRefused(Cases::busy, "thaw(-1)", x -> x.thaw(-1), BAD);
        Cases.dueRefused(Cases::full, "thaw(3)", x -> x.thaw(3), BAD);
    }

    // ---- promise 11: doors

    static void p11_doors_kFrom1To6() {
        Cases.dueBadOutside(Cases.laid(TWELVE, 3), "doors(k, -1)", 1, 6, (x, k) -> x.doors(k, -1));
        Cases.dueBadOutside(Cases.laid(TWELVE, 3), "doors(k, 0)", 1, 6, (x, k) -> x.doors(k, 0));
    }

    static void p11_doors_iFromMinus1ToTheLastOfK() {
        for (int k = 1; k <= 6; k++) {
            int many = k;
            Cases.dueBadOutside(Cases.laid(TWELVE, 3), "doors(" + k + ", i)", 0, k - 1,
                (x, i) -> i == -1 ? BAD : x.doors(many, i));
            SnowByNumber x = Cases.laid(TWELVE, 3);
            Cases.due("doors(" + k + ", -1)", x.doors(k, -1), Math.min(k * 50, 100));
            Cases.due("doors(" + k + ", -2)", x.doors(k, -2), BAD);
            Cases.due("doors(" + k + ", " + k + ")", x.doors(k, k), BAD);
        }
    }

    static void p11_doors_ofTheEmptyBarn() {
        SnowByNumber x = Cases.laid(TWELVE, 0);
        for (int k = 1; k <= 6; k++) {
            Cases.due("doors(" + k + ", -1)", x.doors(k, -1), 0);
            for (int i = 0; i < k; i++) {
                Cases.due("doors(" + k + ", " + i + ")", x.doors(k, i), 0);
            }
        }
        Cases.due("doors(7, -1)", x.doors(7, -1), BAD);
        Cases.due("doors(1, 1)", x.doors(1, 1), BAD);
    }

    static void p11_doors_aDoorWithoutLayersLosesNothing() {
        SnowByNumber one = Cases.laid(TWELVE, 1);
        Cases.due("doors(6, -1) of 1 LAYER", one.doors(6, -1), 0);
        dueRow(one, 1, 1, 1, 1, 1, 1);
        SnowByNumber two = Cases.laid(TWELVE, 2);
        Cases.due("doors(6, -1) of 2 LAYERS", two.doors(6, -1), 0);
        dueRow(two, 2, 2, 2, 2, 2, 2);
    }

    private static void dueRow(SnowByNumber x, int... doors) {
        for (int i = 0; i < doors.length; i++) {
            Cases.due("doors(" + doors.length + ", " + i + ")", x.doors(doors.length, i), doors[i]);
        }
    }

    static void p11_doors_ofSeveralTheFirst() {
        SnowByNumber same = Cases.laid("t2;f0,9,1,0;f1,9,1,0;f2,9,1,0;", 3);
        Cases.due("doors(6, -1)", same.doors(6, -1), 120);
        dueRow(same, 0, 0, 0, 0, 0, 0);
        // By DOOR 1 only 10 tenths can be lost: one THAW there is as dear as elsewhere, more cost no more.
        SnowByNumber small = Cases.laid("t10;f0,9,1,0;f1,1,1,0;f2,9,1,0;", 3);
        dueRow(small, 0);
        Cases.due("doors(3, -1)", small.doors(3, -1), 100);
        dueRow(small, 1, 1, 1);
        // DOORS 0 and 2 are empty behind one THAW each, for 50.
        SnowByNumber ends = Cases.laid("t10;f0,1,1,0;f1,9,1,0;f2,1,1,0;p0,5;p2,5;", 3);
        Cases.due("doors(2, -1)", ends.doors(2, -1), 50);
        dueRow(ends, 0, 0);
        // DOOR 2 is empty for 40, DOOR 0 for 50, DOOR 1 costs 10 each time until it is empty.
        SnowByNumber mixed = Cases.laid("t10;f0,1,1,0;f1,4,1,0;f2,1,1,0;p0,5;p1,1;p2,4;", 3);
        Cases.due("doors(4, -1)", mixed.doors(4, -1), 40);
        dueRow(mixed, 1, 1, 1, 1);
        Cases.due("doors(6, -1)", mixed.doors(6, -1), 40);
        dueRow(mixed, 1, 1, 1, 1, 1, 1);
    }

    static void p11_doors_fromNowOn() {
        SnowByNumber x = Cases.laid("t10;f0,1,1,0;f0,1,1,0;f1,1,1,0;f1,1,1,0;f2,1,1,0;f2,1,1,0;p0,1;p1,2;p2,3;", 6);
        Cases.due("doors(1, -1)", x.doors(1, -1), 20);
        dueRow(x, 0, 0, 0);
        x.sell(3, 10);
        x.sell(2, 5);
        Cases.due("doors(2, -1)", x.doors(2, -1), 10);
        dueRow(x, 1, 1, 1);
        Cases.due("thaw(2)", x.thaw(2), 20);
        Cases.due("doors(2, -1)", x.doors(2, -1), 0);
        dueRow(x, 2, 2, 2, 2);
        x.undo();
        x.undo();
        Cases.due("thaw(0)", x.thaw(0), 20);
        Cases.due("doors(2, -1)", x.doors(2, -1), 0);
        dueRow(x, 0, 0, 0, 0, 0, 0);
    }

    static void p11_doors_noMoreMeltsThanThereIs() {
        SnowByNumber x = Cases.laid("t50;f0,6,1,0;f1,20,1,0;f2,20,1,0;", 3);
        Cases.due("doors(1, -1)", x.doors(1, -1), 500);
        Cases.due("doors(2, -1)", x.doors(2, -1), 600);
        Cases.due("doors(6, -1)", x.doors(6, -1), 600);
        Cases.sellDownTo(x, 0, 50);
        Cases.due("doors(2, -1) of 50", x.doors(2, -1), 500);
        Cases.sellDownTo(x, 0, 49);
        Cases.due("doors(1, -1) of 49", x.doors(1, -1), 490);
    }

    static void p11_doors_costOf0And99() {
        SnowByNumber x = Cases.laid("t50;f0,20,1,0;f1,20,1,0;f2,20,1,0;p0,99;p1,99;p2,99;", 3);
        Cases.due("doors(6, -1)", x.doors(6, -1), 200 * 99);
        Cases.due("doors(3, -1)", x.doors(3, -1), 150 * 99);
        x = Cases.laid("t50;f0,20,1,0;f1,20,1,0;f2,20,1,0;p0,1;p1,0;p2,0;", 3);
        Cases.due("doors(6, -1)", x.doors(6, -1), 0);
        dueRow(x, 1, 1, 1, 1, 1, 1);
    }

    static void p11_doors_changesNothing() {
        SnowByNumber x = Cases.busy();
        x.doors(6, -1);
        x.doors(3, 2);
        Cases.dueSame("doors(6, -1)", x, Cases.busy());
    }

    static void p11_doors_badChangesNothing() {
        Cases.dueRefused(Cases::busy, "doors(0, -1)", x -> x.doors(0, -1), BAD);
        Cases.dueRefused(Cases::busy, "doors(7, 0)", x -> x.doors(7, 0), BAD);
        Cases.dueRefused(Cases::busy, "doors(3, 3)", x -> x.doors(3, 3), BAD);
        Cases.dueRefused(Cases::full, "doors(3, -2)", x -> x.doors(3, -2), BAD);
    }

    // ---- promise 12: sell

    static void p12_sell_layersThatCameIn() {
        Cases.dueBadOutside(Cases.laid(TWELVE, 5), "sell(i, 1)", 0, 4, (x, i) -> x.sell(i, 1));
        Cases.dueBadOutside(Cases.laid(TWELVE, 12), "sell(i, 1)", 0, 11, (x, i) -> x.sell(i, 1));
    }

    static void p12_sell_ofTheEmptyBarn() {
        SnowByNumber x = Cases.laid(TWELVE, 0);
        Cases.due("sell(0, 1)", x.sell(0, 1), BAD);
        Cases.due("sell(-1, 1)", x.sell(-1, 1), BAD);
    }

    static void p12_sell_tenthsFrom1To200() {
        Cases.dueBadOutside(Cases.laid("f0,20,1,0;", 1), "sell(0, q)", 1, 200, (x, q) -> {
            int answer = x.sell(0, q);
            x.undo();
            return answer;
        });
        SnowByNumber x = Cases.laid("f0,20,1,0;", 1);
        Cases.due("sell(0, 1)", x.sell(0, 1), 1);
        Cases.due("undo()", x.undo(), 1);
        Cases.due("sell(0, 200)", x.sell(0, 200), 200);
        Cases.due("layer(0, 0)", x.layer(0, 0), 0);
    }

    static void p12_sell_allThatItHas() {
        SnowByNumber x = Cases.laid("f0,3,1,0;", 1);
        Cases.due("sell(0, 30)", x.sell(0, 30), 30);
        Cases.due("layer(0, 0)", x.layer(0, 0), 0);
        Cases.due("count(1): the LAYER stays", x.count(1), 1);
    }

    static void p12_sell_noOfATenthMoreThanItHas() {
        SnowByNumber x = Cases.laid("f0,3,1,0;", 1);
        Cases.due("sell(0, 31)", x.sell(0, 31), NO);
        Cases.due("sell(0, 200)", x.sell(0, 200), NO);
        Cases.due("layer(0, 0)", x.layer(0, 0), 30);
        x.sell(0, 30);
        Cases.due("sell(0, 1) of an empty LAYER", x.sell(0, 1), NO);
    }

    static void p12_sell_badAheadOfNo() {
        SnowByNumber x = Cases.laid("f0,3,1,0;f0,1,1,0;", 1);
        Cases.due("sell(0, 201)", x.sell(0, 201), BAD);
        Cases.due("sell(1, 31)", x.sell(1, 31), BAD);
        x.sell(0, 30);
        Cases.due("sell(0, 0) of an empty LAYER", x.sell(0, 0), BAD);
        Cases.due("sell(0, -1) of an empty LAYER", x.sell(0, -1), BAD);
    }

    static void p12_sell_by10Cut() {
        SnowByNumber x = Cases.laid("f0,20,1,0;f1,20,1,0;f2,20,1,0;p0,1;p1,3;p2,99;", 3);
        Cases.due("sell(0, 9): 0.9", x.sell(0, 9), 0);
        Cases.due("sell(0, 10): 1.0", x.sell(0, 10), 1);
        Cases.due("sell(0, 19): 1.9", x.sell(0, 19), 1);
        Cases.due("sell(1, 3): 0.9", x.sell(1, 3), 0);
        Cases.due("sell(1, 4): 1.2", x.sell(1, 4), 1);
        Cases.due("sell(2, 1): 9.9", x.sell(2, 1), 9);
        Cases.due("sell(2, 199): 1970.1", x.sell(2, 199), 1970);
        Cases.due("count(4): each cut by itself", x.count(4), 1982);
    }

    static void p12_sell_anInchForNothingAndFor99() {
        SnowByNumber x = Cases.laid("f0,20,1,0;f1,20,1,0;p0,0;p1,99;", 2);
        Cases.due("sell(0, 200)", x.sell(0, 200), 0);
        Cases.due("sell(1, 200)", x.sell(1, 200), 1980);
        Cases.due("count(5)", x.count(5), 2);
    }

    static void p12_sell_theNinthSaleIsASaleToo() {
        SnowByNumber x = Cases.laid("f0,20,1,0;", 1);
        for (int k = 1; k <= 12; k++) {
            Cases.due("sell(0, 2)", x.sell(0, 2), 2);
            Cases.due("count(4)", x.count(4), 2 * k);
            Cases.due("count(5)", x.count(5), Math.min(k, 8));
        }
        Cases.due("layer(0, 0)", x.layer(0, 0), 176);
    }

    static void p12_sell_badChangesNothing() {
        Cases.dueRefused(Cases::busy, "sell(4, 1)", x -> x.sell(4, 1), BAD);
        Cases.dueRefused(Cases::busy, "sell(0, 0)", x -> x.sell(0, 0), BAD);
        Cases.dueRefused(Cases::busy, "sell(0, -5)", x -> x.sell(0, -5), BAD);
        Cases.dueRefused(Cases::busy, "sell(0, 201)", x -> x.sell(0, 201), BAD);
        Cases.dueRefused(Cases::full, "sell(12, 1)", x -> x.sell(12, 1), BAD);
        Cases.dueRefused(Cases::full, "sell(-1, 1)", x -> x.sell(-1, 1), BAD);
    }

    static void p12_sell_noChangesNothing() {
        Cases.dueRefused(Cases::busy, "sell(0, 40)", x -> x.sell(0, 40), NO);
        Cases.dueRefused(Cases::full, "sell(11, 81): 8 SALES are there", x -> x.sell(11, 81), NO);
    }

    // ---- promise 13: undo

    static void p13_undo_noWithoutSales() {
        Cases.due("undo()", new SnowByNumber().undo(), NO);
        SnowByNumber x = Cases.laid(TWELVE, 12);
        Cases.due("undo()", x.undo(), NO);
        x.sell(0, 11);
        Cases.due("undo() of what was none", x.undo(), NO);
    }

    static void p13_undo_noBehindTheOnlyOne() {
        SnowByNumber x = Cases.laid(TWELVE, 1);
        x.sell(0, 3);
        Cases.due("undo()", x.undo(), 3);
        Cases.due("undo()", x.undo(), NO);
        Cases.dueCounts(x, 12, 1, 10, 10, 0, 0);
    }

    static void p13_undo_the8thSaleBack() {
        SnowByNumber x = Cases.laid("f0,20,1,0;f1,20,1,0;p1,25;", 2);
        for (int q = 1; q <= 8; q++) {
            x.sell(q % 2, q);
        }
        Cases.due("count(5)", x.count(5), 8);
        for (int q = 8; q >= 1; q--) {
            Cases.due("undo()", x.undo(), q);
            Cases.due("count(5)", x.count(5), q - 1);
        }
        Cases.due("undo()", x.undo(), NO);
        Cases.dueCounts(x, 2, 2, 400, 400, 0, 0);
    }

    static void p13_undo_notThe9thSaleBack() {
        SnowByNumber x = Cases.laid("f0,20,1,0;f1,20,1,0;p1,25;", 2);
        for (int q = 1; q <= 9; q++) {
            x.sell(q % 2, q);
        }
        Cases.due("count(5)", x.count(5), 8);
        for (int q = 9; q >= 2; q--) {
            Cases.due("undo()", x.undo(), q);
        }
        Cases.due("undo()", x.undo(), NO);
        Cases.dueCounts(x, 2, 2, 399, 399, 2, 0);
        Cases.due("layer(1, 0)", x.layer(1, 0), 199);
    }

    static void p13_undo_aSaleThatCameLaterTakesThePlaceOfOneUndone() {
        SnowByNumber x = Cases.laid("f0,20,1,0;", 1);
        for (int q = 1; q <= 8; q++) {
            x.sell(0, q);
        }
        Cases.due("undo()", x.undo(), 8);
        Cases.due("sell(0, 20)", x.sell(0, 20), 20);
        Cases.due("count(5)", x.count(5), 8);
        int[] due = {20, 7, 6, 5, 4, 3, 2, 1, NO};
        for (int q : due) {
            Cases.due("undo()", x.undo(), q);
        }
    }

    static void p13_undo_theLastThatWasNot() {
        SnowByNumber x = Cases.laid("f0,20,1,0;f1,20,1,0;", 2);
        x.sell(0, 1);
        x.sell(1, 2);
        x.sell(0, 3);
        Cases.due("undo()", x.undo(), 3);
        Cases.due("undo()", x.undo(), 2);
        Cases.due("layer(1, 0)", x.layer(1, 0), 200);
        Cases.due("layer(0, 0)", x.layer(0, 0), 199);
        x.sell(1, 4);
        Cases.due("undo()", x.undo(), 4);
        Cases.due("undo()", x.undo(), 1);
        Cases.due("undo()", x.undo(), NO);
    }

    static void p13_undo_theCoinThatWasPaid() {
        SnowByNumber x = Cases.laid("f0,20,1,0;p0,7;", 1);
        x.sell(0, 3);
        x.sell(0, 4);
        Cases.due("count(4): 2.1 and 2.8, cut", x.count(4), 4);
        Cases.due("undo()", x.undo(), 4);
        Cases.due("count(4)", x.count(4), 2);
        Cases.due("undo()", x.undo(), 3);
        Cases.due("count(4)", x.count(4), 0);
    }

    static void p13_undo_intoAnEmptyLayer() {
        SnowByNumber x = Cases.laid("t50;f0,5,1,0;f1,5,1,0;", 2);
        x.sell(0, 50);
        Cases.due("undo()", x.undo(), 50);
        Cases.due("layer(0, 0)", x.layer(0, 0), 50);
        x.sell(0, 20);
        Cases.due("thaw(0)", x.thaw(0), 30);
        Cases.due("undo() behind a THAW", x.undo(), 20);
        Cases.due("layer(0, 0)", x.layer(0, 0), 20);
    }

    static void p13_undo_overTheRoof() {
        SnowByNumber x = Cases.laid("b3,3;f0,3,1,0;f1,1,1,0;", 1);
        x.sell(0, 10);
        Cases.due("fall()", x.fall(), 2);
        Cases.due("undo() over roof and beams", x.undo(), 10);
        Cases.dueCounts(x, 2, 2, 40, 40, 0, 0);
    }

    static void p13_undo_swapsAndThawsAreNotUndone() {
        SnowByNumber x = Cases.laid("f0,5,1,0;", 1);
        x.sell(0, 1);
        x.swap(0, 8);
        x.thaw(0);
        Cases.due("undo()", x.undo(), 1);
        Cases.due("layer(0, 1)", x.layer(0, 1), 8);
        Cases.due("layer(0, 0)", x.layer(0, 0), 45);
    }

    static void p13_undo_noChangesNothing() {
        Cases.dueRefused(() -> {
            SnowByNumber x = Cases.laid(Cases.SEVEN, 4);
            x.thaw(0);
            x.swap(1, 1);
            x.keep();
            x.fall();
            x.mark(1);
            return x;
        }, "undo()", x -> x.undo(), NO);
    }

    // ---- promise 14: swap

    static void p14_swap_layersThatCameIn() {
        Cases.dueBadOutside(Cases.laid(TWELVE, 5), "swap(i, 1)", 0, 4, (x, i) -> x.swap(i, 1));
        Cases.dueBadOutside(Cases.laid(TWELVE, 12), "swap(i, 1)", 0, 11, (x, i) -> x.swap(i, 1));
        Cases.due("swap(0, 1) of the empty BARN", Cases.laid(TWELVE, 0).swap(0, 1), BAD);
        Cases.due("swap(-1, 1) of the empty BARN", Cases.laid(TWELVE, 0).swap(-1, 1), BAD);
    }

    static void p14_swap_dustFrom0To9() {
        Cases.dueBadOutside(Cases.laid(TWELVE, 5), "swap(2, dust)", 0, 9, (x, dust) -> x.swap(2, dust));
        SnowByNumber x = Cases.laid(TWELVE, 5);
        Cases.due("swap(2, 0)", x.swap(2, 0), 2);
        Cases.due("layer(2, 1)", x.layer(2, 1), 0);
        Cases.due("swap(2, 9)", x.swap(2, 9), 0);
        Cases.due("layer(2, 1)", x.layer(2, 1), 9);
        Cases.due("swap(2, 2)", x.swap(2, 2), 9);
    }

    static void p14_swap_theDustThatIsShownAlready() {
        SnowByNumber x = Cases.laid(TWELVE, 5);
        Cases.due("swap(3, 3)", x.swap(3, 3), 3);
        Cases.due("layer(3, 1)", x.layer(3, 1), 3);
    }

    static void p14_swap_anEmptyLayer() {
        SnowByNumber x = Cases.laid(TWELVE, 5);
        x.sell(3, 10);
        Cases.due("swap(3, 8)", x.swap(3, 8), 3);
        Cases.due("layer(3, 1)", x.layer(3, 1), 8);
        Cases.due("far(): it has no tenths", x.far(), 4);
        x.undo();
        Cases.marks(x, "01284");
        Cases.due("far()", x.far(), 0);
    }

    static void p14_swap_itsNumberStaysAndAllElse() {
        SnowByNumber x = Cases.laid(TWELVE, 5);
        x.swap(1, 7);
        Cases.dueLayers(x, 1, 0, 7, 2, 3, 4);
        Cases.dueLayers(x, 0, 10, 10, 10, 10, 10);
        Cases.dueLayers(x, 2, 0, 0, 1, 1, 2);
        Cases.dueFalls(x, 1, 1, 1, 1, 1, 10);
        Cases.due("odds(1, 1, 1, 0): by the DUST of its FALL", x.odds(1, 1, 1, 0), 9);
        Cases.due("odds(1, 1, 1, 1)", x.odds(1, 1, 1, 1), 13);
        Cases.dueCounts(x, 12, 5, 50, 50, 0, 0, 0, 0);
    }

    static void p14_swap_badChangesNothing() {
        Cases.dueRefused(Cases::busy, "swap(4, 1)", x -> x.swap(4, 1), BAD);
        Cases.dueRefused(Cases::busy, "swap(-1, 1)", x -> x.swap(-1, 1), BAD);
        Cases.dueRefused(Cases::busy, "swap(0, 10)", x -> x.swap(0, 10), BAD);
        Cases.dueRefused(Cases::busy, "swap(0, -1)", x -> x.swap(0, -1), BAD);
        Cases.dueRefused(Cases::full, "swap(12, 1)", x -> x.swap(12, 1), BAD);
    }

    public static void main(String[] args) {
        Cases.run(BarnBoundsTest.class);
    }
}
