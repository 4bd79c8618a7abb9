import java.math.BigInteger;

// Promises 25 to 30: each boundary case that the document names of rents, winters, what is KEPT and the counts.
public final class RentBoundsTest {
    private static final int BAD = -1, NO = -2, FULL = -3;
    private static final String TWELVE = "f0,1,1,0;".repeat(12);

    // ---- promise 25: rent

    static void p25_rent_yearsFrom1To999999() {
        Cases.dueBadOutside(Cases.laid(Cases.SEVEN, 3), "rent(n)", 1, 999999, (x, n) -> x.rent(n));
        Cases.dueBadOutside(new SnowByNumber(), "rent(n)", 1, 999999, (x, n) -> x.rent(n));
        SnowByNumber x = Cases.laid("f0,10,1,0;", 1);
        Cases.due("rent(1)", x.rent(1), 10);
        Cases.due("rent(999999)", x.rent(999999), 9999990);
    }

    static void p25_rent_0OfTheEmptyBarn() {
        Cases.due("rent(1)", new SnowByNumber().rent(1), 0);
        Cases.due("rent(999999)", new SnowByNumber().rent(999999), 0);
        SnowByNumber x = Cases.laid("f0,1,1,0;", 1);
        Cases.sellDownTo(x, 0, 0);
        Cases.due("rent(999999) of an empty LAYER", x.rent(999999), 0);
    }

    static void p25_rent_0IfAnInchCostsNothing() {
        SnowByNumber x = Cases.laid("p3,0;f3,20,1,0;", 1);
        Cases.due("rent(999999)", x.rent(999999), 0);
    }

    static void p25_rent_by100Cut() {
        SnowByNumber x = Cases.laid("p3,1;f3,1,1,0;", 1);
        Cases.due("rent(9): 0.9", x.rent(9), 0);
        Cases.due("rent(10): 1.0", x.rent(10), 1);
        Cases.due("rent(19): 1.9", x.rent(19), 1);
        Cases.due("rent(20): 2.0", x.rent(20), 2);
        Cases.sellDownTo(x, 0, 1);
        Cases.due("rent(99): 0.99", x.rent(99), 0);
        Cases.due("rent(100): 1.0", x.rent(100), 1);
        Cases.due("rent(999999): 9999.99", x.rent(999999), 9999);
    }

    static void p25_rent_cutOfTheWholeNotOfEachLayerOrYear() {
        SnowByNumber x = Cases.laid("p1,7;p2,9;f1,1,1,0;f2,1,1,0;", 2);
        Cases.due("rent(1): 0.7 and 0.9", x.rent(1), 1);
        Cases.due("rent(2): 1.4 and 1.8", x.rent(2), 3);
        Cases.due("rent(5): 3.5 and 4.5", x.rent(5), 8);
    }

    static void p25_rent_beyondAnInt() {
        SnowByNumber x = Cases.laid("b999,99;p0,99;" + "f0,20,1,0;".repeat(4) + "f0,19,1,0;", 5);
        Cases.due("rent(999999)", x.rent(999999), 980099019L);
        // Sold, more let in and undone, all 12 times 200 tenths: 237600 a year.
        x = Cases.laid("b999,99;p0,99;" + "f0,20,1,0;".repeat(12), 4);
        for (int k = 5; k <= 12; k++) {
            Cases.due("sell", x.sell(k - 5, 200), 1980);
            Cases.due("fall()", x.fall(), k);
        }
        for (int k = 5; k <= 12; k++) {
            Cases.due("undo()", x.undo(), 200);
        }
        Cases.due("count(2)", x.count(2), 2400);
        Cases.due("rent(999999)", x.rent(999999), 2375997624L);
        Cases.due("rent(1)", x.rent(1), 2376);
    }

    static void p25_rent_badChangesNothing() {
        Cases.dueRefused(Cases::busy, "rent(0)", x -> x.rent(0), BAD);
        Cases.dueRefused(Cases::busy, "rent(1000000)", x -> x.rent(1000000), BAD);
        Cases.dueRefused(Cases::full, "rent(-1)", x -> x.rent(-1), BAD);
    }

    // ---- promise 26: winter

    private static int more(int z, int i, int v) {
        BigInteger x = BigInteger.valueOf(7919).multiply(BigInteger.valueOf(z))
            .add(BigInteger.valueOf(6151).multiply(BigInteger.valueOf(i))).add(BigInteger.ONE);
        return x.multiply(x).mod(BigInteger.valueOf(65521)).mod(BigInteger.valueOf(v + 1)).intValue();
    }

    /** How many come in of FALLS of so many inches, each as heavy. */
    private static int comeIn(int z, int v, int roof, int beams, int heavy, int... inches) {
        int high = 0;
        for (int i = 0; i < inches.length; i++) {
            high += inches[i] + more(z, i, v);
            if (high > roof || high * heavy > beams) {
                return i;
            }
        }
        return inches.length;
    }

    static void p26_winter_drawsFrom0To9999() {
        Cases.dueBadOutside(Cases.laid(Cases.SEVEN, 3), "winter(z)", 0, 9999, (x, z) -> x.winter(z));
        SnowByNumber x = Cases.laid("b999,15;f0,5,1,0;f1,5,1,0;v9;", 0);
        // z = 0: x is 1 and 6152, 1 and 7 inches more
        Cases.due("winter(0)", x.winter(0), 1);
        // x times x is far beyond an int here.
        Cases.due("winter(9999)", x.winter(9999), comeIn(9999, 9, 15, 999, 1, 5, 5));
    }

    static void p26_winter_theDrawOfTheFirstFall() {
        for (int v = 0; v <= 9; v++) {
            for (int z : new int[] {0, 1, 2, 3, 4, 5, 271, 272, 5000, 9998, 9999}) {
                int due = 1 + more(z, 0, v);
                String text = "v" + v + ";f0,1,1,0;";
                Cases.due("winter(" + z + ") of v" + v, Cases.laid(text + "b999," + due + ";", 0).winter(z), 1);
                if (due > 1) {
                    Cases.due("winter(" + z + ") of v" + v, Cases.laid(text + "b999," + (due - 1) + ";", 0).winter(z), 0);
                }
            }
        }
    }

    static void p26_winter_more0To9() {
        SnowByNumber none = Cases.laid("b999,5;v0;f0,5,1,0;", 0);
        SnowByNumber most = Cases.laid("b999,14;v9;f0,5,1,0;", 0);
        SnowByNumber lessThanMost = Cases.laid("b999,13;v9;f0,5,1,0;", 0);
        int nines = 0;
        for (int z = 0; z < 300; z++) {
            Cases.due("winter(" + z + ") of v0", none.winter(z), 1);
            Cases.due("winter(" + z + ") of v9", most.winter(z), 1);
            Cases.due("winter(" + z + ") of v9", lessThanMost.winter(z), more(z, 0, 9) == 9 ? 0 : 1);
            nines += more(z, 0, 9) == 9 ? 1 : 0;
        }
        Cases.due("a draw of 9 is among them", nines > 0 ? 1 : 0, 1);
    }

    static void p26_winter_howManyComeInAheadOfTheFirstThatCannot() {
        int[] inches = {1, 2, 3, 1, 2, 3, 1, 2, 3, 1, 2, 3};
        StringBuilder falls = new StringBuilder("v3;");
        for (int i : inches) {
            falls.append("f0,").append(i).append(",2,0;");
        }
        for (int roof = 1; roof <= 60; roof += 3) {
            SnowByNumber byRoof = Cases.laid(falls + "b999," + roof + ";", 0);
            SnowByNumber byBeams = Cases.laid(falls + "b" + roof + ",99;", 0);
            for (int z : new int[] {0, 7, 1234, 9999}) {
                Cases.due("winter(" + z + ") under " + roof, byRoof.winter(z), comeIn(z, 3, roof, 999, 2, inches));
                Cases.due("winter(" + z + ") on " + roof, byBeams.winter(z), comeIn(z, 3, 99, roof, 2, inches));
            }
        }
    }

    static void p26_winter_0IfTheFirstCannot() {
        Cases.due("winter(0) over the roof", Cases.laid("b9,1;f0,2,1,0;f0,1,1,0;", 0).winter(0), 0);
        Cases.due("winter(0) over the beams", Cases.laid("b1,9;f0,1,2,0;f0,1,1,0;", 0).winter(0), 0);
    }

    static void p26_winter_all12() {
        Cases.due("winter(0)", Cases.laid(TWELVE, 0).winter(0), 12);
        Cases.due("winter(0) full of both", Cases.laid("b12,12;" + TWELVE, 0).winter(0), 12);
        Cases.due("winter(0) under 11", Cases.laid("b12,11;" + TWELVE, 0).winter(0), 11);
        Cases.due("winter(0) on 11", Cases.laid("b11,12;" + TWELVE, 0).winter(0), 11);
    }

    static void p26_winter_aLighterOneBehindDoesNotCount() {
        Cases.due("winter(0)", Cases.laid("b999,5;f0,3,1,0;f0,3,1,0;f0,1,1,0;f0,1,1,0;", 0).winter(0), 1);
    }

    static void p26_winter_anEmptyBarnWhateverLiesThere() {
        SnowByNumber x = Cases.laid("b12,12;" + TWELVE, 12);
        Cases.due("winter(0) of a full BARN", x.winter(0), 12);
        Cases.due("ten(0) of a full BARN", x.ten(0), 10);
        x = Cases.laid("b999,5;f0,3,1,0;f0,3,1,0;f0,1,1,0;", 1);
        Cases.due("winter(0) of 1 LAYER", x.winter(0), 1);
        Cases.due("ten(0) of 1 LAYER", x.ten(0), 0);
        Cases.sellDownTo(x, 0, 0);
        Cases.due("winter(0) of an empty LAYER", x.winter(0), 1);
        Cases.due("fall()", x.fall(), 2);
        Cases.due("fall()", x.fall(), 3);
        Cases.due("winter(0) with all in", x.winter(0), 1);
        Cases.due("ten(0) with all in", x.ten(0), 0);
        x = Cases.busy();
        x.winter(5);
        x.ten(5);
        Cases.dueSame("winter(5), ten(5)", x, Cases.busy());
    }

    static void p26_winter_badChangesNothing() {
        Cases.dueRefused(Cases::busy, "winter(10000)", x -> x.winter(10000), BAD);
        Cases.dueRefused(Cases::full, "winter(-1)", x -> x.winter(-1), BAD);
    }

    // ---- promise 27: ten

    static void p27_ten_drawsFrom0To9999() {
        Cases.dueBadOutside(Cases.laid(Cases.SEVEN, 3), "ten(z)", 0, 9999, (x, z) -> x.ten(z));
    }

    static void p27_ten_from0To10() {
        Cases.due("ten(0) if none can", Cases.laid("b1,1;f0,2,1,0;", 0).ten(0), 0);
        Cases.due("ten(0) if all can", Cases.laid(TWELVE, 0).ten(0), 10);
        Cases.due("ten(0) if all but the last come in", Cases.laid("b99,11;" + TWELVE, 0).ten(0), 0);
        Cases.due("ten(9999) if all can", Cases.laid("b12,12;" + TWELVE, 0).ten(9999), 10);
    }

    /** Winters in which all do, of ten, each drawn modulo 10000. */
    private static int ten(int z, int v, int roof, int... inches) {
        int all = 0;
        for (int k = 0; k < 10; k++) {
            all += comeIn((z + k) % 10000, v, roof, 999, 1, inches) == inches.length ? 1 : 0;
        }
        return all;
    }

    static void p27_ten_upTo9999() {
        SnowByNumber x = Cases.laid("b999,20;f0,3,1,0;f0,3,1,0;f0,3,1,0;v6;", 0);
        Cases.due("ten(9990), to 9999", x.ten(9990), 6);
        Cases.due("ten(9989), to 9998", x.ten(9989), ten(9989, 6, 20, 3, 3, 3));
        SnowByNumber y = Cases.laid("b999,17;f0,5,1,0;f0,5,1,0;v8;", 0);
        Cases.due("ten(9990), to 9999", y.ten(9990), 4);
    }

    static void p27_ten_past9999From0On() {
        SnowByNumber x = Cases.laid("b999,20;f0,3,1,0;f0,3,1,0;f0,3,1,0;v6;", 0);
        int[] tens = {7, 7, 7, 7, 7, 7, 7, 6, 7};
        SnowByNumber y = Cases.laid("b999,17;f0,5,1,0;f0,5,1,0;v8;", 0);
        int[] others = {4, 5, 6, 5, 4, 5, 5, 6, 6};
        for (int k = 0; k < 9; k++) {
            Cases.due("ten(" + (9991 + k) + ")", x.ten(9991 + k), tens[k]);
            Cases.due("ten(" + (9991 + k) + ")", y.ten(9991 + k), others[k]);
            Cases.due("ten(" + (9991 + k) + ") by winters", tens[k], ten(9991 + k, 6, 20, 3, 3, 3));
        }
    }

    static void p27_ten_ofTenNotOfNineOrEleven() {
        SnowByNumber x = Cases.laid("b999,20;f0,3,1,0;f0,3,1,0;f0,3,1,0;v6;", 0);
        for (int z = 0; z < 400; z += 7) {
            Cases.due("ten(" + z + ")", x.ten(z), ten(z, 6, 20, 3, 3, 3));
        }
    }

    static void p27_ten_badChangesNothing() {
        Cases.dueRefused(Cases::busy, "ten(10000)", x -> x.ten(10000), BAD);
        Cases.dueRefused(Cases::full, "ten(-1)", x -> x.ten(-1), BAD);
    }

    // ---- promises 28 and 29: keep, back

    static void p28_keep_the2nd() {
        SnowByNumber x = Cases.laid(Cases.SEVEN, 2);
        Cases.due("keep()", x.keep(), 1);
        Cases.due("keep()", x.keep(), 2);
        Cases.due("count(7)", x.count(7), 2);
    }

    static void p28_keep_fullAtThe3rd() {
        SnowByNumber x = Cases.laid(Cases.SEVEN, 2);
        x.keep();
        x.keep();
        Cases.due("keep()", x.keep(), FULL);
        Cases.due("keep() once more", x.keep(), FULL);
        Cases.due("count(7)", x.count(7), 2);
        Cases.due("back()", x.back(), 1);
        Cases.due("keep() behind it", x.keep(), 2);
        Cases.due("keep()", x.keep(), FULL);
    }

    static void p28_keep_theEmptyBarn() {
        SnowByNumber x = Cases.laid(Cases.SEVEN, 0);
        Cases.due("keep()", x.keep(), 1);
        x.fall();
        x.fall();
        x.sell(0, 10);
        Cases.due("back()", x.back(), 0);
        Cases.dueCounts(x, 7, 0, 0, 0, 0, 0, 0, 0);
        Cases.due("undo()", x.undo(), NO);
        Cases.due("layer(0, 0)", x.layer(0, 0), BAD);
        Cases.due("fall()", x.fall(), 1);
        Cases.due("layer(0, 0)", x.layer(0, 0), 50);
        Cases.due("back()", x.back(), NO);
    }

    static void p28_keep_all12LayersAnd8Sales() {
        SnowByNumber x = Cases.laid("b999,99;" + "f0,2,1,3;".repeat(12), 12);
        for (int q = 1; q <= 8; q++) {
            x.sell(q + 3, q);
        }
        x.keep();
        for (int i = 0; i < 12; i++) {
            x.swap(i, 4);
            x.sell(i, 9);
        }
        Cases.due("back()", x.back(), 0);
        Cases.dueLayers(x, 0, 20, 20, 20, 20, 19, 18, 17, 16, 15, 14, 13, 12);
        Cases.dueLayers(x, 1, 3, 3, 3, 3, 3, 3, 3, 3, 3, 3, 3, 3);
        Cases.dueCounts(x, 12, 12, 204, 204, 36, 8);
        for (int q = 8; q >= 1; q--) {
            Cases.due("undo()", x.undo(), q);
            Cases.due("layer(" + (q + 3) + ", 0)", x.layer(q + 3, 0), 20);
        }
        Cases.due("undo()", x.undo(), NO);
    }

    static void p28_keep_nothingChangesByIt() {
        SnowByNumber x = Cases.laid(Cases.SEVEN, 4);
        x.sell(2, 5);
        x.swap(1, 1);
        x.mark(4);
        SnowByNumber twin = Cases.laid(Cases.SEVEN, 4);
        twin.sell(2, 5);
        twin.swap(1, 1);
        twin.mark(4);
        x.keep();
        x.back();
        Cases.dueSame("keep() and back()", x, twin);
    }

    static void p28_keep_whatIsKeptStaysAsItIs() {
        SnowByNumber x = Cases.laid(Cases.SEVEN, 3);
        x.sell(0, 11);
        x.keep();
        x.undo();
        x.sell(1, 40);
        x.swap(0, 8);
        x.thaw(2);
        x.fall();
        Cases.due("back()", x.back(), 0);
        Cases.dueLayers(x, 0, 39, 40, 80);
        Cases.dueLayers(x, 1, 1, 4, 1);
        Cases.dueCounts(x, 7, 3, 159, 39 * 2 + 120 + 80, 33, 1);
        Cases.due("undo()", x.undo(), 11);
        Cases.due("layer(0, 0)", x.layer(0, 0), 50);
        Cases.due("count(4)", x.count(4), 0);
    }

    static void p28_keep_fullChangesNothing() {
        Cases.dueRefused(Cases::full, "keep()", x -> x.keep(), FULL);
    }

    static void p29_back_noIfNothingIsKept() {
        Cases.due("back()", new SnowByNumber().back(), NO);
        SnowByNumber x = Cases.laid(Cases.SEVEN, 2);
        x.keep();
        Cases.due("back()", x.back(), 0);
        Cases.due("back()", x.back(), NO);
        x.fall();
        Cases.due("back()", x.back(), NO);
        Cases.due("count(1)", x.count(1), 3);
    }

    static void p29_back_theOneKeptLastFirst() {
        SnowByNumber x = Cases.laid(Cases.SEVEN, 1);
        x.keep();
        x.fall();
        x.keep();
        x.fall();
        Cases.due("back()", x.back(), 1);
        Cases.due("count(1)", x.count(1), 2);
        Cases.due("count(7)", x.count(7), 1);
        Cases.due("back()", x.back(), 0);
        Cases.due("count(1)", x.count(1), 1);
        Cases.due("count(7)", x.count(7), 0);
        Cases.due("back()", x.back(), NO);
        Cases.due("count(1)", x.count(1), 1);
    }

    static void p29_back_keptAgainInThePlaceOfTheSecond() {
        SnowByNumber x = Cases.laid(Cases.SEVEN, 1);
        x.keep();
        x.fall();
        x.keep();
        x.back();
        x.fall();
        Cases.due("keep()", x.keep(), 2);
        x.fall();
        Cases.due("back()", x.back(), 1);
        Cases.due("count(1)", x.count(1), 3);
        Cases.due("back()", x.back(), 0);
        Cases.due("count(1)", x.count(1), 1);
    }

    static void p29_back_theNextFallIsAsItWas() {
        SnowByNumber x = Cases.laid(Cases.SEVEN, 2);
        x.keep();
        for (int n = 3; n <= 7; n++) {
            Cases.due("fall()", x.fall(), n);
        }
        Cases.due("fall()", x.fall(), NO);
        x.back();
        Cases.due("fall()", x.fall(), 3);
        Cases.due("layer(2, 0)", x.layer(2, 0), 80);
        Cases.due("layer(2, 1)", x.layer(2, 1), 1);
        Cases.due("layer(3, 0)", x.layer(3, 0), BAD);
    }

    static void p29_back_marksAndTheTextAreNotKept() {
        SnowByNumber x = Cases.laid(Cases.SEVEN, 2);
        Cases.marks(x, "1");
        x.keep();
        Cases.marks(x, "149");
        x.wipe();
        Cases.write(x, "t7;");
        Cases.due("back()", x.back(), 0);
        Cases.due("count(6)", x.count(6), 3);
        Cases.due("count(8)", x.count(8), 3);
        Cases.due("far()", x.far(), 1);
        Cases.due("odd()", x.odd(), 2);
    }

    static void p29_back_nothingBehindLay() {
        SnowByNumber x = Cases.full();
        Cases.layAnew(x, Cases.SEVEN);
        Cases.due("back()", x.back(), NO);
        Cases.due("keep()", x.keep(), 1);
        Cases.due("keep()", x.keep(), 2);
        Cases.due("keep()", x.keep(), FULL);
    }

    static void p29_back_noChangesNothing() {
        Cases.dueRefused(() -> {
            SnowByNumber x = Cases.busy();
            x.back();
            x.fall();
            return x;
        }, "back()", x -> x.back(), NO);
        Cases.dueRefused(SnowByNumber::new, "back()", x -> x.back(), NO);
    }

    // ---- promise 30: count

    static void p30_count_whatFrom0To8() {
        Cases.dueBadOutside(Cases.full(), "count(what)", 0, 8, (x, what) -> x.count(what));
        Cases.dueBadOutside(new SnowByNumber(), "count(what)", 0, 8, (x, what) -> x.count(what));
    }

    static void p30_count_ofANewObject() {
        Cases.dueCounts(new SnowByNumber(), 1, 0, 0, 0, 0, 0, 0, 0, 0);
    }

    static void p30_count_ofAllThatIsFull() {
        Cases.dueCounts(Cases.full(), 12, 12, 555, 655, 41, 8, 14, 2, 400);
    }

    static void p30_count_ofMuch() {
        // Of 50, 40, 80, 30 tenths 11, 23, 0, 5 are sold, 12 of the last are thawed.
        Cases.dueCounts(Cases.busy(), 7, 4, 39 + 17 + 80 + 13, 78 + 51 + 80 + 65, 33 + 69 + 3, 3, 3, 1, 11);
    }

    static void p30_count_8SalesAtMost() {
        SnowByNumber x = Cases.laid("f0,20,1,0;", 1);
        int[] due = {0, 1, 2, 3, 4, 5, 6, 7, 8, 8, 8};
        for (int k = 0; k < due.length; k++) {
            Cases.due("count(5) behind " + k, x.count(5), due[k]);
            x.sell(0, 1);
        }
        for (int k = 7; k >= 0; k--) {
            x.undo();
            Cases.due("count(5)", x.count(5), k);
        }
        x.undo();
        Cases.due("count(5)", x.count(5), 0);
    }

    static void p30_count_changesNothing() {
        SnowByNumber x = Cases.busy();
        for (int what = -1; what <= 9; what++) {
            x.count(what);
        }
        Cases.dueSame("counts", x, Cases.busy());
    }

    static void p30_count_badChangesNothing() {
        Cases.dueRefused(Cases::busy, "count(9)", x -> x.count(9), BAD);
        Cases.dueRefused(Cases::full, "count(-1)", x -> x.count(-1), BAD);
    }

    public static void main(String[] args) {
        Cases.run(RentBoundsTest.class);
    }
}
