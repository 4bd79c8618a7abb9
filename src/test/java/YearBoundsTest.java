// Promises 15 to 24: each boundary case that the document names of what is kept and of which YEAR it is.
public final class YearBoundsTest {
    private static final int BAD = -1, FULL = -3, NONE = -4;
    private static final String TWELVE = "f0,1,1,0;f1,1,1,1;f2,1,1,2;f3,1,1,3;f4,1,1,4;f5,1,1,5;f6,1,1,6;f7,1,1,7;"
        + "f8,1,1,8;f9,1,1,9;f10,1,1,8;f11,1,1,7;";

    /** LAYERS of 200 tenths, heavy 9, all in one YEAR and, by SALES undone, far over roof and beams. */
    private static SnowByNumber overfull(int layers) {
        SnowByNumber x = Cases.laid("b999,99;" + "f7,20,9,0;".repeat(12), 4);
        for (int n = 5; n <= layers; n++) {
            Cases.due("sell", x.sell(n - 5, 200), 200);
            Cases.due("fall()", x.fall(), n);
        }
        for (int n = 5; n <= layers; n++) {
            Cases.due("undo()", x.undo(), 200);
        }
        return x;
    }

    // ---- promise 15: letGo

    private static void dueLetGo(SnowByNumber x, int l, int w, int set, int years, int tenths) {
        String call = "letGo(" + l + ", " + w + ", ";
        Cases.due(call + "0)", x.letGo(l, w, 0), set);
        Cases.due(call + "1)", x.letGo(l, w, 1), years);
        Cases.due(call + "2)", x.letGo(l, w, 2), tenths);
    }

    static void p15_letGo_beamsFrom1To999() {
        Cases.dueBadOutside(Cases.laid(TWELVE, 3), "letGo(l, 5, 0)", 1, 999, (x, l) -> x.letGo(l, 5, 0));
        Cases.dueBadOutside(new SnowByNumber(), "letGo(l, 5, 0)", 1, 999, (x, l) -> x.letGo(l, 5, 0));
    }

    static void p15_letGo_aRoofFrom1To99() {
        Cases.dueBadOutside(Cases.laid(TWELVE, 3), "letGo(5, w, 1)", 1, 99, (x, w) -> x.letGo(5, w, 1));
        Cases.dueBadOutside(new SnowByNumber(), "letGo(5, w, 1)", 1, 99, (x, w) -> x.letGo(5, w, 1));
    }

    static void p15_letGo_whatFrom0To2() {
        Cases.dueBadOutside(Cases.laid(TWELVE, 3), "letGo(5, 5, what)", 0, 2, (x, what) -> x.letGo(5, 5, what));
        Cases.dueBadOutside(new SnowByNumber(), "letGo(5, 5, what)", 0, 2, (x, what) -> x.letGo(5, 5, what));
    }

    static void p15_letGo_theEmptyBarn() {
        dueLetGo(new SnowByNumber(), 1, 1, 0, 0, 0);
        dueLetGo(new SnowByNumber(), 999, 99, 0, 0, 0);
    }

    static void p15_letGo_nothingIfAllMayStay() {
        dueLetGo(Cases.laid(TWELVE, 12), 12, 12, 0, 12, 120);
        dueLetGo(Cases.laid(TWELVE, 12), 999, 99, 0, 12, 120);
        dueLetGo(Cases.laid("b999,99;" + "f0,20,9,0;".repeat(4) + "f1,19,9,0;", 5), 891, 99, 0, 2, 990);
    }

    static void p15_letGo_allIfNoneMayStay() {
        dueLetGo(Cases.laid("f0,2,1,0;", 1), 99, 1, 1, 0, 0);
        dueLetGo(Cases.laid("f0,1,2,0;", 1), 1, 99, 1, 0, 0);
        dueLetGo(Cases.laid("f0,2,1,0;".repeat(12), 12), 999, 1, 4095, 0, 0);
        dueLetGo(Cases.laid("f0,1,2,0;".repeat(12), 12), 1, 99, 4095, 0, 0);
    }

    static void p15_letGo_highOf10WAndATenthMore() {
        SnowByNumber x = Cases.laid("f0,2,1,0;f1,1,1,0;", 2);
        Cases.sellDownTo(x, 0, 11);
        dueLetGo(x, 999, 2, 2, 1, 11);
        Cases.sellDownTo(x, 0, 10);
        dueLetGo(x, 999, 2, 0, 2, 20);
        dueLetGo(x, 999, 1, 1, 1, 10);
    }

    static void p15_letGo_loadOf10LAndOneMore() {
        SnowByNumber x = Cases.laid("f0,1,3,0;f1,2,1,0;", 2);
        Cases.sellDownTo(x, 1, 11);
        dueLetGo(x, 4, 99, 1, 1, 11);
        Cases.sellDownTo(x, 1, 10);
        dueLetGo(x, 4, 99, 0, 2, 20);
        dueLetGo(x, 3, 99, 1, 1, 10);
        dueLetGo(x, 1, 99, 1, 1, 10);
    }

    static void p15_letGo_roofAndBeamsBoth() {
        // 20 tenths heavy 3, 30 tenths heavy 1
        SnowByNumber x = Cases.laid("f0,2,3,0;f0,3,1,0;", 2);
        dueLetGo(x, 3, 99, 1, 1, 30);
        dueLetGo(x, 99, 2, 2, 1, 20);
        dueLetGo(x, 3, 2, 3, 0, 0);
        dueLetGo(x, 6, 2, 2, 1, 20);
        dueLetGo(x, 3, 3, 1, 1, 30);
        dueLetGo(x, 9, 5, 0, 1, 50);
        dueLetGo(x, 8, 5, 1, 1, 30);
        dueLetGo(x, 9, 4, 1, 1, 30);
    }

    static void p15_letGo_mostYearsAheadOfMostTenths() {
        dueLetGo(Cases.laid("f0,9,1,0;f1,1,1,0;f2,1,1,0;", 3), 999, 9, 1, 2, 20);
        dueLetGo(Cases.laid("f0,9,1,0;f1,1,1,0;f2,1,1,0;", 3), 999, 10, 2, 2, 100);
        dueLetGo(Cases.laid("f0,9,1,0;f0,9,1,0;f2,1,1,0;", 3), 999, 18, 1, 2, 100);
    }

    static void p15_letGo_yearsOfWhichSomeTenthsAreLeft() {
        SnowByNumber x = Cases.laid("f0,1,1,0;f1,1,1,0;f2,5,1,0;", 3);
        Cases.sellDownTo(x, 0, 1);
        dueLetGo(x, 999, 1, 5, 1, 10);
        Cases.sellDownTo(x, 1, 9);
        dueLetGo(x, 999, 1, 4, 2, 10);
        Cases.sellDownTo(x, 0, 0);
        dueLetGo(x, 999, 99, 0, 2, 59);
        dueLetGo(x, 999, 1, 4, 1, 9);
        Cases.sellDownTo(x, 1, 0);
        Cases.sellDownTo(x, 2, 0);
        dueLetGo(x, 1, 1, 0, 0, 0);
    }

    static void p15_letGo_aYearOfSeveralLayersIsOne() {
        SnowByNumber x = Cases.laid("f0,1,1,0;f0,1,1,0;f0,1,1,0;f1,3,1,0;", 4);
        dueLetGo(x, 999, 3, 7, 1, 30);
        dueLetGo(x, 999, 4, 3, 2, 40);
        dueLetGo(x, 999, 99, 0, 2, 60);
    }

    static void p15_letGo_thenMostTenths() {
        SnowByNumber x = Cases.laid("f0,2,1,0;f0,3,1,0;f0,4,1,0;", 3);
        dueLetGo(x, 999, 8, 1, 1, 70);
        dueLetGo(x, 999, 6, 2, 1, 60);
        dueLetGo(x, 999, 5, 4, 1, 50);
        dueLetGo(x, 999, 4, 3, 1, 40);
        dueLetGo(x, 999, 3, 5, 1, 30);
        dueLetGo(x, 999, 2, 6, 1, 20);
    }

    static void p15_letGo_thenTheLeastBits() {
        SnowByNumber x = Cases.laid("f0,1,1,0;f0,1,1,0;f0,1,1,0;f0,3,1,0;", 4);
        dueLetGo(x, 999, 5, 1, 1, 50);
        dueLetGo(x, 999, 4, 3, 1, 40);
        dueLetGo(x, 999, 3, 7, 1, 30);
        dueLetGo(x, 999, 2, 9, 1, 20);
        dueLetGo(x, 999, 1, 11, 1, 10);
        dueLetGo(Cases.laid(TWELVE, 12), 999, 1, 2047, 1, 10);
    }

    static void p15_letGo_anEmptyLayerIsNoneOfTheLeastBits() {
        SnowByNumber x = Cases.laid("f0,1,1,0;f1,1,1,0;f2,1,1,0;f3,1,1,0;", 4);
        Cases.sellDownTo(x, 0, 0);
        Cases.sellDownTo(x, 2, 0);
        dueLetGo(x, 999, 1, 2, 1, 10);
        dueLetGo(x, 999, 2, 0, 2, 20);
        Cases.sellDownTo(x, 1, 0);
        Cases.sellDownTo(x, 3, 0);
        dueLetGo(x, 1, 1, 0, 0, 0);
    }

    static void p15_letGo_anEmptyLayerOfAYearThatHasOthers() {
        SnowByNumber x = Cases.laid("f0,1,1,0;f0,1,1,0;f1,1,1,0;f1,2,1,0;f1,1,1,0;", 5);
        Cases.sellDownTo(x, 0, 0);
        Cases.sellDownTo(x, 2, 0);
        dueLetGo(x, 999, 4, 0, 2, 40);
        dueLetGo(x, 999, 3, 16, 2, 30);
        dueLetGo(x, 999, 2, 8, 2, 20);
        dueLetGo(x, 999, 1, 10, 1, 10);
    }

    static void p15_letGo_aTenthIsSome() {
        SnowByNumber x = Cases.laid("f0,2,1,0;f1,1,1,0;", 2);
        Cases.sellDownTo(x, 1, 1);
        dueLetGo(x, 999, 2, 2, 1, 20);
        Cases.sellDownTo(x, 0, 19);
        dueLetGo(x, 999, 2, 0, 2, 20);
    }

    static void p15_letGo_aBarnFarOverItsRoof() {
        dueLetGo(overfull(5), 999, 99, 1, 1, 800);
        dueLetGo(overfull(12), 999, 99, 255, 1, 800);
        dueLetGo(overfull(12), 1, 1, 4095, 0, 0);
    }

    static void p15_letGo_changesNothing() {
        SnowByNumber x = Cases.busy();
        x.letGo(1, 1, 0);
        x.letGo(10, 10, 2);
        Cases.dueSame("letGo(1, 1, 0)", x, Cases.busy());
    }

    static void p15_letGo_badChangesNothing() {
        Cases.dueRefused(Cases::busy, "letGo(0, 1, 0)", x -> x.letGo(0, 1, 0), BAD);
        Cases.dueRefused(Cases::busy, "letGo(1000, 1, 0)", x -> x.letGo(1000, 1, 0), BAD);
        Cases.dueRefused(Cases::busy, "letGo(1, 0, 0)", x -> x.letGo(1, 0, 0), BAD);
        Cases.dueRefused(Cases::busy, "letGo(1, 100, 0)", x -> x.letGo(1, 100, 0), BAD);
        Cases.dueRefused(Cases::full, "letGo(1, 1, 3)", x -> x.letGo(1, 1, 3), BAD);
        Cases.dueRefused(Cases::full, "letGo(1, 1, -1)", x -> x.letGo(1, 1, -1), BAD);
    }

    // ---- promise 16: odds

    private static void dueOdds(SnowByNumber x, int dust, int heavy, int year, int above, int below) {
        String call = "odds(" + dust + ", " + heavy + ", " + year + ", ";
        Cases.due(call + "0)", x.odds(dust, heavy, year, 0), above);
        Cases.due(call + "1)", x.odds(dust, heavy, year, 1), below);
    }

    static void p16_odds_dustFrom0To9() {
        Cases.dueBadOutside(Cases.laid(TWELVE, 3), "odds(dust, 1, 0, 1)", 0, 9, (x, dust) -> x.odds(dust, 1, 0, 1));
        dueOdds(Cases.laid("f0,1,1,0;f1,1,1,9;", 2), 0, 1, 0, 9, 10);
        dueOdds(Cases.laid("f0,1,1,0;f1,1,1,9;", 2), 9, 1, 0, 1, 10);
    }

    static void p16_odds_heavyFrom1To9() {
        Cases.dueBadOutside(Cases.laid(TWELVE, 3), "odds(0, heavy, 0, 1)", 1, 9, (x, heavy) -> x.odds(0, heavy, 0, 1));
        dueOdds(Cases.laid("f0,1,1,0;f1,1,9,0;", 2), 0, 1, 0, 9, 10);
        dueOdds(Cases.laid("f0,1,1,0;f1,1,9,0;", 2), 0, 9, 0, 1, 10);
    }

    static void p16_odds_yearsFrom0To99() {
        Cases.dueBadOutside(Cases.laid(TWELVE, 3), "odds(0, 1, year, 0)", 0, 99, (x, year) -> x.odds(0, 1, year, 0));
        SnowByNumber x = Cases.laid("f0,1,1,0;f50,1,1,0;f99,2,1,0;", 3);
        dueOdds(x, 0, 1, 0, 1, 4);
        dueOdds(x, 0, 1, 50, 1, 4);
        dueOdds(x, 0, 1, 99, 1, 2);
    }

    static void p16_odds_part0Or1() {
        Cases.dueBadOutside(Cases.laid(TWELVE, 3), "odds(0, 1, 0, part)", 0, 1, (x, part) -> x.odds(0, 1, 0, part));
    }

    static void p16_odds_slip0And4() {
        dueOdds(Cases.laid("s0;f0,1,1,0;f1,1,1,1;", 2), 0, 1, 0, 1, 1);
        dueOdds(Cases.laid("s0;f0,1,1,0;f1,1,1,1;", 2), 0, 1, 1, 0, 1);
        dueOdds(Cases.laid("s4;f0,1,1,0;f1,1,1,1;", 2), 0, 1, 0, 3, 5);
        dueOdds(Cases.laid("s4;f0,1,1,0;f1,1,1,1;", 2), 0, 1, 1, 2, 5);
    }

    static void p16_odds_lowestTermsOfAllAndOfNothing() {
        SnowByNumber x = Cases.laid("f5,7,3,2;f5,4,2,1;", 2);
        dueOdds(x, 2, 3, 5, 1, 1);
        dueOdds(x, 2, 3, 6, 0, 1);
        dueOdds(x, 0, 9, 5, 1, 1);
        dueOdds(x, 0, 9, 0, 0, 1);
    }

    static void p16_odds_lowestTermsThatAreSoAlready() {
        SnowByNumber x = Cases.laid("f5,1,2,0;f6,1,2,1;", 2);
        Cases.sellDownTo(x, 0, 1);
        Cases.sellDownTo(x, 1, 2);
        // 1 by 9 and 1, 2 by 1 and 1
        dueOdds(x, 0, 3, 5, 9, 11);
        dueOdds(x, 0, 3, 6, 2, 11);
    }

    static void p16_odds_theWeightsOfAYearTogether() {
        // 10 of DUST 1 by 8 and 9, 20 of DUST 2 by 2 and 1; 30 of DUST 1 by 8 and 1: 760 and 240
        SnowByNumber x = Cases.laid("s2;f4,1,3,1;f4,2,4,2;f6,3,5,1;", 3);
        dueOdds(x, 1, 3, 4, 19, 25);
        dueOdds(x, 1, 3, 6, 6, 25);
    }

    static void p16_odds_theGreatestWeights() {
        SnowByNumber x = Cases.laid("b999,99;s0;" + "f0,20,9,3;".repeat(4) + "f1,19,9,3;", 5);
        dueOdds(x, 3, 9, 0, 80, 99);
        dueOdds(x, 3, 9, 1, 19, 99);
        Cases.sellDownTo(x, 4, 189);
        // 72000 and 17010 of 89010
        dueOdds(x, 3, 9, 1, 189, 989);
        dueOdds(x, 3, 9, 0, 800, 989);
    }

    static void p16_odds_noneOfTheEmptyBarn() {
        dueOdds(new SnowByNumber(), 1, 2, 0, NONE, NONE);
        dueOdds(Cases.laid(TWELVE, 0), 0, 1, 0, NONE, NONE);
    }

    static void p16_odds_noneOfEmptyLayers() {
        SnowByNumber x = Cases.laid("f0,1,1,0;f1,1,1,0;", 2);
        Cases.sellDownTo(x, 0, 0);
        dueOdds(x, 0, 1, 0, 0, 1);
        dueOdds(x, 0, 1, 1, 1, 1);
        Cases.sellDownTo(x, 1, 1);
        dueOdds(x, 0, 1, 1, 1, 1);
        Cases.sellDownTo(x, 1, 0);
        dueOdds(x, 0, 1, 0, NONE, NONE);
        dueOdds(x, 0, 1, 1, NONE, NONE);
    }

    static void p16_odds_noneIfNoneCanSlip() {
        SnowByNumber x = Cases.laid("s0;f0,1,1,0;f1,1,1,1;", 2);
        dueOdds(x, 2, 1, 0, NONE, NONE);
        dueOdds(x, 1, 1, 0, 0, 1);
        x = Cases.laid("s1;f0,1,1,0;f1,1,1,1;", 2);
        dueOdds(x, 2, 1, 0, 1, 2);
    }

    static void p16_odds_badAheadOfNone() {
        SnowByNumber x = new SnowByNumber();
        Cases.due("odds(10, 1, 0, 0)", x.odds(10, 1, 0, 0), BAD);
        Cases.due("odds(-1, 1, 0, 0)", x.odds(-1, 1, 0, 0), BAD);
        Cases.due("odds(0, 0, 0, 0)", x.odds(0, 0, 0, 0), BAD);
        Cases.due("odds(0, 10, 0, 0)", x.odds(0, 10, 0, 0), BAD);
        Cases.due("odds(0, 1, -1, 0)", x.odds(0, 1, -1, 0), BAD);
        Cases.due("odds(0, 1, 100, 0)", x.odds(0, 1, 100, 0), BAD);
        Cases.due("odds(0, 1, 0, -1)", x.odds(0, 1, 0, -1), BAD);
        Cases.due("odds(0, 1, 0, 2)", x.odds(0, 1, 0, 2), BAD);
    }

    static void p16_odds_refusedChangesNothing() {
        Cases.dueRefused(Cases::busy, "odds(10, 1, 1, 0)", x -> x.odds(10, 1, 1, 0), BAD);
        Cases.dueRefused(Cases::busy, "odds(1, 0, 1, 0)", x -> x.odds(1, 0, 1, 0), BAD);
        Cases.dueRefused(Cases::busy, "odds(1, 1, 100, 0)", x -> x.odds(1, 1, 100, 0), BAD);
        Cases.dueRefused(Cases::busy, "odds(1, 1, 1, 2)", x -> x.odds(1, 1, 1, 2), BAD);
        Cases.dueRefused(YearBoundsTest::soldOut, "odds(1, 1, 1, 0)", x -> x.odds(1, 1, 1, 0), NONE);
    }

    /** Four LAYERS without a tenth, two of them by SALES that can be undone. */
    private static SnowByNumber soldOut() {
        SnowByNumber x = Cases.laid("t50;f3,5,2,1;f3,4,3,4;f7,8,1,1;f8,3,5,9;f9,1,1,1;f9,2,1,1;f9,3,1,1;", 4);
        x.sell(1, 40);
        x.keep();
        x.sell(2, 80);
        x.thaw(0);
        x.thaw(2);
        x.swap(0, 7);
        return x;
    }

    // ---- promise 17: likeliest

    static void p17_likeliest_dustFrom0To9() {
        Cases.dueBadOutside(Cases.laid(TWELVE, 3), "likeliest(dust, 1)", 0, 9, (x, dust) -> x.likeliest(dust, 1));
        SnowByNumber x = Cases.laid("f0,1,1,9;f1,1,1,0;", 2);
        Cases.due("likeliest(0, 1)", x.likeliest(0, 1), 1);
        Cases.due("likeliest(9, 1)", x.likeliest(9, 1), 0);
    }

    static void p17_likeliest_heavyFrom1To9() {
        Cases.dueBadOutside(Cases.laid(TWELVE, 3), "likeliest(1, heavy)", 1, 9, (x, heavy) -> x.likeliest(1, heavy));
        SnowByNumber x = Cases.laid("f0,1,9,0;f1,1,1,0;", 2);
        Cases.due("likeliest(0, 1)", x.likeliest(0, 1), 1);
        Cases.due("likeliest(0, 9)", x.likeliest(0, 9), 0);
    }

    static void p17_likeliest_years0And99() {
        Cases.due("likeliest(0, 1)", Cases.laid("f0,2,1,0;f99,1,1,0;", 2).likeliest(0, 1), 0);
        Cases.due("likeliest(0, 1)", Cases.laid("f0,1,1,0;f99,2,1,0;", 2).likeliest(0, 1), 99);
    }

    static void p17_likeliest_ofSeveralTheLowest() {
        SnowByNumber x = Cases.laid("f3,1,1,0;f5,2,1,0;f7,2,1,0;f9,1,1,0;f9,1,1,0;", 5);
        Cases.due("likeliest(0, 1)", x.likeliest(0, 1), 5);
        Cases.sellDownTo(x, 1, 19);
        Cases.due("likeliest(0, 1)", x.likeliest(0, 1), 7);
        Cases.sellDownTo(x, 2, 19);
        Cases.due("likeliest(0, 1)", x.likeliest(0, 1), 9);
    }

    static void p17_likeliest_aYearOfSeveralLayersTogether() {
        SnowByNumber x = Cases.laid("f1,2,1,0;f2,1,1,0;f2,1,1,0;f2,1,1,0;", 4);
        Cases.due("likeliest(0, 1)", x.likeliest(0, 1), 2);
    }

    static void p17_likeliest_noneOfTheEmptyBarn() {
        Cases.due("likeliest(1, 2)", new SnowByNumber().likeliest(1, 2), NONE);
        Cases.due("likeliest(0, 1)", Cases.laid(TWELVE, 0).likeliest(0, 1), NONE);
    }

    static void p17_likeliest_noneOfEmptyLayers() {
        SnowByNumber x = Cases.laid("f0,1,1,0;f8,1,1,1;", 2);
        Cases.sellDownTo(x, 0, 0);
        Cases.due("likeliest(0, 1)", x.likeliest(0, 1), 8);
        Cases.sellDownTo(x, 1, 1);
        Cases.due("likeliest(0, 9) of a tenth", x.likeliest(0, 9), 8);
        Cases.sellDownTo(x, 1, 0);
        Cases.due("likeliest(0, 1)", x.likeliest(0, 1), NONE);
    }

    static void p17_likeliest_noneIfNoneCanSlip() {
        SnowByNumber x = Cases.laid("s0;f3,1,1,0;f4,1,1,1;", 2);
        Cases.due("likeliest(2, 1)", x.likeliest(2, 1), NONE);
        Cases.due("likeliest(1, 9)", x.likeliest(1, 9), 4);
        x.swap(0, 2);
        Cases.due("likeliest(2, 1): by the DUST of its FALL", x.likeliest(2, 1), NONE);
    }

    static void p17_likeliest_badAheadOfNone() {
        SnowByNumber x = new SnowByNumber();
        Cases.due("likeliest(-1, 1)", x.likeliest(-1, 1), BAD);
        Cases.due("likeliest(10, 1)", x.likeliest(10, 1), BAD);
        Cases.due("likeliest(0, 0)", x.likeliest(0, 0), BAD);
        Cases.due("likeliest(0, 10)", x.likeliest(0, 10), BAD);
    }

    static void p17_likeliest_refusedChangesNothing() {
        Cases.dueRefused(Cases::busy, "likeliest(10, 1)", x -> x.likeliest(10, 1), BAD);
        Cases.dueRefused(Cases::full, "likeliest(1, 0)", x -> x.likeliest(1, 0), BAD);
        Cases.dueRefused(YearBoundsTest::soldOut, "likeliest(1, 1)", x -> x.likeliest(1, 1), NONE);
    }

    // ---- promises 18 and 19: mark, noMarks

    static void p18_mark_dustFrom0To9() {
        Cases.dueBadOutside(new SnowByNumber(), "mark(dust)", 0, 9, (x, dust) -> x.mark(dust));
        SnowByNumber x = Cases.laid("f0,1,1,0;f0,1,1,9;", 2);
        Cases.due("mark(0)", x.mark(0), 1);
        Cases.due("mark(9)", x.mark(9), 2);
        Cases.due("far()", x.far(), 0);
    }

    static void p18_mark_the14th() {
        SnowByNumber x = new SnowByNumber();
        for (int k = 1; k <= 14; k++) {
            Cases.due("mark(3)", x.mark(3), k);
            Cases.due("count(6)", x.count(6), k);
        }
        Cases.due("far()", x.far(), 14);
    }

    static void p18_mark_fullAtThe15th() {
        SnowByNumber x = new SnowByNumber();
        Cases.marks(x, "33333333333333");
        Cases.due("mark(3)", x.mark(3), FULL);
        Cases.due("mark(0)", x.mark(0), FULL);
        Cases.due("count(6)", x.count(6), 14);
        Cases.due("far()", x.far(), 14);
    }

    static void p18_mark_badAheadOfFull() {
        SnowByNumber x = new SnowByNumber();
        Cases.marks(x, "33333333333333");
        Cases.due("mark(10)", x.mark(10), BAD);
        Cases.due("mark(-1)", x.mark(-1), BAD);
    }

    static void p18_mark_refusedChangesNothing() {
        Cases.dueRefused(Cases::busy, "mark(10)", x -> x.mark(10), BAD);
        Cases.dueRefused(Cases::busy, "mark(-1)", x -> x.mark(-1), BAD);
        Cases.dueRefused(Cases::full, "mark(1)", x -> x.mark(1), FULL);
        Cases.dueRefused(Cases::full, "mark(10)", x -> x.mark(10), BAD);
    }

    static void p19_noMarks_ofTheEmptyRow() {
        SnowByNumber x = new SnowByNumber();
        Cases.due("noMarks()", x.noMarks(), 0);
        Cases.due("noMarks()", x.noMarks(), 0);
        Cases.due("mark(1)", x.mark(1), 1);
    }

    static void p19_noMarks_ofOneAndOf14() {
        SnowByNumber x = Cases.laid(TWELVE, 1);
        Cases.marks(x, "0");
        Cases.due("noMarks()", x.noMarks(), 1);
        Cases.due("far()", x.far(), 1);
        Cases.marks(x, "01234567890123");
        Cases.due("noMarks()", x.noMarks(), 14);
        Cases.due("count(6)", x.count(6), 0);
        Cases.due("noMarks()", x.noMarks(), 0);
        Cases.due("mark(0): the first again", x.mark(0), 1);
        Cases.due("far()", x.far(), 0);
    }

    static void p19_noMarks_allElseStays() {
        SnowByNumber x = Cases.busy();
        Cases.due("noMarks()", x.noMarks(), 3);
        Cases.marks(x, "170");
        Cases.dueSame("noMarks() and the same MARKS", x, Cases.busy());
    }

    // ---- promises 20 and 21: far, odd

    private static void dueFar(SnowByNumber x, String dusts, int far) {
        Cases.marks(x, dusts);
        Cases.due("far() of " + dusts, x.far(), far);
    }

    private static void dueOdd(SnowByNumber x, String dusts, int odd) {
        Cases.marks(x, dusts);
        Cases.due("odd() of " + dusts, x.odd(), odd);
    }

    static void p20_far_noMarksAndNoLayers() {
        dueFar(new SnowByNumber(), "", 0);
    }

    static void p20_far_noMarks() {
        for (int n = 0; n <= 12; n++) {
            dueFar(Cases.laid(TWELVE, n), "", n);
        }
    }

    static void p20_far_noLayers() {
        dueFar(Cases.laid(TWELVE, 0), "0", 1);
        dueFar(Cases.laid(TWELVE, 0), "01234567890123", 14);
    }

    static void p20_far_14MarksOf12Layers() {
        SnowByNumber x = Cases.laid(TWELVE, 12);
        dueFar(x, "012345678987", 0);
        dueFar(x, "01234567898712", 2);
        dueFar(x, "12012345678987", 2);
        dueFar(x, "01234156789871", 2);
        dueFar(x, "99999999999999", 13);
        dueFar(Cases.laid("f0,1,1,0;".repeat(12), 12), "11111111111111", 14);
    }

    static void p20_far_oneChangeOfEachKind() {
        SnowByNumber x = Cases.laid(TWELVE, 4);
        dueFar(x, "0123", 0);
        dueFar(x, "012", 1);
        dueFar(x, "123", 1);
        dueFar(x, "023", 1);
        dueFar(x, "90123", 1);
        dueFar(x, "01293", 1);
        dueFar(x, "01239", 1);
        dueFar(x, "9123", 1);
        dueFar(x, "0193", 1);
        dueFar(x, "0129", 1);
        dueFar(x, "1032", 3);
        dueFar(x, "1230", 2);
        dueFar(x, "3012", 2);
        dueFar(x, "3210", 4);
    }

    static void p20_far_layersThatHaveSomeTenths() {
        SnowByNumber x = Cases.laid(TWELVE, 3);
        Cases.sellDownTo(x, 1, 1);
        dueFar(x, "012", 0);
        Cases.sellDownTo(x, 1, 0);
        dueFar(x, "012", 1);
        dueFar(x, "02", 0);
        Cases.sellDownTo(x, 0, 0);
        Cases.sellDownTo(x, 2, 0);
        dueFar(x, "", 0);
        dueFar(x, "02", 2);
        x.undo();
        dueFar(x, "02", 1);
    }

    static void p20_far_asTheLayersShow() {
        SnowByNumber x = Cases.laid(TWELVE, 3);
        x.swap(1, 9);
        dueFar(x, "092", 0);
        dueFar(x, "012", 1);
    }

    static void p21_odd_noneIfFarIs0() {
        Cases.due("odd() without MARKS and LAYERS", new SnowByNumber().odd(), NONE);
        dueOdd(Cases.laid(TWELVE, 1), "0", NONE);
        dueOdd(Cases.laid(TWELVE, 12), "012345678987", NONE);
        SnowByNumber x = Cases.laid(TWELVE, 2);
        Cases.sellDownTo(x, 0, 0);
        Cases.sellDownTo(x, 1, 0);
        dueOdd(x, "", NONE);
    }

    static void p21_odd_noMarks() {
        SnowByNumber x = Cases.laid(TWELVE, 3);
        dueOdd(x, "", 0);
        Cases.sellDownTo(x, 0, 0);
        dueOdd(x, "", 1);
        Cases.sellDownTo(x, 1, 0);
        dueOdd(x, "", 2);
    }

    static void p21_odd_noLayers() {
        dueOdd(new SnowByNumber(), "1", 0);
        dueOdd(Cases.laid(TWELVE, 0), "01234567890123", 0);
    }

    static void p21_odd_howManyLayersThereAreInAllIfNoneDiffers() {
        dueOdd(Cases.laid(TWELVE, 1), "00", 1);
        dueOdd(Cases.laid(TWELVE, 4), "01239", 4);
        dueOdd(Cases.laid(TWELVE, 12), "01234567898712", 12);
        SnowByNumber x = Cases.laid(TWELVE, 4);
        Cases.sellDownTo(x, 1, 0);
        Cases.sellDownTo(x, 3, 0);
        dueOdd(x, "029", 4);
        Cases.sellDownTo(x, 0, 0);
        Cases.sellDownTo(x, 2, 0);
        dueOdd(x, "0", 4);
    }

    static void p21_odd_theFirstAndTheLastLayer() {
        SnowByNumber x = Cases.laid(TWELVE, 12);
        dueOdd(x, "912345678987", 0);
        dueOdd(x, "12345678987", 0);
        dueOdd(x, "012345678989", 11);
        dueOdd(x, "01234567898", 11);
        dueOdd(x, "01234567898977", 11);
        dueOdd(x, "012345678", 9);
    }

    static void p21_odd_theLayerByItsNumberAmongAll() {
        SnowByNumber x = Cases.laid(TWELVE, 6);
        Cases.sellDownTo(x, 0, 0);
        Cases.sellDownTo(x, 2, 0);
        Cases.sellDownTo(x, 3, 0);
        dueOdd(x, "945", 1);
        dueOdd(x, "195", 4);
        dueOdd(x, "149", 5);
        dueOdd(x, "15", 4);
        dueOdd(x, "14", 5);
    }

    static void p21_odd_aTenthIsSome() {
        SnowByNumber x = Cases.laid(TWELVE, 3);
        Cases.sellDownTo(x, 1, 1);
        dueOdd(x, "02", 1);
        dueOdd(x, "019", 2);
        Cases.sellDownTo(x, 1, 0);
        dueOdd(x, "01", 2);
        dueOdd(x, "029", 3);
    }

    static void p21_odd_thoseThatAreAlikeFromTheLowestOn() {
        SnowByNumber x = Cases.laid("f0,1,1,1;f0,1,1,1;f0,1,1,2;f0,1,1,1;f0,1,1,1;", 5);
        dueOdd(x, "1211", 1);
        dueOdd(x, "1121", 4);
        dueOdd(x, "1111", 2);
        dueOdd(x, "111211", 2);
        dueOdd(x, "112111", 5);
        dueOdd(x, "2", 0);
    }

    static void p20_far_changesNothing() {
        SnowByNumber x = Cases.busy();
        x.far();
        x.far();
        Cases.dueSame("far()", x, Cases.busy());
    }

    static void p21_odd_changesNothing() {
        SnowByNumber x = Cases.busy();
        x.odd();
        x.odd();
        Cases.dueSame("odd()", x, Cases.busy());
        Cases.dueRefused(() -> Cases.laid(Cases.SEVEN, 0), "odd()", y -> y.odd(), NONE);
    }

    // ---- promise 22: wish

    static void p22_wish_yearsFrom0To99() {
        Cases.dueBadOutside(Cases.laid(TWELVE, 3), "wish(year)", 0, 99, (x, year) -> x.wish(year));
        SnowByNumber x = Cases.laid("f0,1,1,0;f1,2,1,0;f98,3,1,0;f99,4,1,0;", 4);
        Cases.due("wish(0)", x.wish(0), 10);
        Cases.due("wish(1)", x.wish(1), 20);
        Cases.due("wish(98)", x.wish(98), 30);
        Cases.due("wish(99)", x.wish(99), 40);
    }

    static void p22_wish_0OfAYearThatIsNotThere() {
        Cases.due("wish(0) of the empty BARN", new SnowByNumber().wish(0), 0);
        SnowByNumber x = Cases.laid("f5,1,1,0;f7,1,1,0;", 1);
        Cases.due("wish(4)", x.wish(4), 0);
        Cases.due("wish(6)", x.wish(6), 0);
        Cases.due("wish(7): it did not come in", x.wish(7), 0);
        Cases.sellDownTo(x, 0, 0);
        Cases.due("wish(5): it is sold", x.wish(5), 0);
    }

    static void p22_wish_allLayersOfTheYear() {
        SnowByNumber x = Cases.laid("b999,99;" + "f7,8,1,0;".repeat(12), 12);
        Cases.due("wish(7)", x.wish(7), 960);
        Cases.sellDownTo(x, 11, 1);
        Cases.due("wish(7)", x.wish(7), 881);
    }

    static void p22_wish_12LayersOf200() {
        Cases.due("wish(7)", overfull(12).wish(7), 2400);
        Cases.due("nearest(0, 999)", overfull(12).nearest(0, 999), 7);
    }

    static void p22_wish_badChangesNothing() {
        Cases.dueRefused(Cases::busy, "wish(100)", x -> x.wish(100), BAD);
        Cases.dueRefused(Cases::full, "wish(-1)", x -> x.wish(-1), BAD);
    }

    // ---- promise 23: nearest

    static void p23_nearest_yearsFrom0To99() {
        Cases.dueBadOutside(Cases.laid(TWELVE, 3), "nearest(year, 1)", 0, 99, (x, year) -> x.nearest(year, 1));
        SnowByNumber x = Cases.laid("f0,1,1,0;f99,1,1,0;", 2);
        Cases.due("nearest(0, 1)", x.nearest(0, 1), 0);
        Cases.due("nearest(49, 1)", x.nearest(49, 1), 0);
        Cases.due("nearest(50, 1)", x.nearest(50, 1), 99);
        Cases.due("nearest(99, 1)", x.nearest(99, 1), 99);
        Cases.sellDownTo(x, 1, 0);
        Cases.due("nearest(99, 1), 99 YEARS off", x.nearest(99, 1), 0);
        SnowByNumber late = Cases.laid("f99,1,1,0;", 1);
        Cases.due("nearest(0, 1), 99 YEARS off", late.nearest(0, 1), 99);
    }

    static void p23_nearest_tenthsFrom1To999() {
        Cases.dueBadOutside(Cases.laid(TWELVE, 3), "nearest(0, q)", 1, 999, (x, q) -> x.nearest(0, q));
        SnowByNumber x = Cases.laid("f4,1,1,0;", 1);
        Cases.sellDownTo(x, 0, 1);
        Cases.due("nearest(0, 1) of a tenth", x.nearest(0, 1), 4);
        Cases.due("nearest(0, 2) of a tenth", x.nearest(0, 2), NONE);
    }

    static void p23_nearest_999TenthsAndOneLess() {
        SnowByNumber x = Cases.laid("b999,99;f6,20,1,0;f6,20,1,0;f6,20,1,0;f6,20,1,0;f6,20,1,0;", 4);
        Cases.due("sell(0, 200)", x.sell(0, 200), 200);
        Cases.due("fall()", x.fall(), 5);
        Cases.due("undo()", x.undo(), 200);
        Cases.due("nearest(0, 999) of 1000", x.nearest(0, 999), 6);
        x.sell(0, 1);
        Cases.due("nearest(0, 999) of 999", x.nearest(0, 999), 6);
        x.sell(0, 1);
        Cases.due("nearest(0, 999) of 998", x.nearest(0, 999), NONE);
    }

    static void p23_nearest_qTenthsOrMore() {
        SnowByNumber x = Cases.laid("f5,1,1,0;f5,2,1,0;f9,9,1,0;", 3);
        Cases.due("nearest(5, 29)", x.nearest(5, 29), 5);
        Cases.due("nearest(5, 30) of two LAYERS", x.nearest(5, 30), 5);
        Cases.due("nearest(5, 31)", x.nearest(5, 31), 9);
        Cases.due("nearest(5, 90)", x.nearest(5, 90), 9);
        Cases.due("nearest(5, 91)", x.nearest(5, 91), NONE);
    }

    static void p23_nearest_ofTwoTheLower() {
        SnowByNumber x = Cases.laid("f10,1,1,0;f20,1,1,0;f30,1,1,0;", 3);
        Cases.due("nearest(14, 1)", x.nearest(14, 1), 10);
        Cases.due("nearest(15, 1)", x.nearest(15, 1), 10);
        Cases.due("nearest(16, 1)", x.nearest(16, 1), 20);
        Cases.due("nearest(25, 1)", x.nearest(25, 1), 20);
        Cases.due("nearest(26, 1)", x.nearest(26, 1), 30);
        Cases.sellDownTo(x, 1, 0);
        Cases.due("nearest(20, 1)", x.nearest(20, 1), 10);
        Cases.due("nearest(21, 1)", x.nearest(21, 1), 30);
    }

    static void p23_nearest_noneOfTheEmptyBarn() {
        Cases.due("nearest(0, 1)", new SnowByNumber().nearest(0, 1), NONE);
        SnowByNumber x = Cases.laid(TWELVE, 2);
        Cases.sellDownTo(x, 0, 0);
        Cases.sellDownTo(x, 1, 0);
        Cases.due("nearest(0, 1) of empty LAYERS", x.nearest(0, 1), NONE);
    }

    static void p23_nearest_badAheadOfNone() {
        SnowByNumber x = new SnowByNumber();
        Cases.due("nearest(-1, 1)", x.nearest(-1, 1), BAD);
        Cases.due("nearest(100, 1)", x.nearest(100, 1), BAD);
        Cases.due("nearest(0, 0)", x.nearest(0, 0), BAD);
        Cases.due("nearest(0, 1000)", x.nearest(0, 1000), BAD);
    }

    static void p23_nearest_refusedChangesNothing() {
        Cases.dueRefused(Cases::busy, "nearest(100, 1)", x -> x.nearest(100, 1), BAD);
        Cases.dueRefused(Cases::busy, "nearest(1, 0)", x -> x.nearest(1, 0), BAD);
        Cases.dueRefused(Cases::full, "nearest(1, 1000)", x -> x.nearest(1, 1000), BAD);
        Cases.dueRefused(Cases::busy, "nearest(1, 999)", x -> x.nearest(1, 999), NONE);
        Cases.dueRefused(YearBoundsTest::soldOut, "nearest(1, 1)", x -> x.nearest(1, 1), NONE);
    }

    // ---- promise 24: moved

    static void p24_moved_loadsFrom10To9990() {
        Cases.dueBadOutside(Cases.laid(TWELVE, 3), "moved(w)", 10, 9990, (x, w) -> x.moved(w));
        Cases.dueBadOutside(new SnowByNumber(), "moved(w)", 10, 9990, (x, w) -> x.moved(w));
    }

    static void p24_moved_0WithoutLayers() {
        Cases.due("moved(10) of the empty BARN", new SnowByNumber().moved(10), 0);
        Cases.due("moved(9990) of the empty BARN", new SnowByNumber().moved(9990), 0);
        Cases.due("moved(10) of empty LAYERS", soldOut().moved(10), 0);
    }

    static void p24_moved_onceIfAllLieInOneLoad() {
        SnowByNumber x = Cases.laid(TWELVE, 12);
        Cases.due("moved(120)", x.moved(120), 1);
        Cases.due("moved(119)", x.moved(119), 3);
        Cases.due("moved(9990)", x.moved(9990), 1);
        Cases.due("moved(10) of 1 LAYER", Cases.laid(TWELVE, 1).moved(10), 1);
    }

    static void p24_moved_eachLayerByItself() {
        for (int n = 1; n <= 12; n++) {
            Cases.due("moved(10) of " + n, Cases.laid(TWELVE, n).moved(10), 2 * n - 1);
            Cases.due("moved(19) of " + n, Cases.laid(TWELVE, n).moved(19), 2 * n - 1);
        }
        Cases.due("moved(20) of 12", Cases.laid(TWELVE, 12).moved(20), 11);
        Cases.due("moved(20) of 11", Cases.laid(TWELVE, 11).moved(20), 11);
    }

    static void p24_moved_moreThanTheHeaviestLoad() {
        Cases.due("moved(9990) of 9000", overfull(5).moved(9990), 1);
        Cases.due("moved(9990) of 10800", overfull(6).moved(9990), 3);
        Cases.due("moved(9990) of 21600", overfull(12).moved(9990), 5);
        Cases.due("moved(1800) of 21600", overfull(12).moved(1800), 23);
        Cases.due("moved(1799) of 21600", overfull(12).moved(1799), NONE);
    }

    static void p24_moved_noneIfOneIsHeavier() {
        SnowByNumber x = Cases.laid("f0,1,1,0;f0,3,7,0;f0,1,1,0;", 3);
        Cases.due("moved(209)", x.moved(209), NONE);
        Cases.due("moved(210)", x.moved(210), 5);
        Cases.due("moved(10)", x.moved(10), NONE);
        Cases.due("moved(10) of the lowest", Cases.laid("f0,11,1,0;f0,1,1,0;", 2).moved(109), NONE);
        Cases.due("moved(10) of the top", Cases.laid("f0,1,1,0;f0,11,1,0;", 2).moved(109), NONE);
        Cases.sellDownTo(x, 1, 1);
        Cases.due("moved(10) with 7 between", x.moved(10), 5);
        SnowByNumber one = Cases.laid("f0,2,1,0;", 1);
        Cases.sellDownTo(one, 0, 11);
        Cases.due("moved(10) of 11", one.moved(10), NONE);
        Cases.sellDownTo(one, 0, 10);
        Cases.due("moved(10) of 10", one.moved(10), 1);
    }

    static void p24_moved_aLoadOfWAndOneMore() {
        SnowByNumber x = Cases.laid("f0,1,3,0;f0,2,2,0;", 2);
        Cases.due("moved(70)", x.moved(70), 1);
        Cases.due("moved(69)", x.moved(69), 3);
    }

    static void p24_moved_onlySomeThatLieTogether() {
        Cases.due("moved(40) of 30, 30, 10, 10", Cases.laid("f0,3,1,0;f0,3,1,0;f0,1,1,0;f0,1,1,0;", 4).moved(40), 5);
        Cases.due("moved(40) of 30, 10, 30, 10", Cases.laid("f0,3,1,0;f0,1,1,0;f0,3,1,0;f0,1,1,0;", 4).moved(40), 3);
        Cases.due("moved(40) of 10, 30, 30, 10", Cases.laid("f0,1,1,0;f0,3,1,0;f0,3,1,0;f0,1,1,0;", 4).moved(40), 3);
        Cases.due("moved(40) of 10, 10, 30, 30", Cases.laid("f0,1,1,0;f0,1,1,0;f0,3,1,0;f0,3,1,0;", 4).moved(40), 5);
    }

    static void p24_moved_emptyLayersAreNotCarried() {
        SnowByNumber x = Cases.laid("f0,2,1,0;f0,9,1,0;f0,2,1,0;f0,9,1,0;f0,9,1,0;", 5);
        Cases.sellDownTo(x, 1, 0);
        Cases.sellDownTo(x, 3, 0);
        Cases.sellDownTo(x, 4, 0);
        Cases.due("moved(40)", x.moved(40), 1);
        Cases.due("moved(20)", x.moved(20), 3);
        Cases.sellDownTo(x, 0, 0);
        Cases.due("moved(20) with the lowest empty", x.moved(20), 1);
    }

    static void p24_moved_aTenthIsSome() {
        SnowByNumber x = Cases.laid("f0,1,1,0;f0,1,1,0;", 1);
        Cases.sellDownTo(x, 0, 1);
        Cases.due("moved(10) of 1", x.moved(10), 1);
        Cases.due("fall()", x.fall(), 2);
        Cases.due("moved(10) of 1, 10", x.moved(10), 3);
        Cases.due("moved(11) of 1, 10", x.moved(11), 1);
        SnowByNumber top = Cases.laid("f0,1,1,0;f0,1,1,0;", 2);
        Cases.sellDownTo(top, 1, 1);
        Cases.due("moved(10) of 10, 1", top.moved(10), 3);
        Cases.sellDownTo(top, 1, 0);
        Cases.due("moved(10) of 10, 0", top.moved(10), 1);
    }

    static void p24_moved_badAheadOfNone() {
        SnowByNumber x = Cases.laid("f0,20,9,0;", 1);
        Cases.due("moved(9)", x.moved(9), BAD);
        Cases.due("moved(0)", x.moved(0), BAD);
        Cases.due("moved(-1)", x.moved(-1), BAD);
        Cases.due("moved(10)", x.moved(10), NONE);
    }

    static void p24_moved_refusedChangesNothing() {
        Cases.dueRefused(Cases::busy, "moved(9)", x -> x.moved(9), BAD);
        Cases.dueRefused(Cases::full, "moved(9991)", x -> x.moved(9991), BAD);
        Cases.dueRefused(Cases::busy, "moved(10)", x -> x.moved(10), NONE);
        SnowByNumber x = Cases.busy();
        x.moved(9990);
        Cases.dueSame("moved(9990)", x, Cases.busy());
    }

    public static void main(String[] args) {
        Cases.run(YearBoundsTest.class);
    }
}
