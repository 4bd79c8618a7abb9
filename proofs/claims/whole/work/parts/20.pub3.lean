/-! the class's public methods, the last -/
theorem S_wish_bad {d : Nat} {I : HI} {J : HJ} {y : Int32} (h : inr y (nI 0) (nI 99) = false) : MIp mX6_wish (d + 2) [.ref 0, .int y] shA I J RA (-1) := by
  refine Mt.of (L := [some (.ref 0), some (.int y)]) (by decide +kernel) (Nat.le_of_ble_eq_true rfl) rfl ?_
  refine q_iload_n dX6_wish_0 (rfl : 0 + 1 = 1) rfl ?_
  refine q_callSIp S_isYear dX6_wish_1 (rfl : 1 + 3 = 4) lX6_183 vX6_isYear rfl rfl (Nat.le_of_ble_eq_true rfl) TM_room TM_cs ?_
  refine q_if_eq_b (q := 15) dX6_wish_4 (by decide) (rfl : 4 + 3 = 7) (fun h1 => ?_) (fun h1 => ?_)
  ·
    refine q_iconst (v := -1) dX6_wish_15 (rfl : 15 + 1 = 16) (by decide) ?_
    refine q_iret rfl dX6_wish_16 ⟨rfl, rfl, _, rfl, ?_⟩
    exact ⟨rfl, rfl, rfl⟩
  · rw [h] at h1; cases h1
theorem S_wish {d n : Nat} {I : HI} {J : HJ} {y : Int32} (h : inr y (nI 0) (nI 99) = true) (hn : I 16 0 = nI n) (h12 : n ≤ 12) : MIp mX6_wish (d + 2) [.ref 0, .int y] shA I J RA (sI (tyI (I 17) (I 5) y) n) := by
  refine Mt.of (L := [some (.ref 0), some (.int y)]) (by decide +kernel) (Nat.le_of_ble_eq_true rfl) rfl ?_
  refine q_iload_n dX6_wish_0 (rfl : 0 + 1 = 1) rfl ?_
  refine q_callSIp S_isYear dX6_wish_1 (rfl : 1 + 3 = 4) lX6_183 vX6_isYear rfl rfl (Nat.le_of_ble_eq_true rfl) TM_room TM_cs ?_
  refine q_if_eq_b (q := 15) dX6_wish_4 (by decide) (rfl : 4 + 3 = 7) (fun h1 => ?_) (fun h1 => ?_)
  · rw [h] at h1; cases h1
  ·
    refine q_aload_n dX6_wish_7 (rfl : 7 + 1 = 8) rfl ?_
    refine q_iload_n dX6_wish_8 (rfl : 8 + 1 = 9) rfl ?_
    refine q_callVIp (S_tenthsOfYear hn h12) dX6_wish_9 (rfl : 9 + 3 = 12) lX6_212 vX6_tenthsOfYear (by first | rfl | assumption) rfl rfl (Nat.le_of_ble_eq_true rfl) TM_room TM_cs ?_
    refine q_goto (q := 16) dX6_wish_12 (by decide) ?_
    refine q_iret rfl dX6_wish_16 ⟨rfl, rfl, _, rfl, ?_⟩
    exact ⟨rfl, rfl, rfl⟩
theorem S_nearest_bad1 {d : Nat} {I : HI} {J : HJ} {y q : Int32} (h : inr y (nI 0) (nI 99) = false) : MIp mX6_nearest (d + 2) [.ref 0, .int y, .int q] shA I J RA (-1) := by
  refine Mt.of (L := [some (.ref 0), some (.int y), some (.int q), none, none, none, none]) (by decide +kernel) (Nat.le_of_ble_eq_true rfl) rfl ?_
  refine q_iload_n dX6_nearest_0 (rfl : 0 + 1 = 1) rfl ?_
  refine q_callSIp S_isYear dX6_nearest_1 (rfl : 1 + 3 = 4) lX6_183 vX6_isYear rfl rfl (Nat.le_of_ble_eq_true rfl) TM_room TM_cs ?_
  refine q_if_eq_b (q := 18) dX6_nearest_4 (by decide) (rfl : 4 + 3 = 7) (fun h1 => ?_) (fun h1 => ?_)
  ·
    refine q_iconst (v := -1) dX6_nearest_18 (rfl : 18 + 1 = 19) (by decide) ?_
    refine q_iret rfl dX6_nearest_19 ⟨rfl, rfl, _, rfl, ?_⟩
    exact ⟨rfl, rfl, rfl⟩
  · rw [h] at h1; cases h1
theorem S_nearest_bad2 {d : Nat} {I : HI} {J : HJ} {y q : Int32} (h : inr q (nI 1) (nI 999) = false) : MIp mX6_nearest (d + 2) [.ref 0, .int y, .int q] shA I J RA (-1) := by
  refine Mt.of (L := [some (.ref 0), some (.int y), some (.int q), none, none, none, none]) (by decide +kernel) (Nat.le_of_ble_eq_true rfl) rfl ?_
  refine q_iload_n dX6_nearest_0 (rfl : 0 + 1 = 1) rfl ?_
  refine q_callSIp S_isYear dX6_nearest_1 (rfl : 1 + 3 = 4) lX6_183 vX6_isYear rfl rfl (Nat.le_of_ble_eq_true rfl) TM_room TM_cs ?_
  refine q_if_eq_b (q := 18) dX6_nearest_4 (by decide) (rfl : 4 + 3 = 7) (fun h1 => ?_) (fun h1 => ?_)
  ·
    refine q_iconst (v := -1) dX6_nearest_18 (rfl : 18 + 1 = 19) (by decide) ?_
    refine q_iret rfl dX6_nearest_19 ⟨rfl, rfl, _, rfl, ?_⟩
    exact ⟨rfl, rfl, rfl⟩
  ·
    refine q_iload_n dX6_nearest_7 (rfl : 7 + 1 = 8) rfl ?_
    refine q_iconst (v := nI 1) dX6_nearest_8 (rfl : 8 + 1 = 9) (by decide) ?_
    refine q_sipush (v := nI 999) dX6_nearest_9 (rfl : 9 + 3 = 12) (by decide) ?_
    refine q_callSIp (S_inside (d := d + 1)) dX6_nearest_12 (rfl : 12 + 3 = 15) lX6_68 vX6_inside rfl rfl (Nat.le_of_ble_eq_true rfl) TM_room TM_cs ?_
    refine q_if_ne_b (q := 20) dX6_nearest_15 (by decide) (rfl : 15 + 3 = 18) (fun h2 => ?_) (fun h2 => ?_)
    · rw [h] at h2; cases h2
    ·
      refine q_iconst (v := -1) dX6_nearest_18 (rfl : 18 + 1 = 19) (by decide) ?_
      refine q_iret rfl dX6_nearest_19 ⟨rfl, rfl, _, rfl, ?_⟩
      exact ⟨rfl, rfl, rfl⟩
def abI (x : Int32) : Int32 := if 0 ≤ x then x else 0 - x
def neL (ty y : Nat → Int32) (year q : Int32) (k i : Nat) (best least : Int32) : Int32 := match k with
  | 0 => best
  | k + 1 => if abI (y i - year) < least ∧ q ≤ ty i then neL ty y year q k (i + 1) (y i) (abI (y i - year)) else neL ty y year q k (i + 1) best least
theorem L_nearest {d n0 n : Nat} {Po : PO} {I : HI} {J : HJ} {year q : Int32} (hn : I 16 0 = nI n) (h12 : n ≤ 12) :
    ∀ (k i : Nat) (best least : Int32), i + k = n → Po shA (some (.int (neL (fun i => sI (tyI (I 17) (I 5) (I 5 i)) n) (I 5) year q k i best least))) I J RA →
      Wm mX6_nearest (TM (d + 2) 0 0 false n0 Po) 0 0 shA 30 [some (.ref 0), some (.int year), some (.int q), some (.int best), some (.int least), some (.int (nI i)), none] [] I J RA := by
  intro k
  induction k with
  | zero =>
    intro i best least hk hPo
    obtain rfl : i = n := by omega
    refine q_iload dX6_nearest_30 (rfl : 30 + 2 = 32) rfl ?_
    refine q_aload_n dX6_nearest_32 (rfl : 32 + 1 = 33) rfl ?_
    refine q_getR dX6_nearest_33 (rfl : 33 + 3 = 36) fX6_29 (by first | rfl | assumption) (by first | rfl | assumption) ?_
    refine q_getI dX6_nearest_36 (rfl : 36 + 3 = 39) fX6_110 (by first | rfl | assumption) ?_
    try simp (disch := omega) only [wr_hit, wr_p, wr_k, nI_add, pk_mul, nI_1, nI_s1, pk_sub, Nat.add_sub_cancel, hn]
    refine q_icmp_ge_n (q := 105) (by omega) (by omega) dX6_nearest_39 (by decide) (rfl : 39 + 3 = 42) (fun h => ?_) (fun h => ?_)
    ·
      refine q_iload_n dX6_nearest_105 (rfl : 105 + 1 = 106) rfl ?_
      exact q_iret rfl dX6_nearest_106 hPo
    · omega
  | succ k ih =>
    intro i best least hk hPo
    refine q_iload dX6_nearest_30 (rfl : 30 + 2 = 32) rfl ?_
    refine q_aload_n dX6_nearest_32 (rfl : 32 + 1 = 33) rfl ?_
    refine q_getR dX6_nearest_33 (rfl : 33 + 3 = 36) fX6_29 (by first | rfl | assumption) (by first | rfl | assumption) ?_
    refine q_getI dX6_nearest_36 (rfl : 36 + 3 = 39) fX6_110 (by first | rfl | assumption) ?_
    try simp (disch := omega) only [wr_hit, wr_p, wr_k, nI_add, pk_mul, nI_1, nI_s1, pk_sub, Nat.add_sub_cancel, hn]
    refine q_icmp_ge_n (q := 105) (by omega) (by omega) dX6_nearest_39 (by decide) (rfl : 39 + 3 = 42) (fun h => ?_) (fun h => ?_)
    · omega
    ·
      have no : ¬ (abI (I 5 i - year) < least ∧ q ≤ sI (tyI (I 17) (I 5) (I 5 i)) n) → Wm mX6_nearest (TM (d + 2) 0 0 false n0 Po) 0 0 shA 30 [some (.ref 0), some (.int year), some (.int q), some (.int best), some (.int least), some (.int (nI (i + 1))), none] [] I J RA := by
        intro e
        have e2 : neL (fun i => sI (tyI (I 17) (I 5) (I 5 i)) n) (I 5) year q (k + 1) i best least = neL (fun i => sI (tyI (I 17) (I 5) (I 5 i)) n) (I 5) year q k (i + 1) best least := by
          simp only [neL, if_neg e]
        rw [e2] at hPo
        exact ih (i + 1) _ _ (by omega) hPo
      refine q_aload_n dX6_nearest_42 (rfl : 42 + 1 = 43) rfl ?_
      refine q_getR dX6_nearest_43 (rfl : 43 + 3 = 46) fX6_19 (by first | rfl | assumption) (by first | rfl | assumption) ?_
      refine q_getR dX6_nearest_46 (rfl : 46 + 3 = 49) fX6_93 (by first | rfl | assumption) (by first | rfl | assumption) ?_
      refine q_iload dX6_nearest_49 (rfl : 49 + 2 = 51) rfl ?_
      refine q_iald dX6_nearest_51 (rfl : 51 + 1 = 52) (by first | rfl | assumption) (by first | assumption | omega) (by decide) ?_
      refine q_iload_n dX6_nearest_52 (rfl : 52 + 1 = 53) rfl ?_
      refine q_isub dX6_nearest_53 (rfl : 53 + 1 = 54) ?_
      refine q_abs dX6_nearest_54 (rfl : 54 + 3 = 57) lX6_215 w_abs (Nat.le_of_ble_eq_true rfl) (TM_math (Nat.le_refl _) (Nat.le_refl _)) ?_
      refine q_istore dX6_nearest_57 (rfl : 57 + 2 = 59) (by decide) ?_
      refine q_iload dX6_nearest_59 (rfl : 59 + 2 = 61) rfl ?_
      refine q_iload dX6_nearest_61 (rfl : 61 + 2 = 63) rfl ?_
      refine q_icmp_ge (q := 99) dX6_nearest_63 (by decide) (rfl : 63 + 3 = 66) (fun e => ?_) (fun e => ?_)
      ·
        first | refine q_iinc1 dX6_nearest_99 (rfl : 99 + 3 = 102) rfl (by decide) ?_ | refine q_iinc dX6_nearest_99 (rfl : 99 + 3 = 102) rfl rfl (by decide) ?_
        refine q_goto (q := 30) dX6_nearest_102 (by decide) ?_
        refine q_forget (L' := [some (.ref 0), some (.int year), some (.int q), some (.int best), some (.int least), some (.int (nI (i + 1))), none]) (by repeat (first | exact trivial | refine And.intro rfl ?_)) ?_
        exact no (fun z => absurd z.1 (Int32.not_lt.mpr e))
      ·
        refine q_aload_n dX6_nearest_66 (rfl : 66 + 1 = 67) rfl ?_
        refine q_aload_n dX6_nearest_67 (rfl : 67 + 1 = 68) rfl ?_
        refine q_getR dX6_nearest_68 (rfl : 68 + 3 = 71) fX6_19 (by first | rfl | assumption) (by first | rfl | assumption) ?_
        refine q_getR dX6_nearest_71 (rfl : 71 + 3 = 74) fX6_93 (by first | rfl | assumption) (by first | rfl | assumption) ?_
        refine q_iload dX6_nearest_74 (rfl : 74 + 2 = 76) rfl ?_
        refine q_iald dX6_nearest_76 (rfl : 76 + 1 = 77) (by first | rfl | assumption) (by first | assumption | omega) (by decide) ?_
        refine q_callVIp (S_tenthsOfYear hn h12) dX6_nearest_77 (rfl : 77 + 3 = 80) lX6_212 vX6_tenthsOfYear (by first | rfl | assumption) rfl rfl (Nat.le_of_ble_eq_true rfl) TM_room TM_cs ?_
        refine q_iload_n dX6_nearest_80 (rfl : 80 + 1 = 81) rfl ?_
        refine q_icmp_lt (q := 99) dX6_nearest_81 (by decide) (rfl : 81 + 3 = 84) (fun e1 => ?_) (fun e1 => ?_)
        ·
          first | refine q_iinc1 dX6_nearest_99 (rfl : 99 + 3 = 102) rfl (by decide) ?_ | refine q_iinc dX6_nearest_99 (rfl : 99 + 3 = 102) rfl rfl (by decide) ?_
          refine q_goto (q := 30) dX6_nearest_102 (by decide) ?_
          refine q_forget (L' := [some (.ref 0), some (.int year), some (.int q), some (.int best), some (.int least), some (.int (nI (i + 1))), none]) (by repeat (first | exact trivial | refine And.intro rfl ?_)) ?_
          exact no (fun z => absurd z.2 (Int32.not_le.mpr e1))
        ·
          refine q_iload dX6_nearest_84 (rfl : 84 + 2 = 86) rfl ?_
          refine q_istore dX6_nearest_86 (rfl : 86 + 2 = 88) (by decide) ?_
          refine q_aload_n dX6_nearest_88 (rfl : 88 + 1 = 89) rfl ?_
          refine q_getR dX6_nearest_89 (rfl : 89 + 3 = 92) fX6_19 (by first | rfl | assumption) (by first | rfl | assumption) ?_
          refine q_getR dX6_nearest_92 (rfl : 92 + 3 = 95) fX6_93 (by first | rfl | assumption) (by first | rfl | assumption) ?_
          refine q_iload dX6_nearest_95 (rfl : 95 + 2 = 97) rfl ?_
          refine q_iald dX6_nearest_97 (rfl : 97 + 1 = 98) (by first | rfl | assumption) (by first | assumption | omega) (by decide) ?_
          refine q_istore_n dX6_nearest_98 (rfl : 98 + 1 = 99) (by decide) ?_
          first | refine q_iinc1 dX6_nearest_99 (rfl : 99 + 3 = 102) rfl (by decide) ?_ | refine q_iinc dX6_nearest_99 (rfl : 99 + 3 = 102) rfl rfl (by decide) ?_
          refine q_goto (q := 30) dX6_nearest_102 (by decide) ?_
          have e2 : neL (fun i => sI (tyI (I 17) (I 5) (I 5 i)) n) (I 5) year q (k + 1) i best least = neL (fun i => sI (tyI (I 17) (I 5) (I 5 i)) n) (I 5) year q k (i + 1) (I 5 i) (abI (I 5 i - year)) := by
            simp only [neL, if_pos (show abI (I 5 i - year) < least ∧ q ≤ sI (tyI (I 17) (I 5) (I 5 i)) n from ⟨Int32.not_le.mp e, Int32.not_lt.mp e1⟩)]
          rw [e2] at hPo
          refine q_forget (L' := [some (.ref 0), some (.int year), some (.int q), some (.int (I 5 i)), some (.int (abI (I 5 i - year))), some (.int (nI (i + 1))), none]) (by repeat (first | exact trivial | refine And.intro rfl ?_)) ?_
          exact ih (i + 1) _ _ (by omega) hPo
theorem S_nearest {d n : Nat} {I : HI} {J : HJ} {y q : Int32} (h1 : inr y (nI 0) (nI 99) = true) (h2 : inr q (nI 1) (nI 999) = true) (hn : I 16 0 = nI n) (h12 : n ≤ 12) : MIp mX6_nearest (d + 2) [.ref 0, .int y, .int q] shA I J RA (neL (fun i => sI (tyI (I 17) (I 5) (I 5 i)) n) (I 5) y q n 0 (-4) (nI 100)) := by
  refine Mt.of (L := [some (.ref 0), some (.int y), some (.int q), none, none, none, none]) (by decide +kernel) (Nat.le_of_ble_eq_true rfl) rfl ?_
  refine q_iload_n dX6_nearest_0 (rfl : 0 + 1 = 1) rfl ?_
  refine q_callSIp S_isYear dX6_nearest_1 (rfl : 1 + 3 = 4) lX6_183 vX6_isYear rfl rfl (Nat.le_of_ble_eq_true rfl) TM_room TM_cs ?_
  refine q_if_eq_b (q := 18) dX6_nearest_4 (by decide) (rfl : 4 + 3 = 7) (fun q1 => ?_) (fun q1 => ?_)
  · rw [h1] at q1; cases q1
  ·
    refine q_iload_n dX6_nearest_7 (rfl : 7 + 1 = 8) rfl ?_
    refine q_iconst (v := nI 1) dX6_nearest_8 (rfl : 8 + 1 = 9) (by decide) ?_
    refine q_sipush (v := nI 999) dX6_nearest_9 (rfl : 9 + 3 = 12) (by decide) ?_
    refine q_callSIp (S_inside (d := d + 1)) dX6_nearest_12 (rfl : 12 + 3 = 15) lX6_68 vX6_inside rfl rfl (Nat.le_of_ble_eq_true rfl) TM_room TM_cs ?_
    refine q_if_ne_b (q := 20) dX6_nearest_15 (by decide) (rfl : 15 + 3 = 18) (fun q2 => ?_) (fun q2 => ?_)
    ·
      refine q_bipush (v := -4) dX6_nearest_20 (rfl : 20 + 2 = 22) (by decide) ?_
      refine q_istore_n dX6_nearest_22 (rfl : 22 + 1 = 23) (by decide) ?_
      refine q_bipush (v := nI 100) dX6_nearest_23 (rfl : 23 + 2 = 25) (by decide) ?_
      refine q_istore dX6_nearest_25 (rfl : 25 + 2 = 27) (by decide) ?_
      refine q_iconst (v := nI 0) dX6_nearest_27 (rfl : 27 + 1 = 28) (by decide) ?_
      refine q_istore dX6_nearest_28 (rfl : 28 + 2 = 30) (by decide) ?_
      exact L_nearest hn h12 n 0 (-4) (nI 100) (by omega) ⟨rfl, rfl, _, rfl, rfl, rfl, rfl⟩
    · rw [h2] at q2; cases q2
theorem S_moved_bad {d : Nat} {I : HI} {J : HJ} {w : Int32} (h : inr w (nI 10) (nI 9990) = false) : MIp mX6_moved (d + 1) [.ref 0, .int w] shA I J RA (-1) := by
  refine Mt.of (L := [some (.ref 0), some (.int w), none, none, none, none]) (by decide +kernel) (Nat.le_of_ble_eq_true rfl) rfl ?_
  refine q_iload_n dX6_moved_0 (rfl : 0 + 1 = 1) rfl ?_
  refine q_bipush (v := nI 10) dX6_moved_1 (rfl : 1 + 2 = 3) (by decide) ?_
  refine q_sipush (v := nI 9990) dX6_moved_3 (rfl : 3 + 3 = 6) (by decide) ?_
  refine q_callSIp S_inside dX6_moved_6 (rfl : 6 + 3 = 9) lX6_68 vX6_inside rfl rfl (Nat.le_of_ble_eq_true rfl) TM_room TM_cs ?_
  refine q_if_ne_b (q := 14) dX6_moved_9 (by decide) (rfl : 9 + 3 = 12) (fun h1 => ?_) (fun h1 => ?_)
  · rw [h] at h1; cases h1
  ·
    refine q_iconst (v := -1) dX6_moved_12 (rfl : 12 + 1 = 13) (by decide) ?_
    refine q_iret rfl dX6_moved_13 ⟨rfl, rfl, _, rfl, ?_⟩
    exact ⟨rfl, rfl, rfl⟩
def mvEnd (g : Nat) : Int32 := if g = 0 then nI 0 else nI 2 * nI g - nI 1
def mvL (ld : Nat → Int32) (w : Int32) (k i g : Nat) (on : Int32) : Int32 := match k with
  | 0 => mvEnd g
  | k + 1 => if w < ld i then -4 else if 0 < ld i ∧ (g = 0 ∨ w < on + ld i) then mvL ld w k (i + 1) (g + 1) (nI 0 + ld i) else mvL ld w k (i + 1) g (on + ld i)
theorem L_moved {d n0 n : Nat} {Po : PO} {I : HI} {J : HJ} {w : Int32} (hn : I 16 0 = nI n) (h12 : n ≤ 12) :
    ∀ (k i g : Nat) (on : Int32), i + k = n → g ≤ i → Po shA (some (.int (mvL (fun i => I 17 i * I 7 i) w k i g on))) I J RA →
      Wm mX6_moved (TM d 0 0 false n0 Po) 0 0 shA 21 [some (.ref 0), some (.int w), some (.int (nI g)), some (.int on), some (.int (nI i)), none] [] I J RA := by
  intro k
  induction k with
  | zero =>
    intro i g on hk hg hPo
    obtain rfl : i = n := by omega
    refine q_iload dX6_moved_21 (rfl : 21 + 2 = 23) rfl ?_
    refine q_aload_n dX6_moved_23 (rfl : 23 + 1 = 24) rfl ?_
    refine q_getR dX6_moved_24 (rfl : 24 + 3 = 27) fX6_29 (by first | rfl | assumption) (by first | rfl | assumption) ?_
    refine q_getI dX6_moved_27 (rfl : 27 + 3 = 30) fX6_110 (by first | rfl | assumption) ?_
    try simp (disch := omega) only [wr_hit, wr_p, wr_k, nI_add, pk_mul, nI_1, nI_s1, pk_sub, Nat.add_sub_cancel, hn]
    refine q_icmp_ge_n (q := 98) (by omega) (by omega) dX6_moved_30 (by decide) (rfl : 30 + 3 = 33) (fun h => ?_) (fun h => ?_)
    ·
      refine q_iload_n dX6_moved_98 (rfl : 98 + 1 = 99) rfl ?_
      refine q_if_ne_n (q := 106) (by omega) dX6_moved_99 (by decide) (rfl : 99 + 3 = 102) (fun h2 => ?_) (fun h2 => ?_)
      ·
        refine q_iconst (v := nI 2) dX6_moved_106 (rfl : 106 + 1 = 107) (by decide) ?_
        refine q_iload_n dX6_moved_107 (rfl : 107 + 1 = 108) rfl ?_
        refine q_imul dX6_moved_108 (rfl : 108 + 1 = 109) ?_
        refine q_iconst (v := nI 1) dX6_moved_109 (rfl : 109 + 1 = 110) (by decide) ?_
        refine q_isub dX6_moved_110 (rfl : 110 + 1 = 111) ?_
        have e : mvL (fun i => I 17 i * I 7 i) w 0 i g on = nI 2 * nI g - nI 1 := by simp only [mvL, mvEnd, if_neg h2]
        rw [e] at hPo
        exact q_iret rfl dX6_moved_111 hPo
      ·
        refine q_iconst (v := nI 0) dX6_moved_102 (rfl : 102 + 1 = 103) (by decide) ?_
        refine q_goto (q := 111) dX6_moved_103 (by decide) ?_
        have e : mvL (fun i => I 17 i * I 7 i) w 0 i g on = nI 0 := by simp only [mvL, mvEnd, if_pos h2]
        rw [e] at hPo
        exact q_iret rfl dX6_moved_111 hPo
    · omega
  | succ k ih =>
    intro i g on hk hg hPo
    refine q_iload dX6_moved_21 (rfl : 21 + 2 = 23) rfl ?_
    refine q_aload_n dX6_moved_23 (rfl : 23 + 1 = 24) rfl ?_
    refine q_getR dX6_moved_24 (rfl : 24 + 3 = 27) fX6_29 (by first | rfl | assumption) (by first | rfl | assumption) ?_
    refine q_getI dX6_moved_27 (rfl : 27 + 3 = 30) fX6_110 (by first | rfl | assumption) ?_
    try simp (disch := omega) only [wr_hit, wr_p, wr_k, nI_add, pk_mul, nI_1, nI_s1, pk_sub, Nat.add_sub_cancel, hn]
    refine q_icmp_ge_n (q := 98) (by omega) (by omega) dX6_moved_30 (by decide) (rfl : 30 + 3 = 33) (fun h => ?_) (fun h => ?_)
    · omega
    ·
      refine q_aload_n dX6_moved_33 (rfl : 33 + 1 = 34) rfl ?_
      refine q_getR dX6_moved_34 (rfl : 34 + 3 = 37) fX6_29 (by first | rfl | assumption) (by first | rfl | assumption) ?_
      refine q_getR dX6_moved_37 (rfl : 37 + 3 = 40) fX6_131 (by first | rfl | assumption) (by first | rfl | assumption) ?_
      refine q_iload dX6_moved_40 (rfl : 40 + 2 = 42) rfl ?_
      refine q_iald dX6_moved_42 (rfl : 42 + 1 = 43) (by first | rfl | assumption) (by first | assumption | omega) (by decide) ?_
      refine q_aload_n dX6_moved_43 (rfl : 43 + 1 = 44) rfl ?_
      refine q_getR dX6_moved_44 (rfl : 44 + 3 = 47) fX6_19 (by first | rfl | assumption) (by first | rfl | assumption) ?_
      refine q_getR dX6_moved_47 (rfl : 47 + 3 = 50) fX6_100 (by first | rfl | assumption) (by first | rfl | assumption) ?_
      refine q_iload dX6_moved_50 (rfl : 50 + 2 = 52) rfl ?_
      refine q_iald dX6_moved_52 (rfl : 52 + 1 = 53) (by first | rfl | assumption) (by first | assumption | omega) (by decide) ?_
      refine q_imul dX6_moved_53 (rfl : 53 + 1 = 54) ?_
      refine q_istore dX6_moved_54 (rfl : 54 + 2 = 56) (by decide) ?_
      refine q_iload dX6_moved_56 (rfl : 56 + 2 = 58) rfl ?_
      refine q_iload_n dX6_moved_58 (rfl : 58 + 1 = 59) rfl ?_
      refine q_icmp_le (q := 65) dX6_moved_59 (by decide) (rfl : 59 + 3 = 62) (fun e1 => ?_) (fun e1 => ?_)
      ·
        have tail : ∀ (g' : Nat) (on' : Int32), g' ≤ i + 1 → mvL (fun i => I 17 i * I 7 i) w (k + 1) i g on = mvL (fun i => I 17 i * I 7 i) w k (i + 1) g' (on' + I 17 i * I 7 i) → Wm mX6_moved (TM d 0 0 false n0 Po) 0 0 shA 87 [some (.ref 0), some (.int w), some (.int (nI g')), some (.int on'), some (.int (nI i)), some (.int (I 17 i * I 7 i))] [] I J RA := by
          intro g' on' hg' e
          rw [e] at hPo
          refine q_iload_n dX6_moved_87 (rfl : 87 + 1 = 88) rfl ?_
          refine q_iload dX6_moved_88 (rfl : 88 + 2 = 90) rfl ?_
          refine q_iadd dX6_moved_90 (rfl : 90 + 1 = 91) ?_
          refine q_istore_n dX6_moved_91 (rfl : 91 + 1 = 92) (by decide) ?_
          first | refine q_iinc1 dX6_moved_92 (rfl : 92 + 3 = 95) rfl (by decide) ?_ | refine q_iinc dX6_moved_92 (rfl : 92 + 3 = 95) rfl rfl (by decide) ?_
          refine q_goto (q := 21) dX6_moved_95 (by decide) ?_
          refine q_forget (L' := [some (.ref 0), some (.int w), some (.int (nI g')), some (.int (on' + I 17 i * I 7 i)), some (.int (nI (i + 1))), none]) (by repeat (first | exact trivial | refine And.intro rfl ?_)) ?_
          exact ih (i + 1) g' _ (by omega) hg' hPo
        have grow : 0 < I 17 i * I 7 i → (g = 0 ∨ w < on + I 17 i * I 7 i) → Wm mX6_moved (TM d 0 0 false n0 Po) 0 0 shA 82 [some (.ref 0), some (.int w), some (.int (nI g)), some (.int on), some (.int (nI i)), some (.int (I 17 i * I 7 i))] [] I J RA := by
          intro z1 z2
          first | refine q_iinc1 dX6_moved_82 (rfl : 82 + 3 = 85) rfl (by decide) ?_ | refine q_iinc dX6_moved_82 (rfl : 82 + 3 = 85) rfl rfl (by decide) ?_
          refine q_iconst (v := nI 0) dX6_moved_85 (rfl : 85 + 1 = 86) (by decide) ?_
          refine q_istore_n dX6_moved_86 (rfl : 86 + 1 = 87) (by decide) ?_
          exact tail (g + 1) (nI 0) (by omega) (by simp only [mvL, if_neg (Int32.not_lt.mpr e1), if_pos (And.intro z1 z2)])
        have stay : ¬ (0 < I 17 i * I 7 i ∧ (g = 0 ∨ w < on + I 17 i * I 7 i)) → Wm mX6_moved (TM d 0 0 false n0 Po) 0 0 shA 87 [some (.ref 0), some (.int w), some (.int (nI g)), some (.int on), some (.int (nI i)), some (.int (I 17 i * I 7 i))] [] I J RA := by
          intro z
          exact tail g on (by omega) (by simp only [mvL, if_neg (Int32.not_lt.mpr e1), if_neg z])
        refine q_iload dX6_moved_65 (rfl : 65 + 2 = 67) rfl ?_
        refine q_if_le (q := 87) dX6_moved_67 (by decide) (rfl : 67 + 3 = 70) (fun e2 => ?_) (fun e2 => ?_)
        ·
          exact stay (fun z => absurd z.1 (Int32.not_lt.mpr e2))
        ·
          have hpos := Int32.not_le.mp e2
          refine q_iload_n dX6_moved_70 (rfl : 70 + 1 = 71) rfl ?_
          refine q_if_eq_n (q := 82) (by omega) dX6_moved_71 (by decide) (rfl : 71 + 3 = 74) (fun e3 => ?_) (fun e3 => ?_)
          ·
            exact grow hpos (Or.inl e3)
          ·
            refine q_iload_n dX6_moved_74 (rfl : 74 + 1 = 75) rfl ?_
            refine q_iload dX6_moved_75 (rfl : 75 + 2 = 77) rfl ?_
            refine q_iadd dX6_moved_77 (rfl : 77 + 1 = 78) ?_
            refine q_iload_n dX6_moved_78 (rfl : 78 + 1 = 79) rfl ?_
            refine q_icmp_le (q := 87) dX6_moved_79 (by decide) (rfl : 79 + 3 = 82) (fun e4 => ?_) (fun e4 => ?_)
            ·
              exact stay (fun z => z.2.elim e3 (fun z => absurd z (Int32.not_lt.mpr e4)))
            ·
              exact grow hpos (Or.inr (Int32.not_le.mp e4))
      ·
        refine q_bipush (v := -4) dX6_moved_62 (rfl : 62 + 2 = 64) (by decide) ?_
        have e : mvL (fun i => I 17 i * I 7 i) w (k + 1) i g on = -4 := by simp only [mvL, if_pos (Int32.not_le.mp e1)]
        rw [e] at hPo
        exact q_iret rfl dX6_moved_64 hPo
theorem S_moved {d n : Nat} {I : HI} {J : HJ} {w : Int32} (h : inr w (nI 10) (nI 9990) = true) (hn : I 16 0 = nI n) (h12 : n ≤ 12) : MIp mX6_moved (d + 1) [.ref 0, .int w] shA I J RA (mvL (fun i => I 17 i * I 7 i) w n 0 0 (nI 0)) := by
  refine Mt.of (L := [some (.ref 0), some (.int w), none, none, none, none]) (by decide +kernel) (Nat.le_of_ble_eq_true rfl) rfl ?_
  refine q_iload_n dX6_moved_0 (rfl : 0 + 1 = 1) rfl ?_
  refine q_bipush (v := nI 10) dX6_moved_1 (rfl : 1 + 2 = 3) (by decide) ?_
  refine q_sipush (v := nI 9990) dX6_moved_3 (rfl : 3 + 3 = 6) (by decide) ?_
  refine q_callSIp S_inside dX6_moved_6 (rfl : 6 + 3 = 9) lX6_68 vX6_inside rfl rfl (Nat.le_of_ble_eq_true rfl) TM_room TM_cs ?_
  refine q_if_ne_b (q := 14) dX6_moved_9 (by decide) (rfl : 9 + 3 = 12) (fun q1 => ?_) (fun q1 => ?_)
  ·
    refine q_iconst (v := nI 0) dX6_moved_14 (rfl : 14 + 1 = 15) (by decide) ?_
    refine q_istore_n dX6_moved_15 (rfl : 15 + 1 = 16) (by decide) ?_
    refine q_iconst (v := nI 0) dX6_moved_16 (rfl : 16 + 1 = 17) (by decide) ?_
    refine q_istore_n dX6_moved_17 (rfl : 17 + 1 = 18) (by decide) ?_
    refine q_iconst (v := nI 0) dX6_moved_18 (rfl : 18 + 1 = 19) (by decide) ?_
    refine q_istore dX6_moved_19 (rfl : 19 + 2 = 21) (by decide) ?_
    exact L_moved hn h12 n 0 0 (nI 0) (by omega) (by omega) ⟨rfl, rfl, _, rfl, rfl, rfl, rfl⟩
  · rw [h] at q1; cases q1
theorem S_rent_bad {d : Nat} {I : HI} {J : HJ} {w : Int32} (h : inr w (nI 1) 999999 = false) : MGp mX6_rent (d + 1) [.ref 0, .int w] shA I J RA (-1) := by
  refine Mt.of (L := [some (.ref 0), some (.int w), none, none, none]) (by decide +kernel) (Nat.le_of_ble_eq_true rfl) rfl ?_
  refine q_iload_n dX6_rent_0 (rfl : 0 + 1 = 1) rfl ?_
  refine q_iconst (v := nI 1) dX6_rent_1 (rfl : 1 + 1 = 2) (by decide) ?_
  refine q_ldc dX6_rent_2 (rfl : 2 + 2 = 4) kX6_218 ?_
  refine q_callSIp S_inside dX6_rent_4 (rfl : 4 + 3 = 7) lX6_68 vX6_inside rfl rfl (Nat.le_of_ble_eq_true rfl) TM_room TM_cs ?_
  refine q_if_ne_b (q := 14) dX6_rent_7 (by decide) (rfl : 7 + 3 = 10) (fun h1 => ?_) (fun h1 => ?_)
  · rw [h] at h1; cases h1
  ·
    refine q_ldc2 dX6_rent_10 (rfl : 10 + 3 = 13) kX6_219 ?_
    refine q_lret rfl dX6_rent_13 ⟨rfl, rfl, _, rfl, ?_⟩
    exact ⟨rfl, rfl, rfl⟩
def sJ (f : Nat → Int64) (n : Nat) : Int64 := match n with
  | 0 => 0
  | n + 1 => sJ f n + f n
theorem L_rent {d n0 n : Nat} {Po : PO} {I : HI} {J : HJ} {w : Int32} {yr : Nat → Nat} (hn : I 16 0 = nI n) (h12 : n ≤ 12) (hy : ∀ i, i < n → I 5 i = nI (yr i) ∧ yr i < 100) (K : Wm mX6_rent (TM (d + 1) 0 0 false n0 Po) 0 0 shA 61 [some (.ref 0), some (.int w), some (.long (sJ (fun i => (I 17 i * I 9 (yr i)).toInt64) n)), none, none] [] I J RA) :
    ∀ (i : Nat), i ≤ n → Wm mX6_rent (TM (d + 1) 0 0 false n0 Po) 0 0 shA 19 [some (.ref 0), some (.int w), some (.long (sJ (fun i => (I 17 i * I 9 (yr i)).toInt64) i)), none, some (.int (nI i))] [] I J RA := by
  refine loopN (fun i hi ih => ?_)
  refine q_iload dX6_rent_19 (rfl : 19 + 2 = 21) rfl ?_
  refine q_aload_n dX6_rent_21 (rfl : 21 + 1 = 22) rfl ?_
  refine q_getR dX6_rent_22 (rfl : 22 + 3 = 25) fX6_29 (by first | rfl | assumption) (by first | rfl | assumption) ?_
  refine q_getI dX6_rent_25 (rfl : 25 + 3 = 28) fX6_110 (by first | rfl | assumption) ?_
  try simp (disch := omega) only [wr_hit, wr_p, wr_k, nI_add, pk_mul, nI_1, nI_s1, pk_sub, Nat.add_sub_cancel, hn]
  refine q_icmp_ge_n (q := 61) (by omega) (by omega) dX6_rent_28 (by decide) (rfl : 28 + 3 = 31) (fun h => ?_) (fun h => ?_)
  ·
    obtain rfl : i = n := by omega
    refine q_forget (L' := [some (.ref 0), some (.int w), some (.long (sJ (fun i => (I 17 i * I 9 (yr i)).toInt64) i)), none, none]) (by repeat (first | exact trivial | refine And.intro rfl ?_)) ?_
    exact K
  ·
    obtain ⟨y1, y2⟩ := hy i h
    refine q_lload_n dX6_rent_31 (rfl : 31 + 1 = 32) rfl ?_
    refine q_aload_n dX6_rent_32 (rfl : 32 + 1 = 33) rfl ?_
    refine q_getR dX6_rent_33 (rfl : 33 + 3 = 36) fX6_29 (by first | rfl | assumption) (by first | rfl | assumption) ?_
    refine q_getR dX6_rent_36 (rfl : 36 + 3 = 39) fX6_131 (by first | rfl | assumption) (by first | rfl | assumption) ?_
    refine q_iload dX6_rent_39 (rfl : 39 + 2 = 41) rfl ?_
    refine q_iald dX6_rent_41 (rfl : 41 + 1 = 42) (by first | rfl | assumption) (by first | assumption | omega) (by decide) ?_
    refine q_aload_n dX6_rent_42 (rfl : 42 + 1 = 43) rfl ?_
    refine q_getR dX6_rent_43 (rfl : 43 + 3 = 46) fX6_19 (by first | rfl | assumption) (by first | rfl | assumption) ?_
    refine q_iload dX6_rent_46 (rfl : 46 + 2 = 48) rfl ?_
    refine q_callVIp (S_costOf (d := d) (by omega) y1 y2) dX6_rent_48 (rfl : 48 + 3 = 51) lX6_106 vX5_costOf (by first | rfl | assumption) rfl rfl (Nat.le_of_ble_eq_true rfl) TM_room TM_cs ?_
    refine q_imul dX6_rent_51 (rfl : 51 + 1 = 52) ?_
    refine q_i2l dX6_rent_52 (rfl : 52 + 1 = 53) ?_
    refine q_ladd dX6_rent_53 (rfl : 53 + 1 = 54) ?_
    refine q_lstore_n dX6_rent_54 (rfl : 54 + 1 = 55) (by decide) ?_
    first | refine q_iinc1 dX6_rent_55 (rfl : 55 + 3 = 58) rfl (by decide) ?_ | refine q_iinc dX6_rent_55 (rfl : 55 + 3 = 58) rfl rfl (by decide) ?_
    refine q_goto (q := 19) dX6_rent_58 (by decide) ?_
    exact ih h
theorem S_rent {d n : Nat} {I : HI} {J : HJ} {w : Int32} {yr : Nat → Nat} (h : inr w (nI 1) 999999 = true) (hn : I 16 0 = nI n) (h12 : n ≤ 12) (hy : ∀ i, i < n → I 5 i = nI (yr i) ∧ yr i < 100) : MGp mX6_rent (d + 1) [.ref 0, .int w] shA I J RA (w.toInt64 * sJ (fun i => (I 17 i * I 9 (yr i)).toInt64) n / 100) := by
  refine Mt.of (L := [some (.ref 0), some (.int w), none, none, none]) (by decide +kernel) (Nat.le_of_ble_eq_true rfl) rfl ?_
  refine q_iload_n dX6_rent_0 (rfl : 0 + 1 = 1) rfl ?_
  refine q_iconst (v := nI 1) dX6_rent_1 (rfl : 1 + 1 = 2) (by decide) ?_
  refine q_ldc dX6_rent_2 (rfl : 2 + 2 = 4) kX6_218 ?_
  refine q_callSIp S_inside dX6_rent_4 (rfl : 4 + 3 = 7) lX6_68 vX6_inside rfl rfl (Nat.le_of_ble_eq_true rfl) TM_room TM_cs ?_
  refine q_if_ne_b (q := 14) dX6_rent_7 (by decide) (rfl : 7 + 3 = 10) (fun q1 => ?_) (fun q1 => ?_)
  ·
    refine q_lconst (v := 0) dX6_rent_14 (rfl : 14 + 1 = 15) (by decide) ?_
    refine q_lstore_n dX6_rent_15 (rfl : 15 + 1 = 16) (by decide) ?_
    refine q_iconst (v := nI 0) dX6_rent_16 (rfl : 16 + 1 = 17) (by decide) ?_
    refine q_istore dX6_rent_17 (rfl : 17 + 2 = 19) (by decide) ?_
    refine L_rent hn h12 hy ?_ 0 (by omega)
    refine q_iload_n dX6_rent_61 (rfl : 61 + 1 = 62) rfl ?_
    refine q_i2l dX6_rent_62 (rfl : 62 + 1 = 63) ?_
    refine q_lload_n dX6_rent_63 (rfl : 63 + 1 = 64) rfl ?_
    refine q_lmul dX6_rent_64 (rfl : 64 + 1 = 65) ?_
    refine q_ldc2 dX6_rent_65 (rfl : 65 + 3 = 68) kX6_221 ?_
    refine q_ldiv dX6_rent_68 (rfl : 68 + 1 = 69) (by first | assumption | decide) ?_
    refine q_lret rfl dX6_rent_69 ⟨rfl, rfl, _, rfl, ?_⟩
    exact ⟨rfl, rfl, rfl⟩
  · rw [h] at q1; cases q1
theorem S_winter_bad {d : Nat} {I : HI} {J : HJ} {z : Int32} (h : inr z (nI 0) (nI 9999) = false) : MIp mX6_winter (d + 2) [.ref 0, .int z] shA I J RA (-1) := by
  refine Mt.of (L := [some (.ref 0), some (.int z)]) (by decide +kernel) (Nat.le_of_ble_eq_true rfl) rfl ?_
  refine q_iload_n dX6_winter_0 (rfl : 0 + 1 = 1) rfl ?_
  refine q_callSIp S_isWinter dX6_winter_1 (rfl : 1 + 3 = 4) lX6_223 vX6_isWinter rfl rfl (Nat.le_of_ble_eq_true rfl) TM_room TM_cs ?_
  refine q_if_eq_b (q := 18) dX6_winter_4 (by decide) (rfl : 4 + 3 = 7) (fun h1 => ?_) (fun h1 => ?_)
  ·
    refine q_iconst (v := -1) dX6_winter_18 (rfl : 18 + 1 = 19) (by decide) ?_
    refine q_iret rfl dX6_winter_19 ⟨rfl, rfl, _, rfl, ?_⟩
    exact ⟨rfl, rfl, rfl⟩
  · rw [h] at h1; cases h1
/-- how many falls come in, in a winter -/
def wint (I : HI) (nf v : Nat) (z : Int32) : Nat := ftc (I 6) (I 7) (moreI v z) (bearsB I) nf 0 (nI 0) (nI 0)
theorem nI_nm1 {j : Nat} (h : j < 2 ^ 31) : ¬ nI j = -1 := fun z => absurd (nI_pos h) (by rw [z]; decide)
theorem S_winter {d nf v j : Nat} {I : HI} {J : HJ} (hj : j ≤ 9999) (hf : I 4 5 = nI nf) (h12 : nf ≤ 12) (hv : I 4 4 = nI v) (h9 : v ≤ 9) : MIp mX6_winter (d + 3) [.ref 0, .int (nI j)] shA I J RA (nI (wint I nf v (nI j))) := by
  refine Mt.of (L := [some (.ref 0), some (.int (nI j))]) (by decide +kernel) (Nat.le_of_ble_eq_true rfl) rfl ?_
  refine q_iload_n dX6_winter_0 (rfl : 0 + 1 = 1) rfl ?_
  refine q_callSIp (S_isWinter (d := d + 1)) dX6_winter_1 (rfl : 1 + 3 = 4) lX6_223 vX6_isWinter rfl rfl (Nat.le_of_ble_eq_true rfl) TM_room TM_cs ?_
  refine q_if_eq_b (q := 18) dX6_winter_4 (by decide) (rfl : 4 + 3 = 7) (fun h1 => ?_) (fun h1 => ?_)
  · rw [inr_of (by omega) hj (by decide)] at h1; cases h1
  ·
    refine q_aload_n dX6_winter_7 (rfl : 7 + 1 = 8) rfl ?_
    refine q_iconst (v := nI 0) dX6_winter_8 (rfl : 8 + 1 = 9) (by decide) ?_
    refine q_iconst (v := nI 0) dX6_winter_9 (rfl : 9 + 1 = 10) (by decide) ?_
    refine q_iconst (v := nI 0) dX6_winter_10 (rfl : 10 + 1 = 11) (by decide) ?_
    refine q_iload_n dX6_winter_11 (rfl : 11 + 1 = 12) rfl ?_
    refine q_callVIp (S_ftc (d := d) hf h12 (Nat.zero_le nf) (fun i => S_moreInches (nI_nm1 (by omega)) hv h9)) dX6_winter_12 (rfl : 12 + 3 = 15) lX6_140 vX6_firstThatCannot (by first | rfl | assumption) rfl rfl (Nat.le_of_ble_eq_true rfl) TM_room TM_cs ?_
    refine q_goto (q := 19) dX6_winter_15 (by decide) ?_
    refine q_iret rfl dX6_winter_19 ⟨rfl, rfl, _, rfl, ?_⟩
    exact ⟨rfl, rfl, rfl⟩
theorem S_ten_bad {d : Nat} {I : HI} {J : HJ} {z : Int32} (h : inr z (nI 0) (nI 9999) = false) : MIp mX6_ten (d + 2) [.ref 0, .int z] shA I J RA (-1) := by
  refine Mt.of (L := [some (.ref 0), some (.int z), none, none]) (by decide +kernel) (Nat.le_of_ble_eq_true rfl) rfl ?_
  refine q_iload_n dX6_ten_0 (rfl : 0 + 1 = 1) rfl ?_
  refine q_callSIp S_isWinter dX6_ten_1 (rfl : 1 + 3 = 4) lX6_223 vX6_isWinter rfl rfl (Nat.le_of_ble_eq_true rfl) TM_room TM_cs ?_
  refine q_if_ne_b (q := 9) dX6_ten_4 (by decide) (rfl : 4 + 3 = 7) (fun h1 => ?_) (fun h1 => ?_)
  · rw [h] at h1; cases h1
  ·
    refine q_iconst (v := -1) dX6_ten_7 (rfl : 7 + 1 = 8) (by decide) ?_
    refine q_iret rfl dX6_ten_8 ⟨rfl, rfl, _, rfl, ?_⟩
    exact ⟨rfl, rfl, rfl⟩
def tenN (w : Nat → Nat) (nf j k : Nat) : Nat := match k with
  | 0 => 0
  | k + 1 => tenN w nf j k + (if w ((j + k) % 10000) = nf then 1 else 0)
theorem tenN_le (w : Nat → Nat) (nf j k : Nat) : tenN w nf j k ≤ k := by
  induction k with
  | zero => exact Nat.le_refl _
  | succ k ih =>
    unfold tenN
    split <;> omega
theorem L_ten {d n0 nf v j : Nat} {Po : PO} {I : HI} {J : HJ} (hj : j ≤ 9999) (hf : I 4 5 = nI nf) (h12 : nf ≤ 12) (hv : I 4 4 = nI v) (h9 : v ≤ 9) (K : Wm mX6_ten (TM (d + 3) 0 0 false n0 Po) 0 0 shA 52 [some (.ref 0), some (.int (nI j)), some (.int (nI (tenN (fun z => wint I nf v (nI z)) nf j 10))), none] [] I J RA) :
    ∀ (k : Nat), k ≤ 10 → Wm mX6_ten (TM (d + 3) 0 0 false n0 Po) 0 0 shA 13 [some (.ref 0), some (.int (nI j)), some (.int (nI (tenN (fun z => wint I nf v (nI z)) nf j k))), some (.int (nI k))] [] I J RA := by
  refine loopN (fun k hk ih => ?_)
  have ht := tenN_le (fun z => wint I nf v (nI z)) nf j k
  have e0 : tenN (fun z => wint I nf v (nI z)) nf j (k + 1) = tenN (fun z => wint I nf v (nI z)) nf j k + (if wint I nf v (nI ((j + k) % 10000)) = nf then 1 else 0) := rfl
  generalize ht0 : tenN (fun z => wint I nf v (nI z)) nf j k = t at ht e0 ⊢
  refine q_iload_n dX6_ten_13 (rfl : 13 + 1 = 14) rfl ?_
  refine q_bipush (v := nI 10) dX6_ten_14 (rfl : 14 + 2 = 16) (by decide) ?_
  refine q_icmp_ge_n (q := 52) (by omega) (by omega) dX6_ten_16 (by decide) (rfl : 16 + 3 = 19) (fun h => ?_) (fun h => ?_)
  ·
    obtain rfl : k = 10 := by omega
    rw [show t = tenN (fun z => wint I nf v (nI z)) nf j 10 from ht0.symm]
    refine q_forget (L' := [some (.ref 0), some (.int (nI j)), some (.int (nI (tenN (fun z => wint I nf v (nI z)) nf j 10))), none]) (by repeat (first | exact trivial | refine And.intro rfl ?_)) ?_
    exact K
  ·
    refine q_aload_n dX6_ten_19 (rfl : 19 + 1 = 20) rfl ?_
    refine q_iconst (v := nI 0) dX6_ten_20 (rfl : 20 + 1 = 21) (by decide) ?_
    refine q_iconst (v := nI 0) dX6_ten_21 (rfl : 21 + 1 = 22) (by decide) ?_
    refine q_iconst (v := nI 0) dX6_ten_22 (rfl : 22 + 1 = 23) (by decide) ?_
    refine q_iload_n dX6_ten_23 (rfl : 23 + 1 = 24) rfl ?_
    refine q_iload_n dX6_ten_24 (rfl : 24 + 1 = 25) rfl ?_
    refine q_iadd dX6_ten_25 (rfl : 25 + 1 = 26) ?_
    refine q_sipush (v := nI 10000) dX6_ten_26 (rfl : 26 + 3 = 29) (by decide) ?_
    rw [nI_add]
    have e1 : ¬ nI 10000 = 0 := by decide
    refine q_irem dX6_ten_29 (rfl : 29 + 1 = 30) (by first | assumption | decide) ?_
    rw [pk_rem (show j + k < 2 ^ 31 by omega) (show 0 < 10000 by omega) (by omega)]
    refine q_callVIp (S_ftc (d := d) (more := moreI v (nI ((j + k) % 10000))) hf h12 (Nat.zero_le nf) (fun i => S_moreInches (nI_nm1 (show (j + k) % 10000 < 2 ^ 31 by omega)) hv h9)) dX6_ten_30 (rfl : 30 + 3 = 33) lX6_140 vX6_firstThatCannot (by first | rfl | assumption) rfl rfl (Nat.le_of_ble_eq_true rfl) TM_room TM_cs ?_
    refine q_aload_n dX6_ten_33 (rfl : 33 + 1 = 34) rfl ?_
    refine q_getR dX6_ten_34 (rfl : 34 + 3 = 37) fX6_19 (by first | rfl | assumption) (by first | rfl | assumption) ?_
    refine q_getI dX6_ten_37 (rfl : 37 + 3 = 40) fX6_87 (by first | rfl | assumption) ?_
    try simp (disch := omega) only [wr_hit, wr_p, wr_k, nI_add, pk_mul, nI_1, nI_s1, pk_sub, Nat.add_sub_cancel, hf]
    have hle : ftc (I 6) (I 7) (moreI v (nI ((j + k) % 10000))) (bearsB I) (nf - 0) 0 (nI 0) (nI 0) ≤ nf := Nat.le_trans (ftc_le _ _ _ _) (by omega)
    have e3 : wint I nf v (nI ((j + k) % 10000)) = ftc (I 6) (I 7) (moreI v (nI ((j + k) % 10000))) (bearsB I) (nf - 0) 0 (nI 0) (nI 0) := rfl
    rw [e3] at e0
    refine q_icmp_ne_n (q := 46) (by omega) (by omega) dX6_ten_40 (by decide) (rfl : 40 + 3 = 43) (fun q => ?_) (fun q => ?_)
    ·
      rw [if_neg q] at e0
      first | refine q_iinc1 dX6_ten_46 (rfl : 46 + 3 = 49) rfl (by decide) ?_ | refine q_iinc dX6_ten_46 (rfl : 46 + 3 = 49) rfl rfl (by decide) ?_
      refine q_goto (q := 13) dX6_ten_49 (by decide) ?_
      have := ih h
      rw [e0] at this
      exact this
    ·
      rw [if_pos q] at e0
      first | refine q_iinc1 dX6_ten_43 (rfl : 43 + 3 = 46) rfl (by decide) ?_ | refine q_iinc dX6_ten_43 (rfl : 43 + 3 = 46) rfl rfl (by decide) ?_
      first | refine q_iinc1 dX6_ten_46 (rfl : 46 + 3 = 49) rfl (by decide) ?_ | refine q_iinc dX6_ten_46 (rfl : 46 + 3 = 49) rfl rfl (by decide) ?_
      refine q_goto (q := 13) dX6_ten_49 (by decide) ?_
      have := ih h
      rw [e0] at this
      exact this
theorem S_ten {d nf v j : Nat} {I : HI} {J : HJ} (hj : j ≤ 9999) (hf : I 4 5 = nI nf) (h12 : nf ≤ 12) (hv : I 4 4 = nI v) (h9 : v ≤ 9) : MIp mX6_ten (d + 3) [.ref 0, .int (nI j)] shA I J RA (nI (tenN (fun z => wint I nf v (nI z)) nf j 10)) := by
  refine Mt.of (L := [some (.ref 0), some (.int (nI j)), none, none]) (by decide +kernel) (Nat.le_of_ble_eq_true rfl) rfl ?_
  refine q_iload_n dX6_ten_0 (rfl : 0 + 1 = 1) rfl ?_
  refine q_callSIp (S_isWinter (d := d + 1)) dX6_ten_1 (rfl : 1 + 3 = 4) lX6_223 vX6_isWinter rfl rfl (Nat.le_of_ble_eq_true rfl) TM_room TM_cs ?_
  refine q_if_ne_b (q := 9) dX6_ten_4 (by decide) (rfl : 4 + 3 = 7) (fun h1 => ?_) (fun h1 => ?_)
  ·
    refine q_iconst (v := nI 0) dX6_ten_9 (rfl : 9 + 1 = 10) (by decide) ?_
    refine q_istore_n dX6_ten_10 (rfl : 10 + 1 = 11) (by decide) ?_
    refine q_iconst (v := nI 0) dX6_ten_11 (rfl : 11 + 1 = 12) (by decide) ?_
    refine q_istore_n dX6_ten_12 (rfl : 12 + 1 = 13) (by decide) ?_
    refine L_ten (d := d) hj hf h12 hv h9 ?_ 0 (by omega)
    refine q_iload_n dX6_ten_52 (rfl : 52 + 1 = 53) rfl ?_
    refine q_iret rfl dX6_ten_53 ⟨rfl, rfl, _, rfl, ?_⟩
    exact ⟨rfl, rfl, rfl⟩
  · rw [inr_of (by omega) hj (by decide)] at h1; cases h1
theorem S_keep_full {d : Nat} {I : HI} {J : HJ} (hk : I 0 6 = nI 2) : MIp mX6_keep (d + 1) [.ref 0] shA I J RA (-3) := by
  refine Mt.of (L := [some (.ref 0)]) (by decide +kernel) (Nat.le_of_ble_eq_true rfl) rfl ?_
  refine q_aload_n dX6_keep_0 (rfl : 0 + 1 = 1) rfl ?_
  refine q_getI dX6_keep_1 (rfl : 1 + 3 = 4) fX6_39 (by first | rfl | assumption) ?_
  try simp (disch := omega) only [wr_hit, wr_p, wr_k, nI_add, pk_mul, nI_1, nI_s1, pk_sub, Nat.add_sub_cancel, hk]
  refine q_iconst (v := nI 2) dX6_keep_4 (rfl : 4 + 1 = 5) (by decide) ?_
  refine q_icmp_lt_n (q := 11) (by omega) (by omega) dX6_keep_5 (by decide) (rfl : 5 + 3 = 8) (fun h => ?_) (fun h => ?_)
  · omega
  ·
    refine q_bipush (v := -3) dX6_keep_8 (rfl : 8 + 2 = 10) (by decide) ?_
    refine q_iret rfl dX6_keep_10 ⟨rfl, rfl, _, rfl, ?_⟩
    exact ⟨rfl, rfl, rfl⟩
theorem cpH_o {I : HI} {t o a : Nat} (h : a < t ∨ t + 6 ≤ a) : cpH I t o a = I a := by
  unfold cpH
  rw [cp2_o (by omega), cp1_o (by omega), wr_ne (by omega), wr_ne (by omega), wr_ne (by omega)]
def keepH (I : HI) (k : Nat) : HI := wr (cpH I (22 + 6 * k) 16) 0 6 (nI (k + 1))
theorem S_keep {d k : Nat} {I : HI} {J : HJ} (hk : I 0 6 = nI k) (h2 : k < 2) : MI mX6_keep (d + 1) [.ref 0] shA I J RA (fun x I' J' => x = nI (k + 1) ∧ I' = keepH I k ∧ J' = J) := by
  refine Mt.of (L := [some (.ref 0)]) (by decide +kernel) (Nat.le_of_ble_eq_true rfl) rfl ?_
  refine q_aload_n dX6_keep_0 (rfl : 0 + 1 = 1) rfl ?_
  refine q_getI dX6_keep_1 (rfl : 1 + 3 = 4) fX6_39 (by first | rfl | assumption) ?_
  try simp (disch := omega) only [wr_hit, wr_p, wr_k, nI_add, pk_mul, nI_1, nI_s1, pk_sub, Nat.add_sub_cancel, hk]
  refine q_iconst (v := nI 2) dX6_keep_4 (rfl : 4 + 1 = 5) (by decide) ?_
  refine q_icmp_lt_n (q := 11) (by omega) (by omega) dX6_keep_5 (by decide) (rfl : 5 + 3 = 8) (fun h => ?_) (fun h => ?_)
  ·
    refine q_aload_n dX6_keep_11 (rfl : 11 + 1 = 12) rfl ?_
    refine q_aload_n dX6_keep_12 (rfl : 12 + 1 = 13) rfl ?_
    refine q_getI dX6_keep_13 (rfl : 13 + 3 = 16) fX6_39 (by first | rfl | assumption) ?_
    try simp (disch := omega) only [wr_hit, wr_p, wr_k, nI_add, pk_mul, nI_1, nI_s1, pk_sub, Nat.add_sub_cancel, hk]
    refine q_callVRp (S_keptAt (d := d) h2) dX6_keep_16 (rfl : 16 + 3 = 19) lX6_226 vX6_keptAt (by first | rfl | assumption) rfl rfl (Nat.le_of_ble_eq_true rfl) TM_room TM_cs ?_
    have hb := barnAt (b := k + 1) (by omega)
    rw [show 16 + 6 * (k + 1) = 22 + 6 * k by omega] at hb
    have hsh := hb.1
    refine q_aload_n dX6_keep_19 (rfl : 19 + 1 = 20) rfl ?_
    refine q_getR dX6_keep_20 (rfl : 20 + 3 = 23) fX6_29 (by first | rfl | assumption) (by first | rfl | assumption) ?_
    refine q_callVV (S_copyFrom (d := d) hb (barnAt (b := 0) (by omega)) (Or.inr (by omega))) dX6_keep_23 (rfl : 23 + 3 = 26) lX6_230 vX0_copyFrom (by first | rfl | assumption) rfl rfl (Nat.le_of_ble_eq_true rfl) TM_room TM_cs ?_
    intro I1 J1 hp
    obtain ⟨rfl, rfl⟩ := hp
    have e : cpH I (22 + 6 * k) 16 0 6 = nI k := by rw [cpH_o (by omega)]; exact hk
    refine q_aload_n dX6_keep_26 (rfl : 26 + 1 = 27) rfl ?_
    refine q_dup dX6_keep_27 (rfl : 27 + 1 = 28) rfl ?_
    refine q_getI dX6_keep_28 (rfl : 28 + 3 = 31) fX6_39 (by first | rfl | assumption) ?_
    try simp (disch := omega) only [wr_hit, wr_p, wr_k, nI_add, pk_mul, nI_1, nI_s1, pk_sub, Nat.add_sub_cancel, e]
    refine q_iconst (v := nI 1) dX6_keep_31 (rfl : 31 + 1 = 32) (by decide) ?_
    refine q_iadd dX6_keep_32 (rfl : 32 + 1 = 33) ?_
    try simp (disch := omega) only [wr_hit, wr_p, wr_k, nI_add, pk_mul, nI_1, nI_s1, pk_sub, Nat.add_sub_cancel, e]
    refine q_putI dX6_keep_33 (rfl : 33 + 3 = 36) pX6_39 (by first | rfl | assumption) ?_
    refine q_aload_n dX6_keep_36 (rfl : 36 + 1 = 37) rfl ?_
    refine q_getI dX6_keep_37 (rfl : 37 + 3 = 40) fX6_39 (by first | rfl | assumption) ?_
    try simp (disch := omega) only [wr_hit, wr_p, wr_k, nI_add, pk_mul, nI_1, nI_s1, pk_sub, Nat.add_sub_cancel, e]
    refine q_iret rfl dX6_keep_40 ⟨rfl, rfl, _, rfl, ?_⟩
    exact ⟨rfl, rfl, rfl⟩
  · omega
theorem S_back_no {d : Nat} {I : HI} {J : HJ} (hk : I 0 6 = nI 0) : MIp mX6_back (d + 1) [.ref 0] shA I J RA (-2) := by
  refine Mt.of (L := [some (.ref 0)]) (by decide +kernel) (Nat.le_of_ble_eq_true rfl) rfl ?_
  refine q_aload_n dX6_back_0 (rfl : 0 + 1 = 1) rfl ?_
  refine q_getI dX6_back_1 (rfl : 1 + 3 = 4) fX6_39 (by first | rfl | assumption) ?_
  try simp (disch := omega) only [wr_hit, wr_p, wr_k, nI_add, pk_mul, nI_1, nI_s1, pk_sub, Nat.add_sub_cancel, hk]
  refine q_if_ne_n (q := 10) (by omega) dX6_back_4 (by decide) (rfl : 4 + 3 = 7) (fun h => ?_) (fun h => ?_)
  · omega
  ·
    refine q_bipush (v := -2) dX6_back_7 (rfl : 7 + 2 = 9) (by decide) ?_
    refine q_iret rfl dX6_back_9 ⟨rfl, rfl, _, rfl, ?_⟩
    exact ⟨rfl, rfl, rfl⟩
def backH (I : HI) (k : Nat) : HI := cpH (wr I 0 6 (nI k)) 16 (22 + 6 * k)
theorem S_back {d k : Nat} {I : HI} {J : HJ} (hk : I 0 6 = nI (k + 1)) (h2 : k < 2) : MI mX6_back (d + 1) [.ref 0] shA I J RA (fun x I' J' => x = nI k ∧ I' = backH I k ∧ J' = J) := by
  refine Mt.of (L := [some (.ref 0)]) (by decide +kernel) (Nat.le_of_ble_eq_true rfl) rfl ?_
  refine q_aload_n dX6_back_0 (rfl : 0 + 1 = 1) rfl ?_
  refine q_getI dX6_back_1 (rfl : 1 + 3 = 4) fX6_39 (by first | rfl | assumption) ?_
  try simp (disch := omega) only [wr_hit, wr_p, wr_k, nI_add, pk_mul, nI_1, nI_s1, pk_sub, Nat.add_sub_cancel, hk]
  refine q_if_ne_n (q := 10) (by omega) dX6_back_4 (by decide) (rfl : 4 + 3 = 7) (fun h => ?_) (fun h => ?_)
  ·
    refine q_aload_n dX6_back_10 (rfl : 10 + 1 = 11) rfl ?_
    refine q_dup dX6_back_11 (rfl : 11 + 1 = 12) rfl ?_
    refine q_getI dX6_back_12 (rfl : 12 + 3 = 15) fX6_39 (by first | rfl | assumption) ?_
    try simp (disch := omega) only [wr_hit, wr_p, wr_k, nI_add, pk_mul, nI_1, nI_s1, pk_sub, Nat.add_sub_cancel, hk]
    refine q_iconst (v := nI 1) dX6_back_15 (rfl : 15 + 1 = 16) (by decide) ?_
    refine q_isub dX6_back_16 (rfl : 16 + 1 = 17) ?_
    try simp (disch := omega) only [wr_hit, wr_p, wr_k, nI_add, pk_mul, nI_1, nI_s1, pk_sub, Nat.add_sub_cancel, hk]
    refine q_putI dX6_back_17 (rfl : 17 + 3 = 20) pX6_39 (by first | rfl | assumption) ?_
    refine q_aload_n dX6_back_20 (rfl : 20 + 1 = 21) rfl ?_
    refine q_getR dX6_back_21 (rfl : 21 + 3 = 24) fX6_29 (by first | rfl | assumption) (by first | rfl | assumption) ?_
    refine q_aload_n dX6_back_24 (rfl : 24 + 1 = 25) rfl ?_
    refine q_aload_n dX6_back_25 (rfl : 25 + 1 = 26) rfl ?_
    refine q_getI dX6_back_26 (rfl : 26 + 3 = 29) fX6_39 (by first | rfl | assumption) ?_
    try simp (disch := omega) only [wr_hit, wr_p, wr_k, nI_add, pk_mul, nI_1, nI_s1, pk_sub, Nat.add_sub_cancel, hk]
    refine q_callVRp (S_keptAt (d := d) h2) dX6_back_29 (rfl : 29 + 3 = 32) lX6_226 vX6_keptAt (by first | rfl | assumption) rfl rfl (Nat.le_of_ble_eq_true rfl) TM_room TM_cs ?_
    have hb := barnAt (b := k + 1) (by omega)
    rw [show 16 + 6 * (k + 1) = 22 + 6 * k by omega] at hb
    have hsh := hb.1
    refine q_callVV (S_copyFrom (d := d) (barnAt (b := 0) (by omega)) hb (Or.inl (by omega))) dX6_back_32 (rfl : 32 + 3 = 35) lX6_230 vX0_copyFrom (by first | rfl | assumption) rfl rfl (Nat.le_of_ble_eq_true rfl) TM_room TM_cs ?_
    intro I1 J1 hp
    obtain ⟨rfl, rfl⟩ := hp
    have e : cpH (wr I 0 6 (nI k)) 16 (22 + 6 * k) 0 6 = nI k := by rw [cpH_o (by omega)]; simp [wr]
    refine q_aload_n dX6_back_35 (rfl : 35 + 1 = 36) rfl ?_
    refine q_getI dX6_back_36 (rfl : 36 + 3 = 39) fX6_39 (by first | rfl | assumption) ?_
    try simp (disch := omega) only [wr_hit, wr_p, wr_k, nI_add, pk_mul, nI_1, nI_s1, pk_sub, Nat.add_sub_cancel, e]
    refine q_iret rfl dX6_back_39 ⟨rfl, rfl, _, rfl, ?_⟩
    exact ⟨rfl, rfl, rfl⟩
  · omega
theorem S_count_bad {d : Nat} {w : Int32} {I : HI} {J : HJ} (hw : w.toInt < 0 ∨ 8 < w.toInt) : MIp mX6_count (d + 1) [.ref 0, .int w] shA I J RA (-1) := by
  refine Mt.of (L := [some (.ref 0), some (.int w)]) (by decide +kernel) (Nat.le_of_ble_eq_true rfl) rfl ?_
  refine q_iload_n dX6_count_0 (rfl : 0 + 1 = 1) rfl ?_
  refine q_tableOut (q := 125) dX6_count_1 hw (by decide) ?_
  refine q_iconst (v := -1) dX6_count_125 (rfl : 125 + 1 = 126) (by decide) ?_
  refine q_iret rfl dX6_count_126 ⟨rfl, rfl, _, rfl, ?_⟩
  exact ⟨rfl, rfl, rfl⟩
def countV (I : HI) (n w : Nat) : Int32 := match w with
  | 0 => I 4 5
  | 1 => I 16 0
  | 2 => sI (I 17) n
  | 3 => sI (fun j => I 17 j * I 7 j) n
  | 4 => I 16 3
  | 5 => I 16 4
  | 6 => I 34 1
  | 7 => I 0 6
  | _ => I 1 1
theorem S_count {d n w : Nat} {I : HI} {J : HJ} (hn : I 16 0 = nI n) (h12 : n ≤ 12) (hw : w ≤ 8) : MIp mX6_count (d + 1) [.ref 0, .int (nI w)] shA I J RA (countV I n w) := by
  refine Mt.of (L := [some (.ref 0), some (.int (nI w))]) (by decide +kernel) (Nat.le_of_ble_eq_true rfl) rfl ?_
  refine q_iload_n dX6_count_0 (rfl : 0 + 1 = 1) rfl ?_
  rcases (show w = 0 ∨ w = 1 ∨ w = 2 ∨ w = 3 ∨ w = 4 ∨ w = 5 ∨ w = 6 ∨ w = 7 ∨ w = 8 by omega) with rfl | rfl | rfl | rfl | rfl | rfl | rfl | rfl | rfl
  · refine q_tableIn (off := 51) (q := 52) dX6_count_1 (by decide) (by decide) (by decide) (by decide) ?_
    refine q_aload_n dX6_count_52 (rfl : 52 + 1 = 53) rfl ?_
    refine q_getR dX6_count_53 (rfl : 53 + 3 = 56) fX6_19 (by first | rfl | assumption) (by first | rfl | assumption) ?_
    refine q_getI dX6_count_56 (rfl : 56 + 3 = 59) fX6_87 (by first | rfl | assumption) ?_
    refine q_iret rfl dX6_count_59 ⟨rfl, rfl, _, rfl, ?_⟩
    exact ⟨rfl, rfl, rfl⟩
  · refine q_tableIn (off := 59) (q := 60) dX6_count_1 (by decide) (by decide) (by decide) (by decide) ?_
    refine q_aload_n dX6_count_60 (rfl : 60 + 1 = 61) rfl ?_
    refine q_getR dX6_count_61 (rfl : 61 + 3 = 64) fX6_29 (by first | rfl | assumption) (by first | rfl | assumption) ?_
    refine q_getI dX6_count_64 (rfl : 64 + 3 = 67) fX6_110 (by first | rfl | assumption) ?_
    refine q_iret rfl dX6_count_67 ⟨rfl, rfl, _, rfl, ?_⟩
    exact ⟨rfl, rfl, rfl⟩
  · refine q_tableIn (off := 67) (q := 68) dX6_count_1 (by decide) (by decide) (by decide) (by decide) ?_
    refine q_aload_n dX6_count_68 (rfl : 68 + 1 = 69) rfl ?_
    refine q_getR dX6_count_69 (rfl : 69 + 3 = 72) fX6_29 (by first | rfl | assumption) (by first | rfl | assumption) ?_
    refine q_callVIp (S_high (d := d) hn h12) dX6_count_72 (rfl : 72 + 3 = 75) lX6_113 vX0_high (by first | rfl | assumption) rfl rfl (Nat.le_of_ble_eq_true rfl) TM_room TM_cs ?_
    refine q_iret rfl dX6_count_75 ⟨rfl, rfl, _, rfl, ?_⟩
    exact ⟨rfl, rfl, rfl⟩
  · refine q_tableIn (off := 75) (q := 76) dX6_count_1 (by decide) (by decide) (by decide) (by decide) ?_
    refine q_aload_n dX6_count_76 (rfl : 76 + 1 = 77) rfl ?_
    refine q_getR dX6_count_77 (rfl : 77 + 3 = 80) fX6_29 (by first | rfl | assumption) (by first | rfl | assumption) ?_
    refine q_aload_n dX6_count_80 (rfl : 80 + 1 = 81) rfl ?_
    refine q_getR dX6_count_81 (rfl : 81 + 3 = 84) fX6_19 (by first | rfl | assumption) (by first | rfl | assumption) ?_
    refine q_callVIp (S_load (d := d) hn h12) dX6_count_84 (rfl : 84 + 3 = 87) lX6_116 vX0_load (by first | rfl | assumption) rfl rfl (Nat.le_of_ble_eq_true rfl) TM_room TM_cs ?_
    refine q_iret rfl dX6_count_87 ⟨rfl, rfl, _, rfl, ?_⟩
    exact ⟨rfl, rfl, rfl⟩
  · refine q_tableIn (off := 87) (q := 88) dX6_count_1 (by decide) (by decide) (by decide) (by decide) ?_
    refine q_aload_n dX6_count_88 (rfl : 88 + 1 = 89) rfl ?_
    refine q_getR dX6_count_89 (rfl : 89 + 3 = 92) fX6_29 (by first | rfl | assumption) (by first | rfl | assumption) ?_
    refine q_getI dX6_count_92 (rfl : 92 + 3 = 95) fX6_234 (by first | rfl | assumption) ?_
    refine q_iret rfl dX6_count_95 ⟨rfl, rfl, _, rfl, ?_⟩
    exact ⟨rfl, rfl, rfl⟩
  · refine q_tableIn (off := 95) (q := 96) dX6_count_1 (by decide) (by decide) (by decide) (by decide) ?_
    refine q_aload_n dX6_count_96 (rfl : 96 + 1 = 97) rfl ?_
    refine q_getR dX6_count_97 (rfl : 97 + 3 = 100) fX6_29 (by first | rfl | assumption) (by first | rfl | assumption) ?_
    refine q_getI dX6_count_100 (rfl : 100 + 3 = 103) fX6_237 (by first | rfl | assumption) ?_
    refine q_iret rfl dX6_count_103 ⟨rfl, rfl, _, rfl, ?_⟩
    exact ⟨rfl, rfl, rfl⟩
  · refine q_tableIn (off := 103) (q := 104) dX6_count_1 (by decide) (by decide) (by decide) (by decide) ?_
    refine q_aload_n dX6_count_104 (rfl : 104 + 1 = 105) rfl ?_
    refine q_getR dX6_count_105 (rfl : 105 + 3 = 108) fX6_46 (by first | rfl | assumption) (by first | rfl | assumption) ?_
    refine q_getI dX6_count_108 (rfl : 108 + 3 = 111) fX6_204 (by first | rfl | assumption) ?_
    refine q_iret rfl dX6_count_111 ⟨rfl, rfl, _, rfl, ?_⟩
    exact ⟨rfl, rfl, rfl⟩
  · refine q_tableIn (off := 111) (q := 112) dX6_count_1 (by decide) (by decide) (by decide) (by decide) ?_
    refine q_aload_n dX6_count_112 (rfl : 112 + 1 = 113) rfl ?_
    refine q_getI dX6_count_113 (rfl : 113 + 3 = 116) fX6_39 (by first | rfl | assumption) ?_
    refine q_iret rfl dX6_count_116 ⟨rfl, rfl, _, rfl, ?_⟩
    exact ⟨rfl, rfl, rfl⟩
  · refine q_tableIn (off := 116) (q := 117) dX6_count_1 (by decide) (by decide) (by decide) (by decide) ?_
    refine q_aload_n dX6_count_117 (rfl : 117 + 1 = 118) rfl ?_
    refine q_getR dX6_count_118 (rfl : 118 + 3 = 121) fX6_10 (by first | rfl | assumption) (by first | rfl | assumption) ?_
    refine q_getI dX6_count_121 (rfl : 121 + 3 = 124) fX6_76 (by first | rfl | assumption) ?_
    refine q_iret rfl dX6_count_124 ⟨rfl, rfl, _, rfl, ?_⟩
    exact ⟨rfl, rfl, rfl⟩
