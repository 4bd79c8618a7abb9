/-! the reference: wishes, the nearest year, carts, rent, winters, kept barns, counts -/
def mtyI (I : HI) (ye : Int32) (i : Nat) : Int32 := if I 48 (4 * i) = ye then I 51 i else 0
theorem S_tenthsOf {d n : Nat} {I : HI} {J : HJ} {ye : Int32} (hn : I 50 0 = nI n) (h12 : n ≤ 12) : MIp mX7_tenthsOf (d + 1) [.ref 44, .int ye] shA I J RA (sI (mtyI I ye) n) := by
  have loop : ∀ (i : Nat), i ≤ n → Wm mX7_tenthsOf (TM (d + 1) 0 0 false shA.length (fun sh' w I' J' R' => sh' = shA ∧ R' = RA ∧ ∃ x : Int32, w = some (.int x) ∧ (x = sI (mtyI I ye) n ∧ I' = I ∧ J' = J))) 0 0 shA 4 [some (.ref 44), some (.int ye), some (.int (sI (mtyI I ye) i)), some (.int (nI i))] [] I J RA := by
    refine loopN (fun i hi ih => ?_)
    refine q_iload_n dX7_tenthsOf_4 (rfl : 4 + 1 = 5) rfl ?_
    refine q_aload_n dX7_tenthsOf_5 (rfl : 5 + 1 = 6) rfl ?_
    refine q_getR dX7_tenthsOf_6 (rfl : 6 + 3 = 9) fX7_26 (by first | rfl | assumption) (by first | rfl | assumption) ?_
    refine q_iconst (v := nI 0) dX7_tenthsOf_9 (rfl : 9 + 1 = 10) (by decide) ?_
    refine q_iald (j := 0) dX7_tenthsOf_10 (rfl : 10 + 1 = 11) (by first | rfl | assumption) (by decide) (by decide) ?_
    try simp (disch := omega) only [wr_hit, wr_p, wr_k, nI_add, pk_mul, nI_1, nI_s1, pk_sub, Nat.add_sub_cancel, hn]
    refine q_icmp_ge_n (q := 43) (by omega) (by omega) dX7_tenthsOf_11 (by decide) (rfl : 11 + 3 = 14) (fun h => ?_) (fun h => ?_)
    ·
      obtain rfl : i = n := by omega
      refine q_iload_n dX7_tenthsOf_43 (rfl : 43 + 1 = 44) rfl ?_
      refine q_iret rfl dX7_tenthsOf_44 ⟨rfl, rfl, _, rfl, ?_⟩
      exact ⟨rfl, rfl, rfl⟩
    ·
      have hi36 : i < 36 := by omega
      refine q_iload_n dX7_tenthsOf_14 (rfl : 14 + 1 = 15) rfl ?_
      refine q_aload_n dX7_tenthsOf_15 (rfl : 15 + 1 = 16) rfl ?_
      refine q_iload_n dX7_tenthsOf_16 (rfl : 16 + 1 = 17) rfl ?_
      refine q_iconst (v := nI 0) dX7_tenthsOf_17 (rfl : 17 + 1 = 18) (by decide) ?_
      refine q_callVIp (S_of (d := d) (i := i) (w := 0) (by omega)) dX7_tenthsOf_18 (rfl : 18 + 3 = 21) lX7_123 vX7_of (by first | rfl | assumption) rfl rfl (Nat.le_of_ble_eq_true rfl) TM_room TM_cs ?_
      rw [show 4 * i + 0 = 4 * i from rfl]
      refine q_iload_n dX7_tenthsOf_21 (rfl : 21 + 1 = 22) rfl ?_
      have key := ih h
      have un : sI (mtyI I ye) (i + 1) = sI (mtyI I ye) i + (if I 48 (4 * i) = ye then I 51 i else 0) := rfl
      rw [un] at key
      refine q_icmp_ne (q := 34) dX7_tenthsOf_22 (by decide) (rfl : 22 + 3 = 25) (fun q => ?_) (fun q => ?_)
      ·
        rw [if_neg q] at key
        refine q_iconst (v := nI 0) dX7_tenthsOf_34 (rfl : 34 + 1 = 35) (by decide) ?_
        refine q_iadd dX7_tenthsOf_35 (rfl : 35 + 1 = 36) ?_
        refine q_istore_n dX7_tenthsOf_36 (rfl : 36 + 1 = 37) (by decide) ?_
        first | refine q_iinc1 dX7_tenthsOf_37 (rfl : 37 + 3 = 40) rfl (by decide) ?_ | refine q_iinc dX7_tenthsOf_37 (rfl : 37 + 3 = 40) rfl rfl (by decide) ?_
        refine q_goto (q := 4) dX7_tenthsOf_40 (by decide) ?_
        exact key
      ·
        rw [if_pos q] at key
        refine q_aload_n dX7_tenthsOf_25 (rfl : 25 + 1 = 26) rfl ?_
        refine q_getR dX7_tenthsOf_26 (rfl : 26 + 3 = 29) fX7_29 (by first | rfl | assumption) (by first | rfl | assumption) ?_
        refine q_iload_n dX7_tenthsOf_29 (rfl : 29 + 1 = 30) rfl ?_
        refine q_iald dX7_tenthsOf_30 (rfl : 30 + 1 = 31) (by first | rfl | assumption) (by first | assumption | omega) (by decide) ?_
        refine q_goto (q := 35) dX7_tenthsOf_31 (by decide) ?_
        refine q_iadd dX7_tenthsOf_35 (rfl : 35 + 1 = 36) ?_
        refine q_istore_n dX7_tenthsOf_36 (rfl : 36 + 1 = 37) (by decide) ?_
        first | refine q_iinc1 dX7_tenthsOf_37 (rfl : 37 + 3 = 40) rfl (by decide) ?_ | refine q_iinc dX7_tenthsOf_37 (rfl : 37 + 3 = 40) rfl rfl (by decide) ?_
        refine q_goto (q := 4) dX7_tenthsOf_40 (by decide) ?_
        exact key
  refine Mt.of (L := [some (.ref 44), some (.int ye), none, none]) (by decide +kernel) (Nat.le_of_ble_eq_true rfl) rfl ?_
  refine q_iconst (v := nI 0) dX7_tenthsOf_0 (rfl : 0 + 1 = 1) (by decide) ?_
  refine q_istore_n dX7_tenthsOf_1 (rfl : 1 + 1 = 2) (by decide) ?_
  refine q_iconst (v := nI 0) dX7_tenthsOf_2 (rfl : 2 + 1 = 3) (by decide) ?_
  refine q_istore_n dX7_tenthsOf_3 (rfl : 3 + 1 = 4) (by decide) ?_
  exact loop 0 (by omega)
theorem S_mwish_bad {d : Nat} {I : HI} {J : HJ} {ye : Int32} (h : inr ye (nI 0) (nI 99) = false) : MIp mX7_wish (d + 2) [.ref 44, .int ye] shA I J RA (-1) := by
  refine Mt.of (L := [some (.ref 44), some (.int ye)]) (by decide +kernel) (Nat.le_of_ble_eq_true rfl) rfl ?_
  refine q_iload_n dX7_wish_0 (rfl : 0 + 1 = 1) rfl ?_
  refine q_callSIp (S_misYear (d := d)) dX7_wish_1 (rfl : 1 + 3 = 4) lX7_182 vX7_isYear rfl rfl (Nat.le_of_ble_eq_true rfl) TM_room TM_cs ?_
  refine q_if_eq_b (q := 15) dX7_wish_4 (by decide) (rfl : 4 + 3 = 7) (fun h1 => ?_) (fun h1 => ?_)
  ·
    refine q_iconst (v := -1) dX7_wish_15 (rfl : 15 + 1 = 16) (by decide) ?_
    refine q_iret rfl dX7_wish_16 ⟨rfl, rfl, _, rfl, ?_⟩
    exact ⟨rfl, rfl, rfl⟩
  ·
    rw [h] at h1
    cases h1
theorem S_mwish {d n : Nat} {I : HI} {J : HJ} {ye : Int32} (h : inr ye (nI 0) (nI 99) = true) (hn : I 50 0 = nI n) (h12 : n ≤ 12) : MIp mX7_wish (d + 2) [.ref 44, .int ye] shA I J RA (sI (mtyI I ye) n) := by
  refine Mt.of (L := [some (.ref 44), some (.int ye)]) (by decide +kernel) (Nat.le_of_ble_eq_true rfl) rfl ?_
  refine q_iload_n dX7_wish_0 (rfl : 0 + 1 = 1) rfl ?_
  refine q_callSIp (S_misYear (d := d)) dX7_wish_1 (rfl : 1 + 3 = 4) lX7_182 vX7_isYear rfl rfl (Nat.le_of_ble_eq_true rfl) TM_room TM_cs ?_
  refine q_if_eq_b (q := 15) dX7_wish_4 (by decide) (rfl : 4 + 3 = 7) (fun h1 => ?_) (fun h1 => ?_)
  · rw [h] at h1
    cases h1
  ·
    refine q_aload_n dX7_wish_7 (rfl : 7 + 1 = 8) rfl ?_
    refine q_iload_n dX7_wish_8 (rfl : 8 + 1 = 9) rfl ?_
    refine q_callVIp (S_tenthsOf (d := d) hn h12) dX7_wish_9 (rfl : 9 + 3 = 12) lX7_198 vX7_tenthsOf (by first | rfl | assumption) rfl rfl (Nat.le_of_ble_eq_true rfl) TM_room TM_cs ?_
    refine q_goto (q := 16) dX7_wish_12 (by decide) ?_
    refine q_iret rfl dX7_wish_16 ⟨rfl, rfl, _, rfl, ?_⟩
    exact ⟨rfl, rfl, rfl⟩
theorem S_mnearest_bad1 {d : Nat} {I : HI} {J : HJ} {ye q : Int32} (h : inr ye (nI 0) (nI 99) = false) : MIp mX7_nearest (d + 2) [.ref 44, .int ye, .int q] shA I J RA (-1) := by
  refine Mt.of (L := [some (.ref 44), some (.int ye), some (.int q), none]) (by decide +kernel) (Nat.le_of_ble_eq_true rfl) rfl ?_
  refine q_iload_n dX7_nearest_0 (rfl : 0 + 1 = 1) rfl ?_
  refine q_callSIp (S_misYear (d := d)) dX7_nearest_1 (rfl : 1 + 3 = 4) lX7_182 vX7_isYear rfl rfl (Nat.le_of_ble_eq_true rfl) TM_room TM_cs ?_
  refine q_if_eq_b (q := 19) dX7_nearest_4 (by decide) (rfl : 4 + 3 = 7) (fun h1 => ?_) (fun h1 => ?_)
  ·
    refine q_iconst (v := -1) dX7_nearest_19 (rfl : 19 + 1 = 20) (by decide) ?_
    refine q_iret rfl dX7_nearest_20 ⟨rfl, rfl, _, rfl, ?_⟩
    exact ⟨rfl, rfl, rfl⟩
  ·
    rw [h] at h1
    cases h1
theorem S_mnearest_bad2 {d : Nat} {I : HI} {J : HJ} {ye q : Int32} (h : inr q (nI 1) (nI 999) = false) : MIp mX7_nearest (d + 2) [.ref 44, .int ye, .int q] shA I J RA (-1) := by
  refine Mt.of (L := [some (.ref 44), some (.int ye), some (.int q), none]) (by decide +kernel) (Nat.le_of_ble_eq_true rfl) rfl ?_
  refine q_iload_n dX7_nearest_0 (rfl : 0 + 1 = 1) rfl ?_
  refine q_callSIp (S_misYear (d := d)) dX7_nearest_1 (rfl : 1 + 3 = 4) lX7_182 vX7_isYear rfl rfl (Nat.le_of_ble_eq_true rfl) TM_room TM_cs ?_
  refine q_if_eq_b (q := 19) dX7_nearest_4 (by decide) (rfl : 4 + 3 = 7) (fun h1 => ?_) (fun h1 => ?_)
  ·
    refine q_iconst (v := -1) dX7_nearest_19 (rfl : 19 + 1 = 20) (by decide) ?_
    refine q_iret rfl dX7_nearest_20 ⟨rfl, rfl, _, rfl, ?_⟩
    exact ⟨rfl, rfl, rfl⟩
  ·
    refine q_iload_n dX7_nearest_7 (rfl : 7 + 1 = 8) rfl ?_
    refine q_i2l dX7_nearest_8 (rfl : 8 + 1 = 9) ?_
    refine q_lconst (v := 1) dX7_nearest_9 (rfl : 9 + 1 = 10) (by decide) ?_
    refine q_ldc2 dX7_nearest_10 (rfl : 10 + 3 = 13) kX7_163 ?_
    refine q_callSIp (S_inI (x := q) (a := nI 1) (b := nI 999) rfl (by decide) (by decide)) dX7_nearest_13 (rfl : 13 + 3 = 16) lX7_77 vX7_in rfl rfl (Nat.le_of_ble_eq_true rfl) TM_room TM_cs ?_
    refine q_if_ne_b (q := 21) dX7_nearest_16 (by decide) (rfl : 16 + 3 = 19) (fun h2 => ?_) (fun h2 => ?_)
    · rw [h] at h2
      cases h2
    ·
      refine q_iconst (v := -1) dX7_nearest_19 (rfl : 19 + 1 = 20) (by decide) ?_
      refine q_iret rfl dX7_nearest_20 ⟨rfl, rfl, _, rfl, ?_⟩
      exact ⟨rfl, rfl, rfl⟩
def mneL (tf : Nat → Int32) (y : Nat) (q : Int32) (k d : Nat) : Int32 := match k with
  | 0 => -4
  | k + 1 => if d ≤ y ∧ q ≤ tf (y - d) then nI (y - d) else if y + d < 100 ∧ q ≤ tf (y + d) then nI (y + d) else mneL tf y q k (d + 1)
theorem S_mnearest {dd n y : Nat} {I : HI} {J : HJ} {q : Int32} (hy : y ≤ 99) (hq : inr q (nI 1) (nI 999) = true) (hn : I 50 0 = nI n) (h12 : n ≤ 12) : MIp mX7_nearest (dd + 2) [.ref 44, .int (nI y), .int q] shA I J RA (mneL (fun y => sI (mtyI I (nI y)) n) y q 100 0) := by
  have loop : ∀ (k d : Nat), d + k = 100 → mneL (fun y => sI (mtyI I (nI y)) n) y q k d = mneL (fun y => sI (mtyI I (nI y)) n) y q 100 0 → Wm mX7_nearest (TM (dd + 2) 0 0 false shA.length (fun sh' w I' J' R' => sh' = shA ∧ R' = RA ∧ ∃ x : Int32, w = some (.int x) ∧ (x = mneL (fun y => sI (mtyI I (nI y)) n) y q 100 0 ∧ I' = I ∧ J' = J))) 0 0 shA 23 [some (.ref 44), some (.int (nI y)), some (.int q), some (.int (nI d))] [] I J RA := by
    intro k
    induction k with
    | zero =>
      intro d hd e
      refine q_iload_n dX7_nearest_23 (rfl : 23 + 1 = 24) rfl ?_
      refine q_bipush (v := nI 100) dX7_nearest_24 (rfl : 24 + 2 = 26) (by decide) ?_
      refine q_icmp_ge_n (q := 79) (by omega) (by omega) dX7_nearest_26 (by decide) (rfl : 26 + 3 = 29) (fun h => ?_) (fun h => ?_)
      ·
        refine q_bipush (v := -4) dX7_nearest_79 (rfl : 79 + 2 = 81) (by decide) ?_
        refine q_iret rfl dX7_nearest_81 ⟨rfl, rfl, _, rfl, ?_⟩
        exact ⟨e, rfl, rfl⟩
      ·
        omega
    | succ k ih =>
      intro d hd e
      have un : mneL (fun y => sI (mtyI I (nI y)) n) y q (k + 1) d = (if d ≤ y ∧ q ≤ sI (mtyI I (nI (y - d))) n then nI (y - d) else if y + d < 100 ∧ q ≤ sI (mtyI I (nI (y + d))) n then nI (y + d) else mneL (fun y => sI (mtyI I (nI y)) n) y q k (d + 1)) := rfl
      refine q_iload_n dX7_nearest_23 (rfl : 23 + 1 = 24) rfl ?_
      refine q_bipush (v := nI 100) dX7_nearest_24 (rfl : 24 + 2 = 26) (by decide) ?_
      refine q_icmp_ge_n (q := 79) (by omega) (by omega) dX7_nearest_26 (by decide) (rfl : 26 + 3 = 29) (fun h => ?_) (fun h => ?_)
      · omega
      ·
        have second : ¬ (d ≤ y ∧ q ≤ sI (mtyI I (nI (y - d))) n) → Wm mX7_nearest (TM (dd + 2) 0 0 false shA.length (fun sh' w I' J' R' => sh' = shA ∧ R' = RA ∧ ∃ x : Int32, w = some (.int x) ∧ (x = mneL (fun y => sI (mtyI I (nI y)) n) y q 100 0 ∧ I' = I ∧ J' = J))) 0 0 shA 50 [some (.ref 44), some (.int (nI y)), some (.int q), some (.int (nI d))] [] I J RA := by
          intro h1
          rw [if_neg h1] at un
          refine q_iload_n dX7_nearest_50 (rfl : 50 + 1 = 51) rfl ?_
          refine q_iload_n dX7_nearest_51 (rfl : 51 + 1 = 52) rfl ?_
          refine q_iadd dX7_nearest_52 (rfl : 52 + 1 = 53) ?_
          try simp (disch := omega) only [wr_hit, wr_p, wr_k, nI_add, pk_mul, nI_1, nI_s1, pk_sub, Nat.add_sub_cancel]
          refine q_bipush (v := nI 100) dX7_nearest_53 (rfl : 53 + 2 = 55) (by decide) ?_
          refine q_icmp_ge_n (q := 73) (by omega) (by omega) dX7_nearest_55 (by decide) (rfl : 55 + 3 = 58) (fun h2 => ?_) (fun h2 => ?_)
          ·
            rw [if_neg (by omega)] at un
            first | refine q_iinc1 dX7_nearest_73 (rfl : 73 + 3 = 76) rfl (by decide) ?_ | refine q_iinc dX7_nearest_73 (rfl : 73 + 3 = 76) rfl rfl (by decide) ?_
            refine q_goto (q := 23) dX7_nearest_76 (by decide) ?_
            exact ih (d + 1) (by omega) (un.symm.trans e)
          ·
            refine q_aload_n dX7_nearest_58 (rfl : 58 + 1 = 59) rfl ?_
            refine q_iload_n dX7_nearest_59 (rfl : 59 + 1 = 60) rfl ?_
            refine q_iload_n dX7_nearest_60 (rfl : 60 + 1 = 61) rfl ?_
            refine q_iadd dX7_nearest_61 (rfl : 61 + 1 = 62) ?_
            try simp (disch := omega) only [wr_hit, wr_p, wr_k, nI_add, pk_mul, nI_1, nI_s1, pk_sub, Nat.add_sub_cancel]
            refine q_callVIp (S_tenthsOf (d := dd) hn h12) dX7_nearest_62 (rfl : 62 + 3 = 65) lX7_198 vX7_tenthsOf (by first | rfl | assumption) rfl rfl (Nat.le_of_ble_eq_true rfl) TM_room TM_cs ?_
            refine q_iload_n dX7_nearest_65 (rfl : 65 + 1 = 66) rfl ?_
            refine q_icmp_lt (q := 73) dX7_nearest_66 (by decide) (rfl : 66 + 3 = 69) (fun h3 => ?_) (fun h3 => ?_)
            ·
              rw [if_neg (fun z => absurd z.2 (Int32.not_le.mpr h3))] at un
              first | refine q_iinc1 dX7_nearest_73 (rfl : 73 + 3 = 76) rfl (by decide) ?_ | refine q_iinc dX7_nearest_73 (rfl : 73 + 3 = 76) rfl rfl (by decide) ?_
              refine q_goto (q := 23) dX7_nearest_76 (by decide) ?_
              exact ih (d + 1) (by omega) (un.symm.trans e)
            ·
              rw [if_pos ⟨h2, Int32.not_lt.mp h3⟩] at un
              refine q_iload_n dX7_nearest_69 (rfl : 69 + 1 = 70) rfl ?_
              refine q_iload_n dX7_nearest_70 (rfl : 70 + 1 = 71) rfl ?_
              refine q_iadd dX7_nearest_71 (rfl : 71 + 1 = 72) ?_
              try simp (disch := omega) only [wr_hit, wr_p, wr_k, nI_add, pk_mul, nI_1, nI_s1, pk_sub, Nat.add_sub_cancel]
              refine q_iret rfl dX7_nearest_72 ⟨rfl, rfl, _, rfl, ?_⟩
              exact ⟨un.symm.trans e, rfl, rfl⟩
        refine q_iload_n dX7_nearest_29 (rfl : 29 + 1 = 30) rfl ?_
        refine q_iload_n dX7_nearest_30 (rfl : 30 + 1 = 31) rfl ?_
        refine q_isub dX7_nearest_31 (rfl : 31 + 1 = 32) ?_
        refine q_if_lt (q := 50) dX7_nearest_32 (by decide) (rfl : 32 + 3 = 35) (fun h1 => ?_) (fun h1 => ?_)
        ·
          refine second (fun z => ?_)
          rw [pk_sub z.1] at h1
          exact absurd h1 (nI_pos (by omega))
        ·
          have hle : d ≤ y := by
            rcases Nat.lt_or_ge y d with z | z
            · exact absurd (pk_sneg (by omega) z) h1
            · exact z
          refine q_aload_n dX7_nearest_35 (rfl : 35 + 1 = 36) rfl ?_
          refine q_iload_n dX7_nearest_36 (rfl : 36 + 1 = 37) rfl ?_
          refine q_iload_n dX7_nearest_37 (rfl : 37 + 1 = 38) rfl ?_
          refine q_isub dX7_nearest_38 (rfl : 38 + 1 = 39) ?_
          rw [pk_sub hle]
          refine q_callVIp (S_tenthsOf (d := dd) hn h12) dX7_nearest_39 (rfl : 39 + 3 = 42) lX7_198 vX7_tenthsOf (by first | rfl | assumption) rfl rfl (Nat.le_of_ble_eq_true rfl) TM_room TM_cs ?_
          refine q_iload_n dX7_nearest_42 (rfl : 42 + 1 = 43) rfl ?_
          refine q_icmp_lt (q := 50) dX7_nearest_43 (by decide) (rfl : 43 + 3 = 46) (fun h2 => ?_) (fun h2 => ?_)
          ·
            exact second (fun z => absurd z.2 (Int32.not_le.mpr h2))
          ·
            rw [if_pos ⟨hle, Int32.not_lt.mp h2⟩] at un
            refine q_iload_n dX7_nearest_46 (rfl : 46 + 1 = 47) rfl ?_
            refine q_iload_n dX7_nearest_47 (rfl : 47 + 1 = 48) rfl ?_
            refine q_isub dX7_nearest_48 (rfl : 48 + 1 = 49) ?_
            rw [pk_sub hle]
            refine q_iret rfl dX7_nearest_49 ⟨rfl, rfl, _, rfl, ?_⟩
            exact ⟨un.symm.trans e, rfl, rfl⟩
  refine Mt.of (L := [some (.ref 44), some (.int (nI y)), some (.int q), none]) (by decide +kernel) (Nat.le_of_ble_eq_true rfl) rfl ?_
  refine q_iload_n dX7_nearest_0 (rfl : 0 + 1 = 1) rfl ?_
  refine q_callSIp (S_misYear (d := dd)) dX7_nearest_1 (rfl : 1 + 3 = 4) lX7_182 vX7_isYear rfl rfl (Nat.le_of_ble_eq_true rfl) TM_room TM_cs ?_
  refine q_if_eq_b (q := 19) dX7_nearest_4 (by decide) (rfl : 4 + 3 = 7) (fun g1 => ?_) (fun g1 => ?_)
  · rw [inr_of (Nat.zero_le y) hy (by decide)] at g1
    cases g1
  ·
    refine q_iload_n dX7_nearest_7 (rfl : 7 + 1 = 8) rfl ?_
    refine q_i2l dX7_nearest_8 (rfl : 8 + 1 = 9) ?_
    refine q_lconst (v := 1) dX7_nearest_9 (rfl : 9 + 1 = 10) (by decide) ?_
    refine q_ldc2 dX7_nearest_10 (rfl : 10 + 3 = 13) kX7_163 ?_
    refine q_callSIp (S_inI (x := q) (a := nI 1) (b := nI 999) rfl (by decide) (by decide)) dX7_nearest_13 (rfl : 13 + 3 = 16) lX7_77 vX7_in rfl rfl (Nat.le_of_ble_eq_true rfl) TM_room TM_cs ?_
    refine q_if_ne_b (q := 21) dX7_nearest_16 (by decide) (rfl : 16 + 3 = 19) (fun g2 => ?_) (fun g2 => ?_)
    ·
      refine q_iconst (v := nI 0) dX7_nearest_21 (rfl : 21 + 1 = 22) (by decide) ?_
      refine q_istore_n dX7_nearest_22 (rfl : 22 + 1 = 23) (by decide) ?_
      exact loop 100 0 (by omega) rfl
    ·
      rw [hq] at g2
      cases g2
def mmvF (ld : Nat → Int32) (w : Int32) (k i g : Nat) (has : Int32) : Int32 := match k with
  | 0 => if g = 0 then nI 0 else nI (2 * g) - nI 1
  | k + 1 => if w < ld i then -4 else mmvF ld w k (i + 1) (if w < has + ld i ∧ 0 < ld i then g + 1 else g) (if w < has + ld i then ld i else has + ld i)
theorem S_mmoved_bad {d : Nat} {I : HI} {J : HJ} {w : Int32} (h : inr w (nI 10) (nI 9990) = false) : MIp mX7_moved (d + 1) [.ref 44, .int w] shA I J RA (-1) := by
  refine Mt.of (L := [some (.ref 44), some (.int w), none, none, none, none]) (by decide +kernel) (Nat.le_of_ble_eq_true rfl) rfl ?_
  refine q_iload_n dX7_moved_0 (rfl : 0 + 1 = 1) rfl ?_
  refine q_i2l dX7_moved_1 (rfl : 1 + 1 = 2) ?_
  refine q_ldc2 dX7_moved_2 (rfl : 2 + 3 = 5) kX7_201 ?_
  refine q_ldc2 dX7_moved_5 (rfl : 5 + 3 = 8) kX7_203 ?_
  refine q_callSIp (S_inI (x := w) (a := nI 10) (b := nI 9990) rfl (by decide) (by decide)) dX7_moved_8 (rfl : 8 + 3 = 11) lX7_77 vX7_in rfl rfl (Nat.le_of_ble_eq_true rfl) TM_room TM_cs ?_
  refine q_if_ne_b (q := 16) dX7_moved_11 (by decide) (rfl : 11 + 3 = 14) (fun h1 => ?_) (fun h1 => ?_)
  · rw [h] at h1
    cases h1
  ·
    refine q_iconst (v := -1) dX7_moved_14 (rfl : 14 + 1 = 15) (by decide) ?_
    refine q_iret rfl dX7_moved_15 ⟨rfl, rfl, _, rfl, ?_⟩
    exact ⟨rfl, rfl, rfl⟩
theorem L_mmoved {d n0 n : Nat} {Po : PO} {I : HI} {J : HJ} {w : Int32} (hn : I 50 0 = nI n) (h12 : n ≤ 12) :
    ∀ (k i g : Nat) (has : Int32), i + k = n → g ≤ i → Po shA (some (.int (mmvF (fun i => I 51 i * I 48 (4 * i + 2)) w k i g has))) I J RA → Wm mX7_moved (TM (d + 1) 0 0 false n0 Po) 0 0 shA 23 [some (.ref 44), some (.int w), some (.int (nI g)), some (.int has), some (.int (nI i)), none] [] I J RA := by
  intro k
  induction k with
  | zero =>
    intro i g has hk hg hPo
    obtain rfl : i = n := by omega
    refine q_iload dX7_moved_23 (rfl : 23 + 2 = 25) rfl ?_
    refine q_aload_n dX7_moved_25 (rfl : 25 + 1 = 26) rfl ?_
    refine q_getR dX7_moved_26 (rfl : 26 + 3 = 29) fX7_26 (by first | rfl | assumption) (by first | rfl | assumption) ?_
    refine q_iconst (v := nI 0) dX7_moved_29 (rfl : 29 + 1 = 30) (by decide) ?_
    refine q_iald (j := 0) dX7_moved_30 (rfl : 30 + 1 = 31) (by first | rfl | assumption) (by decide) (by decide) ?_
    try simp (disch := omega) only [wr_hit, wr_p, wr_k, nI_add, pk_mul, nI_1, nI_s1, pk_sub, Nat.add_sub_cancel, hn]
    refine q_icmp_ge_n (q := 105) (by omega) (by omega) dX7_moved_31 (by decide) (rfl : 31 + 3 = 34) (fun h => ?_) (fun h => ?_)
    ·
      refine q_iload_n dX7_moved_105 (rfl : 105 + 1 = 106) rfl ?_
      refine q_if_ne_n (q := 113) (by omega) dX7_moved_106 (by decide) (rfl : 106 + 3 = 109) (fun h2 => ?_) (fun h2 => ?_)
      ·
        have e : mmvF (fun i => I 51 i * I 48 (4 * i + 2)) w 0 i g has = nI (2 * g) - nI 1 := if_neg h2
        rw [e] at hPo
        refine q_iconst (v := nI 2) dX7_moved_113 (rfl : 113 + 1 = 114) (by decide) ?_
        refine q_iload_n dX7_moved_114 (rfl : 114 + 1 = 115) rfl ?_
        refine q_imul dX7_moved_115 (rfl : 115 + 1 = 116) ?_
        refine q_iconst (v := nI 1) dX7_moved_116 (rfl : 116 + 1 = 117) (by decide) ?_
        refine q_isub dX7_moved_117 (rfl : 117 + 1 = 118) ?_
        rw [pk_mul]
        exact q_iret rfl dX7_moved_118 hPo
      ·
        have e : mmvF (fun i => I 51 i * I 48 (4 * i + 2)) w 0 i g has = nI 0 := if_pos h2
        rw [e] at hPo
        refine q_iconst (v := nI 0) dX7_moved_109 (rfl : 109 + 1 = 110) (by decide) ?_
        refine q_goto (q := 118) dX7_moved_110 (by decide) ?_
        exact q_iret rfl dX7_moved_118 hPo
    · omega
  | succ k ih =>
    intro i g has hk hg hPo
    have hi36 : i < 36 := by omega
    refine q_iload dX7_moved_23 (rfl : 23 + 2 = 25) rfl ?_
    refine q_aload_n dX7_moved_25 (rfl : 25 + 1 = 26) rfl ?_
    refine q_getR dX7_moved_26 (rfl : 26 + 3 = 29) fX7_26 (by first | rfl | assumption) (by first | rfl | assumption) ?_
    refine q_iconst (v := nI 0) dX7_moved_29 (rfl : 29 + 1 = 30) (by decide) ?_
    refine q_iald (j := 0) dX7_moved_30 (rfl : 30 + 1 = 31) (by first | rfl | assumption) (by decide) (by decide) ?_
    try simp (disch := omega) only [wr_hit, wr_p, wr_k, nI_add, pk_mul, nI_1, nI_s1, pk_sub, Nat.add_sub_cancel, hn]
    refine q_icmp_ge_n (q := 105) (by omega) (by omega) dX7_moved_31 (by decide) (rfl : 31 + 3 = 34) (fun h => ?_) (fun h => ?_)
    · omega
    ·
      refine q_aload_n dX7_moved_34 (rfl : 34 + 1 = 35) rfl ?_
      refine q_getR dX7_moved_35 (rfl : 35 + 3 = 38) fX7_29 (by first | rfl | assumption) (by first | rfl | assumption) ?_
      refine q_iload dX7_moved_38 (rfl : 38 + 2 = 40) rfl ?_
      refine q_iald dX7_moved_40 (rfl : 40 + 1 = 41) (by first | rfl | assumption) (by first | assumption | omega) (by decide) ?_
      refine q_aload_n dX7_moved_41 (rfl : 41 + 1 = 42) rfl ?_
      refine q_iload dX7_moved_42 (rfl : 42 + 2 = 44) rfl ?_
      refine q_iconst (v := nI 2) dX7_moved_44 (rfl : 44 + 1 = 45) (by decide) ?_
      refine q_callVIp (S_of (d := d) (i := i) (w := 2) (by omega)) dX7_moved_45 (rfl : 45 + 3 = 48) lX7_123 vX7_of (by first | rfl | assumption) rfl rfl (Nat.le_of_ble_eq_true rfl) TM_room TM_cs ?_
      refine q_imul dX7_moved_48 (rfl : 48 + 1 = 49) ?_
      refine q_istore dX7_moved_49 (rfl : 49 + 2 = 51) (by decide) ?_
      refine q_iload dX7_moved_51 (rfl : 51 + 2 = 53) rfl ?_
      refine q_iload_n dX7_moved_53 (rfl : 53 + 1 = 54) rfl ?_
      refine q_icmp_le (q := 60) dX7_moved_54 (by decide) (rfl : 54 + 3 = 57) (fun h1 => ?_) (fun h1 => ?_)
      ·
        have h1' : ¬ w < I 51 i * I 48 (4 * i + 2) := Int32.not_lt.mpr h1
        have e : mmvF (fun i => I 51 i * I 48 (4 * i + 2)) w (k + 1) i g has = mmvF (fun i => I 51 i * I 48 (4 * i + 2)) w k (i + 1) (if w < has + I 51 i * I 48 (4 * i + 2) ∧ 0 < I 51 i * I 48 (4 * i + 2) then g + 1 else g) (if w < has + I 51 i * I 48 (4 * i + 2) then I 51 i * I 48 (4 * i + 2) else has + I 51 i * I 48 (4 * i + 2)) := if_neg h1'
        rw [e] at hPo
        have last : ∀ (g2 : Nat) (h2 : Int32), g2 = (if w < has + I 51 i * I 48 (4 * i + 2) ∧ 0 < I 51 i * I 48 (4 * i + 2) then g + 1 else g) → h2 = (if w < has + I 51 i * I 48 (4 * i + 2) then I 51 i * I 48 (4 * i + 2) else has + I 51 i * I 48 (4 * i + 2)) → Wm mX7_moved (TM (d + 1) 0 0 false n0 Po) 0 0 shA 98 [some (.ref 44), some (.int w), some (.int (nI g2)), some (.int has), some (.int (nI i)), some (.int (I 51 i * I 48 (4 * i + 2)))] [.int h2] I J RA := by
          intro g2 h2 hg2 hh2
          subst hg2 hh2
          refine q_istore_n dX7_moved_98 (rfl : 98 + 1 = 99) (by decide) ?_
          first | refine q_iinc1 dX7_moved_99 (rfl : 99 + 3 = 102) rfl (by decide) ?_ | refine q_iinc dX7_moved_99 (rfl : 99 + 3 = 102) rfl rfl (by decide) ?_
          refine q_goto (q := 23) dX7_moved_102 (by decide) ?_
          refine q_forget (L' := [some (.ref 44), some (.int w), some (.int (nI (if w < has + I 51 i * I 48 (4 * i + 2) ∧ 0 < I 51 i * I 48 (4 * i + 2) then g + 1 else g))), some (.int (if w < has + I 51 i * I 48 (4 * i + 2) then I 51 i * I 48 (4 * i + 2) else has + I 51 i * I 48 (4 * i + 2))), some (.int (nI (i + 1))), none]) (by repeat (first | exact trivial | refine And.intro rfl ?_)) ?_
          exact ih (i + 1) _ _ (by omega) (by split <;> omega) hPo
        have mid : ∀ (c : Nat), g + c = (if w < has + I 51 i * I 48 (4 * i + 2) ∧ 0 < I 51 i * I 48 (4 * i + 2) then g + 1 else g) → Wm mX7_moved (TM (d + 1) 0 0 false n0 Po) 0 0 shA 79 [some (.ref 44), some (.int w), some (.int (nI g)), some (.int has), some (.int (nI i)), some (.int (I 51 i * I 48 (4 * i + 2)))] [.int (nI c), .int (nI g)] I J RA := by
          intro c hc
          refine q_iadd dX7_moved_79 (rfl : 79 + 1 = 80) ?_
          refine q_istore_n dX7_moved_80 (rfl : 80 + 1 = 81) (by decide) ?_
          refine q_iload_n dX7_moved_81 (rfl : 81 + 1 = 82) rfl ?_
          refine q_iload dX7_moved_82 (rfl : 82 + 2 = 84) rfl ?_
          refine q_iadd dX7_moved_84 (rfl : 84 + 1 = 85) ?_
          refine q_iload_n dX7_moved_85 (rfl : 85 + 1 = 86) rfl ?_
          rw [nI_add]
          refine q_icmp_le (q := 94) dX7_moved_86 (by decide) (rfl : 86 + 3 = 89) (fun q => ?_) (fun q => ?_)
          ·
            refine q_iload_n dX7_moved_94 (rfl : 94 + 1 = 95) rfl ?_
            refine q_iload dX7_moved_95 (rfl : 95 + 2 = 97) rfl ?_
            refine q_iadd dX7_moved_97 (rfl : 97 + 1 = 98) ?_
            exact last (g + c) _ hc (by rw [if_neg (Int32.not_lt.mpr q)])
          ·
            refine q_iload dX7_moved_89 (rfl : 89 + 2 = 91) rfl ?_
            refine q_goto (q := 98) dX7_moved_91 (by decide) ?_
            exact last (g + c) _ hc (by rw [if_pos (Int32.not_le.mp q)])
        refine q_iload_n dX7_moved_60 (rfl : 60 + 1 = 61) rfl ?_
        refine q_iload_n dX7_moved_61 (rfl : 61 + 1 = 62) rfl ?_
        refine q_iload dX7_moved_62 (rfl : 62 + 2 = 64) rfl ?_
        refine q_iadd dX7_moved_64 (rfl : 64 + 1 = 65) ?_
        refine q_iload_n dX7_moved_65 (rfl : 65 + 1 = 66) rfl ?_
        refine q_icmp_le (q := 78) dX7_moved_66 (by decide) (rfl : 66 + 3 = 69) (fun q1 => ?_) (fun q1 => ?_)
        ·
          refine q_iconst (v := nI 0) dX7_moved_78 (rfl : 78 + 1 = 79) (by decide) ?_
          exact mid 0 (by rw [if_neg (fun z => absurd z.1 (Int32.not_lt.mpr q1))]; rfl)
        ·
          refine q_iload dX7_moved_69 (rfl : 69 + 2 = 71) rfl ?_
          refine q_if_le (q := 78) dX7_moved_71 (by decide) (rfl : 71 + 3 = 74) (fun q2 => ?_) (fun q2 => ?_)
          ·
            refine q_iconst (v := nI 0) dX7_moved_78 (rfl : 78 + 1 = 79) (by decide) ?_
            exact mid 0 (by rw [if_neg (fun z => absurd z.2 (Int32.not_lt.mpr q2))]; rfl)
          ·
            refine q_iconst (v := nI 1) dX7_moved_74 (rfl : 74 + 1 = 75) (by decide) ?_
            refine q_goto (q := 79) dX7_moved_75 (by decide) ?_
            exact mid 1 (by rw [if_pos ⟨Int32.not_le.mp q1, Int32.not_le.mp q2⟩])
      ·
        have e : mmvF (fun i => I 51 i * I 48 (4 * i + 2)) w (k + 1) i g has = -4 := if_pos (Int32.not_le.mp h1)
        rw [e] at hPo
        refine q_bipush (v := -4) dX7_moved_57 (rfl : 57 + 2 = 59) (by decide) ?_
        exact q_iret rfl dX7_moved_59 hPo
theorem S_mmoved {d n : Nat} {I : HI} {J : HJ} {w : Int32} (h : inr w (nI 10) (nI 9990) = true) (hn : I 50 0 = nI n) (h12 : n ≤ 12) : MIp mX7_moved (d + 1) [.ref 44, .int w] shA I J RA (mmvF (fun i => I 51 i * I 48 (4 * i + 2)) w n 0 0 w) := by
  refine Mt.of (L := [some (.ref 44), some (.int w), none, none, none, none]) (by decide +kernel) (Nat.le_of_ble_eq_true rfl) rfl ?_
  refine q_iload_n dX7_moved_0 (rfl : 0 + 1 = 1) rfl ?_
  refine q_i2l dX7_moved_1 (rfl : 1 + 1 = 2) ?_
  refine q_ldc2 dX7_moved_2 (rfl : 2 + 3 = 5) kX7_201 ?_
  refine q_ldc2 dX7_moved_5 (rfl : 5 + 3 = 8) kX7_203 ?_
  refine q_callSIp (S_inI (x := w) (a := nI 10) (b := nI 9990) rfl (by decide) (by decide)) dX7_moved_8 (rfl : 8 + 3 = 11) lX7_77 vX7_in rfl rfl (Nat.le_of_ble_eq_true rfl) TM_room TM_cs ?_
  refine q_if_ne_b (q := 16) dX7_moved_11 (by decide) (rfl : 11 + 3 = 14) (fun h1 => ?_) (fun h1 => ?_)
  ·
    refine q_iconst (v := nI 0) dX7_moved_16 (rfl : 16 + 1 = 17) (by decide) ?_
    refine q_istore_n dX7_moved_17 (rfl : 17 + 1 = 18) (by decide) ?_
    refine q_iload_n dX7_moved_18 (rfl : 18 + 1 = 19) rfl ?_
    refine q_istore_n dX7_moved_19 (rfl : 19 + 1 = 20) (by decide) ?_
    refine q_iconst (v := nI 0) dX7_moved_20 (rfl : 20 + 1 = 21) (by decide) ?_
    refine q_istore dX7_moved_21 (rfl : 21 + 2 = 23) (by decide) ?_
    exact L_mmoved (d := d) hn h12 n 0 0 w (by omega) (by omega) ⟨rfl, rfl, _, rfl, rfl, rfl, rfl⟩
  ·
    rw [h] at h1
    cases h1
theorem S_mrent_bad {d : Nat} {I : HI} {J : HJ} {w : Int32} (h : inr w (nI 1) (nI 999999) = false) : MGp mX7_rent (d + 1) [.ref 44, .int w] shA I J RA (-1) := by
  refine Mt.of (L := [some (.ref 44), some (.int w), none, none, none]) (by decide +kernel) (Nat.le_of_ble_eq_true rfl) rfl ?_
  refine q_iload_n dX7_rent_0 (rfl : 0 + 1 = 1) rfl ?_
  refine q_i2l dX7_rent_1 (rfl : 1 + 1 = 2) ?_
  refine q_lconst (v := 1) dX7_rent_2 (rfl : 2 + 1 = 3) (by decide) ?_
  refine q_ldc2 dX7_rent_3 (rfl : 3 + 3 = 6) kX7_205 ?_
  refine q_callSIp (S_inI (x := w) (a := nI 1) (b := nI 999999) rfl (by decide) (by decide)) dX7_rent_6 (rfl : 6 + 3 = 9) lX7_77 vX7_in rfl rfl (Nat.le_of_ble_eq_true rfl) TM_room TM_cs ?_
  refine q_if_ne_b (q := 16) dX7_rent_9 (by decide) (rfl : 9 + 3 = 12) (fun h1 => ?_) (fun h1 => ?_)
  · rw [h] at h1
    cases h1
  ·
    refine q_ldc2 dX7_rent_12 (rfl : 12 + 3 = 15) kX7_154 ?_
    refine q_lret rfl dX7_rent_15 ⟨rfl, rfl, _, rfl, ?_⟩
    exact ⟨rfl, rfl, rfl⟩
theorem S_mrent {d n : Nat} {I : HI} {J : HJ} {w : Int32} {yr : Nat → Nat} (h : inr w (nI 1) (nI 999999) = true) (hn : I 50 0 = nI n) (h12 : n ≤ 12) (hy : ∀ i, i < n → I 48 (4 * i) = nI (yr i) ∧ yr i < 100) : MGp mX7_rent (d + 2) [.ref 44, .int w] shA I J RA (w.toInt64 * sJ (fun i => (I 51 i).toInt64 * (I 49 (yr i)).toInt64) n / 100) := by
  have loop : ∀ (i : Nat), i ≤ n → Wm mX7_rent (TM (d + 2) 0 0 false shA.length (fun sh' v I' J' R' => sh' = shA ∧ R' = RA ∧ ∃ x : Int64, v = some (.long x) ∧ (x = w.toInt64 * sJ (fun i => (I 51 i).toInt64 * (I 49 (yr i)).toInt64) n / 100 ∧ I' = I ∧ J' = J))) 0 0 shA 21 [some (.ref 44), some (.int w), some (.long (sJ (fun i => (I 51 i).toInt64 * (I 49 (yr i)).toInt64) i)), none, some (.int (nI i))] [] I J RA := by
    refine loopN (fun i hi ih => ?_)
    refine q_iload dX7_rent_21 (rfl : 21 + 2 = 23) rfl ?_
    refine q_aload_n dX7_rent_23 (rfl : 23 + 1 = 24) rfl ?_
    refine q_getR dX7_rent_24 (rfl : 24 + 3 = 27) fX7_26 (by first | rfl | assumption) (by first | rfl | assumption) ?_
    refine q_iconst (v := nI 0) dX7_rent_27 (rfl : 27 + 1 = 28) (by decide) ?_
    refine q_iald (j := 0) dX7_rent_28 (rfl : 28 + 1 = 29) (by first | rfl | assumption) (by decide) (by decide) ?_
    try simp (disch := omega) only [wr_hit, wr_p, wr_k, nI_add, pk_mul, nI_1, nI_s1, pk_sub, Nat.add_sub_cancel, hn]
    refine q_icmp_ge_n (q := 57) (by omega) (by omega) dX7_rent_29 (by decide) (rfl : 29 + 3 = 32) (fun h1 => ?_) (fun h1 => ?_)
    ·
      obtain rfl : i = n := by omega
      refine q_iload_n dX7_rent_57 (rfl : 57 + 1 = 58) rfl ?_
      refine q_i2l dX7_rent_58 (rfl : 58 + 1 = 59) ?_
      refine q_lload_n dX7_rent_59 (rfl : 59 + 1 = 60) rfl ?_
      refine q_lmul dX7_rent_60 (rfl : 60 + 1 = 61) ?_
      refine q_ldc2 dX7_rent_61 (rfl : 61 + 3 = 64) kX7_207 ?_
      refine q_ldiv dX7_rent_64 (rfl : 64 + 1 = 65) (by first | assumption | decide) ?_
      refine q_lret rfl dX7_rent_65 ⟨rfl, rfl, _, rfl, ?_⟩
      exact ⟨rfl, rfl, rfl⟩
    ·
      have hi36 : i < 36 := by omega
      refine q_lload_n dX7_rent_32 (rfl : 32 + 1 = 33) rfl ?_
      refine q_aload_n dX7_rent_33 (rfl : 33 + 1 = 34) rfl ?_
      refine q_getR dX7_rent_34 (rfl : 34 + 3 = 37) fX7_29 (by first | rfl | assumption) (by first | rfl | assumption) ?_
      refine q_iload dX7_rent_37 (rfl : 37 + 2 = 39) rfl ?_
      refine q_iald dX7_rent_39 (rfl : 39 + 1 = 40) (by first | rfl | assumption) (by first | assumption | omega) (by decide) ?_
      refine q_i2l dX7_rent_40 (rfl : 40 + 1 = 41) ?_
      refine q_aload_n dX7_rent_41 (rfl : 41 + 1 = 42) rfl ?_
      refine q_iload dX7_rent_42 (rfl : 42 + 2 = 44) rfl ?_
      refine q_callVIp (S_mcostOf (d := d) (by omega) (hy i h1).1 (hy i h1).2) dX7_rent_44 (rfl : 44 + 3 = 47) lX7_131 vX7_costOf (by first | rfl | assumption) rfl rfl (Nat.le_of_ble_eq_true rfl) TM_room TM_cs ?_
      refine q_i2l dX7_rent_47 (rfl : 47 + 1 = 48) ?_
      refine q_lmul dX7_rent_48 (rfl : 48 + 1 = 49) ?_
      refine q_ladd dX7_rent_49 (rfl : 49 + 1 = 50) ?_
      refine q_lstore_n dX7_rent_50 (rfl : 50 + 1 = 51) (by decide) ?_
      first | refine q_iinc1 dX7_rent_51 (rfl : 51 + 3 = 54) rfl (by decide) ?_ | refine q_iinc dX7_rent_51 (rfl : 51 + 3 = 54) rfl rfl (by decide) ?_
      refine q_goto (q := 21) dX7_rent_54 (by decide) ?_
      exact ih h1
  refine Mt.of (L := [some (.ref 44), some (.int w), none, none, none]) (by decide +kernel) (Nat.le_of_ble_eq_true rfl) rfl ?_
  refine q_iload_n dX7_rent_0 (rfl : 0 + 1 = 1) rfl ?_
  refine q_i2l dX7_rent_1 (rfl : 1 + 1 = 2) ?_
  refine q_lconst (v := 1) dX7_rent_2 (rfl : 2 + 1 = 3) (by decide) ?_
  refine q_ldc2 dX7_rent_3 (rfl : 3 + 3 = 6) kX7_205 ?_
  refine q_callSIp (S_inI (x := w) (a := nI 1) (b := nI 999999) rfl (by decide) (by decide)) dX7_rent_6 (rfl : 6 + 3 = 9) lX7_77 vX7_in rfl rfl (Nat.le_of_ble_eq_true rfl) TM_room TM_cs ?_
  refine q_if_ne_b (q := 16) dX7_rent_9 (by decide) (rfl : 9 + 3 = 12) (fun h1 => ?_) (fun h1 => ?_)
  ·
    refine q_lconst (v := 0) dX7_rent_16 (rfl : 16 + 1 = 17) (by decide) ?_
    refine q_lstore_n dX7_rent_17 (rfl : 17 + 1 = 18) (by decide) ?_
    refine q_iconst (v := nI 0) dX7_rent_18 (rfl : 18 + 1 = 19) (by decide) ?_
    refine q_istore dX7_rent_19 (rfl : 19 + 2 = 21) (by decide) ?_
    exact loop 0 (by omega)
  ·
    rw [h] at h1
    cases h1
