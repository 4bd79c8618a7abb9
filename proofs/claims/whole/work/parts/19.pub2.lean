/-! the class's public methods, the rest -/
theorem S_doors_bad1 {d : Nat} {I : HI} {J : HJ} {k i : Int32} (h : inr k (nI 1) (nI 6) = false) : MIp mX6_doors (d + 1) [.ref 0, .int k, .int i] shA I J RA (-1) := by
  refine Mt.of (L := [some (.ref 0), some (.int k), some (.int i)]) (by decide +kernel) (Nat.le_of_ble_eq_true rfl) rfl ?_
  refine q_iload_n dX6_doors_0 (rfl : 0 + 1 = 1) rfl ?_
  refine q_iconst (v := nI 1) dX6_doors_1 (rfl : 1 + 1 = 2) (by decide) ?_
  refine q_bipush (v := nI 6) dX6_doors_2 (rfl : 2 + 2 = 4) (by decide) ?_
  refine q_callSIp S_inside dX6_doors_4 (rfl : 4 + 3 = 7) lX6_68 vX6_inside rfl rfl (Nat.le_of_ble_eq_true rfl) TM_room TM_cs ?_
  refine q_if_eq_b (q := 21) dX6_doors_7 (by decide) (rfl : 7 + 3 = 10) (fun h2 => ?_) (fun h2 => ?_)
  ·
    refine q_iconst (v := -1) dX6_doors_21 (rfl : 21 + 1 = 22) (by decide) ?_
    refine q_iret rfl dX6_doors_22 ⟨rfl, rfl, _, rfl, ?_⟩
    exact ⟨rfl, rfl, rfl⟩
  · rw [h] at h2; cases h2
theorem S_doors_bad2 {d k : Nat} {I : HI} {J : HJ} {i : Int32} (h1 : 1 ≤ k) (h6 : k ≤ 6) (h : inr i (-1) (nI k - nI 1) = false) : MIp mX6_doors (d + 1) [.ref 0, .int (nI k), .int i] shA I J RA (-1) := by
  refine Mt.of (L := [some (.ref 0), some (.int (nI k)), some (.int i)]) (by decide +kernel) (Nat.le_of_ble_eq_true rfl) rfl ?_
  refine q_iload_n dX6_doors_0 (rfl : 0 + 1 = 1) rfl ?_
  refine q_iconst (v := nI 1) dX6_doors_1 (rfl : 1 + 1 = 2) (by decide) ?_
  refine q_bipush (v := nI 6) dX6_doors_2 (rfl : 2 + 2 = 4) (by decide) ?_
  refine q_callSIp S_inside dX6_doors_4 (rfl : 4 + 3 = 7) lX6_68 vX6_inside rfl rfl (Nat.le_of_ble_eq_true rfl) TM_room TM_cs ?_
  refine q_if_eq_b (q := 21) dX6_doors_7 (by decide) (rfl : 7 + 3 = 10) (fun h2 => ?_) (fun h2 => ?_)
  · rw [inr_of h1 h6 (by decide)] at h2; cases h2
  ·
    refine q_iload_n dX6_doors_10 (rfl : 10 + 1 = 11) rfl ?_
    refine q_iconst (v := -1) dX6_doors_11 (rfl : 11 + 1 = 12) (by decide) ?_
    refine q_iload_n dX6_doors_12 (rfl : 12 + 1 = 13) rfl ?_
    refine q_iconst (v := nI 1) dX6_doors_13 (rfl : 13 + 1 = 14) (by decide) ?_
    refine q_isub dX6_doors_14 (rfl : 14 + 1 = 15) ?_
    refine q_callSIp S_inside dX6_doors_15 (rfl : 15 + 3 = 18) lX6_68 vX6_inside rfl rfl (Nat.le_of_ble_eq_true rfl) TM_room TM_cs ?_
    refine q_if_ne_b (q := 23) dX6_doors_18 (by decide) (rfl : 18 + 3 = 21) (fun h3 => ?_) (fun h3 => ?_)
    · rw [h] at h3; cases h3
    ·
      refine q_iconst (v := -1) dX6_doors_21 (rfl : 21 + 1 = 22) (by decide) ?_
      refine q_iret rfl dX6_doors_22 ⟨rfl, rfl, _, rfl, ?_⟩
      exact ⟨rfl, rfl, rfl⟩
/-- the best row's loss and counts of doors 0 and 1, as the class seeks it -/
def doorsS (I : HI) (n k : Nat) (yr : Nat → Nat) : Int32 × Int32 × Int32 := chOut (fun e t => wgP (LB (I 17) (fun i => I 9 (yr i)) (I 4 2) n) n (k + 1) 0 I (39 + e) t) k (k + 1) (I 37 1, I 37 2, I 37 3)
theorem doors_off {I : HI} {V : Nat → Nat → Nat → Int32} {n k : Nat} {s : Int32 × Int32 × Int32} : Off 37 42 I (tdH (wgP V n k 0 I) s) := fun a ha => by
  rw [tdH_o (by omega), wgP_o (by omega) (by omega)]
theorem S_doors_m1 {d n k : Nat} {I : HI} {J : HJ} {yr : Nat → Nat} (h1 : 1 ≤ k) (h6 : k ≤ 6) (hn : I 16 0 = nI n) (h12 : n ≤ 12) (hy : ∀ i, i < n → I 5 i = nI (yr i) ∧ yr i < 100) : MI mX6_doors (d + 4) [.ref 0, .int (nI k), .int (-1)] shA I J RA (fun x I' J' => x = (doorsS I n k yr).1 ∧ Off 37 42 I I' ∧ J' = J) := by
  refine Mt.of (L := [some (.ref 0), some (.int (nI k)), some (.int (-1))]) (by decide +kernel) (Nat.le_of_ble_eq_true rfl) rfl ?_
  refine q_iload_n dX6_doors_0 (rfl : 0 + 1 = 1) rfl ?_
  refine q_iconst (v := nI 1) dX6_doors_1 (rfl : 1 + 1 = 2) (by decide) ?_
  refine q_bipush (v := nI 6) dX6_doors_2 (rfl : 2 + 2 = 4) (by decide) ?_
  refine q_callSIp S_inside dX6_doors_4 (rfl : 4 + 3 = 7) lX6_68 vX6_inside rfl rfl (Nat.le_of_ble_eq_true rfl) TM_room TM_cs ?_
  refine q_if_eq_b (q := 21) dX6_doors_7 (by decide) (rfl : 7 + 3 = 10) (fun h2 => ?_) (fun h2 => ?_)
  · rw [inr_of h1 h6 (by decide)] at h2; cases h2
  ·
    refine q_iload_n dX6_doors_10 (rfl : 10 + 1 = 11) rfl ?_
    refine q_iconst (v := -1) dX6_doors_11 (rfl : 11 + 1 = 12) (by decide) ?_
    refine q_iload_n dX6_doors_12 (rfl : 12 + 1 = 13) rfl ?_
    refine q_iconst (v := nI 1) dX6_doors_13 (rfl : 13 + 1 = 14) (by decide) ?_
    refine q_isub dX6_doors_14 (rfl : 14 + 1 = 15) ?_
    refine q_callSIp S_inside dX6_doors_15 (rfl : 15 + 3 = 18) lX6_68 vX6_inside rfl rfl (Nat.le_of_ble_eq_true rfl) TM_room TM_cs ?_
    refine q_if_ne_b (q := 23) dX6_doors_18 (by decide) (rfl : 18 + 3 = 21) (fun h3 => ?_) (fun h3 => ?_)
    ·
      refine q_aload_n dX6_doors_23 (rfl : 23 + 1 = 24) rfl ?_
      refine q_getR dX6_doors_24 (rfl : 24 + 3 = 27) fX6_53 (by first | rfl | assumption) (by first | rfl | assumption) ?_
      refine q_iload_n dX6_doors_27 (rfl : 27 + 1 = 28) rfl ?_
      refine q_aload_n dX6_doors_28 (rfl : 28 + 1 = 29) rfl ?_
      refine q_getR dX6_doors_29 (rfl : 29 + 3 = 32) fX6_29 (by first | rfl | assumption) (by first | rfl | assumption) ?_
      refine q_aload_n dX6_doors_32 (rfl : 32 + 1 = 33) rfl ?_
      refine q_getR dX6_doors_33 (rfl : 33 + 3 = 36) fX6_19 (by first | rfl | assumption) (by first | rfl | assumption) ?_
      refine q_callVV (S_choose (d := d) h6 hn h12 hy) dX6_doors_36 (rfl : 36 + 3 = 39) lX6_151 vX4_choose (by first | rfl | assumption) rfl rfl (Nat.le_of_ble_eq_true rfl) TM_room TM_cs ?_
      intro I1 J1 hp
      obtain ⟨rfl, rfl⟩ := hp
      refine q_iload_n dX6_doors_39 (rfl : 39 + 1 = 40) rfl ?_
      refine q_iconst (v := -1) dX6_doors_40 (rfl : 40 + 1 = 41) (by decide) ?_
      refine q_icmp_ne (q := 54) dX6_doors_41 (by decide) (rfl : 41 + 3 = 44) (fun q => ?_) (fun q => ?_)
      · exact absurd rfl q
      ·
        refine q_aload_n dX6_doors_44 (rfl : 44 + 1 = 45) rfl ?_
        refine q_getR dX6_doors_45 (rfl : 45 + 3 = 48) fX6_53 (by first | rfl | assumption) (by first | rfl | assumption) ?_
        refine q_getI dX6_doors_48 (rfl : 48 + 3 = 51) fX6_155 (by first | rfl | assumption) ?_
        refine q_goto (q := 62) dX6_doors_51 (by decide) ?_
        refine q_iret rfl dX6_doors_62 ⟨rfl, rfl, _, rfl, ?_⟩
        exact ⟨tdH_1, doors_off, rfl⟩
    · have : inr (-1) (-1) (nI k - nI 1) = true := by
        rw [pk_sub h1]
        unfold inr
        simp only [Bool.and_eq_true, decide_eq_true_eq]
        exact ⟨Int32.le_refl _, Int32.le_trans (show (-1 : Int32) ≤ nI 0 by decide) ((nI_leI (by decide) (by omega)).mpr (by omega))⟩
      rw [this] at h3; cases h3
theorem S_doors {d n k j z r : Nat} {v : Int32} {I : HI} {J : HJ} {yr : Nat → Nat} (h1 : 1 ≤ k) (h6 : k ≤ 6) (hj : j < k) (hn : I 16 0 = nI n) (h12 : n ≤ 12) (hy : ∀ i, i < n → I 5 i = nI (yr i) ∧ yr i < 100) (hs : doorsS I n k yr = (v, nI z, nI r)) (hz : z ≤ 100) (hr : r ≤ 100) : MI mX6_doors (d + 4) [.ref 0, .int (nI k), .int (nI j)] shA I J RA (fun x I' J' => x = doorAtI z r j ∧ Off 37 42 I I' ∧ J' = J) := by
  refine Mt.of (L := [some (.ref 0), some (.int (nI k)), some (.int (nI j))]) (by decide +kernel) (Nat.le_of_ble_eq_true rfl) rfl ?_
  refine q_iload_n dX6_doors_0 (rfl : 0 + 1 = 1) rfl ?_
  refine q_iconst (v := nI 1) dX6_doors_1 (rfl : 1 + 1 = 2) (by decide) ?_
  refine q_bipush (v := nI 6) dX6_doors_2 (rfl : 2 + 2 = 4) (by decide) ?_
  refine q_callSIp S_inside dX6_doors_4 (rfl : 4 + 3 = 7) lX6_68 vX6_inside rfl rfl (Nat.le_of_ble_eq_true rfl) TM_room TM_cs ?_
  refine q_if_eq_b (q := 21) dX6_doors_7 (by decide) (rfl : 7 + 3 = 10) (fun h2 => ?_) (fun h2 => ?_)
  · rw [inr_of h1 h6 (by decide)] at h2; cases h2
  ·
    refine q_iload_n dX6_doors_10 (rfl : 10 + 1 = 11) rfl ?_
    refine q_iconst (v := -1) dX6_doors_11 (rfl : 11 + 1 = 12) (by decide) ?_
    refine q_iload_n dX6_doors_12 (rfl : 12 + 1 = 13) rfl ?_
    refine q_iconst (v := nI 1) dX6_doors_13 (rfl : 13 + 1 = 14) (by decide) ?_
    refine q_isub dX6_doors_14 (rfl : 14 + 1 = 15) ?_
    refine q_callSIp S_inside dX6_doors_15 (rfl : 15 + 3 = 18) lX6_68 vX6_inside rfl rfl (Nat.le_of_ble_eq_true rfl) TM_room TM_cs ?_
    refine q_if_ne_b (q := 23) dX6_doors_18 (by decide) (rfl : 18 + 3 = 21) (fun h3 => ?_) (fun h3 => ?_)
    ·
      refine q_aload_n dX6_doors_23 (rfl : 23 + 1 = 24) rfl ?_
      refine q_getR dX6_doors_24 (rfl : 24 + 3 = 27) fX6_53 (by first | rfl | assumption) (by first | rfl | assumption) ?_
      refine q_iload_n dX6_doors_27 (rfl : 27 + 1 = 28) rfl ?_
      refine q_aload_n dX6_doors_28 (rfl : 28 + 1 = 29) rfl ?_
      refine q_getR dX6_doors_29 (rfl : 29 + 3 = 32) fX6_29 (by first | rfl | assumption) (by first | rfl | assumption) ?_
      refine q_aload_n dX6_doors_32 (rfl : 32 + 1 = 33) rfl ?_
      refine q_getR dX6_doors_33 (rfl : 33 + 3 = 36) fX6_19 (by first | rfl | assumption) (by first | rfl | assumption) ?_
      refine q_callVV (S_choose (d := d) h6 hn h12 hy) dX6_doors_36 (rfl : 36 + 3 = 39) lX6_151 vX4_choose (by first | rfl | assumption) rfl rfl (Nat.le_of_ble_eq_true rfl) TM_room TM_cs ?_
      intro I1 J1 hp
      obtain ⟨rfl, rfl⟩ := hp
      refine q_iload_n dX6_doors_39 (rfl : 39 + 1 = 40) rfl ?_
      refine q_iconst (v := -1) dX6_doors_40 (rfl : 40 + 1 = 41) (by decide) ?_
      refine q_icmp_ne (q := 54) dX6_doors_41 (by decide) (rfl : 41 + 3 = 44) (fun q => ?_) (fun q => ?_)
      ·
        refine q_aload_n dX6_doors_54 (rfl : 54 + 1 = 55) rfl ?_
        refine q_getR dX6_doors_55 (rfl : 55 + 3 = 58) fX6_53 (by first | rfl | assumption) (by first | rfl | assumption) ?_
        refine q_iload_n dX6_doors_58 (rfl : 58 + 1 = 59) rfl ?_
        have e := hs
        unfold doorsS at e
        rw [e]
        refine q_callVIp (S_doorAt (d := d + 3) (z := z) (r := r) (j := j) (by simp [tdH, wr]) (by simp [tdH, wr]) hz hr (by omega)) dX6_doors_59 (rfl : 59 + 3 = 62) lX6_158 vX4_doorAt (by first | rfl | assumption) rfl rfl (Nat.le_of_ble_eq_true rfl) TM_room TM_cs ?_
        refine q_iret rfl dX6_doors_62 ⟨rfl, rfl, _, rfl, ?_⟩
        exact ⟨rfl, doors_off, rfl⟩
      · exact absurd q (fun z => absurd (nI_pos (n := j) (by omega)) (by rw [z]; decide))
    · have : inr (nI j) (-1) (nI k - nI 1) = true := by
        rw [pk_sub h1]
        unfold inr
        simp only [Bool.and_eq_true, decide_eq_true_eq]
        exact ⟨Int32.le_trans (show (-1 : Int32) ≤ nI 0 by decide) ((nI_leI (by decide) (by omega)).mpr (by omega)), (nI_leI (by omega) (by omega)).mpr (by omega)⟩
      rw [this] at h3; cases h3
theorem S_sell_bad1 {d n : Nat} {I : HI} {J : HJ} {i q : Int32} (hn : I 16 0 = nI n) (h : inr i (nI 0) (nI n - nI 1) = false) : MIp mX6_sell (d + 2) [.ref 0, .int i, .int q] shA I J RA (-1) := by
  refine Mt.of (L := [some (.ref 0), some (.int i), some (.int q), none]) (by decide +kernel) (Nat.le_of_ble_eq_true rfl) rfl ?_
  refine q_aload_n dX6_sell_0 (rfl : 0 + 1 = 1) rfl ?_
  refine q_getR dX6_sell_1 (rfl : 1 + 3 = 4) fX6_29 (by first | rfl | assumption) (by first | rfl | assumption) ?_
  refine q_iload_n dX6_sell_4 (rfl : 4 + 1 = 5) rfl ?_
  refine q_callVIp (S_has (d := d) hn) dX6_sell_5 (rfl : 5 + 3 = 8) lX6_127 vX0_has (by first | rfl | assumption) rfl rfl (Nat.le_of_ble_eq_true rfl) TM_room TM_cs ?_
  refine q_if_eq_b (q := 22) dX6_sell_8 (by decide) (rfl : 8 + 3 = 11) (fun h2 => ?_) (fun h2 => ?_)
  ·
    refine q_iconst (v := -1) dX6_sell_22 (rfl : 22 + 1 = 23) (by decide) ?_
    refine q_iret rfl dX6_sell_23 ⟨rfl, rfl, _, rfl, ?_⟩
    exact ⟨rfl, rfl, rfl⟩
  · rw [h] at h2; cases h2
theorem S_sell_bad2 {d n : Nat} {I : HI} {J : HJ} {i q : Int32} (hn : I 16 0 = nI n) (h : inr q (nI 1) (nI 200) = false) : MIp mX6_sell (d + 2) [.ref 0, .int i, .int q] shA I J RA (-1) := by
  refine Mt.of (L := [some (.ref 0), some (.int i), some (.int q), none]) (by decide +kernel) (Nat.le_of_ble_eq_true rfl) rfl ?_
  refine q_aload_n dX6_sell_0 (rfl : 0 + 1 = 1) rfl ?_
  refine q_getR dX6_sell_1 (rfl : 1 + 3 = 4) fX6_29 (by first | rfl | assumption) (by first | rfl | assumption) ?_
  refine q_iload_n dX6_sell_4 (rfl : 4 + 1 = 5) rfl ?_
  refine q_callVIp (S_has (d := d) hn) dX6_sell_5 (rfl : 5 + 3 = 8) lX6_127 vX0_has (by first | rfl | assumption) rfl rfl (Nat.le_of_ble_eq_true rfl) TM_room TM_cs ?_
  refine q_if_eq_b (q := 22) dX6_sell_8 (by decide) (rfl : 8 + 3 = 11) (fun h2 => ?_) (fun h2 => ?_)
  ·
    refine q_iconst (v := -1) dX6_sell_22 (rfl : 22 + 1 = 23) (by decide) ?_
    refine q_iret rfl dX6_sell_23 ⟨rfl, rfl, _, rfl, ?_⟩
    exact ⟨rfl, rfl, rfl⟩
  ·
    refine q_iload_n dX6_sell_11 (rfl : 11 + 1 = 12) rfl ?_
    refine q_iconst (v := nI 1) dX6_sell_12 (rfl : 12 + 1 = 13) (by decide) ?_
    refine q_sipush (v := nI 200) dX6_sell_13 (rfl : 13 + 3 = 16) (by decide) ?_
    refine q_callSIp (S_inside (d := d + 1)) dX6_sell_16 (rfl : 16 + 3 = 19) lX6_68 vX6_inside rfl rfl (Nat.le_of_ble_eq_true rfl) TM_room TM_cs ?_
    refine q_if_ne_b (q := 24) dX6_sell_19 (by decide) (rfl : 19 + 3 = 22) (fun h3 => ?_) (fun h3 => ?_)
    · rw [h] at h3; cases h3
    ·
      refine q_iconst (v := -1) dX6_sell_22 (rfl : 22 + 1 = 23) (by decide) ?_
      refine q_iret rfl dX6_sell_23 ⟨rfl, rfl, _, rfl, ?_⟩
      exact ⟨rfl, rfl, rfl⟩
def sellH (I : HI) (ns j : Nat) (q paid : Int32) : HI := if ns < 8 then saleH I ns j q paid else saleH (forgetH I) 7 j q paid
theorem S_sell {d n j ns y : Nat} {I : HI} {J : HJ} {q : Int32} (hn : I 16 0 = nI n) (h12 : n ≤ 12) (hj : j < n) (hq : inr q (nI 1) (nI 200) = true) (hs : I 16 4 = nI ns) (h8 : ns ≤ 8) (hy : I 5 j = nI y) (hy2 : y < 100) : MI mX6_sell (d + 2) [.ref 0, .int (nI j), .int q] shA I J RA (fun x I' J' => x = (if I 17 j < q then -2 else q * I 9 y / nI 10) ∧ I' = (if I 17 j < q then I else sellH I ns j q (q * I 9 y / nI 10)) ∧ J' = J) := by
  refine Mt.of (L := [some (.ref 0), some (.int (nI j)), some (.int q), none]) (by decide +kernel) (Nat.le_of_ble_eq_true rfl) rfl ?_
  refine q_aload_n dX6_sell_0 (rfl : 0 + 1 = 1) rfl ?_
  refine q_getR dX6_sell_1 (rfl : 1 + 3 = 4) fX6_29 (by first | rfl | assumption) (by first | rfl | assumption) ?_
  refine q_iload_n dX6_sell_4 (rfl : 4 + 1 = 5) rfl ?_
  refine q_callVIp (S_has (d := d) hn) dX6_sell_5 (rfl : 5 + 3 = 8) lX6_127 vX0_has (by first | rfl | assumption) rfl rfl (Nat.le_of_ble_eq_true rfl) TM_room TM_cs ?_
  refine q_if_eq_b (q := 22) dX6_sell_8 (by decide) (rfl : 8 + 3 = 11) (fun h2 => ?_) (fun h2 => ?_)
  · rw [in0 hj (by omega)] at h2; cases h2
  ·
    refine q_iload_n dX6_sell_11 (rfl : 11 + 1 = 12) rfl ?_
    refine q_iconst (v := nI 1) dX6_sell_12 (rfl : 12 + 1 = 13) (by decide) ?_
    refine q_sipush (v := nI 200) dX6_sell_13 (rfl : 13 + 3 = 16) (by decide) ?_
    refine q_callSIp (S_inside (d := d + 1)) dX6_sell_16 (rfl : 16 + 3 = 19) lX6_68 vX6_inside rfl rfl (Nat.le_of_ble_eq_true rfl) TM_room TM_cs ?_
    refine q_if_ne_b (q := 24) dX6_sell_19 (by decide) (rfl : 19 + 3 = 22) (fun h3 => ?_) (fun h3 => ?_)
    ·
      refine q_aload_n dX6_sell_24 (rfl : 24 + 1 = 25) rfl ?_
      refine q_getR dX6_sell_25 (rfl : 25 + 3 = 28) fX6_29 (by first | rfl | assumption) (by first | rfl | assumption) ?_
      refine q_getR dX6_sell_28 (rfl : 28 + 3 = 31) fX6_131 (by first | rfl | assumption) (by first | rfl | assumption) ?_
      refine q_iload_n dX6_sell_31 (rfl : 31 + 1 = 32) rfl ?_
      refine q_iald dX6_sell_32 (rfl : 32 + 1 = 33) (by first | rfl | assumption) (by first | assumption | omega) (by decide) ?_
      refine q_iload_n dX6_sell_33 (rfl : 33 + 1 = 34) rfl ?_
      refine q_icmp_ge (q := 40) dX6_sell_34 (by decide) (rfl : 34 + 3 = 37) (fun h4 => ?_) (fun h4 => ?_)
      ·
        refine q_iload_n dX6_sell_40 (rfl : 40 + 1 = 41) rfl ?_
        refine q_aload_n dX6_sell_41 (rfl : 41 + 1 = 42) rfl ?_
        refine q_getR dX6_sell_42 (rfl : 42 + 3 = 45) fX6_19 (by first | rfl | assumption) (by first | rfl | assumption) ?_
        refine q_iload_n dX6_sell_45 (rfl : 45 + 1 = 46) rfl ?_
        refine q_callVIp (S_costOf (d := d + 1) (by omega) hy hy2) dX6_sell_46 (rfl : 46 + 3 = 49) lX6_106 vX5_costOf (by first | rfl | assumption) rfl rfl (Nat.le_of_ble_eq_true rfl) TM_room TM_cs ?_
        refine q_imul dX6_sell_49 (rfl : 49 + 1 = 50) ?_
        refine q_bipush (v := nI 10) dX6_sell_50 (rfl : 50 + 2 = 52) (by decide) ?_
        refine q_idiv dX6_sell_52 (rfl : 52 + 1 = 53) (by first | assumption | decide) ?_
        refine q_istore_n dX6_sell_53 (rfl : 53 + 1 = 54) (by decide) ?_
        refine q_aload_n dX6_sell_54 (rfl : 54 + 1 = 55) rfl ?_
        refine q_getR dX6_sell_55 (rfl : 55 + 3 = 58) fX6_29 (by first | rfl | assumption) (by first | rfl | assumption) ?_
        refine q_iload_n dX6_sell_58 (rfl : 58 + 1 = 59) rfl ?_
        refine q_iload_n dX6_sell_59 (rfl : 59 + 1 = 60) rfl ?_
        refine q_iload_n dX6_sell_60 (rfl : 60 + 1 = 61) rfl ?_
        refine q_callVV (S_addSale (d := d) hs h8 (show j < 12 by omega)) dX6_sell_61 (rfl : 61 + 3 = 64) lX6_161 vX0_addSale (by first | rfl | assumption) rfl rfl (Nat.le_of_ble_eq_true rfl) TM_room TM_cs ?_
        intro I1 J1 hp
        obtain ⟨rfl, rfl⟩ := hp
        refine q_iload_n dX6_sell_64 (rfl : 64 + 1 = 65) rfl ?_
        refine q_iret rfl dX6_sell_65 ⟨rfl, rfl, _, rfl, ?_⟩
        rw [if_neg (Int32.not_lt.mpr h4), if_neg (Int32.not_lt.mpr h4)]
        exact ⟨rfl, rfl, rfl⟩
      ·
        refine q_bipush (v := -2) dX6_sell_37 (rfl : 37 + 2 = 39) (by decide) ?_
        refine q_iret rfl dX6_sell_39 ⟨rfl, rfl, _, rfl, ?_⟩
        rw [if_pos (Int32.not_le.mp h4), if_pos (Int32.not_le.mp h4)]
        exact ⟨rfl, rfl, rfl⟩
    · rw [hq] at h3; cases h3
theorem S_undo0 {d : Nat} {I : HI} {J : HJ} (hs : I 16 4 = nI 0) : MIp mX6_undo (d + 1) [.ref 0] shA I J RA (-2) := by
  refine Mt.of (L := [some (.ref 0)]) (by decide +kernel) (Nat.le_of_ble_eq_true rfl) rfl ?_
  refine q_aload_n dX6_undo_0 (rfl : 0 + 1 = 1) rfl ?_
  refine q_getR dX6_undo_1 (rfl : 1 + 3 = 4) fX6_29 (by first | rfl | assumption) (by first | rfl | assumption) ?_
  refine q_callVIp (S_takeSaleBack0 hs) dX6_undo_4 (rfl : 4 + 3 = 7) lX6_165 vX0_takeSaleBack (by first | rfl | assumption) rfl rfl (Nat.le_of_ble_eq_true rfl) TM_room TM_cs ?_
  refine q_iret rfl dX6_undo_7 ⟨rfl, rfl, _, rfl, ?_⟩
  exact ⟨rfl, rfl, rfl⟩
theorem S_undo {d k j : Nat} {I : HI} {J : HJ} (hs : I 16 4 = nI (k + 1)) (h8 : k < 8) (hj : I 19 k = nI j) (h12 : j < 12) : MI mX6_undo (d + 1) [.ref 0] shA I J RA (fun x I' J' => x = I 20 k ∧ I' = undoH I k j ∧ J' = J) := by
  refine Mt.of (L := [some (.ref 0)]) (by decide +kernel) (Nat.le_of_ble_eq_true rfl) rfl ?_
  refine q_aload_n dX6_undo_0 (rfl : 0 + 1 = 1) rfl ?_
  refine q_getR dX6_undo_1 (rfl : 1 + 3 = 4) fX6_29 (by first | rfl | assumption) (by first | rfl | assumption) ?_
  refine q_callVI (S_takeSaleBack (d := d) hs h8 hj h12) dX6_undo_4 (rfl : 4 + 3 = 7) lX6_165 vX0_takeSaleBack (by first | rfl | assumption) rfl rfl (Nat.le_of_ble_eq_true rfl) TM_room TM_cs ?_
  intro x I1 J1 hp
  refine q_iret rfl dX6_undo_7 ⟨rfl, rfl, _, rfl, ?_⟩
  exact hp
theorem S_swap_bad1 {d n : Nat} {I : HI} {J : HJ} {i q : Int32} (hn : I 16 0 = nI n) (h : inr i (nI 0) (nI n - nI 1) = false) : MIp mX6_swap (d + 2) [.ref 0, .int i, .int q] shA I J RA (-1) := by
  refine Mt.of (L := [some (.ref 0), some (.int i), some (.int q), none]) (by decide +kernel) (Nat.le_of_ble_eq_true rfl) rfl ?_
  refine q_aload_n dX6_swap_0 (rfl : 0 + 1 = 1) rfl ?_
  refine q_getR dX6_swap_1 (rfl : 1 + 3 = 4) fX6_29 (by first | rfl | assumption) (by first | rfl | assumption) ?_
  refine q_iload_n dX6_swap_4 (rfl : 4 + 1 = 5) rfl ?_
  refine q_callVIp (S_has (d := d) hn) dX6_swap_5 (rfl : 5 + 3 = 8) lX6_127 vX0_has (by first | rfl | assumption) rfl rfl (Nat.le_of_ble_eq_true rfl) TM_room TM_cs ?_
  refine q_if_eq_b (q := 21) dX6_swap_8 (by decide) (rfl : 8 + 3 = 11) (fun h2 => ?_) (fun h2 => ?_)
  ·
    refine q_iconst (v := -1) dX6_swap_21 (rfl : 21 + 1 = 22) (by decide) ?_
    refine q_iret rfl dX6_swap_22 ⟨rfl, rfl, _, rfl, ?_⟩
    exact ⟨rfl, rfl, rfl⟩
  · rw [h] at h2; cases h2
theorem S_swap_bad2 {d n : Nat} {I : HI} {J : HJ} {i q : Int32} (hn : I 16 0 = nI n) (h : inr q (nI 0) (nI 9) = false) : MIp mX6_swap (d + 2) [.ref 0, .int i, .int q] shA I J RA (-1) := by
  refine Mt.of (L := [some (.ref 0), some (.int i), some (.int q), none]) (by decide +kernel) (Nat.le_of_ble_eq_true rfl) rfl ?_
  refine q_aload_n dX6_swap_0 (rfl : 0 + 1 = 1) rfl ?_
  refine q_getR dX6_swap_1 (rfl : 1 + 3 = 4) fX6_29 (by first | rfl | assumption) (by first | rfl | assumption) ?_
  refine q_iload_n dX6_swap_4 (rfl : 4 + 1 = 5) rfl ?_
  refine q_callVIp (S_has (d := d) hn) dX6_swap_5 (rfl : 5 + 3 = 8) lX6_127 vX0_has (by first | rfl | assumption) rfl rfl (Nat.le_of_ble_eq_true rfl) TM_room TM_cs ?_
  refine q_if_eq_b (q := 21) dX6_swap_8 (by decide) (rfl : 8 + 3 = 11) (fun h2 => ?_) (fun h2 => ?_)
  ·
    refine q_iconst (v := -1) dX6_swap_21 (rfl : 21 + 1 = 22) (by decide) ?_
    refine q_iret rfl dX6_swap_22 ⟨rfl, rfl, _, rfl, ?_⟩
    exact ⟨rfl, rfl, rfl⟩
  ·
    refine q_iload_n dX6_swap_11 (rfl : 11 + 1 = 12) rfl ?_
    refine q_iconst (v := nI 0) dX6_swap_12 (rfl : 12 + 1 = 13) (by decide) ?_
    refine q_bipush (v := nI 9) dX6_swap_13 (rfl : 13 + 2 = 15) (by decide) ?_
    refine q_callSIp (S_inside (d := d + 1)) dX6_swap_15 (rfl : 15 + 3 = 18) lX6_68 vX6_inside rfl rfl (Nat.le_of_ble_eq_true rfl) TM_room TM_cs ?_
    refine q_if_ne_b (q := 23) dX6_swap_18 (by decide) (rfl : 18 + 3 = 21) (fun h3 => ?_) (fun h3 => ?_)
    · rw [h] at h3; cases h3
    ·
      refine q_iconst (v := -1) dX6_swap_21 (rfl : 21 + 1 = 22) (by decide) ?_
      refine q_iret rfl dX6_swap_22 ⟨rfl, rfl, _, rfl, ?_⟩
      exact ⟨rfl, rfl, rfl⟩
theorem S_swap {d n j : Nat} {I : HI} {J : HJ} {q : Int32} (hn : I 16 0 = nI n) (h12 : n ≤ 12) (hj : j < n) (hq : inr q (nI 0) (nI 9) = true) : MI mX6_swap (d + 2) [.ref 0, .int (nI j), .int q] shA I J RA (fun x I' J' => x = I 18 j ∧ I' = wr I 18 j q ∧ J' = J) := by
  refine Mt.of (L := [some (.ref 0), some (.int (nI j)), some (.int q), none]) (by decide +kernel) (Nat.le_of_ble_eq_true rfl) rfl ?_
  refine q_aload_n dX6_swap_0 (rfl : 0 + 1 = 1) rfl ?_
  refine q_getR dX6_swap_1 (rfl : 1 + 3 = 4) fX6_29 (by first | rfl | assumption) (by first | rfl | assumption) ?_
  refine q_iload_n dX6_swap_4 (rfl : 4 + 1 = 5) rfl ?_
  refine q_callVIp (S_has (d := d) hn) dX6_swap_5 (rfl : 5 + 3 = 8) lX6_127 vX0_has (by first | rfl | assumption) rfl rfl (Nat.le_of_ble_eq_true rfl) TM_room TM_cs ?_
  refine q_if_eq_b (q := 21) dX6_swap_8 (by decide) (rfl : 8 + 3 = 11) (fun h2 => ?_) (fun h2 => ?_)
  · rw [in0 hj (by omega)] at h2; cases h2
  ·
    refine q_iload_n dX6_swap_11 (rfl : 11 + 1 = 12) rfl ?_
    refine q_iconst (v := nI 0) dX6_swap_12 (rfl : 12 + 1 = 13) (by decide) ?_
    refine q_bipush (v := nI 9) dX6_swap_13 (rfl : 13 + 2 = 15) (by decide) ?_
    refine q_callSIp (S_inside (d := d + 1)) dX6_swap_15 (rfl : 15 + 3 = 18) lX6_68 vX6_inside rfl rfl (Nat.le_of_ble_eq_true rfl) TM_room TM_cs ?_
    refine q_if_ne_b (q := 23) dX6_swap_18 (by decide) (rfl : 18 + 3 = 21) (fun h3 => ?_) (fun h3 => ?_)
    ·
      refine q_aload_n dX6_swap_23 (rfl : 23 + 1 = 24) rfl ?_
      refine q_getR dX6_swap_24 (rfl : 24 + 3 = 27) fX6_29 (by first | rfl | assumption) (by first | rfl | assumption) ?_
      refine q_getR dX6_swap_27 (rfl : 27 + 3 = 30) fX6_134 (by first | rfl | assumption) (by first | rfl | assumption) ?_
      refine q_iload_n dX6_swap_30 (rfl : 30 + 1 = 31) rfl ?_
      refine q_iald dX6_swap_31 (rfl : 31 + 1 = 32) (by first | rfl | assumption) (by first | assumption | omega) (by decide) ?_
      refine q_istore_n dX6_swap_32 (rfl : 32 + 1 = 33) (by decide) ?_
      refine q_aload_n dX6_swap_33 (rfl : 33 + 1 = 34) rfl ?_
      refine q_getR dX6_swap_34 (rfl : 34 + 3 = 37) fX6_29 (by first | rfl | assumption) (by first | rfl | assumption) ?_
      refine q_getR dX6_swap_37 (rfl : 37 + 3 = 40) fX6_134 (by first | rfl | assumption) (by first | rfl | assumption) ?_
      refine q_iload_n dX6_swap_40 (rfl : 40 + 1 = 41) rfl ?_
      refine q_iload_n dX6_swap_41 (rfl : 41 + 1 = 42) rfl ?_
      refine q_iast dX6_swap_42 (rfl : 42 + 1 = 43) (by first | rfl | assumption) (by first | assumption | omega) (by decide) ?_
      refine q_iload_n dX6_swap_43 (rfl : 43 + 1 = 44) rfl ?_
      refine q_iret rfl dX6_swap_44 ⟨rfl, rfl, _, rfl, ?_⟩
      exact ⟨rfl, rfl, rfl⟩
    · rw [hq] at h3; cases h3
def lgOk (l w x : Int32) : Bool := inr l (nI 1) (nI 999) && inr w (nI 1) (nI 99) && inr x (nI 0) (nI 2)
theorem S_letGo_bad {d : Nat} {I : HI} {J : HJ} {l w x : Int32} (h : lgOk l w x = false) : MIp mX6_letGo (d + 1) [.ref 0, .int l, .int w, .int x] shA I J RA (-1) := by
  refine Mt.of (L := [some (.ref 0), some (.int l), some (.int w), some (.int x)]) (by decide +kernel) (Nat.le_of_ble_eq_true rfl) rfl ?_
  refine q_iload_n dX6_letGo_0 (rfl : 0 + 1 = 1) rfl ?_
  refine q_iconst (v := nI 1) dX6_letGo_1 (rfl : 1 + 1 = 2) (by decide) ?_
  refine q_sipush (v := nI 999) dX6_letGo_2 (rfl : 2 + 3 = 5) (by decide) ?_
  refine q_callSIp S_inside dX6_letGo_5 (rfl : 5 + 3 = 8) lX6_68 vX6_inside rfl rfl (Nat.le_of_ble_eq_true rfl) TM_room TM_cs ?_
  refine q_if_eq_b (q := 30) dX6_letGo_8 (by decide) (rfl : 8 + 3 = 11) (fun h1 => ?_) (fun h1 => ?_)
  ·
    refine q_iconst (v := -1) dX6_letGo_30 (rfl : 30 + 1 = 31) (by decide) ?_
    refine q_iret rfl dX6_letGo_31 ⟨rfl, rfl, _, rfl, ?_⟩
    exact ⟨rfl, rfl, rfl⟩
  ·
    refine q_iload_n dX6_letGo_11 (rfl : 11 + 1 = 12) rfl ?_
    refine q_iconst (v := nI 1) dX6_letGo_12 (rfl : 12 + 1 = 13) (by decide) ?_
    refine q_bipush (v := nI 99) dX6_letGo_13 (rfl : 13 + 2 = 15) (by decide) ?_
    refine q_callSIp S_inside dX6_letGo_15 (rfl : 15 + 3 = 18) lX6_68 vX6_inside rfl rfl (Nat.le_of_ble_eq_true rfl) TM_room TM_cs ?_
    refine q_if_eq_b (q := 30) dX6_letGo_18 (by decide) (rfl : 18 + 3 = 21) (fun h2 => ?_) (fun h2 => ?_)
    ·
      refine q_iconst (v := -1) dX6_letGo_30 (rfl : 30 + 1 = 31) (by decide) ?_
      refine q_iret rfl dX6_letGo_31 ⟨rfl, rfl, _, rfl, ?_⟩
      exact ⟨rfl, rfl, rfl⟩
    ·
      refine q_iload_n dX6_letGo_21 (rfl : 21 + 1 = 22) rfl ?_
      refine q_iconst (v := nI 0) dX6_letGo_22 (rfl : 22 + 1 = 23) (by decide) ?_
      refine q_iconst (v := nI 2) dX6_letGo_23 (rfl : 23 + 1 = 24) (by decide) ?_
      refine q_callSIp S_inside dX6_letGo_24 (rfl : 24 + 3 = 27) lX6_68 vX6_inside rfl rfl (Nat.le_of_ble_eq_true rfl) TM_room TM_cs ?_
      refine q_if_ne_b (q := 32) dX6_letGo_27 (by decide) (rfl : 27 + 3 = 30) (fun h3 => ?_) (fun h3 => ?_)
      · unfold lgOk at h
        rw [h1, h2, h3] at h
        cases h
      ·
        refine q_iconst (v := -1) dX6_letGo_30 (rfl : 30 + 1 = 31) (by decide) ?_
        refine q_iret rfl dX6_letGo_31 ⟨rfl, rfl, _, rfl, ?_⟩
        exact ⟨rfl, rfl, rfl⟩
/-- the best set, its years, its tenths, as the class seeks them -/
def letS (I : HI) (n : Nat) (yr : Nat → Nat) (l w : Int32) : Int32 × Int32 × Int32 := (lgS (I 17) (I 7) yr n (nI 10 * w) (nI 10 * l) (2 ^ n) 0 (swaS (I 17) (I 7) yr (sw0 I) n) (nI 0, -1, -1)).2
def pick3 (s : Int32 × Int32 × Int32) (x : Int32) : Int32 := if x = 0 then s.1 else if x = nI 1 then s.2.1 else s.2.2
theorem lbH_off {I : HI} {st : LSt} {b : Int32 × Int32 × Int32} : Off 42 44 I (lbH I st b) := fun a ha => lbH_o (by omega)
theorem S_letGo {d n : Nat} {I : HI} {J : HJ} {yr : Nat → Nat} {l w x : Int32} (h : lgOk l w x = true) (hn : I 16 0 = nI n) (h12 : n ≤ 12) (hy : ∀ i, i < n → I 5 i = nI (yr i) ∧ yr i < 100) : MI mX6_letGo (d + 3) [.ref 0, .int l, .int w, .int x] shA I J RA (fun y I' J' => y = pick3 (letS I n yr l w) x ∧ Off 42 44 I I' ∧ J' = J) := by
  unfold lgOk at h
  simp only [Bool.and_eq_true] at h
  obtain ⟨⟨h1, h2⟩, h3⟩ := h
  refine Mt.of (L := [some (.ref 0), some (.int l), some (.int w), some (.int x)]) (by decide +kernel) (Nat.le_of_ble_eq_true rfl) rfl ?_
  refine q_iload_n dX6_letGo_0 (rfl : 0 + 1 = 1) rfl ?_
  refine q_iconst (v := nI 1) dX6_letGo_1 (rfl : 1 + 1 = 2) (by decide) ?_
  refine q_sipush (v := nI 999) dX6_letGo_2 (rfl : 2 + 3 = 5) (by decide) ?_
  refine q_callSIp S_inside dX6_letGo_5 (rfl : 5 + 3 = 8) lX6_68 vX6_inside rfl rfl (Nat.le_of_ble_eq_true rfl) TM_room TM_cs ?_
  refine q_if_eq_b (q := 30) dX6_letGo_8 (by decide) (rfl : 8 + 3 = 11) (fun q1 => ?_) (fun q1 => ?_)
  · rw [h1] at q1; cases q1
  ·
    refine q_iload_n dX6_letGo_11 (rfl : 11 + 1 = 12) rfl ?_
    refine q_iconst (v := nI 1) dX6_letGo_12 (rfl : 12 + 1 = 13) (by decide) ?_
    refine q_bipush (v := nI 99) dX6_letGo_13 (rfl : 13 + 2 = 15) (by decide) ?_
    refine q_callSIp S_inside dX6_letGo_15 (rfl : 15 + 3 = 18) lX6_68 vX6_inside rfl rfl (Nat.le_of_ble_eq_true rfl) TM_room TM_cs ?_
    refine q_if_eq_b (q := 30) dX6_letGo_18 (by decide) (rfl : 18 + 3 = 21) (fun q2 => ?_) (fun q2 => ?_)
    · rw [h2] at q2; cases q2
    ·
      refine q_iload_n dX6_letGo_21 (rfl : 21 + 1 = 22) rfl ?_
      refine q_iconst (v := nI 0) dX6_letGo_22 (rfl : 22 + 1 = 23) (by decide) ?_
      refine q_iconst (v := nI 2) dX6_letGo_23 (rfl : 23 + 1 = 24) (by decide) ?_
      refine q_callSIp S_inside dX6_letGo_24 (rfl : 24 + 3 = 27) lX6_68 vX6_inside rfl rfl (Nat.le_of_ble_eq_true rfl) TM_room TM_cs ?_
      refine q_if_ne_b (q := 32) dX6_letGo_27 (by decide) (rfl : 27 + 3 = 30) (fun q3 => ?_) (fun q3 => ?_)
      ·
        refine q_aload_n dX6_letGo_32 (rfl : 32 + 1 = 33) rfl ?_
        refine q_getR dX6_letGo_33 (rfl : 33 + 3 = 36) fX6_60 (by first | rfl | assumption) (by first | rfl | assumption) ?_
        refine q_bipush (v := nI 10) dX6_letGo_36 (rfl : 36 + 2 = 38) (by decide) ?_
        refine q_iload_n dX6_letGo_38 (rfl : 38 + 1 = 39) rfl ?_
        refine q_imul dX6_letGo_39 (rfl : 39 + 1 = 40) ?_
        refine q_bipush (v := nI 10) dX6_letGo_40 (rfl : 40 + 2 = 42) (by decide) ?_
        refine q_iload_n dX6_letGo_42 (rfl : 42 + 1 = 43) rfl ?_
        refine q_imul dX6_letGo_43 (rfl : 43 + 1 = 44) ?_
        refine q_aload_n dX6_letGo_44 (rfl : 44 + 1 = 45) rfl ?_
        refine q_getR dX6_letGo_45 (rfl : 45 + 3 = 48) fX6_29 (by first | rfl | assumption) (by first | rfl | assumption) ?_
        refine q_aload_n dX6_letGo_48 (rfl : 48 + 1 = 49) rfl ?_
        refine q_getR dX6_letGo_49 (rfl : 49 + 3 = 52) fX6_19 (by first | rfl | assumption) (by first | rfl | assumption) ?_
        refine q_callVV (S_lchoose (d := d) hn h12 hy) dX6_letGo_52 (rfl : 52 + 3 = 55) lX6_168 vX1_choose (by first | rfl | assumption) rfl rfl (Nat.le_of_ble_eq_true rfl) TM_room TM_cs ?_
        intro I1 J1 hp
        obtain ⟨rfl, rfl⟩ := hp
        obtain ⟨-, -, -, a4, a5, a6⟩ := lbH_at (X := I) (st := (lgS (I 17) (I 7) yr n (nI 10 * w) (nI 10 * l) (2 ^ n) 0 (swaS (I 17) (I 7) yr (sw0 I) n) (nI 0, -1, -1)).1) (b := (lgS (I 17) (I 7) yr n (nI 10 * w) (nI 10 * l) (2 ^ n) 0 (swaS (I 17) (I 7) yr (sw0 I) n) (nI 0, -1, -1)).2)
        refine q_iload_n dX6_letGo_55 (rfl : 55 + 1 = 56) rfl ?_
        refine q_if_ne (q := 67) dX6_letGo_56 (by decide) (rfl : 56 + 3 = 59) (fun e0 => ?_) (fun e0 => ?_)
        ·
          refine q_iload_n dX6_letGo_67 (rfl : 67 + 1 = 68) rfl ?_
          refine q_iconst (v := nI 1) dX6_letGo_68 (rfl : 68 + 1 = 69) (by decide) ?_
          refine q_icmp_ne (q := 82) dX6_letGo_69 (by decide) (rfl : 69 + 3 = 72) (fun e1 => ?_) (fun e1 => ?_)
          ·
            refine q_aload_n dX6_letGo_82 (rfl : 82 + 1 = 83) rfl ?_
            refine q_getR dX6_letGo_83 (rfl : 83 + 3 = 86) fX6_60 (by first | rfl | assumption) (by first | rfl | assumption) ?_
            refine q_getI dX6_letGo_86 (rfl : 86 + 3 = 89) fX6_177 (by first | rfl | assumption) ?_
            refine q_iret rfl dX6_letGo_89 ⟨rfl, rfl, _, rfl, ?_⟩
            exact ⟨by rw [a6]; unfold pick3; rw [if_neg e0, if_neg e1]; rfl, lbH_off, rfl⟩
          ·
            refine q_aload_n dX6_letGo_72 (rfl : 72 + 1 = 73) rfl ?_
            refine q_getR dX6_letGo_73 (rfl : 73 + 3 = 76) fX6_60 (by first | rfl | assumption) (by first | rfl | assumption) ?_
            refine q_getI dX6_letGo_76 (rfl : 76 + 3 = 79) fX6_174 (by first | rfl | assumption) ?_
            refine q_goto (q := 89) dX6_letGo_79 (by decide) ?_
            refine q_iret rfl dX6_letGo_89 ⟨rfl, rfl, _, rfl, ?_⟩
            exact ⟨by rw [a5]; unfold pick3; rw [if_neg e0, if_pos e1]; rfl, lbH_off, rfl⟩
        ·
          refine q_aload_n dX6_letGo_59 (rfl : 59 + 1 = 60) rfl ?_
          refine q_getR dX6_letGo_60 (rfl : 60 + 3 = 63) fX6_60 (by first | rfl | assumption) (by first | rfl | assumption) ?_
          refine q_getI dX6_letGo_63 (rfl : 63 + 3 = 66) fX6_171 (by first | rfl | assumption) ?_
          refine q_iret rfl dX6_letGo_66 ⟨rfl, rfl, _, rfl, ?_⟩
          exact ⟨by rw [a4]; unfold pick3; rw [if_pos e0]; rfl, lbH_off, rfl⟩
      · rw [h3] at q3; cases q3
def odOk (du he y p : Int32) : Bool := (inr du (nI 0) (nI 9) && inr he (nI 1) (nI 9)) && inr y (nI 0) (nI 99) && inr p (nI 0) (nI 1)
theorem S_odds_bad {d : Nat} {I : HI} {J : HJ} {du he y p : Int32} (h : odOk du he y p = false) : MIp mX6_odds (d + 2) [.ref 0, .int du, .int he, .int y, .int p] shA I J RA (-1) := by
  refine Mt.of (L := [some (.ref 0), some (.int du), some (.int he), some (.int y), some (.int p), none, none, none]) (by decide +kernel) (Nat.le_of_ble_eq_true rfl) rfl ?_
  refine q_iload_n dX6_odds_0 (rfl : 0 + 1 = 1) rfl ?_
  refine q_iload_n dX6_odds_1 (rfl : 1 + 1 = 2) rfl ?_
  refine q_callSIp S_isPiece dX6_odds_2 (rfl : 2 + 3 = 5) lX6_180 vX6_isPiece rfl rfl (Nat.le_of_ble_eq_true rfl) TM_room TM_cs ?_
  refine q_if_eq_b (q := 25) dX6_odds_5 (by decide) (rfl : 5 + 3 = 8) (fun h1 => ?_) (fun h1 => ?_)
  ·
    refine q_iconst (v := -1) dX6_odds_25 (rfl : 25 + 1 = 26) (by decide) ?_
    refine q_iret rfl dX6_odds_26 ⟨rfl, rfl, _, rfl, ?_⟩
    exact ⟨rfl, rfl, rfl⟩
  ·
    refine q_iload_n dX6_odds_8 (rfl : 8 + 1 = 9) rfl ?_
    refine q_callSIp S_isYear dX6_odds_9 (rfl : 9 + 3 = 12) lX6_183 vX6_isYear rfl rfl (Nat.le_of_ble_eq_true rfl) TM_room TM_cs ?_
    refine q_if_eq_b (q := 25) dX6_odds_12 (by decide) (rfl : 12 + 3 = 15) (fun h2 => ?_) (fun h2 => ?_)
    ·
      refine q_iconst (v := -1) dX6_odds_25 (rfl : 25 + 1 = 26) (by decide) ?_
      refine q_iret rfl dX6_odds_26 ⟨rfl, rfl, _, rfl, ?_⟩
      exact ⟨rfl, rfl, rfl⟩
    ·
      refine q_iload dX6_odds_15 (rfl : 15 + 2 = 17) rfl ?_
      refine q_iconst (v := nI 0) dX6_odds_17 (rfl : 17 + 1 = 18) (by decide) ?_
      refine q_iconst (v := nI 1) dX6_odds_18 (rfl : 18 + 1 = 19) (by decide) ?_
      refine q_callSIp (S_inside (d := d + 1)) dX6_odds_19 (rfl : 19 + 3 = 22) lX6_68 vX6_inside rfl rfl (Nat.le_of_ble_eq_true rfl) TM_room TM_cs ?_
      refine q_if_ne_b (q := 27) dX6_odds_22 (by decide) (rfl : 22 + 3 = 25) (fun h3 => ?_) (fun h3 => ?_)
      · unfold odOk at h
        rw [h1, h2, h3] at h
        cases h
      ·
        refine q_iconst (v := -1) dX6_odds_25 (rfl : 25 + 1 = 26) (by decide) ?_
        refine q_iret rfl dX6_odds_26 ⟨rfl, rfl, _, rfl, ?_⟩
        exact ⟨rfl, rfl, rfl⟩
def mx1 (g : Int32) : Int32 := if nI 1 < g then g else nI 1
theorem mx1_ne (g : Int32) : ¬ mx1 g = 0 := by
  unfold mx1
  split
  · rename_i h
    intro z
    rw [z] at h
    exact absurd h (by decide)
  · decide
def oddsV (all own p : Int32) : Int32 := if all = 0 then -4 else (if p = 0 then own else all) / mx1 (cdI 64 all own)
theorem S_odds {d n : Nat} {I : HI} {J : HJ} {du he y p : Int32} (h : odOk du he y p = true) (hn : I 16 0 = nI n) (h12 : n ≤ 12) : MIp mX6_odds (d + 2) [.ref 0, .int du, .int he, .int y, .int p] shA I J RA (oddsV (sI (wI (I 17) (I 8) (I 7) (I 4 3) du he) n) (sI (wyI (I 17) (I 5) (I 8) (I 7) (I 4 3) du he y) n) p) := by
  unfold odOk at h
  simp only [Bool.and_eq_true] at h
  obtain ⟨⟨h1, h2⟩, h3⟩ := h
  refine Mt.of (L := [some (.ref 0), some (.int du), some (.int he), some (.int y), some (.int p), none, none, none]) (by decide +kernel) (Nat.le_of_ble_eq_true rfl) rfl ?_
  refine q_iload_n dX6_odds_0 (rfl : 0 + 1 = 1) rfl ?_
  refine q_iload_n dX6_odds_1 (rfl : 1 + 1 = 2) rfl ?_
  refine q_callSIp S_isPiece dX6_odds_2 (rfl : 2 + 3 = 5) lX6_180 vX6_isPiece rfl rfl (Nat.le_of_ble_eq_true rfl) TM_room TM_cs ?_
  refine q_if_eq_b (q := 25) dX6_odds_5 (by decide) (rfl : 5 + 3 = 8) (fun q1 => ?_) (fun q1 => ?_)
  · rw [h1.1, h1.2] at q1; cases q1
  ·
    refine q_iload_n dX6_odds_8 (rfl : 8 + 1 = 9) rfl ?_
    refine q_callSIp S_isYear dX6_odds_9 (rfl : 9 + 3 = 12) lX6_183 vX6_isYear rfl rfl (Nat.le_of_ble_eq_true rfl) TM_room TM_cs ?_
    refine q_if_eq_b (q := 25) dX6_odds_12 (by decide) (rfl : 12 + 3 = 15) (fun q2 => ?_) (fun q2 => ?_)
    · rw [h2] at q2; cases q2
    ·
      refine q_iload dX6_odds_15 (rfl : 15 + 2 = 17) rfl ?_
      refine q_iconst (v := nI 0) dX6_odds_17 (rfl : 17 + 1 = 18) (by decide) ?_
      refine q_iconst (v := nI 1) dX6_odds_18 (rfl : 18 + 1 = 19) (by decide) ?_
      refine q_callSIp (S_inside (d := d + 1)) dX6_odds_19 (rfl : 19 + 3 = 22) lX6_68 vX6_inside rfl rfl (Nat.le_of_ble_eq_true rfl) TM_room TM_cs ?_
      refine q_if_ne_b (q := 27) dX6_odds_22 (by decide) (rfl : 22 + 3 = 25) (fun q3 => ?_) (fun q3 => ?_)
      ·
        refine q_aload_n dX6_odds_27 (rfl : 27 + 1 = 28) rfl ?_
        refine q_iload_n dX6_odds_28 (rfl : 28 + 1 = 29) rfl ?_
        refine q_iload_n dX6_odds_29 (rfl : 29 + 1 = 30) rfl ?_
        refine q_callVIp (S_weightOfAll (d := d) hn h12) dX6_odds_30 (rfl : 30 + 3 = 33) lX6_186 vX6_weightOfAll (by first | rfl | assumption) rfl rfl (Nat.le_of_ble_eq_true rfl) TM_room TM_cs ?_
        refine q_istore dX6_odds_33 (rfl : 33 + 2 = 35) (by decide) ?_
        refine q_iload dX6_odds_35 (rfl : 35 + 2 = 37) rfl ?_
        refine q_if_ne (q := 43) dX6_odds_37 (by decide) (rfl : 37 + 3 = 40) (fun e => ?_) (fun e => ?_)
        ·
          refine q_aload_n dX6_odds_43 (rfl : 43 + 1 = 44) rfl ?_
          refine q_iload_n dX6_odds_44 (rfl : 44 + 1 = 45) rfl ?_
          refine q_iload_n dX6_odds_45 (rfl : 45 + 1 = 46) rfl ?_
          refine q_iload_n dX6_odds_46 (rfl : 46 + 1 = 47) rfl ?_
          refine q_callVIp (S_weightOfYear (d := d) hn h12) dX6_odds_47 (rfl : 47 + 3 = 50) lX6_189 vX6_weightOfYear (by first | rfl | assumption) rfl rfl (Nat.le_of_ble_eq_true rfl) TM_room TM_cs ?_
          refine q_istore dX6_odds_50 (rfl : 50 + 2 = 52) (by decide) ?_
          refine q_iconst (v := nI 1) dX6_odds_52 (rfl : 52 + 1 = 53) (by decide) ?_
          refine q_iload dX6_odds_53 (rfl : 53 + 2 = 55) rfl ?_
          refine q_iload dX6_odds_55 (rfl : 55 + 2 = 57) rfl ?_
          refine q_callSIp (S_cd (d := d + 1)) dX6_odds_57 (rfl : 57 + 3 = 60) lX6_193 vX6_commonDivisor rfl rfl (Nat.le_of_ble_eq_true rfl) TM_room TM_cs ?_
          have e1 : ¬ (if nI 1 < cdI 64 (sI (wI (I 17) (I 8) (I 7) (I 4 3) du he) n) (sI (wyI (I 17) (I 5) (I 8) (I 7) (I 4 3) du he y) n) then cdI 64 (sI (wI (I 17) (I 8) (I 7) (I 4 3) du he) n) (sI (wyI (I 17) (I 5) (I 8) (I 7) (I 4 3) du he y) n) else nI 1) = 0 := mx1_ne _
          refine q_max dX6_odds_60 (rfl : 60 + 3 = 63) lX6_196 w_max (Nat.le_of_ble_eq_true rfl) (TM_math (Nat.le_refl _) (Nat.le_refl _)) ?_
          refine q_istore dX6_odds_63 (rfl : 63 + 2 = 65) (by decide) ?_
          refine q_iload dX6_odds_65 (rfl : 65 + 2 = 67) rfl ?_
          refine q_if_ne (q := 75) dX6_odds_67 (by decide) (rfl : 67 + 3 = 70) (fun e2 => ?_) (fun e2 => ?_)
          ·
            refine q_iload dX6_odds_75 (rfl : 75 + 2 = 77) rfl ?_
            refine q_iload dX6_odds_77 (rfl : 77 + 2 = 79) rfl ?_
            refine q_idiv dX6_odds_79 (rfl : 79 + 1 = 80) (by first | assumption | decide) ?_
            refine q_iret rfl dX6_odds_80 ⟨rfl, rfl, _, rfl, ?_⟩
            exact ⟨by unfold oddsV; rw [if_neg e, if_neg e2]; rfl, rfl, rfl⟩
          ·
            refine q_iload dX6_odds_70 (rfl : 70 + 2 = 72) rfl ?_
            refine q_goto (q := 77) dX6_odds_72 (by decide) ?_
            refine q_iload dX6_odds_77 (rfl : 77 + 2 = 79) rfl ?_
            refine q_idiv dX6_odds_79 (rfl : 79 + 1 = 80) (by first | assumption | decide) ?_
            refine q_iret rfl dX6_odds_80 ⟨rfl, rfl, _, rfl, ?_⟩
            exact ⟨by unfold oddsV; rw [if_neg e, if_pos e2]; rfl, rfl, rfl⟩
        ·
          refine q_bipush (v := -4) dX6_odds_40 (rfl : 40 + 2 = 42) (by decide) ?_
          refine q_iret rfl dX6_odds_42 ⟨rfl, rfl, _, rfl, ?_⟩
          exact ⟨by unfold oddsV; rw [if_pos e], rfl, rfl⟩
      · rw [h3] at q3; cases q3
theorem S_likeliest_bad {d : Nat} {I : HI} {J : HJ} {du he : Int32} (h : (inr du (nI 0) (nI 9) && inr he (nI 1) (nI 9)) = false) : MIp mX6_likeliest (d + 2) [.ref 0, .int du, .int he] shA I J RA (-1) := by
  refine Mt.of (L := [some (.ref 0), some (.int du), some (.int he), none, none, none, none]) (by decide +kernel) (Nat.le_of_ble_eq_true rfl) rfl ?_
  refine q_iload_n dX6_likeliest_0 (rfl : 0 + 1 = 1) rfl ?_
  refine q_iload_n dX6_likeliest_1 (rfl : 1 + 1 = 2) rfl ?_
  refine q_callSIp (S_isPiece (d := d)) dX6_likeliest_2 (rfl : 2 + 3 = 5) lX6_180 vX6_isPiece rfl rfl (Nat.le_of_ble_eq_true rfl) TM_room TM_cs ?_
  refine q_if_ne_b (q := 10) dX6_likeliest_5 (by decide) (rfl : 5 + 3 = 8) (fun h1 => ?_) (fun h1 => ?_)
  · rw [h] at h1; cases h1
  ·
    refine q_iconst (v := -1) dX6_likeliest_8 (rfl : 8 + 1 = 9) (by decide) ?_
    refine q_iret rfl dX6_likeliest_9 ⟨rfl, rfl, _, rfl, ?_⟩
    exact ⟨rfl, rfl, rfl⟩
def lkL (wy y : Nat → Int32) (k i : Nat) (best most : Int32) : Int32 := match k with
  | 0 => best
  | k + 1 => if most < wy i then lkL wy y k (i + 1) (y i) (wy i) else lkL wy y k (i + 1) best most
theorem L_likeliest {d n0 n : Nat} {Po : PO} {I : HI} {J : HJ} {du he : Int32} (hn : I 16 0 = nI n) (h12 : n ≤ 12) :
    ∀ (k i : Nat) (best most : Int32), i + k = n → Po shA (some (.int (lkL (fun i => sI (wyI (I 17) (I 5) (I 8) (I 7) (I 4 3) du he (I 5 i)) n) (I 5) k i best most))) I J RA →
      Wm mX6_likeliest (TM (d + 2) 0 0 false n0 Po) 0 0 shA 19 [some (.ref 0), some (.int du), some (.int he), some (.int best), some (.int most), some (.int (nI i)), none] [] I J RA := by
  intro k
  induction k with
  | zero =>
    intro i best most hk hPo
    obtain rfl : i = n := by omega
    refine q_iload dX6_likeliest_19 (rfl : 19 + 2 = 21) rfl ?_
    refine q_aload_n dX6_likeliest_21 (rfl : 21 + 1 = 22) rfl ?_
    refine q_getR dX6_likeliest_22 (rfl : 22 + 3 = 25) fX6_29 (by first | rfl | assumption) (by first | rfl | assumption) ?_
    refine q_getI dX6_likeliest_25 (rfl : 25 + 3 = 28) fX6_110 (by first | rfl | assumption) ?_
    try simp (disch := omega) only [wr_hit, wr_p, wr_k, nI_add, pk_mul, nI_1, nI_s1, pk_sub, Nat.add_sub_cancel, hn]
    refine q_icmp_ge_n (q := 77) (by omega) (by omega) dX6_likeliest_28 (by decide) (rfl : 28 + 3 = 31) (fun h => ?_) (fun h => ?_)
    ·
      refine q_iload_n dX6_likeliest_77 (rfl : 77 + 1 = 78) rfl ?_
      exact q_iret rfl dX6_likeliest_78 hPo
    · omega
  | succ k ih =>
    intro i best most hk hPo
    refine q_iload dX6_likeliest_19 (rfl : 19 + 2 = 21) rfl ?_
    refine q_aload_n dX6_likeliest_21 (rfl : 21 + 1 = 22) rfl ?_
    refine q_getR dX6_likeliest_22 (rfl : 22 + 3 = 25) fX6_29 (by first | rfl | assumption) (by first | rfl | assumption) ?_
    refine q_getI dX6_likeliest_25 (rfl : 25 + 3 = 28) fX6_110 (by first | rfl | assumption) ?_
    try simp (disch := omega) only [wr_hit, wr_p, wr_k, nI_add, pk_mul, nI_1, nI_s1, pk_sub, Nat.add_sub_cancel, hn]
    refine q_icmp_ge_n (q := 77) (by omega) (by omega) dX6_likeliest_28 (by decide) (rfl : 28 + 3 = 31) (fun h => ?_) (fun h => ?_)
    · omega
    ·
      refine q_aload_n dX6_likeliest_31 (rfl : 31 + 1 = 32) rfl ?_
      refine q_iload_n dX6_likeliest_32 (rfl : 32 + 1 = 33) rfl ?_
      refine q_iload_n dX6_likeliest_33 (rfl : 33 + 1 = 34) rfl ?_
      refine q_aload_n dX6_likeliest_34 (rfl : 34 + 1 = 35) rfl ?_
      refine q_getR dX6_likeliest_35 (rfl : 35 + 3 = 38) fX6_19 (by first | rfl | assumption) (by first | rfl | assumption) ?_
      refine q_getR dX6_likeliest_38 (rfl : 38 + 3 = 41) fX6_93 (by first | rfl | assumption) (by first | rfl | assumption) ?_
      refine q_iload dX6_likeliest_41 (rfl : 41 + 2 = 43) rfl ?_
      refine q_iald dX6_likeliest_43 (rfl : 43 + 1 = 44) (by first | rfl | assumption) (by first | assumption | omega) (by decide) ?_
      refine q_callVIp (S_weightOfYear (d := d) hn h12) dX6_likeliest_44 (rfl : 44 + 3 = 47) lX6_189 vX6_weightOfYear (by first | rfl | assumption) rfl rfl (Nat.le_of_ble_eq_true rfl) TM_room TM_cs ?_
      refine q_istore dX6_likeliest_47 (rfl : 47 + 2 = 49) (by decide) ?_
      refine q_iload dX6_likeliest_49 (rfl : 49 + 2 = 51) rfl ?_
      refine q_iload dX6_likeliest_51 (rfl : 51 + 2 = 53) rfl ?_
      refine q_icmp_le (q := 71) dX6_likeliest_53 (by decide) (rfl : 53 + 3 = 56) (fun e => ?_) (fun e => ?_)
      ·
        first | refine q_iinc1 dX6_likeliest_71 (rfl : 71 + 3 = 74) rfl (by decide) ?_ | refine q_iinc dX6_likeliest_71 (rfl : 71 + 3 = 74) rfl rfl (by decide) ?_
        refine q_goto (q := 19) dX6_likeliest_74 (by decide) ?_
        have e2 : lkL (fun i => sI (wyI (I 17) (I 5) (I 8) (I 7) (I 4 3) du he (I 5 i)) n) (I 5) (k + 1) i best most = lkL (fun i => sI (wyI (I 17) (I 5) (I 8) (I 7) (I 4 3) du he (I 5 i)) n) (I 5) k (i + 1) best most := by
          simp only [lkL, if_neg (Int32.not_lt.mpr e)]
        rw [e2] at hPo
        refine q_forget (L' := [some (.ref 0), some (.int du), some (.int he), some (.int best), some (.int most), some (.int (nI (i + 1))), none]) (by repeat (first | exact trivial | refine And.intro rfl ?_)) ?_
        exact ih (i + 1) _ _ (by omega) hPo
      ·
        refine q_iload dX6_likeliest_56 (rfl : 56 + 2 = 58) rfl ?_
        refine q_istore dX6_likeliest_58 (rfl : 58 + 2 = 60) (by decide) ?_
        refine q_aload_n dX6_likeliest_60 (rfl : 60 + 1 = 61) rfl ?_
        refine q_getR dX6_likeliest_61 (rfl : 61 + 3 = 64) fX6_19 (by first | rfl | assumption) (by first | rfl | assumption) ?_
        refine q_getR dX6_likeliest_64 (rfl : 64 + 3 = 67) fX6_93 (by first | rfl | assumption) (by first | rfl | assumption) ?_
        refine q_iload dX6_likeliest_67 (rfl : 67 + 2 = 69) rfl ?_
        refine q_iald dX6_likeliest_69 (rfl : 69 + 1 = 70) (by first | rfl | assumption) (by first | assumption | omega) (by decide) ?_
        refine q_istore_n dX6_likeliest_70 (rfl : 70 + 1 = 71) (by decide) ?_
        first | refine q_iinc1 dX6_likeliest_71 (rfl : 71 + 3 = 74) rfl (by decide) ?_ | refine q_iinc dX6_likeliest_71 (rfl : 71 + 3 = 74) rfl rfl (by decide) ?_
        refine q_goto (q := 19) dX6_likeliest_74 (by decide) ?_
        have e2 : lkL (fun i => sI (wyI (I 17) (I 5) (I 8) (I 7) (I 4 3) du he (I 5 i)) n) (I 5) (k + 1) i best most = lkL (fun i => sI (wyI (I 17) (I 5) (I 8) (I 7) (I 4 3) du he (I 5 i)) n) (I 5) k (i + 1) (I 5 i) (sI (wyI (I 17) (I 5) (I 8) (I 7) (I 4 3) du he (I 5 i)) n) := by
          simp only [lkL, if_pos (Int32.not_le.mp e)]
        rw [e2] at hPo
        refine q_forget (L' := [some (.ref 0), some (.int du), some (.int he), some (.int (I 5 i)), some (.int (sI (wyI (I 17) (I 5) (I 8) (I 7) (I 4 3) du he (I 5 i)) n)), some (.int (nI (i + 1))), none]) (by repeat (first | exact trivial | refine And.intro rfl ?_)) ?_
        exact ih (i + 1) _ _ (by omega) hPo
theorem S_likeliest {d n : Nat} {I : HI} {J : HJ} {du he : Int32} (h : (inr du (nI 0) (nI 9) && inr he (nI 1) (nI 9)) = true) (hn : I 16 0 = nI n) (h12 : n ≤ 12) : MIp mX6_likeliest (d + 2) [.ref 0, .int du, .int he] shA I J RA (lkL (fun i => sI (wyI (I 17) (I 5) (I 8) (I 7) (I 4 3) du he (I 5 i)) n) (I 5) n 0 (-4) (nI 0)) := by
  refine Mt.of (L := [some (.ref 0), some (.int du), some (.int he), none, none, none, none]) (by decide +kernel) (Nat.le_of_ble_eq_true rfl) rfl ?_
  refine q_iload_n dX6_likeliest_0 (rfl : 0 + 1 = 1) rfl ?_
  refine q_iload_n dX6_likeliest_1 (rfl : 1 + 1 = 2) rfl ?_
  refine q_callSIp (S_isPiece (d := d)) dX6_likeliest_2 (rfl : 2 + 3 = 5) lX6_180 vX6_isPiece rfl rfl (Nat.le_of_ble_eq_true rfl) TM_room TM_cs ?_
  refine q_if_ne_b (q := 10) dX6_likeliest_5 (by decide) (rfl : 5 + 3 = 8) (fun h1 => ?_) (fun h1 => ?_)
  ·
    refine q_bipush (v := -4) dX6_likeliest_10 (rfl : 10 + 2 = 12) (by decide) ?_
    refine q_istore_n dX6_likeliest_12 (rfl : 12 + 1 = 13) (by decide) ?_
    refine q_iconst (v := nI 0) dX6_likeliest_13 (rfl : 13 + 1 = 14) (by decide) ?_
    refine q_istore dX6_likeliest_14 (rfl : 14 + 2 = 16) (by decide) ?_
    refine q_iconst (v := nI 0) dX6_likeliest_16 (rfl : 16 + 1 = 17) (by decide) ?_
    refine q_istore dX6_likeliest_17 (rfl : 17 + 2 = 19) (by decide) ?_
    exact L_likeliest hn h12 n 0 (-4) (nI 0) (by omega) ⟨rfl, rfl, _, rfl, rfl, rfl, rfl⟩
  · rw [h] at h1; cases h1
theorem S_mark_bad {d : Nat} {I : HI} {J : HJ} {x : Int32} (h : inr x (nI 0) (nI 9) = false) : MIp mX6_mark (d + 1) [.ref 0, .int x] shA I J RA (-1) := by
  refine Mt.of (L := [some (.ref 0), some (.int x)]) (by decide +kernel) (Nat.le_of_ble_eq_true rfl) rfl ?_
  refine q_iload_n dX6_mark_0 (rfl : 0 + 1 = 1) rfl ?_
  refine q_iconst (v := nI 0) dX6_mark_1 (rfl : 1 + 1 = 2) (by decide) ?_
  refine q_bipush (v := nI 9) dX6_mark_2 (rfl : 2 + 2 = 4) (by decide) ?_
  refine q_callSIp S_inside dX6_mark_4 (rfl : 4 + 3 = 7) lX6_68 vX6_inside rfl rfl (Nat.le_of_ble_eq_true rfl) TM_room TM_cs ?_
  refine q_if_ne_b (q := 12) dX6_mark_7 (by decide) (rfl : 7 + 3 = 10) (fun h1 => ?_) (fun h1 => ?_)
  · rw [h] at h1; cases h1
  ·
    refine q_iconst (v := -1) dX6_mark_10 (rfl : 10 + 1 = 11) (by decide) ?_
    refine q_iret rfl dX6_mark_11 ⟨rfl, rfl, _, rfl, ?_⟩
    exact ⟨rfl, rfl, rfl⟩
theorem S_mark {d k : Nat} {I : HI} {J : HJ} {x : Int32} (h : inr x (nI 0) (nI 9) = true) (hk : I 34 1 = nI k) (h14 : k ≤ 14) : MI mX6_mark (d + 1) [.ref 0, .int x] shA I J RA (fun y I' J' => y = (if k < 14 then nI (k + 1) else -3) ∧ I' = (if k < 14 then wr (wr I 35 k x) 34 1 (nI (k + 1)) else I) ∧ J' = J) := by
  refine Mt.of (L := [some (.ref 0), some (.int x)]) (by decide +kernel) (Nat.le_of_ble_eq_true rfl) rfl ?_
  refine q_iload_n dX6_mark_0 (rfl : 0 + 1 = 1) rfl ?_
  refine q_iconst (v := nI 0) dX6_mark_1 (rfl : 1 + 1 = 2) (by decide) ?_
  refine q_bipush (v := nI 9) dX6_mark_2 (rfl : 2 + 2 = 4) (by decide) ?_
  refine q_callSIp S_inside dX6_mark_4 (rfl : 4 + 3 = 7) lX6_68 vX6_inside rfl rfl (Nat.le_of_ble_eq_true rfl) TM_room TM_cs ?_
  refine q_if_ne_b (q := 12) dX6_mark_7 (by decide) (rfl : 7 + 3 = 10) (fun h1 => ?_) (fun h1 => ?_)
  ·
    refine q_aload_n dX6_mark_12 (rfl : 12 + 1 = 13) rfl ?_
    refine q_getR dX6_mark_13 (rfl : 13 + 3 = 16) fX6_46 (by first | rfl | assumption) (by first | rfl | assumption) ?_
    refine q_iload_n dX6_mark_16 (rfl : 16 + 1 = 17) rfl ?_
    refine q_callVI (S_madd (d := d) hk h14) dX6_mark_17 (rfl : 17 + 3 = 20) lX6_201 vX2_add (by first | rfl | assumption) rfl rfl (Nat.le_of_ble_eq_true rfl) TM_room TM_cs ?_
    intro y I1 J1 hp
    obtain ⟨rfl, rfl, rfl⟩ := hp
    refine q_if_eq_b (q := 33) dX6_mark_20 (by decide) (rfl : 20 + 3 = 23) (fun h2 => ?_) (fun h2 => ?_)
    ·
      have h3 : ¬ k < 14 := by simpa using h2
      rw [h2]
      refine q_bipush (v := -3) dX6_mark_33 (rfl : 33 + 2 = 35) (by decide) ?_
      refine q_iret rfl dX6_mark_35 ⟨rfl, rfl, _, rfl, ?_⟩
      rw [if_neg h3, if_neg h3]
      exact ⟨rfl, rfl, rfl⟩
    ·
      have h3 : k < 14 := by simpa using h2
      rw [h2]
      refine q_aload_n dX6_mark_23 (rfl : 23 + 1 = 24) rfl ?_
      refine q_getR dX6_mark_24 (rfl : 24 + 3 = 27) fX6_46 (by first | rfl | assumption) (by first | rfl | assumption) ?_
      refine q_getI dX6_mark_27 (rfl : 27 + 3 = 30) fX6_204 (by first | rfl | assumption) ?_
      refine q_goto (q := 35) dX6_mark_30 (by decide) ?_
      refine q_iret rfl dX6_mark_35 ⟨rfl, rfl, _, rfl, ?_⟩
      rw [if_pos h3, if_pos h3]
      exact ⟨by simp [wr], rfl, rfl⟩
  · rw [h] at h1; cases h1
theorem S_noMarks {d : Nat} {I : HI} {J : HJ} : MI mX6_noMarks (d + 1) [.ref 0] shA I J RA (fun x I' J' => x = I 34 1 ∧ I' = wr I 34 1 (nI 0) ∧ J' = J) := by
  refine Mt.of (L := [some (.ref 0)]) (by decide +kernel) (Nat.le_of_ble_eq_true rfl) rfl ?_
  refine q_aload_n dX6_noMarks_0 (rfl : 0 + 1 = 1) rfl ?_
  refine q_getR dX6_noMarks_1 (rfl : 1 + 3 = 4) fX6_46 (by first | rfl | assumption) (by first | rfl | assumption) ?_
  refine q_callVI (S_mclear (d := d)) dX6_noMarks_4 (rfl : 4 + 3 = 7) lX6_92 vX2_clear (by first | rfl | assumption) rfl rfl (Nat.le_of_ble_eq_true rfl) TM_room TM_cs ?_
  intro x I1 J1 hp
  refine q_iret rfl dX6_noMarks_7 ⟨rfl, rfl, _, rfl, ?_⟩
  exact hp
theorem S_far {d nm n : Nat} {I : HI} {J : HJ} (hk : I 34 1 = nI nm) (h14 : nm ≤ 14) (hn : I 16 0 = nI n) (h12 : n ≤ 12) : MI mX6_far (d + 3) [.ref 0] shA I J RA (fun x I' J' => x = chX I nm n 36 nm ∧ Off 36 37 I I' ∧ J' = J) := by
  refine Mt.of (L := [some (.ref 0)]) (by decide +kernel) (Nat.le_of_ble_eq_true rfl) rfl ?_
  refine q_aload_n dX6_far_0 (rfl : 0 + 1 = 1) rfl ?_
  refine q_getR dX6_far_1 (rfl : 1 + 3 = 4) fX6_46 (by first | rfl | assumption) (by first | rfl | assumption) ?_
  refine q_aload_n dX6_far_4 (rfl : 4 + 1 = 5) rfl ?_
  refine q_getR dX6_far_5 (rfl : 5 + 3 = 8) fX6_29 (by first | rfl | assumption) (by first | rfl | assumption) ?_
  refine q_callVI (S_changesTo (d := d) hk h14 hn h12) dX6_far_8 (rfl : 8 + 3 = 11) lX6_205 vX2_changesTo (by first | rfl | assumption) rfl rfl (Nat.le_of_ble_eq_true rfl) TM_room TM_cs ?_
  intro x I1 J1 hp
  obtain ⟨rfl, rfl, rfl⟩ := hp
  refine q_iret rfl dX6_far_11 ⟨rfl, rfl, _, rfl, ?_⟩
  exact ⟨rfl, fun a ha => chX_row (by omega) n, rfl⟩
theorem S_odd {d nm n : Nat} {I : HI} {J : HJ} (hk : I 34 1 = nI nm) (h14 : nm ≤ 14) (hn : I 16 0 = nI n) (h12 : n ≤ 12) : MI mX6_odd (d + 3) [.ref 0] shA I J RA (fun x I' J' => x = (if chX I nm n 36 nm = 0 then -4 else fuL (I 35) (I 17) (I 18) nm n n 0 0) ∧ Off 36 37 I I' ∧ J' = J) := by
  refine Mt.of (L := [some (.ref 0)]) (by decide +kernel) (Nat.le_of_ble_eq_true rfl) rfl ?_
  refine q_aload_n dX6_odd_0 (rfl : 0 + 1 = 1) rfl ?_
  refine q_getR dX6_odd_1 (rfl : 1 + 3 = 4) fX6_46 (by first | rfl | assumption) (by first | rfl | assumption) ?_
  refine q_aload_n dX6_odd_4 (rfl : 4 + 1 = 5) rfl ?_
  refine q_getR dX6_odd_5 (rfl : 5 + 3 = 8) fX6_29 (by first | rfl | assumption) (by first | rfl | assumption) ?_
  refine q_callVI (S_changesTo (d := d) hk h14 hn h12) dX6_odd_8 (rfl : 8 + 3 = 11) lX6_205 vX2_changesTo (by first | rfl | assumption) rfl rfl (Nat.le_of_ble_eq_true rfl) TM_room TM_cs ?_
  intro x I1 J1 hp
  obtain ⟨rfl, rfl, rfl⟩ := hp
  have off : Off 36 37 I (chX I nm n) := fun a ha => chX_row (by omega) n
  refine q_if_ne (q := 19) dX6_odd_11 (by decide) (rfl : 11 + 3 = 14) (fun e => ?_) (fun e => ?_)
  ·
    refine q_aload_n dX6_odd_19 (rfl : 19 + 1 = 20) rfl ?_
    refine q_getR dX6_odd_20 (rfl : 20 + 3 = 23) fX6_46 (by first | rfl | assumption) (by first | rfl | assumption) ?_
    refine q_aload_n dX6_odd_23 (rfl : 23 + 1 = 24) rfl ?_
    refine q_getR dX6_odd_24 (rfl : 24 + 3 = 27) fX6_29 (by first | rfl | assumption) (by first | rfl | assumption) ?_
    have hf := S_firstUnlike (d := d + 2) (I := chX I nm n) (J := J1) (nm := nm) (n := n) (by rw [off 34 (by omega)]; exact hk) h14 (by rw [off 16 (by omega)]; exact hn) h12
    rw [off 35 (by omega), off 17 (by omega), off 18 (by omega)] at hf
    refine q_callVIp hf dX6_odd_27 (rfl : 27 + 3 = 30) lX6_209 vX2_firstUnlike (by first | rfl | assumption) rfl rfl (Nat.le_of_ble_eq_true rfl) TM_room TM_cs ?_
    refine q_iret rfl dX6_odd_30 ⟨rfl, rfl, _, rfl, ?_⟩
    rw [if_neg e]
    exact ⟨rfl, off, rfl⟩
  ·
    refine q_bipush (v := -4) dX6_odd_14 (rfl : 14 + 2 = 16) (by decide) ?_
    refine q_goto (q := 30) dX6_odd_16 (by decide) ?_
    refine q_iret rfl dX6_odd_30 ⟨rfl, rfl, _, rfl, ?_⟩
    rw [if_pos e]
    exact ⟨rfl, off, rfl⟩
