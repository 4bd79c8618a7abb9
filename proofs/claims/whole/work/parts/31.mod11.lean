/-! the reference: winters, kept barns, counts -/
def mwint (I : HI) (nf v : Nat) (z : Int32) : Nat := ftc (fun i => I 48 (4 * i + 1)) (fun i => I 48 (4 * i + 2)) (moreI v z) (fitsB I) nf 0 (nI 0) (nI 0)
theorem L_comes {d n0 nf v : Nat} {Po : PO} {I : HI} {J : HJ} {z : Int32} (hf : I 47 0 = nI nf) (h12 : nf ≤ 12) (hv : I 46 4 = nI v) (h9 : v ≤ 9) :
    ∀ (k i : Nat) (hi lo : Int32), i + k = nf → Po shA (some (.int (nI (ftc (fun i => I 48 (4 * i + 1)) (fun i => I 48 (4 * i + 2)) (moreI v z) (fitsB I) k i hi lo)))) I J RA → Wm mX7_comes (TM (d + 1) 0 0 false n0 Po) 0 0 shA 7 [some (.ref 44), some (.int z), some (.int hi), some (.int lo), some (.int (nI i)), none, none, none] [] I J RA := by
  have hz : ¬ (nI (v + 1)).toInt64 = 0 := nI_l_ne (by omega) (by omega)
  intro k
  induction k with
  | zero =>
    intro i hi lo hk hPo
    obtain rfl : i = nf := by omega
    refine q_iload dX7_comes_7 (rfl : 7 + 2 = 9) rfl ?_
    refine q_aload_n dX7_comes_9 (rfl : 9 + 1 = 10) rfl ?_
    refine q_getR dX7_comes_10 (rfl : 10 + 3 = 13) fX7_17 (by first | rfl | assumption) (by first | rfl | assumption) ?_
    refine q_iconst (v := nI 0) dX7_comes_13 (rfl : 13 + 1 = 14) (by decide) ?_
    refine q_iald (j := 0) dX7_comes_14 (rfl : 14 + 1 = 15) (by first | rfl | assumption) (by decide) (by decide) ?_
    try simp (disch := omega) only [wr_hit, wr_p, wr_k, nI_add, pk_mul, nI_1, nI_s1, pk_sub, Nat.add_sub_cancel, hf]
    refine q_icmp_ge_n (q := 108) (by omega) (by omega) dX7_comes_15 (by decide) (rfl : 15 + 3 = 18) (fun h => ?_) (fun h => ?_)
    ·
      refine q_aload_n dX7_comes_108 (rfl : 108 + 1 = 109) rfl ?_
      refine q_getR dX7_comes_109 (rfl : 109 + 3 = 112) fX7_17 (by first | rfl | assumption) (by first | rfl | assumption) ?_
      refine q_iconst (v := nI 0) dX7_comes_112 (rfl : 112 + 1 = 113) (by decide) ?_
      refine q_iald (j := 0) dX7_comes_113 (rfl : 113 + 1 = 114) (by first | rfl | assumption) (by decide) (by decide) ?_
      try simp (disch := omega) only [wr_hit, wr_p, wr_k, nI_add, pk_mul, nI_1, nI_s1, pk_sub, Nat.add_sub_cancel, hf]
      exact q_iret rfl dX7_comes_114 hPo
    · omega
  | succ k ih =>
    intro i hi lo hk hPo
    refine q_iload dX7_comes_7 (rfl : 7 + 2 = 9) rfl ?_
    refine q_aload_n dX7_comes_9 (rfl : 9 + 1 = 10) rfl ?_
    refine q_getR dX7_comes_10 (rfl : 10 + 3 = 13) fX7_17 (by first | rfl | assumption) (by first | rfl | assumption) ?_
    refine q_iconst (v := nI 0) dX7_comes_13 (rfl : 13 + 1 = 14) (by decide) ?_
    refine q_iald (j := 0) dX7_comes_14 (rfl : 14 + 1 = 15) (by first | rfl | assumption) (by decide) (by decide) ?_
    try simp (disch := omega) only [wr_hit, wr_p, wr_k, nI_add, pk_mul, nI_1, nI_s1, pk_sub, Nat.add_sub_cancel, hf]
    refine q_icmp_ge_n (q := 108) (by omega) (by omega) dX7_comes_15 (by decide) (rfl : 15 + 3 = 18) (fun h => ?_) (fun h => ?_)
    · omega
    ·
      refine q_ldc2 dX7_comes_18 (rfl : 18 + 3 = 21) kX7_209 ?_
      refine q_iload_n dX7_comes_21 (rfl : 21 + 1 = 22) rfl ?_
      refine q_i2l dX7_comes_22 (rfl : 22 + 1 = 23) ?_
      refine q_lmul dX7_comes_23 (rfl : 23 + 1 = 24) ?_
      refine q_ldc2 dX7_comes_24 (rfl : 24 + 3 = 27) kX7_211 ?_
      refine q_iload dX7_comes_27 (rfl : 27 + 2 = 29) rfl ?_
      refine q_i2l dX7_comes_29 (rfl : 29 + 1 = 30) ?_
      refine q_lmul dX7_comes_30 (rfl : 30 + 1 = 31) ?_
      refine q_ladd dX7_comes_31 (rfl : 31 + 1 = 32) ?_
      refine q_lconst (v := 1) dX7_comes_32 (rfl : 32 + 1 = 33) (by decide) ?_
      refine q_ladd dX7_comes_33 (rfl : 33 + 1 = 34) ?_
      refine q_lstore dX7_comes_34 (rfl : 34 + 2 = 36) (by decide) ?_
      refine q_aload_n dX7_comes_36 (rfl : 36 + 1 = 37) rfl ?_
      refine q_iload dX7_comes_37 (rfl : 37 + 2 = 39) rfl ?_
      refine q_iconst (v := nI 1) dX7_comes_39 (rfl : 39 + 1 = 40) (by decide) ?_
      refine q_callVIp (S_of (d := d) (i := i) (w := 1) (by omega)) dX7_comes_40 (rfl : 40 + 3 = 43) lX7_123 vX7_of (by first | rfl | assumption) rfl rfl (Nat.le_of_ble_eq_true rfl) TM_room TM_cs ?_
      refine q_lload dX7_comes_43 (rfl : 43 + 2 = 45) rfl ?_
      refine q_lload dX7_comes_45 (rfl : 45 + 2 = 47) rfl ?_
      refine q_lmul dX7_comes_47 (rfl : 47 + 1 = 48) ?_
      refine q_ldc2 dX7_comes_48 (rfl : 48 + 3 = 51) kX7_213 ?_
      refine q_lrem dX7_comes_51 (rfl : 51 + 1 = 52) (by first | assumption | decide) ?_
      refine q_aload_n dX7_comes_52 (rfl : 52 + 1 = 53) rfl ?_
      refine q_getR dX7_comes_53 (rfl : 53 + 3 = 56) fX7_13 (by first | rfl | assumption) (by first | rfl | assumption) ?_
      refine q_iconst (v := nI 4) dX7_comes_56 (rfl : 56 + 1 = 57) (by decide) ?_
      refine q_iald (j := 4) dX7_comes_57 (rfl : 57 + 1 = 58) (by first | rfl | assumption) (by decide) (by decide) ?_
      refine q_iconst (v := nI 1) dX7_comes_58 (rfl : 58 + 1 = 59) (by decide) ?_
      refine q_iadd dX7_comes_59 (rfl : 59 + 1 = 60) ?_
      rw [hv, nI_add]
      refine q_i2l dX7_comes_60 (rfl : 60 + 1 = 61) ?_
      refine q_lrem dX7_comes_61 (rfl : 61 + 1 = 62) (by first | assumption | decide) ?_
      refine q_l2i dX7_comes_62 (rfl : 62 + 1 = 63) ?_
      refine q_iadd dX7_comes_63 (rfl : 63 + 1 = 64) ?_
      refine q_istore dX7_comes_64 (rfl : 64 + 2 = 66) (by decide) ?_
      refine q_iload_n dX7_comes_66 (rfl : 66 + 1 = 67) rfl ?_
      refine q_bipush (v := nI 10) dX7_comes_67 (rfl : 67 + 2 = 69) (by decide) ?_
      refine q_iload dX7_comes_69 (rfl : 69 + 2 = 71) rfl ?_
      refine q_imul dX7_comes_71 (rfl : 71 + 1 = 72) ?_
      refine q_iadd dX7_comes_72 (rfl : 72 + 1 = 73) ?_
      refine q_istore_n dX7_comes_73 (rfl : 73 + 1 = 74) (by decide) ?_
      refine q_iload_n dX7_comes_74 (rfl : 74 + 1 = 75) rfl ?_
      refine q_bipush (v := nI 10) dX7_comes_75 (rfl : 75 + 2 = 77) (by decide) ?_
      refine q_iload dX7_comes_77 (rfl : 77 + 2 = 79) rfl ?_
      refine q_imul dX7_comes_79 (rfl : 79 + 1 = 80) ?_
      refine q_aload_n dX7_comes_80 (rfl : 80 + 1 = 81) rfl ?_
      refine q_iload dX7_comes_81 (rfl : 81 + 2 = 83) rfl ?_
      refine q_iconst (v := nI 2) dX7_comes_83 (rfl : 83 + 1 = 84) (by decide) ?_
      refine q_callVIp (S_of (d := d) (i := i) (w := 2) (by omega)) dX7_comes_84 (rfl : 84 + 3 = 87) lX7_123 vX7_of (by first | rfl | assumption) rfl rfl (Nat.le_of_ble_eq_true rfl) TM_room TM_cs ?_
      refine q_imul dX7_comes_87 (rfl : 87 + 1 = 88) ?_
      refine q_iadd dX7_comes_88 (rfl : 88 + 1 = 89) ?_
      refine q_istore_n dX7_comes_89 (rfl : 89 + 1 = 90) (by decide) ?_
      refine q_aload_n dX7_comes_90 (rfl : 90 + 1 = 91) rfl ?_
      refine q_iload_n dX7_comes_91 (rfl : 91 + 1 = 92) rfl ?_
      refine q_iload_n dX7_comes_92 (rfl : 92 + 1 = 93) rfl ?_
      refine q_callVIp (S_fits (d := d)) dX7_comes_93 (rfl : 93 + 3 = 96) lX7_140 vX7_fits (by first | rfl | assumption) rfl rfl (Nat.le_of_ble_eq_true rfl) TM_room TM_cs ?_
      refine q_if_ne_b (q := 102) dX7_comes_96 (by decide) (rfl : 96 + 3 = 99) (fun hb => ?_) (fun hb => ?_)
      ·
        have e : ftc (fun i => I 48 (4 * i + 1)) (fun i => I 48 (4 * i + 2)) (moreI v z) (fitsB I) (k + 1) i hi lo = ftc (fun i => I 48 (4 * i + 1)) (fun i => I 48 (4 * i + 2)) (moreI v z) (fitsB I) k (i + 1) (hi + nI 10 * (I 48 (4 * i + 1) + moreI v z i)) (lo + nI 10 * (I 48 (4 * i + 1) + moreI v z i) * I 48 (4 * i + 2)) := if_pos hb
        rw [e] at hPo
        first | refine q_iinc1 dX7_comes_102 (rfl : 102 + 3 = 105) rfl (by decide) ?_ | refine q_iinc dX7_comes_102 (rfl : 102 + 3 = 105) rfl rfl (by decide) ?_
        refine q_goto (q := 7) dX7_comes_105 (by decide) ?_
        refine q_forget (L' := [some (.ref 44), some (.int z), some (.int (hi + nI 10 * (I 48 (4 * i + 1) + moreI v z i))), some (.int (lo + nI 10 * (I 48 (4 * i + 1) + moreI v z i) * I 48 (4 * i + 2))), some (.int (nI (i + 1))), none, none, none]) (by repeat (first | exact trivial | refine And.intro rfl ?_)) ?_
        exact ih (i + 1) _ _ (by omega) hPo
      ·
        have e : ftc (fun i => I 48 (4 * i + 1)) (fun i => I 48 (4 * i + 2)) (moreI v z) (fitsB I) (k + 1) i hi lo = i := if_neg (by
          show ¬ fitsB I (hi + nI 10 * (I 48 (4 * i + 1) + moreI v z i)) (lo + nI 10 * (I 48 (4 * i + 1) + moreI v z i) * I 48 (4 * i + 2)) = true
          intro q
          exact absurd (hb.symm.trans q) (by decide))
        rw [e] at hPo
        refine q_iload dX7_comes_99 (rfl : 99 + 2 = 101) rfl ?_
        exact q_iret rfl dX7_comes_101 hPo
theorem S_comes {d nf v : Nat} {I : HI} {J : HJ} {z : Int32} (hf : I 47 0 = nI nf) (h12 : nf ≤ 12) (hv : I 46 4 = nI v) (h9 : v ≤ 9) : MIp mX7_comes (d + 1) [.ref 44, .int z] shA I J RA (nI (mwint I nf v z)) := by
  refine Mt.of (L := [some (.ref 44), some (.int z), none, none, none, none, none, none]) (by decide +kernel) (Nat.le_of_ble_eq_true rfl) rfl ?_
  refine q_iconst (v := nI 0) dX7_comes_0 (rfl : 0 + 1 = 1) (by decide) ?_
  refine q_istore_n dX7_comes_1 (rfl : 1 + 1 = 2) (by decide) ?_
  refine q_iconst (v := nI 0) dX7_comes_2 (rfl : 2 + 1 = 3) (by decide) ?_
  refine q_istore_n dX7_comes_3 (rfl : 3 + 1 = 4) (by decide) ?_
  refine q_iconst (v := nI 0) dX7_comes_4 (rfl : 4 + 1 = 5) (by decide) ?_
  refine q_istore dX7_comes_5 (rfl : 5 + 2 = 7) (by decide) ?_
  exact L_comes hf h12 hv h9 nf 0 _ _ (by omega) ⟨rfl, rfl, _, rfl, rfl, rfl, rfl⟩
theorem S_mwinter_bad {d : Nat} {I : HI} {J : HJ} {z : Int32} (h : inr z (nI 0) (nI 9999) = false) : MIp mX7_winter (d + 2) [.ref 44, .int z] shA I J RA (-1) := by
  refine Mt.of (L := [some (.ref 44), some (.int z)]) (by decide +kernel) (Nat.le_of_ble_eq_true rfl) rfl ?_
  refine q_iload_n dX7_winter_0 (rfl : 0 + 1 = 1) rfl ?_
  refine q_callSIp (S_isSeed (d := d)) dX7_winter_1 (rfl : 1 + 3 = 4) lX7_217 vX7_isSeed rfl rfl (Nat.le_of_ble_eq_true rfl) TM_room TM_cs ?_
  refine q_if_eq_b (q := 15) dX7_winter_4 (by decide) (rfl : 4 + 3 = 7) (fun h1 => ?_) (fun h1 => ?_)
  ·
    refine q_iconst (v := -1) dX7_winter_15 (rfl : 15 + 1 = 16) (by decide) ?_
    refine q_iret rfl dX7_winter_16 ⟨rfl, rfl, _, rfl, ?_⟩
    exact ⟨rfl, rfl, rfl⟩
  ·
    rw [h] at h1
    cases h1
theorem S_mwinter {d nf v : Nat} {I : HI} {J : HJ} {z : Int32} (h : inr z (nI 0) (nI 9999) = true) (hf : I 47 0 = nI nf) (h12 : nf ≤ 12) (hv : I 46 4 = nI v) (h9 : v ≤ 9) : MIp mX7_winter (d + 2) [.ref 44, .int z] shA I J RA (nI (mwint I nf v z)) := by
  refine Mt.of (L := [some (.ref 44), some (.int z)]) (by decide +kernel) (Nat.le_of_ble_eq_true rfl) rfl ?_
  refine q_iload_n dX7_winter_0 (rfl : 0 + 1 = 1) rfl ?_
  refine q_callSIp (S_isSeed (d := d)) dX7_winter_1 (rfl : 1 + 3 = 4) lX7_217 vX7_isSeed rfl rfl (Nat.le_of_ble_eq_true rfl) TM_room TM_cs ?_
  refine q_if_eq_b (q := 15) dX7_winter_4 (by decide) (rfl : 4 + 3 = 7) (fun h1 => ?_) (fun h1 => ?_)
  · rw [h] at h1
    cases h1
  ·
    refine q_aload_n dX7_winter_7 (rfl : 7 + 1 = 8) rfl ?_
    refine q_iload_n dX7_winter_8 (rfl : 8 + 1 = 9) rfl ?_
    refine q_callVIp (S_comes (d := d) hf h12 hv h9) dX7_winter_9 (rfl : 9 + 3 = 12) lX7_220 vX7_comes (by first | rfl | assumption) rfl rfl (Nat.le_of_ble_eq_true rfl) TM_room TM_cs ?_
    refine q_goto (q := 16) dX7_winter_12 (by decide) ?_
    refine q_iret rfl dX7_winter_16 ⟨rfl, rfl, _, rfl, ?_⟩
    exact ⟨rfl, rfl, rfl⟩
theorem S_mten_bad {d : Nat} {I : HI} {J : HJ} {z : Int32} (h : inr z (nI 0) (nI 9999) = false) : MIp mX7_ten (d + 2) [.ref 44, .int z] shA I J RA (-1) := by
  refine Mt.of (L := [some (.ref 44), some (.int z), none, none]) (by decide +kernel) (Nat.le_of_ble_eq_true rfl) rfl ?_
  refine q_iload_n dX7_ten_0 (rfl : 0 + 1 = 1) rfl ?_
  refine q_callSIp (S_isSeed (d := d)) dX7_ten_1 (rfl : 1 + 3 = 4) lX7_217 vX7_isSeed rfl rfl (Nat.le_of_ble_eq_true rfl) TM_room TM_cs ?_
  refine q_if_ne_b (q := 9) dX7_ten_4 (by decide) (rfl : 4 + 3 = 7) (fun h1 => ?_) (fun h1 => ?_)
  · rw [h] at h1
    cases h1
  ·
    refine q_iconst (v := -1) dX7_ten_7 (rfl : 7 + 1 = 8) (by decide) ?_
    refine q_iret rfl dX7_ten_8 ⟨rfl, rfl, _, rfl, ?_⟩
    exact ⟨rfl, rfl, rfl⟩
theorem ftc_le2 {inch heavy more : Nat → Int32} {be : Int32 → Int32 → Bool} {k i nf : Nat} {hi lo : Int32} (h : i + k = nf) : ftc inch heavy more be k i hi lo ≤ nf := by
  have := ftc_le (inch := inch) (heavy := heavy) (more := more) (be := be) k i hi lo
  omega
theorem S_mten {d nf v j : Nat} {I : HI} {J : HJ} (hj : j ≤ 9999) (hf : I 47 0 = nI nf) (h12 : nf ≤ 12) (hv : I 46 4 = nI v) (h9 : v ≤ 9) : MIp mX7_ten (d + 2) [.ref 44, .int (nI j)] shA I J RA (nI (tenN (fun q => mwint I nf v (nI q)) nf j 10)) := by
  have loop : ∀ (k : Nat), k ≤ 10 → Wm mX7_ten (TM (d + 2) 0 0 false shA.length (fun sh' w I' J' R' => sh' = shA ∧ R' = RA ∧ ∃ x : Int32, w = some (.int x) ∧ (x = nI (tenN (fun q => mwint I nf v (nI q)) nf j 10) ∧ I' = I ∧ J' = J))) 0 0 shA 13 [some (.ref 44), some (.int (nI j)), some (.int (nI (tenN (fun q => mwint I nf v (nI q)) nf j k))), some (.int (nI k))] [] I J RA := by
    refine loopN (fun k hk ih => ?_)
    refine q_iload_n dX7_ten_13 (rfl : 13 + 1 = 14) rfl ?_
    refine q_bipush (v := nI 10) dX7_ten_14 (rfl : 14 + 2 = 16) (by decide) ?_
    refine q_icmp_ge_n (q := 53) (by omega) (by omega) dX7_ten_16 (by decide) (rfl : 16 + 3 = 19) (fun h => ?_) (fun h => ?_)
    ·
      obtain rfl : k = 10 := by omega
      refine q_iload_n dX7_ten_53 (rfl : 53 + 1 = 54) rfl ?_
      refine q_iret rfl dX7_ten_54 ⟨rfl, rfl, _, rfl, ?_⟩
      exact ⟨rfl, rfl, rfl⟩
    ·
      have hw : mwint I nf v (nI ((j + k) % 10000)) ≤ nf := ftc_le2 (Nat.zero_add nf)
      have key := ih h
      have un : tenN (fun q => mwint I nf v (nI q)) nf j (k + 1) = tenN (fun q => mwint I nf v (nI q)) nf j k + (if mwint I nf v (nI ((j + k) % 10000)) = nf then 1 else 0) := rfl
      rw [un] at key
      refine q_iload_n dX7_ten_19 (rfl : 19 + 1 = 20) rfl ?_
      refine q_aload_n dX7_ten_20 (rfl : 20 + 1 = 21) rfl ?_
      refine q_iload_n dX7_ten_21 (rfl : 21 + 1 = 22) rfl ?_
      refine q_iload_n dX7_ten_22 (rfl : 22 + 1 = 23) rfl ?_
      refine q_iadd dX7_ten_23 (rfl : 23 + 1 = 24) ?_
      refine q_sipush (v := nI 10000) dX7_ten_24 (rfl : 24 + 3 = 27) (by decide) ?_
      refine q_irem dX7_ten_27 (rfl : 27 + 1 = 28) (by first | assumption | decide) ?_
      rw [nI_add, pk_rem (by omega) (by decide) (by decide)]
      refine q_callVIp (S_comes (d := d) hf h12 hv h9) dX7_ten_28 (rfl : 28 + 3 = 31) lX7_220 vX7_comes (by first | rfl | assumption) rfl rfl (Nat.le_of_ble_eq_true rfl) TM_room TM_cs ?_
      refine q_aload_n dX7_ten_31 (rfl : 31 + 1 = 32) rfl ?_
      refine q_getR dX7_ten_32 (rfl : 32 + 3 = 35) fX7_17 (by first | rfl | assumption) (by first | rfl | assumption) ?_
      refine q_iconst (v := nI 0) dX7_ten_35 (rfl : 35 + 1 = 36) (by decide) ?_
      refine q_iald (j := 0) dX7_ten_36 (rfl : 36 + 1 = 37) (by first | rfl | assumption) (by decide) (by decide) ?_
      rw [hf]
      refine q_icmp_ne_n (q := 44) (by omega) (by omega) dX7_ten_37 (by decide) (rfl : 37 + 3 = 40) (fun q => ?_) (fun q => ?_)
      ·
        rw [if_neg q] at key
        refine q_iconst (v := nI 0) dX7_ten_44 (rfl : 44 + 1 = 45) (by decide) ?_
        refine q_iadd dX7_ten_45 (rfl : 45 + 1 = 46) ?_
        refine q_istore_n dX7_ten_46 (rfl : 46 + 1 = 47) (by decide) ?_
        first | refine q_iinc1 dX7_ten_47 (rfl : 47 + 3 = 50) rfl (by decide) ?_ | refine q_iinc dX7_ten_47 (rfl : 47 + 3 = 50) rfl rfl (by decide) ?_
        refine q_goto (q := 13) dX7_ten_50 (by decide) ?_
        rw [nI_add]
        exact key
      ·
        rw [if_pos q] at key
        refine q_iconst (v := nI 1) dX7_ten_40 (rfl : 40 + 1 = 41) (by decide) ?_
        refine q_goto (q := 45) dX7_ten_41 (by decide) ?_
        refine q_iadd dX7_ten_45 (rfl : 45 + 1 = 46) ?_
        refine q_istore_n dX7_ten_46 (rfl : 46 + 1 = 47) (by decide) ?_
        first | refine q_iinc1 dX7_ten_47 (rfl : 47 + 3 = 50) rfl (by decide) ?_ | refine q_iinc dX7_ten_47 (rfl : 47 + 3 = 50) rfl rfl (by decide) ?_
        refine q_goto (q := 13) dX7_ten_50 (by decide) ?_
        rw [nI_add]
        exact key
  refine Mt.of (L := [some (.ref 44), some (.int (nI j)), none, none]) (by decide +kernel) (Nat.le_of_ble_eq_true rfl) rfl ?_
  refine q_iload_n dX7_ten_0 (rfl : 0 + 1 = 1) rfl ?_
  refine q_callSIp (S_isSeed (d := d)) dX7_ten_1 (rfl : 1 + 3 = 4) lX7_217 vX7_isSeed rfl rfl (Nat.le_of_ble_eq_true rfl) TM_room TM_cs ?_
  refine q_if_ne_b (q := 9) dX7_ten_4 (by decide) (rfl : 4 + 3 = 7) (fun h1 => ?_) (fun h1 => ?_)
  ·
    refine q_iconst (v := nI 0) dX7_ten_9 (rfl : 9 + 1 = 10) (by decide) ?_
    refine q_istore_n dX7_ten_10 (rfl : 10 + 1 = 11) (by decide) ?_
    refine q_iconst (v := nI 0) dX7_ten_11 (rfl : 11 + 1 = 12) (by decide) ?_
    refine q_istore_n dX7_ten_12 (rfl : 12 + 1 = 13) (by decide) ?_
    exact loop 0 (by omega)
  ·
    rw [inr_of (Nat.zero_le j) hj (by decide)] at h1
    cases h1
def mcpH (I : HI) (a b k : Nat) : HI := fun p q => if p = 55 ∧ 24 * b ≤ q ∧ q < 24 * b + k then I 55 (24 * a + (q - 24 * b)) else if (p = 51 ∨ p = 52) ∧ 12 * b ≤ q ∧ q < 12 * b + k ∧ q < 12 * b + 12 then I p (12 * a + (q - 12 * b)) else I p q
theorem mcpH_0 (I : HI) (a b : Nat) : mcpH I a b 0 = I := by
  funext p q
  unfold mcpH
  rw [if_neg (by omega), if_neg (by omega)]
theorem mcpH_s1 {I : HI} {a b k : Nat} (h : 12 ≤ k) : wr (mcpH I a b k) 55 (24 * b + k) (I 55 (24 * a + k)) = mcpH I a b (k + 1) := by
  funext p q
  unfold mcpH wr
  have e2 : (12 * b ≤ q ∧ q < 12 * b + (k + 1) ∧ q < 12 * b + 12) ↔ (12 * b ≤ q ∧ q < 12 * b + k ∧ q < 12 * b + 12) := by omega
  by_cases hp : p = 55
  · subst hp
    by_cases hq : q = 24 * b + k
    · subst hq
      simp
    · have e : (24 * b ≤ q ∧ q < 24 * b + (k + 1)) ↔ (24 * b ≤ q ∧ q < 24 * b + k) := by omega
      simp only [hq, e, if_true, if_false, true_and]
      simp
  · simp only [hp, if_false, false_and, e2]
theorem mcpH_s2 {I : HI} {a b k : Nat} (h : k < 12) : wr (wr (wr (mcpH I a b k) 55 (24 * b + k) (I 55 (24 * a + k))) 51 (12 * b + k) (I 51 (12 * a + k))) 52 (12 * b + k) (I 52 (12 * a + k)) = mcpH I a b (k + 1) := by
  funext p q
  unfold mcpH wr
  by_cases hp : p = 55
  · subst hp
    by_cases hq : q = 24 * b + k
    · subst hq
      simp
    · have e : (24 * b ≤ q ∧ q < 24 * b + (k + 1)) ↔ (24 * b ≤ q ∧ q < 24 * b + k) := by omega
      simp only [hq, e, if_true, if_false, true_and]
      simp
  · by_cases hq : q = 12 * b + k
    · subst hq
      by_cases h1 : p = 51
      · subst h1
        simp [h]
      · by_cases h2 : p = 52
        · subst h2
          simp [h]
        · simp [hp, h1, h2]
    · have e : (12 * b ≤ q ∧ q < 12 * b + (k + 1) ∧ q < 12 * b + 12) ↔ (12 * b ≤ q ∧ q < 12 * b + k ∧ q < 12 * b + 12) := by omega
      simp only [hp, hq, if_false, false_and, e]
      simp
theorem mcpH_a {I : HI} {a b k : Nat} (hab : a ≠ b) (h : k < 24) : mcpH I a b k 55 (24 * a + k) = I 55 (24 * a + k) := by
  unfold mcpH
  rw [if_neg (by omega), if_neg (by omega)]
theorem mcpH_b {I : HI} {a b k : Nat} (hab : a ≠ b) (h : k < 12) : mcpH I a b k 51 (12 * a + k) = I 51 (12 * a + k) := by
  unfold mcpH
  rw [if_neg (by omega), if_neg (by omega)]
theorem mcpH_c {I : HI} {a b k : Nat} (hab : a ≠ b) (h : k < 12) : mcpH I a b k 52 (12 * a + k) = I 52 (12 * a + k) := by
  unfold mcpH
  rw [if_neg (by omega), if_neg (by omega)]
theorem L_copies {T : Tg} {I : HI} {J : HJ} {a b : Nat} (ha : a ≤ 2) (hb : b ≤ 2) (hab : a ≠ b) (K : Wm mX7_copies T 0 0 shA 122 [some (.ref 44), some (.int (nI a)), some (.int (nI b)), some (.int (nI 24))] [] (mcpH I a b 24) J RA) :
    ∀ (k : Nat), k ≤ 24 → Wm mX7_copies T 0 0 shA 38 [some (.ref 44), some (.int (nI a)), some (.int (nI b)), some (.int (nI k))] [] (mcpH I a b k) J RA := by
  refine loopN (fun k hk ih => ?_)
  refine q_iload_n dX7_copies_38 (rfl : 38 + 1 = 39) rfl ?_
  refine q_bipush (v := nI 24) dX7_copies_39 (rfl : 39 + 2 = 41) (by decide) ?_
  refine q_icmp_ge_n (q := 122) (by omega) (by omega) dX7_copies_41 (by decide) (rfl : 41 + 3 = 44) (fun h => ?_) (fun h => ?_)
  ·
    obtain rfl : k = 24 := by omega
    exact K
  ·
    have i1 : 24 * a + k < 72 := by omega
    have i2 : 24 * b + k < 72 := by omega
    refine q_aload_n dX7_copies_44 (rfl : 44 + 1 = 45) rfl ?_
    refine q_getR dX7_copies_45 (rfl : 45 + 3 = 48) fX7_42 (by first | rfl | assumption) (by first | rfl | assumption) ?_
    refine q_bipush (v := nI 24) dX7_copies_48 (rfl : 48 + 2 = 50) (by decide) ?_
    refine q_iload_n dX7_copies_50 (rfl : 50 + 1 = 51) rfl ?_
    refine q_imul dX7_copies_51 (rfl : 51 + 1 = 52) ?_
    try simp (disch := omega) only [wr_hit, wr_p, wr_k, nI_add, pk_mul, nI_1, nI_s1, pk_sub, Nat.add_sub_cancel]
    refine q_iload_n dX7_copies_52 (rfl : 52 + 1 = 53) rfl ?_
    refine q_iadd dX7_copies_53 (rfl : 53 + 1 = 54) ?_
    try simp (disch := omega) only [wr_hit, wr_p, wr_k, nI_add, pk_mul, nI_1, nI_s1, pk_sub, Nat.add_sub_cancel]
    refine q_aload_n dX7_copies_54 (rfl : 54 + 1 = 55) rfl ?_
    refine q_getR dX7_copies_55 (rfl : 55 + 3 = 58) fX7_42 (by first | rfl | assumption) (by first | rfl | assumption) ?_
    refine q_bipush (v := nI 24) dX7_copies_58 (rfl : 58 + 2 = 60) (by decide) ?_
    refine q_iload_n dX7_copies_60 (rfl : 60 + 1 = 61) rfl ?_
    refine q_imul dX7_copies_61 (rfl : 61 + 1 = 62) ?_
    try simp (disch := omega) only [wr_hit, wr_p, wr_k, nI_add, pk_mul, nI_1, nI_s1, pk_sub, Nat.add_sub_cancel]
    refine q_iload_n dX7_copies_62 (rfl : 62 + 1 = 63) rfl ?_
    refine q_iadd dX7_copies_63 (rfl : 63 + 1 = 64) ?_
    try simp (disch := omega) only [wr_hit, wr_p, wr_k, nI_add, pk_mul, nI_1, nI_s1, pk_sub, Nat.add_sub_cancel]
    refine q_iald dX7_copies_64 (rfl : 64 + 1 = 65) (by first | rfl | assumption) (by first | assumption | omega) (by decide) ?_
    try simp (disch := omega) only [wr_hit, wr_p, wr_k, nI_add, pk_mul, nI_1, nI_s1, pk_sub, Nat.add_sub_cancel]
    refine q_iast dX7_copies_65 (rfl : 65 + 1 = 66) (by first | rfl | assumption) (by first | assumption | omega) (by decide) ?_
    refine q_iload_n dX7_copies_66 (rfl : 66 + 1 = 67) rfl ?_
    refine q_bipush (v := nI 12) dX7_copies_67 (rfl : 67 + 2 = 69) (by decide) ?_
    rw [mcpH_a hab h]
    refine q_icmp_ge_n (q := 116) (by omega) (by omega) dX7_copies_69 (by decide) (rfl : 69 + 3 = 72) (fun h2 => ?_) (fun h2 => ?_)
    ·
      first | refine q_iinc1 dX7_copies_116 (rfl : 116 + 3 = 119) rfl (by decide) ?_ | refine q_iinc dX7_copies_116 (rfl : 116 + 3 = 119) rfl rfl (by decide) ?_
      refine q_goto (q := 38) dX7_copies_119 (by decide) ?_
      rw [mcpH_s1 h2]
      exact ih h
    ·
      have i3 : 12 * a + k < 36 := by omega
      have i4 : 12 * b + k < 36 := by omega
      have e1 : wr (mcpH I a b k) 55 (24 * b + k) (I 55 (24 * a + k)) 51 (12 * a + k) = I 51 (12 * a + k) := by rw [wr_ne (by omega), mcpH_b hab h2]
      have e2 : wr (wr (mcpH I a b k) 55 (24 * b + k) (I 55 (24 * a + k))) 51 (12 * b + k) (I 51 (12 * a + k)) 52 (12 * a + k) = I 52 (12 * a + k) := by rw [wr_ne (by omega), wr_ne (by omega), mcpH_c hab h2]
      refine q_aload_n dX7_copies_72 (rfl : 72 + 1 = 73) rfl ?_
      refine q_getR dX7_copies_73 (rfl : 73 + 3 = 76) fX7_29 (by first | rfl | assumption) (by first | rfl | assumption) ?_
      refine q_bipush (v := nI 12) dX7_copies_76 (rfl : 76 + 2 = 78) (by decide) ?_
      refine q_iload_n dX7_copies_78 (rfl : 78 + 1 = 79) rfl ?_
      refine q_imul dX7_copies_79 (rfl : 79 + 1 = 80) ?_
      try simp (disch := omega) only [wr_hit, wr_p, wr_k, nI_add, pk_mul, nI_1, nI_s1, pk_sub, Nat.add_sub_cancel, e1, e2]
      refine q_iload_n dX7_copies_80 (rfl : 80 + 1 = 81) rfl ?_
      refine q_iadd dX7_copies_81 (rfl : 81 + 1 = 82) ?_
      try simp (disch := omega) only [wr_hit, wr_p, wr_k, nI_add, pk_mul, nI_1, nI_s1, pk_sub, Nat.add_sub_cancel, e1, e2]
      refine q_aload_n dX7_copies_82 (rfl : 82 + 1 = 83) rfl ?_
      refine q_getR dX7_copies_83 (rfl : 83 + 3 = 86) fX7_29 (by first | rfl | assumption) (by first | rfl | assumption) ?_
      refine q_bipush (v := nI 12) dX7_copies_86 (rfl : 86 + 2 = 88) (by decide) ?_
      refine q_iload_n dX7_copies_88 (rfl : 88 + 1 = 89) rfl ?_
      refine q_imul dX7_copies_89 (rfl : 89 + 1 = 90) ?_
      try simp (disch := omega) only [wr_hit, wr_p, wr_k, nI_add, pk_mul, nI_1, nI_s1, pk_sub, Nat.add_sub_cancel, e1, e2]
      refine q_iload_n dX7_copies_90 (rfl : 90 + 1 = 91) rfl ?_
      refine q_iadd dX7_copies_91 (rfl : 91 + 1 = 92) ?_
      try simp (disch := omega) only [wr_hit, wr_p, wr_k, nI_add, pk_mul, nI_1, nI_s1, pk_sub, Nat.add_sub_cancel, e1, e2]
      refine q_iald dX7_copies_92 (rfl : 92 + 1 = 93) (by first | rfl | assumption) (by first | assumption | omega) (by decide) ?_
      try simp (disch := omega) only [wr_hit, wr_p, wr_k, nI_add, pk_mul, nI_1, nI_s1, pk_sub, Nat.add_sub_cancel, e1, e2]
      refine q_iast dX7_copies_93 (rfl : 93 + 1 = 94) (by first | rfl | assumption) (by first | assumption | omega) (by decide) ?_
      refine q_aload_n dX7_copies_94 (rfl : 94 + 1 = 95) rfl ?_
      refine q_getR dX7_copies_95 (rfl : 95 + 3 = 98) fX7_32 (by first | rfl | assumption) (by first | rfl | assumption) ?_
      refine q_bipush (v := nI 12) dX7_copies_98 (rfl : 98 + 2 = 100) (by decide) ?_
      refine q_iload_n dX7_copies_100 (rfl : 100 + 1 = 101) rfl ?_
      refine q_imul dX7_copies_101 (rfl : 101 + 1 = 102) ?_
      try simp (disch := omega) only [wr_hit, wr_p, wr_k, nI_add, pk_mul, nI_1, nI_s1, pk_sub, Nat.add_sub_cancel, e1, e2]
      refine q_iload_n dX7_copies_102 (rfl : 102 + 1 = 103) rfl ?_
      refine q_iadd dX7_copies_103 (rfl : 103 + 1 = 104) ?_
      try simp (disch := omega) only [wr_hit, wr_p, wr_k, nI_add, pk_mul, nI_1, nI_s1, pk_sub, Nat.add_sub_cancel, e1, e2]
      refine q_aload_n dX7_copies_104 (rfl : 104 + 1 = 105) rfl ?_
      refine q_getR dX7_copies_105 (rfl : 105 + 3 = 108) fX7_32 (by first | rfl | assumption) (by first | rfl | assumption) ?_
      refine q_bipush (v := nI 12) dX7_copies_108 (rfl : 108 + 2 = 110) (by decide) ?_
      refine q_iload_n dX7_copies_110 (rfl : 110 + 1 = 111) rfl ?_
      refine q_imul dX7_copies_111 (rfl : 111 + 1 = 112) ?_
      try simp (disch := omega) only [wr_hit, wr_p, wr_k, nI_add, pk_mul, nI_1, nI_s1, pk_sub, Nat.add_sub_cancel, e1, e2]
      refine q_iload_n dX7_copies_112 (rfl : 112 + 1 = 113) rfl ?_
      refine q_iadd dX7_copies_113 (rfl : 113 + 1 = 114) ?_
      try simp (disch := omega) only [wr_hit, wr_p, wr_k, nI_add, pk_mul, nI_1, nI_s1, pk_sub, Nat.add_sub_cancel, e1, e2]
      refine q_iald dX7_copies_114 (rfl : 114 + 1 = 115) (by first | rfl | assumption) (by first | assumption | omega) (by decide) ?_
      try simp (disch := omega) only [wr_hit, wr_p, wr_k, nI_add, pk_mul, nI_1, nI_s1, pk_sub, Nat.add_sub_cancel, e1, e2]
      refine q_iast dX7_copies_115 (rfl : 115 + 1 = 116) (by first | rfl | assumption) (by first | assumption | omega) (by decide) ?_
      first | refine q_iinc1 dX7_copies_116 (rfl : 116 + 3 = 119) rfl (by decide) ?_ | refine q_iinc dX7_copies_116 (rfl : 116 + 3 = 119) rfl rfl (by decide) ?_
      refine q_goto (q := 38) dX7_copies_119 (by decide) ?_
      try rw [wr_ne (show (51 : Nat) ≠ 55 by omega)]
      try rw [mcpH_b hab h2]
      rw [mcpH_c hab h2]
      rw [mcpH_s2 h2]
      exact ih h
def mcpZ (I : HI) (a b : Nat) : HI := mcpH (wr (wr I 50 b (I 50 a)) 54 b (I 54 a)) a b 24
theorem S_copies {d a b : Nat} {I : HI} {J : HJ} (ha : a ≤ 2) (hb : b ≤ 2) (hab : a ≠ b) : MV mX7_copies d [.ref 44, .int (nI a), .int (nI b)] shA I J RA (fun I' J' => I' = mcpZ I a b ∧ J' = wr J 53 b (J 53 a)) := by
  have ha3 : a < 3 := by omega
  have hb3 : b < 3 := by omega
  refine Mt.of (L := [some (.ref 44), some (.int (nI a)), some (.int (nI b)), none]) (by decide +kernel) (Nat.le_of_ble_eq_true rfl) rfl ?_
  refine q_aload_n dX7_copies_0 (rfl : 0 + 1 = 1) rfl ?_
  refine q_getR dX7_copies_1 (rfl : 1 + 3 = 4) fX7_26 (by first | rfl | assumption) (by first | rfl | assumption) ?_
  refine q_iload_n dX7_copies_4 (rfl : 4 + 1 = 5) rfl ?_
  refine q_aload_n dX7_copies_5 (rfl : 5 + 1 = 6) rfl ?_
  refine q_getR dX7_copies_6 (rfl : 6 + 3 = 9) fX7_26 (by first | rfl | assumption) (by first | rfl | assumption) ?_
  refine q_iload_n dX7_copies_9 (rfl : 9 + 1 = 10) rfl ?_
  refine q_iald dX7_copies_10 (rfl : 10 + 1 = 11) (by first | rfl | assumption) (by first | assumption | omega) (by decide) ?_
  refine q_iast dX7_copies_11 (rfl : 11 + 1 = 12) (by first | rfl | assumption) (by first | assumption | omega) (by decide) ?_
  refine q_aload_n dX7_copies_12 (rfl : 12 + 1 = 13) rfl ?_
  refine q_getR dX7_copies_13 (rfl : 13 + 3 = 16) fX7_35 (by first | rfl | assumption) (by first | rfl | assumption) ?_
  refine q_iload_n dX7_copies_16 (rfl : 16 + 1 = 17) rfl ?_
  refine q_aload_n dX7_copies_17 (rfl : 17 + 1 = 18) rfl ?_
  refine q_getR dX7_copies_18 (rfl : 18 + 3 = 21) fX7_35 (by first | rfl | assumption) (by first | rfl | assumption) ?_
  refine q_iload_n dX7_copies_21 (rfl : 21 + 1 = 22) rfl ?_
  refine q_lald dX7_copies_22 (rfl : 22 + 1 = 23) (by first | rfl | assumption) (by first | assumption | omega) (by decide) ?_
  refine q_last dX7_copies_23 (rfl : 23 + 1 = 24) (by first | rfl | assumption) (by first | assumption | omega) (by decide) ?_
  refine q_aload_n dX7_copies_24 (rfl : 24 + 1 = 25) rfl ?_
  refine q_getR dX7_copies_25 (rfl : 25 + 3 = 28) fX7_39 (by first | rfl | assumption) (by first | rfl | assumption) ?_
  refine q_iload_n dX7_copies_28 (rfl : 28 + 1 = 29) rfl ?_
  refine q_aload_n dX7_copies_29 (rfl : 29 + 1 = 30) rfl ?_
  refine q_getR dX7_copies_30 (rfl : 30 + 3 = 33) fX7_39 (by first | rfl | assumption) (by first | rfl | assumption) ?_
  refine q_iload_n dX7_copies_33 (rfl : 33 + 1 = 34) rfl ?_
  refine q_iald dX7_copies_34 (rfl : 34 + 1 = 35) (by first | rfl | assumption) (by first | assumption | omega) (by decide) ?_
  refine q_iast dX7_copies_35 (rfl : 35 + 1 = 36) (by first | rfl | assumption) (by first | assumption | omega) (by decide) ?_
  refine q_iconst (v := nI 0) dX7_copies_36 (rfl : 36 + 1 = 37) (by decide) ?_
  refine q_istore_n dX7_copies_37 (rfl : 37 + 1 = 38) (by decide) ?_
  have key := L_copies (T := TM d 0 0 false shA.length (fun sh' w I' J' R' => sh' = shA ∧ R' = RA ∧ w = none ∧ (I' = mcpZ I a b ∧ J' = wr J 53 b (J 53 a)))) (I := wr (wr I 50 b (I 50 a)) 54 b (I 54 a)) (J := wr J 53 b (J 53 a)) ha hb hab ?_ 0 (by omega)
  · rw [mcpH_0] at key
    rw [wr_ne (show (54 : Nat) ≠ 50 by omega)]
    exact key
  ·
    refine q_vret rfl dX7_copies_122 ⟨rfl, rfl, rfl, ?_⟩
    exact ⟨rfl, rfl⟩
theorem S_mkeep_full {d : Nat} {I : HI} {J : HJ} (hk : I 44 13 = nI 2) : MIp mX7_keep d [.ref 44] shA I J RA (-3) := by
  refine Mt.of (L := [some (.ref 44)]) (by decide +kernel) (Nat.le_of_ble_eq_true rfl) rfl ?_
  refine q_aload_n dX7_keep_0 (rfl : 0 + 1 = 1) rfl ?_
  refine q_getI dX7_keep_1 (rfl : 1 + 3 = 4) fX7_113 (by first | rfl | assumption) ?_
  try simp (disch := omega) only [wr_hit, wr_p, wr_k, nI_add, pk_mul, nI_1, nI_s1, pk_sub, Nat.add_sub_cancel, hk]
  refine q_iconst (v := nI 2) dX7_keep_4 (rfl : 4 + 1 = 5) (by decide) ?_
  refine q_icmp_ne_n (q := 11) (by omega) (by omega) dX7_keep_5 (by decide) (rfl : 5 + 3 = 8) (fun h => ?_) (fun h => ?_)
  · omega
  ·
    refine q_bipush (v := -3) dX7_keep_8 (rfl : 8 + 2 = 10) (by decide) ?_
    refine q_iret rfl dX7_keep_10 ⟨rfl, rfl, _, rfl, ?_⟩
    exact ⟨rfl, rfl, rfl⟩
theorem mcpZ_k {I : HI} {a b c : Nat} : mcpZ I a b 44 c = I 44 c := by
  unfold mcpZ mcpH
  rw [if_neg (by omega), if_neg (by omega), wr_ne (by omega), wr_ne (by omega)]
theorem S_mkeep {d k : Nat} {I : HI} {J : HJ} (hk : I 44 13 = nI k) (h2 : k < 2) : MI mX7_keep (d + 1) [.ref 44] shA I J RA (fun x I' J' => x = nI (k + 1) ∧ I' = mcpZ (wr I 44 13 (nI (k + 1))) 0 (k + 1) ∧ J' = wr J 53 (k + 1) (J 53 0)) := by
  refine Mt.of (L := [some (.ref 44)]) (by decide +kernel) (Nat.le_of_ble_eq_true rfl) rfl ?_
  refine q_aload_n dX7_keep_0 (rfl : 0 + 1 = 1) rfl ?_
  refine q_getI dX7_keep_1 (rfl : 1 + 3 = 4) fX7_113 (by first | rfl | assumption) ?_
  try simp (disch := omega) only [wr_hit, wr_p, wr_k, nI_add, pk_mul, nI_1, nI_s1, pk_sub, Nat.add_sub_cancel, hk]
  refine q_iconst (v := nI 2) dX7_keep_4 (rfl : 4 + 1 = 5) (by decide) ?_
  refine q_icmp_ne_n (q := 11) (by omega) (by omega) dX7_keep_5 (by decide) (rfl : 5 + 3 = 8) (fun h => ?_) (fun h => ?_)
  ·
    refine q_aload_n dX7_keep_11 (rfl : 11 + 1 = 12) rfl ?_
    refine q_dup dX7_keep_12 (rfl : 12 + 1 = 13) rfl ?_
    refine q_getI dX7_keep_13 (rfl : 13 + 3 = 16) fX7_113 (by first | rfl | assumption) ?_
    try simp (disch := omega) only [wr_hit, wr_p, wr_k, nI_add, pk_mul, nI_1, nI_s1, pk_sub, Nat.add_sub_cancel, hk]
    refine q_iconst (v := nI 1) dX7_keep_16 (rfl : 16 + 1 = 17) (by decide) ?_
    refine q_iadd dX7_keep_17 (rfl : 17 + 1 = 18) ?_
    try simp (disch := omega) only [wr_hit, wr_p, wr_k, nI_add, pk_mul, nI_1, nI_s1, pk_sub, Nat.add_sub_cancel, hk]
    refine q_putI dX7_keep_18 (rfl : 18 + 3 = 21) pX7_113 (by first | rfl | assumption) ?_
    refine q_aload_n dX7_keep_21 (rfl : 21 + 1 = 22) rfl ?_
    refine q_iconst (v := nI 0) dX7_keep_22 (rfl : 22 + 1 = 23) (by decide) ?_
    refine q_aload_n dX7_keep_23 (rfl : 23 + 1 = 24) rfl ?_
    refine q_getI dX7_keep_24 (rfl : 24 + 3 = 27) fX7_113 (by first | rfl | assumption) ?_
    try simp (disch := omega) only [wr_hit, wr_p, wr_k, nI_add, pk_mul, nI_1, nI_s1, pk_sub, Nat.add_sub_cancel, hk]
    refine q_callVV (S_copies (d := d) (a := 0) (b := k + 1) (by omega) (by omega) (by omega)) dX7_keep_27 (rfl : 27 + 3 = 30) lX7_223 vX7_copies (by first | rfl | assumption) rfl rfl (Nat.le_of_ble_eq_true rfl) TM_room TM_cs ?_
    intro I1 J1 hp
    obtain ⟨rfl, rfl⟩ := hp
    refine q_aload_n dX7_keep_30 (rfl : 30 + 1 = 31) rfl ?_
    refine q_getI dX7_keep_31 (rfl : 31 + 3 = 34) fX7_113 (by first | rfl | assumption) ?_
    rw [mcpZ_k, wr_hit]
    refine q_iret rfl dX7_keep_34 ⟨rfl, rfl, _, rfl, ?_⟩
    exact ⟨rfl, rfl, rfl⟩
  · omega
theorem S_mback_no {d : Nat} {I : HI} {J : HJ} (hk : I 44 13 = nI 0) : MIp mX7_back d [.ref 44] shA I J RA (-2) := by
  refine Mt.of (L := [some (.ref 44)]) (by decide +kernel) (Nat.le_of_ble_eq_true rfl) rfl ?_
  refine q_aload_n dX7_back_0 (rfl : 0 + 1 = 1) rfl ?_
  refine q_getI dX7_back_1 (rfl : 1 + 3 = 4) fX7_113 (by first | rfl | assumption) ?_
  try simp (disch := omega) only [wr_hit, wr_p, wr_k, nI_add, pk_mul, nI_1, nI_s1, pk_sub, Nat.add_sub_cancel, hk]
  refine q_if_ne_n (q := 10) (by omega) dX7_back_4 (by decide) (rfl : 4 + 3 = 7) (fun h => ?_) (fun h => ?_)
  · omega
  ·
    refine q_bipush (v := -2) dX7_back_7 (rfl : 7 + 2 = 9) (by decide) ?_
    refine q_iret rfl dX7_back_9 ⟨rfl, rfl, _, rfl, ?_⟩
    exact ⟨rfl, rfl, rfl⟩
theorem S_mback {d k : Nat} {I : HI} {J : HJ} (hk : I 44 13 = nI (k + 1)) (h2 : k < 2) : MI mX7_back (d + 1) [.ref 44] shA I J RA (fun x I' J' => x = nI k ∧ I' = wr (mcpZ I (k + 1) 0) 44 13 (nI k) ∧ J' = wr J 53 0 (J 53 (k + 1))) := by
  refine Mt.of (L := [some (.ref 44)]) (by decide +kernel) (Nat.le_of_ble_eq_true rfl) rfl ?_
  refine q_aload_n dX7_back_0 (rfl : 0 + 1 = 1) rfl ?_
  refine q_getI dX7_back_1 (rfl : 1 + 3 = 4) fX7_113 (by first | rfl | assumption) ?_
  try simp (disch := omega) only [wr_hit, wr_p, wr_k, nI_add, pk_mul, nI_1, nI_s1, pk_sub, Nat.add_sub_cancel, hk]
  refine q_if_ne_n (q := 10) (by omega) dX7_back_4 (by decide) (rfl : 4 + 3 = 7) (fun h => ?_) (fun h => ?_)
  ·
    refine q_aload_n dX7_back_10 (rfl : 10 + 1 = 11) rfl ?_
    refine q_aload_n dX7_back_11 (rfl : 11 + 1 = 12) rfl ?_
    refine q_getI dX7_back_12 (rfl : 12 + 3 = 15) fX7_113 (by first | rfl | assumption) ?_
    try simp (disch := omega) only [wr_hit, wr_p, wr_k, nI_add, pk_mul, nI_1, nI_s1, pk_sub, Nat.add_sub_cancel, hk]
    refine q_iconst (v := nI 0) dX7_back_15 (rfl : 15 + 1 = 16) (by decide) ?_
    refine q_callVV (S_copies (d := d) (a := k + 1) (b := 0) (by omega) (by omega) (by omega)) dX7_back_16 (rfl : 16 + 3 = 19) lX7_223 vX7_copies (by first | rfl | assumption) rfl rfl (Nat.le_of_ble_eq_true rfl) TM_room TM_cs ?_
    intro I1 J1 hp
    obtain ⟨rfl, rfl⟩ := hp
    have e : mcpZ I (k + 1) 0 44 13 = nI (k + 1) := by rw [mcpZ_k, hk]
    refine q_aload_n dX7_back_19 (rfl : 19 + 1 = 20) rfl ?_
    refine q_dup dX7_back_20 (rfl : 20 + 1 = 21) rfl ?_
    refine q_getI dX7_back_21 (rfl : 21 + 3 = 24) fX7_113 (by first | rfl | assumption) ?_
    try simp (disch := omega) only [wr_hit, wr_p, wr_k, nI_add, pk_mul, nI_1, nI_s1, pk_sub, Nat.add_sub_cancel, e]
    refine q_iconst (v := nI 1) dX7_back_24 (rfl : 24 + 1 = 25) (by decide) ?_
    refine q_isub dX7_back_25 (rfl : 25 + 1 = 26) ?_
    try simp (disch := omega) only [wr_hit, wr_p, wr_k, nI_add, pk_mul, nI_1, nI_s1, pk_sub, Nat.add_sub_cancel, e]
    refine q_putI dX7_back_26 (rfl : 26 + 3 = 29) pX7_113 (by first | rfl | assumption) ?_
    refine q_aload_n dX7_back_29 (rfl : 29 + 1 = 30) rfl ?_
    refine q_getI dX7_back_30 (rfl : 30 + 3 = 33) fX7_113 (by first | rfl | assumption) ?_
    try simp (disch := omega) only [wr_hit, wr_p, wr_k, nI_add, pk_mul, nI_1, nI_s1, pk_sub, Nat.add_sub_cancel, e]
    refine q_iret rfl dX7_back_33 ⟨rfl, rfl, _, rfl, ?_⟩
    exact ⟨rfl, rfl, rfl⟩
  · omega
def mcountV (I : HI) (J : HJ) (n w : Nat) : Int32 := match w with
  | 0 => I 47 0
  | 1 => I 50 0
  | 2 => sI (I 51) n
  | 3 => sI (fun j => I 51 j * I 48 (4 * j + 2)) n
  | 4 => (J 53 0).toInt32
  | 5 => I 54 0
  | 6 => I 44 14
  | 7 => I 44 13
  | _ => I 44 0
theorem S_mcount {d n w : Nat} {I : HI} {J : HJ} (hn : I 50 0 = nI n) (h12 : n ≤ 12) (hw : w ≤ 8) : MIp mX7_count (d + 2) [.ref 44, .int (nI w)] shA I J RA (mcountV I J n w) := by
  refine Mt.of (L := [some (.ref 44), some (.int (nI w))]) (by decide +kernel) (Nat.le_of_ble_eq_true rfl) rfl ?_
  refine q_iload_n dX7_count_0 (rfl : 0 + 1 = 1) rfl ?_
  rcases (show w = 0 ∨ w = 1 ∨ w = 2 ∨ w = 3 ∨ w = 4 ∨ w = 5 ∨ w = 6 ∨ w = 7 ∨ w = 8 by omega) with rfl | rfl | rfl | rfl | rfl | rfl | rfl | rfl | rfl
  · refine q_tableIn (off := 51) (q := 52) dX7_count_1 (by decide) (by decide) (by decide) (by decide) ?_
    refine q_aload_n dX7_count_52 (rfl : 52 + 1 = 53) rfl ?_
    refine q_getR dX7_count_53 (rfl : 53 + 3 = 56) fX7_17 (by first | rfl | assumption) (by first | rfl | assumption) ?_
    refine q_iconst (v := nI 0) dX7_count_56 (rfl : 56 + 1 = 57) (by decide) ?_
    refine q_iald (j := 0) dX7_count_57 (rfl : 57 + 1 = 58) (by first | rfl | assumption) (by decide) (by decide) ?_
    refine q_iret rfl dX7_count_58 ⟨rfl, rfl, _, rfl, ?_⟩
    exact ⟨rfl, rfl, rfl⟩
  · refine q_tableIn (off := 58) (q := 59) dX7_count_1 (by decide) (by decide) (by decide) (by decide) ?_
    refine q_aload_n dX7_count_59 (rfl : 59 + 1 = 60) rfl ?_
    refine q_getR dX7_count_60 (rfl : 60 + 3 = 63) fX7_26 (by first | rfl | assumption) (by first | rfl | assumption) ?_
    refine q_iconst (v := nI 0) dX7_count_63 (rfl : 63 + 1 = 64) (by decide) ?_
    refine q_iald (j := 0) dX7_count_64 (rfl : 64 + 1 = 65) (by first | rfl | assumption) (by decide) (by decide) ?_
    refine q_iret rfl dX7_count_65 ⟨rfl, rfl, _, rfl, ?_⟩
    exact ⟨rfl, rfl, rfl⟩
  · refine q_tableIn (off := 65) (q := 66) dX7_count_1 (by decide) (by decide) (by decide) (by decide) ?_
    refine q_aload_n dX7_count_66 (rfl : 66 + 1 = 67) rfl ?_
    refine q_callVIp (S_mhigh (d := d + 1) hn h12) dX7_count_67 (rfl : 67 + 3 = 70) lX7_134 vX7_high (by first | rfl | assumption) rfl rfl (Nat.le_of_ble_eq_true rfl) TM_room TM_cs ?_
    refine q_iret rfl dX7_count_70 ⟨rfl, rfl, _, rfl, ?_⟩
    exact ⟨rfl, rfl, rfl⟩
  · refine q_tableIn (off := 70) (q := 71) dX7_count_1 (by decide) (by decide) (by decide) (by decide) ?_
    refine q_aload_n dX7_count_71 (rfl : 71 + 1 = 72) rfl ?_
    refine q_callVIp (S_mload (d := d) hn h12) dX7_count_72 (rfl : 72 + 3 = 75) lX7_137 vX7_load (by first | rfl | assumption) rfl rfl (Nat.le_of_ble_eq_true rfl) TM_room TM_cs ?_
    refine q_iret rfl dX7_count_75 ⟨rfl, rfl, _, rfl, ?_⟩
    exact ⟨rfl, rfl, rfl⟩
  · refine q_tableIn (off := 75) (q := 76) dX7_count_1 (by decide) (by decide) (by decide) (by decide) ?_
    refine q_aload_n dX7_count_76 (rfl : 76 + 1 = 77) rfl ?_
    refine q_getR dX7_count_77 (rfl : 77 + 3 = 80) fX7_35 (by first | rfl | assumption) (by first | rfl | assumption) ?_
    refine q_iconst (v := nI 0) dX7_count_80 (rfl : 80 + 1 = 81) (by decide) ?_
    refine q_lald (j := 0) dX7_count_81 (rfl : 81 + 1 = 82) (by first | rfl | assumption) (by decide) (by decide) ?_
    refine q_l2i dX7_count_82 (rfl : 82 + 1 = 83) ?_
    refine q_iret rfl dX7_count_83 ⟨rfl, rfl, _, rfl, ?_⟩
    exact ⟨rfl, rfl, rfl⟩
  · refine q_tableIn (off := 83) (q := 84) dX7_count_1 (by decide) (by decide) (by decide) (by decide) ?_
    refine q_aload_n dX7_count_84 (rfl : 84 + 1 = 85) rfl ?_
    refine q_getR dX7_count_85 (rfl : 85 + 3 = 88) fX7_39 (by first | rfl | assumption) (by first | rfl | assumption) ?_
    refine q_iconst (v := nI 0) dX7_count_88 (rfl : 88 + 1 = 89) (by decide) ?_
    refine q_iald (j := 0) dX7_count_89 (rfl : 89 + 1 = 90) (by first | rfl | assumption) (by decide) (by decide) ?_
    refine q_iret rfl dX7_count_90 ⟨rfl, rfl, _, rfl, ?_⟩
    exact ⟨rfl, rfl, rfl⟩
  · refine q_tableIn (off := 90) (q := 91) dX7_count_1 (by decide) (by decide) (by decide) (by decide) ?_
    refine q_aload_n dX7_count_91 (rfl : 91 + 1 = 92) rfl ?_
    refine q_getI dX7_count_92 (rfl : 92 + 3 = 95) fX7_110 (by first | rfl | assumption) ?_
    refine q_iret rfl dX7_count_95 ⟨rfl, rfl, _, rfl, ?_⟩
    exact ⟨rfl, rfl, rfl⟩
  · refine q_tableIn (off := 95) (q := 96) dX7_count_1 (by decide) (by decide) (by decide) (by decide) ?_
    refine q_aload_n dX7_count_96 (rfl : 96 + 1 = 97) rfl ?_
    refine q_getI dX7_count_97 (rfl : 97 + 3 = 100) fX7_113 (by first | rfl | assumption) ?_
    refine q_iret rfl dX7_count_100 ⟨rfl, rfl, _, rfl, ?_⟩
    exact ⟨rfl, rfl, rfl⟩
  · refine q_tableIn (off := 100) (q := 101) dX7_count_1 (by decide) (by decide) (by decide) (by decide) ?_
    refine q_aload_n dX7_count_101 (rfl : 101 + 1 = 102) rfl ?_
    refine q_getI dX7_count_102 (rfl : 102 + 3 = 105) fX7_81 (by first | rfl | assumption) ?_
    refine q_iret rfl dX7_count_105 ⟨rfl, rfl, _, rfl, ?_⟩
    exact ⟨rfl, rfl, rfl⟩
theorem S_mcount_bad {d : Nat} {w : Int32} {I : HI} {J : HJ} (hw : w.toInt < 0 ∨ 8 < w.toInt) : MIp mX7_count (d + 1) [.ref 44, .int w] shA I J RA (-1) := by
  refine Mt.of (L := [some (.ref 44), some (.int w)]) (by decide +kernel) (Nat.le_of_ble_eq_true rfl) rfl ?_
  refine q_iload_n dX7_count_0 (rfl : 0 + 1 = 1) rfl ?_
  refine q_tableOut (q := 106) dX7_count_1 hw (by decide) ?_
  refine q_iconst (v := -1) dX7_count_106 (rfl : 106 + 1 = 107) (by decide) ?_
  refine q_iret rfl dX7_count_107 ⟨rfl, rfl, _, rfl, ?_⟩
  exact ⟨rfl, rfl, rfl⟩
