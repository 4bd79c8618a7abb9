/-! the class's own helpers -/
theorem inr_nI2 {y : Int32} {a b : Nat} (hb : b < 2 ^ 31) (h : inr y (nI a) (nI b) = true) : a < 2 ^ 31 → ∃ j : Nat, a ≤ j ∧ j ≤ b ∧ y = nI j := by
  intro ha
  unfold inr at h
  simp only [Bool.and_eq_true, decide_eq_true_eq] at h
  have h0 : ¬ y < 0 := Int32.not_lt.mpr (Int32.le_trans (by rw [← nI_0]; exact (nI_leI (by omega) ha).mpr (by omega)) h.1)
  obtain ⟨j, hj, rfl⟩ := nI_of2 (nI_toInt hb) h0 h.2
  exact ⟨j, (nI_leI ha (by omega)).mp h.1, hj, rfl⟩
theorem inr_of {a b j : Nat} (h1 : a ≤ j) (h2 : j ≤ b) (hb : b < 2 ^ 31) : inr (nI j) (nI a) (nI b) = true := by
  unfold inr
  simp only [Bool.and_eq_true, decide_eq_true_eq]
  exact ⟨(nI_leI (by omega) (by omega)).mpr h1, (nI_leI (by omega) (by omega)).mpr h2⟩
theorem S_isWinter {d : Nat} {sh : List Kd} {I : HI} {J : HJ} {R : HR} {y : Int32} : MIp mX6_isWinter (d + 1) [.int y] sh I J R (bI (inr y (nI 0) (nI 9999))) := by
  refine Mt.of (L := [some (.int y)]) (by decide +kernel) (Nat.le_of_ble_eq_true rfl) rfl ?_
  refine q_iload_n dX6_isWinter_0 (rfl : 0 + 1 = 1) rfl ?_
  refine q_iconst (v := nI 0) dX6_isWinter_1 (rfl : 1 + 1 = 2) (by decide) ?_
  refine q_sipush (v := nI 9999) dX6_isWinter_2 (rfl : 2 + 3 = 5) (by decide) ?_
  refine q_callSIp S_inside dX6_isWinter_5 (rfl : 5 + 3 = 8) lX6_68 vX6_inside rfl rfl (Nat.le_of_ble_eq_true rfl) TM_room TM_cs ?_
  refine q_zret rfl dX6_isWinter_8 (by first | exact bI_01 _ | exact Or.inl rfl | exact Or.inr rfl) ⟨rfl, rfl, _, rfl, ?_⟩
  exact ⟨rfl, rfl, rfl⟩
theorem S_isPiece {d : Nat} {sh : List Kd} {I : HI} {J : HJ} {R : HR} {x y : Int32} : MIp mX6_isPiece (d + 1) [.int x, .int y] sh I J R (bI (inr x (nI 0) (nI 9) && inr y (nI 1) (nI 9))) := by
  refine Mt.of (L := [some (.int x), some (.int y)]) (by decide +kernel) (Nat.le_of_ble_eq_true rfl) rfl ?_
  refine q_iload_n dX6_isPiece_0 (rfl : 0 + 1 = 1) rfl ?_
  refine q_iconst (v := nI 0) dX6_isPiece_1 (rfl : 1 + 1 = 2) (by decide) ?_
  refine q_bipush (v := nI 9) dX6_isPiece_2 (rfl : 2 + 2 = 4) (by decide) ?_
  refine q_callSIp S_inside dX6_isPiece_4 (rfl : 4 + 3 = 7) lX6_68 vX6_inside rfl rfl (Nat.le_of_ble_eq_true rfl) TM_room TM_cs ?_
  refine q_if_eq_b (q := 24) dX6_isPiece_7 (by decide) (rfl : 7 + 3 = 10) (fun h1 => ?_) (fun h1 => ?_)
  ·
    refine q_iconst (v := nI 0) dX6_isPiece_24 (rfl : 24 + 1 = 25) (by decide) ?_
    refine q_zret rfl dX6_isPiece_25 (by first | exact bI_01 _ | exact Or.inl rfl | exact Or.inr rfl) ⟨rfl, rfl, _, rfl, ?_⟩
    rw [h1]
    exact ⟨rfl, rfl, rfl⟩
  ·
    refine q_iload_n dX6_isPiece_10 (rfl : 10 + 1 = 11) rfl ?_
    refine q_iconst (v := nI 1) dX6_isPiece_11 (rfl : 11 + 1 = 12) (by decide) ?_
    refine q_bipush (v := nI 9) dX6_isPiece_12 (rfl : 12 + 2 = 14) (by decide) ?_
    refine q_callSIp S_inside dX6_isPiece_14 (rfl : 14 + 3 = 17) lX6_68 vX6_inside rfl rfl (Nat.le_of_ble_eq_true rfl) TM_room TM_cs ?_
    refine q_if_eq_b (q := 24) dX6_isPiece_17 (by decide) (rfl : 17 + 3 = 20) (fun h2 => ?_) (fun h2 => ?_)
    ·
      refine q_iconst (v := nI 0) dX6_isPiece_24 (rfl : 24 + 1 = 25) (by decide) ?_
      refine q_zret rfl dX6_isPiece_25 (by first | exact bI_01 _ | exact Or.inl rfl | exact Or.inr rfl) ⟨rfl, rfl, _, rfl, ?_⟩
      rw [h1, h2]
      exact ⟨rfl, rfl, rfl⟩
    ·
      refine q_iconst (v := nI 1) dX6_isPiece_20 (rfl : 20 + 1 = 21) (by decide) ?_
      refine q_goto (q := 25) dX6_isPiece_21 (by decide) ?_
      refine q_zret rfl dX6_isPiece_25 (by first | exact bI_01 _ | exact Or.inl rfl | exact Or.inr rfl) ⟨rfl, rfl, _, rfl, ?_⟩
      rw [h1, h2]
      exact ⟨rfl, rfl, rfl⟩
theorem S_keptAt {d k : Nat} {I : HI} {J : HJ} (hk : k < 2) : MRfp mX6_keptAt d [.ref 0, .int (nI k)] shA I J RA (22 + 6 * k) := by
  refine Mt.of (L := [some (.ref 0), some (.int (nI k))]) (by decide +kernel) (Nat.le_of_ble_eq_true rfl) rfl ?_
  refine q_iload_n dX6_keptAt_0 (rfl : 0 + 1 = 1) rfl ?_
  refine q_if_ne_n (q := 11) (by omega) dX6_keptAt_1 (by decide) (rfl : 1 + 3 = 4) (fun h => ?_) (fun h => ?_)
  ·
    obtain rfl : k = 1 := by omega
    refine q_aload_n dX6_keptAt_11 (rfl : 11 + 1 = 12) rfl ?_
    refine q_getR dX6_keptAt_12 (rfl : 12 + 3 = 15) fX6_36 (by first | rfl | assumption) (by first | rfl | assumption) ?_
    refine q_aret rfl dX6_keptAt_15 ⟨rfl, rfl, _, rfl, ?_⟩
    exact ⟨rfl, rfl, rfl⟩
  ·
    subst h
    refine q_aload_n dX6_keptAt_4 (rfl : 4 + 1 = 5) rfl ?_
    refine q_getR dX6_keptAt_5 (rfl : 5 + 3 = 8) fX6_33 (by first | rfl | assumption) (by first | rfl | assumption) ?_
    refine q_goto (q := 15) dX6_keptAt_8 (by decide) ?_
    refine q_aret rfl dX6_keptAt_15 ⟨rfl, rfl, _, rfl, ?_⟩
    exact ⟨rfl, rfl, rfl⟩
def lre (x y : Int64) : Int64 := x - x / y * y
def moreX (z : Int32) (i : Nat) : Int64 := 7919 * z.toInt64 + 6151 * (nI i).toInt64 + 1
def moreI (v : Nat) (z : Int32) (i : Nat) : Int32 := (lre (lre (moreX z i * moreX z i) 65521) (nI (v + 1)).toInt64).toInt32
theorem S_moreInches0 {d i : Nat} {I : HI} {J : HJ} : MIp mX6_moreInches (d + 1) [.ref 0, .int (nI i), .int (-1)] shA I J RA (nI 0) := by
  refine Mt.of (L := [some (.ref 0), some (.int (nI i)), some (.int (-1)), none, none, none]) (by decide +kernel) (Nat.le_of_ble_eq_true rfl) rfl ?_
  refine q_iload_n dX6_moreInches_0 (rfl : 0 + 1 = 1) rfl ?_
  refine q_iconst (v := -1) dX6_moreInches_1 (rfl : 1 + 1 = 2) (by decide) ?_
  refine q_icmp_ne (q := 7) dX6_moreInches_2 (by decide) (rfl : 2 + 3 = 5) (fun h => ?_) (fun h => ?_)
  ·
    exact absurd rfl h
  ·
    refine q_iconst (v := nI 0) dX6_moreInches_5 (rfl : 5 + 1 = 6) (by decide) ?_
    refine q_iret rfl dX6_moreInches_6 ⟨rfl, rfl, _, rfl, ?_⟩
    exact ⟨rfl, rfl, rfl⟩
theorem nI_l_ne {v : Nat} (h1 : 0 < v) (h2 : v < 2 ^ 31) : ¬ (nI v).toInt64 = 0 := by
  rw [nI_l h2]
  intro z
  have := (lN_eq h2 (by omega : 0 < 2 ^ 31)).mp (z.trans (show (0 : Int64) = lN 0 from rfl))
  omega
theorem S_moreInches {d i v : Nat} {I : HI} {J : HJ} {z : Int32} (hz : ¬ z = -1) (hv : I 4 4 = nI v) (h9 : v ≤ 9) : MIp mX6_moreInches (d + 1) [.ref 0, .int (nI i), .int z] shA I J RA (moreI v z i) := by
  refine Mt.of (L := [some (.ref 0), some (.int (nI i)), some (.int z), none, none, none]) (by decide +kernel) (Nat.le_of_ble_eq_true rfl) rfl ?_
  refine q_iload_n dX6_moreInches_0 (rfl : 0 + 1 = 1) rfl ?_
  refine q_iconst (v := -1) dX6_moreInches_1 (rfl : 1 + 1 = 2) (by decide) ?_
  refine q_icmp_ne (q := 7) dX6_moreInches_2 (by decide) (rfl : 2 + 3 = 5) (fun h => ?_) (fun h => ?_)
  ·
    refine q_ldc2 dX6_moreInches_7 (rfl : 7 + 3 = 10) kX6_243 ?_
    refine q_iload_n dX6_moreInches_10 (rfl : 10 + 1 = 11) rfl ?_
    refine q_i2l dX6_moreInches_11 (rfl : 11 + 1 = 12) ?_
    refine q_lmul dX6_moreInches_12 (rfl : 12 + 1 = 13) ?_
    refine q_ldc2 dX6_moreInches_13 (rfl : 13 + 3 = 16) kX6_245 ?_
    refine q_iload_n dX6_moreInches_16 (rfl : 16 + 1 = 17) rfl ?_
    refine q_i2l dX6_moreInches_17 (rfl : 17 + 1 = 18) ?_
    refine q_lmul dX6_moreInches_18 (rfl : 18 + 1 = 19) ?_
    refine q_ladd dX6_moreInches_19 (rfl : 19 + 1 = 20) ?_
    refine q_lconst (v := 1) dX6_moreInches_20 (rfl : 20 + 1 = 21) (by decide) ?_
    refine q_ladd dX6_moreInches_21 (rfl : 21 + 1 = 22) ?_
    refine q_lstore_n dX6_moreInches_22 (rfl : 22 + 1 = 23) (by decide) ?_
    refine q_iconst (v := nI 1) dX6_moreInches_23 (rfl : 23 + 1 = 24) (by decide) ?_
    refine q_aload_n dX6_moreInches_24 (rfl : 24 + 1 = 25) rfl ?_
    refine q_getR dX6_moreInches_25 (rfl : 25 + 3 = 28) fX6_19 (by first | rfl | assumption) (by first | rfl | assumption) ?_
    refine q_getI dX6_moreInches_28 (rfl : 28 + 3 = 31) fX6_247 (by first | rfl | assumption) ?_
    try simp (disch := omega) only [wr_hit, wr_p, wr_k, nI_add, pk_mul, nI_1, nI_s1, pk_sub, Nat.add_sub_cancel, hv]
    refine q_iconst (v := nI 1) dX6_moreInches_31 (rfl : 31 + 1 = 32) (by decide) ?_
    refine q_iadd dX6_moreInches_32 (rfl : 32 + 1 = 33) ?_
    try simp (disch := omega) only [wr_hit, wr_p, wr_k, nI_add, pk_mul, nI_1, nI_s1, pk_sub, Nat.add_sub_cancel, hv]
    refine q_max dX6_moreInches_33 (rfl : 33 + 3 = 36) lX6_196 w_max (Nat.le_of_ble_eq_true rfl) (TM_math (Nat.le_refl _) (Nat.le_refl _)) ?_
    have e : (if nI 1 < nI (v + 1) then nI (v + 1) else nI 1) = nI (v + 1) := by
      by_cases h0 : v = 0
      · subst h0; rfl
      · rw [if_pos ((nI_ltI (by decide) (by omega)).mpr (by omega))]
    rw [e]
    have e2 : ¬ (nI (v + 1)).toInt64 = 0 := nI_l_ne (by omega) (by omega)
    refine q_istore dX6_moreInches_36 (rfl : 36 + 2 = 38) (by decide) ?_
    refine q_lload_n dX6_moreInches_38 (rfl : 38 + 1 = 39) rfl ?_
    refine q_lload_n dX6_moreInches_39 (rfl : 39 + 1 = 40) rfl ?_
    refine q_lmul dX6_moreInches_40 (rfl : 40 + 1 = 41) ?_
    refine q_ldc2 dX6_moreInches_41 (rfl : 41 + 3 = 44) kX6_250 ?_
    refine q_lrem dX6_moreInches_44 (rfl : 44 + 1 = 45) (by first | assumption | decide) ?_
    refine q_iload dX6_moreInches_45 (rfl : 45 + 2 = 47) rfl ?_
    refine q_i2l dX6_moreInches_47 (rfl : 47 + 1 = 48) ?_
    refine q_lrem dX6_moreInches_48 (rfl : 48 + 1 = 49) (by first | assumption | decide) ?_
    refine q_l2i dX6_moreInches_49 (rfl : 49 + 1 = 50) ?_
    refine q_iret rfl dX6_moreInches_50 ⟨rfl, rfl, _, rfl, ?_⟩
    exact ⟨rfl, rfl, rfl⟩
  ·
    exact absurd h hz
def ftc (inch heavy more : Nat → Int32) (be : Int32 → Int32 → Bool) (k i : Nat) (hi lo : Int32) : Nat := match k with
  | 0 => i
  | k + 1 => if be (hi + nI 10 * (inch i + more i)) (lo + nI 10 * (inch i + more i) * heavy i) = true then ftc inch heavy more be k (i + 1) (hi + nI 10 * (inch i + more i)) (lo + nI 10 * (inch i + more i) * heavy i) else i
theorem L_ftc {d n0 nf : Nat} {Po : PO} {I : HI} {J : HJ} {z a1 : Int32} {more : Nat → Int32} (hf : I 4 5 = nI nf) (h12 : nf ≤ 12) (hm : ∀ i, MIp mX6_moreInches (d + 1) [.ref 0, .int (nI i), .int z] shA I J RA (more i)) :
    ∀ (k i : Nat) (hi lo : Int32), i + k = nf → Po shA (some (.int (nI (ftc (I 6) (I 7) more (bearsB I) k i hi lo)))) I J RA → Wm mX6_firstThatCannot (TM (d + 2) 0 0 false n0 Po) 0 0 shA 3 [some (.ref 0), some (.int a1), some (.int hi), some (.int lo), some (.int z), some (.int (nI i)), none] [] I J RA := by
  intro k
  induction k with
  | zero =>
    intro i hi lo hk hPo
    obtain rfl : i = nf := by omega
    refine q_iload dX6_firstThatCannot_3 (rfl : 3 + 2 = 5) rfl ?_
    refine q_aload_n dX6_firstThatCannot_5 (rfl : 5 + 1 = 6) rfl ?_
    refine q_getR dX6_firstThatCannot_6 (rfl : 6 + 3 = 9) fX6_19 (by first | rfl | assumption) (by first | rfl | assumption) ?_
    refine q_getI dX6_firstThatCannot_9 (rfl : 9 + 3 = 12) fX6_87 (by first | rfl | assumption) ?_
    try simp (disch := omega) only [wr_hit, wr_p, wr_k, nI_add, pk_mul, nI_1, nI_s1, pk_sub, Nat.add_sub_cancel, hf]
    refine q_icmp_ge_n (q := 81) (by omega) (by omega) dX6_firstThatCannot_12 (by decide) (rfl : 12 + 3 = 15) (fun h => ?_) (fun h => ?_)
    ·
      refine q_aload_n dX6_firstThatCannot_81 (rfl : 81 + 1 = 82) rfl ?_
      refine q_getR dX6_firstThatCannot_82 (rfl : 82 + 3 = 85) fX6_19 (by first | rfl | assumption) (by first | rfl | assumption) ?_
      refine q_getI dX6_firstThatCannot_85 (rfl : 85 + 3 = 88) fX6_87 (by first | rfl | assumption) ?_
      try simp (disch := omega) only [wr_hit, wr_p, wr_k, nI_add, pk_mul, nI_1, nI_s1, pk_sub, Nat.add_sub_cancel, hf]
      exact q_iret rfl dX6_firstThatCannot_88 hPo
    ·
      omega
  | succ k ih =>
    intro i hi lo hk hPo
    refine q_iload dX6_firstThatCannot_3 (rfl : 3 + 2 = 5) rfl ?_
    refine q_aload_n dX6_firstThatCannot_5 (rfl : 5 + 1 = 6) rfl ?_
    refine q_getR dX6_firstThatCannot_6 (rfl : 6 + 3 = 9) fX6_19 (by first | rfl | assumption) (by first | rfl | assumption) ?_
    refine q_getI dX6_firstThatCannot_9 (rfl : 9 + 3 = 12) fX6_87 (by first | rfl | assumption) ?_
    try simp (disch := omega) only [wr_hit, wr_p, wr_k, nI_add, pk_mul, nI_1, nI_s1, pk_sub, Nat.add_sub_cancel, hf]
    refine q_icmp_ge_n (q := 81) (by omega) (by omega) dX6_firstThatCannot_12 (by decide) (rfl : 12 + 3 = 15) (fun h => ?_) (fun h => ?_)
    · omega
    ·
      refine q_bipush (v := nI 10) dX6_firstThatCannot_15 (rfl : 15 + 2 = 17) (by decide) ?_
      refine q_aload_n dX6_firstThatCannot_17 (rfl : 17 + 1 = 18) rfl ?_
      refine q_getR dX6_firstThatCannot_18 (rfl : 18 + 3 = 21) fX6_19 (by first | rfl | assumption) (by first | rfl | assumption) ?_
      refine q_getR dX6_firstThatCannot_21 (rfl : 21 + 3 = 24) fX6_97 (by first | rfl | assumption) (by first | rfl | assumption) ?_
      refine q_iload dX6_firstThatCannot_24 (rfl : 24 + 2 = 26) rfl ?_
      refine q_iald dX6_firstThatCannot_26 (rfl : 26 + 1 = 27) (by first | rfl | assumption) (by first | assumption | omega) (by decide) ?_
      refine q_aload_n dX6_firstThatCannot_27 (rfl : 27 + 1 = 28) rfl ?_
      refine q_iload dX6_firstThatCannot_28 (rfl : 28 + 2 = 30) rfl ?_
      refine q_iload dX6_firstThatCannot_30 (rfl : 30 + 2 = 32) rfl ?_
      refine q_callVIp (hm i) dX6_firstThatCannot_32 (rfl : 32 + 3 = 35) lX6_240 vX6_moreInches (by first | rfl | assumption) rfl rfl (Nat.le_of_ble_eq_true rfl) TM_room TM_cs ?_
      refine q_iadd dX6_firstThatCannot_35 (rfl : 35 + 1 = 36) ?_
      refine q_imul dX6_firstThatCannot_36 (rfl : 36 + 1 = 37) ?_
      refine q_istore dX6_firstThatCannot_37 (rfl : 37 + 2 = 39) (by decide) ?_
      refine q_iload_n dX6_firstThatCannot_39 (rfl : 39 + 1 = 40) rfl ?_
      refine q_iload dX6_firstThatCannot_40 (rfl : 40 + 2 = 42) rfl ?_
      refine q_iadd dX6_firstThatCannot_42 (rfl : 42 + 1 = 43) ?_
      refine q_istore_n dX6_firstThatCannot_43 (rfl : 43 + 1 = 44) (by decide) ?_
      refine q_iload_n dX6_firstThatCannot_44 (rfl : 44 + 1 = 45) rfl ?_
      refine q_iload dX6_firstThatCannot_45 (rfl : 45 + 2 = 47) rfl ?_
      refine q_aload_n dX6_firstThatCannot_47 (rfl : 47 + 1 = 48) rfl ?_
      refine q_getR dX6_firstThatCannot_48 (rfl : 48 + 3 = 51) fX6_19 (by first | rfl | assumption) (by first | rfl | assumption) ?_
      refine q_getR dX6_firstThatCannot_51 (rfl : 51 + 3 = 54) fX6_100 (by first | rfl | assumption) (by first | rfl | assumption) ?_
      refine q_iload dX6_firstThatCannot_54 (rfl : 54 + 2 = 56) rfl ?_
      refine q_iald dX6_firstThatCannot_56 (rfl : 56 + 1 = 57) (by first | rfl | assumption) (by first | assumption | omega) (by decide) ?_
      refine q_imul dX6_firstThatCannot_57 (rfl : 57 + 1 = 58) ?_
      refine q_iadd dX6_firstThatCannot_58 (rfl : 58 + 1 = 59) ?_
      refine q_istore_n dX6_firstThatCannot_59 (rfl : 59 + 1 = 60) (by decide) ?_
      refine q_aload_n dX6_firstThatCannot_60 (rfl : 60 + 1 = 61) rfl ?_
      refine q_getR dX6_firstThatCannot_61 (rfl : 61 + 3 = 64) fX6_19 (by first | rfl | assumption) (by first | rfl | assumption) ?_
      refine q_iload_n dX6_firstThatCannot_64 (rfl : 64 + 1 = 65) rfl ?_
      refine q_iload_n dX6_firstThatCannot_65 (rfl : 65 + 1 = 66) rfl ?_
      refine q_callVIp (S_bears (d := d + 1)) dX6_firstThatCannot_66 (rfl : 66 + 3 = 69) lX6_119 vX5_bears (by first | rfl | assumption) rfl rfl (Nat.le_of_ble_eq_true rfl) TM_room TM_cs ?_
      refine q_if_ne_b (q := 75) dX6_firstThatCannot_69 (by decide) (rfl : 69 + 3 = 72) (fun hb => ?_) (fun hb => ?_)
      ·
        first | refine q_iinc1 dX6_firstThatCannot_75 (rfl : 75 + 3 = 78) rfl (by decide) ?_ | refine q_iinc dX6_firstThatCannot_75 (rfl : 75 + 3 = 78) rfl rfl (by decide) ?_
        refine q_goto (q := 3) dX6_firstThatCannot_78 (by decide) ?_
        have e : ftc (I 6) (I 7) more (bearsB I) (k + 1) i hi lo = ftc (I 6) (I 7) more (bearsB I) k (i + 1) (hi + nI 10 * (I 6 i + more i)) (lo + nI 10 * (I 6 i + more i) * I 7 i) := by
          simp only [ftc, if_pos hb]
        rw [e] at hPo
        refine q_forget (L' := [some (.ref 0), some (.int a1), some (.int (hi + nI 10 * (I 6 i + more i))), some (.int (lo + nI 10 * (I 6 i + more i) * I 7 i)), some (.int z), some (.int (nI (i + 1))), none]) (by repeat (first | exact trivial | refine And.intro rfl ?_)) ?_
        exact ih (i + 1) _ _ (by omega) hPo
      ·
        refine q_iload dX6_firstThatCannot_72 (rfl : 72 + 2 = 74) rfl ?_
        have e : ftc (I 6) (I 7) more (bearsB I) (k + 1) i hi lo = i := by
          simp only [ftc, if_neg (show ¬ bearsB I (hi + nI 10 * (I 6 i + more i)) (lo + nI 10 * (I 6 i + more i) * I 7 i) = true by simp [hb])]
        rw [e] at hPo
        exact q_iret rfl dX6_firstThatCannot_74 hPo
theorem S_ftc {d nf f : Nat} {I : HI} {J : HJ} {z hi lo : Int32} {more : Nat → Int32} (hf : I 4 5 = nI nf) (h12 : nf ≤ 12) (hle : f ≤ nf) (hm : ∀ i, MIp mX6_moreInches (d + 1) [.ref 0, .int (nI i), .int z] shA I J RA (more i)) :
    MIp mX6_firstThatCannot (d + 2) [.ref 0, .int (nI f), .int hi, .int lo, .int z] shA I J RA (nI (ftc (I 6) (I 7) more (bearsB I) (nf - f) f hi lo)) := by
  refine Mt.of (L := [some (.ref 0), some (.int (nI f)), some (.int hi), some (.int lo), some (.int z), none, none]) (by decide +kernel) (Nat.le_of_ble_eq_true rfl) rfl ?_
  refine q_iload_n dX6_firstThatCannot_0 (rfl : 0 + 1 = 1) rfl ?_
  refine q_istore dX6_firstThatCannot_1 (rfl : 1 + 2 = 3) (by decide) ?_
  exact L_ftc hf h12 hm (nf - f) f hi lo (by omega) ⟨rfl, rfl, _, rfl, rfl, rfl, rfl⟩
def wI (t d h : Nat → Int32) (sl dust heavy : Int32) (i : Nat) : Int32 := t i * (if dust = d i then nI 10 - sl else sl) * (if heavy = h i then nI 9 else nI 1)
theorem S_weightOf {d i : Nat} {I : HI} {J : HJ} {dust heavy : Int32} (hi : i < 12) : MIp mX6_weightOf d [.ref 0, .int (nI i), .int dust, .int heavy] shA I J RA (wI (I 17) (I 8) (I 7) (I 4 3) dust heavy i) := by
  refine Mt.of (L := [some (.ref 0), some (.int (nI i)), some (.int dust), some (.int heavy), none, none]) (by decide +kernel) (Nat.le_of_ble_eq_true rfl) rfl ?_
  have tail : ∀ c1 c2 : Int32, c1 = (if dust = I 8 i then nI 10 - I 4 3 else I 4 3) → c2 = (if heavy = I 7 i then nI 9 else nI 1) → Wm mX6_weightOf (TM d 0 0 false shA.length (fun sh' v I' J' R' => sh' = shA ∧ R' = RA ∧ ∃ x : Int32, v = some (.int x) ∧ (x = wI (I 17) (I 8) (I 7) (I 4 3) dust heavy i ∧ I' = I ∧ J' = J))) 0 0 shA 54 [some (.ref 0), some (.int (nI i)), some (.int dust), some (.int heavy), some (.int c1), none] [.int c2] I J RA := by
    intro c1 c2 h1 h2
    refine q_istore dX6_weightOf_54 (rfl : 54 + 2 = 56) (by decide) ?_
    refine q_aload_n dX6_weightOf_56 (rfl : 56 + 1 = 57) rfl ?_
    refine q_getR dX6_weightOf_57 (rfl : 57 + 3 = 60) fX6_29 (by first | rfl | assumption) (by first | rfl | assumption) ?_
    refine q_getR dX6_weightOf_60 (rfl : 60 + 3 = 63) fX6_131 (by first | rfl | assumption) (by first | rfl | assumption) ?_
    refine q_iload_n dX6_weightOf_63 (rfl : 63 + 1 = 64) rfl ?_
    refine q_iald dX6_weightOf_64 (rfl : 64 + 1 = 65) (by first | rfl | assumption) (by first | assumption | omega) (by decide) ?_
    refine q_iload dX6_weightOf_65 (rfl : 65 + 2 = 67) rfl ?_
    refine q_imul dX6_weightOf_67 (rfl : 67 + 1 = 68) ?_
    refine q_iload dX6_weightOf_68 (rfl : 68 + 2 = 70) rfl ?_
    refine q_imul dX6_weightOf_70 (rfl : 70 + 1 = 71) ?_
    refine q_iret rfl dX6_weightOf_71 ⟨rfl, rfl, _, rfl, ?_⟩
    exact ⟨by rw [h1, h2]; rfl, rfl, rfl⟩
  have mid : ∀ c1 : Int32, c1 = (if dust = I 8 i then nI 10 - I 4 3 else I 4 3) → Wm mX6_weightOf (TM d 0 0 false shA.length (fun sh' v I' J' R' => sh' = shA ∧ R' = RA ∧ ∃ x : Int32, v = some (.int x) ∧ (x = wI (I 17) (I 8) (I 7) (I 4 3) dust heavy i ∧ I' = I ∧ J' = J))) 0 0 shA 33 [some (.ref 0), some (.int (nI i)), some (.int dust), some (.int heavy), none, none] [.int c1] I J RA := by
    intro c1 h1
    refine q_istore dX6_weightOf_33 (rfl : 33 + 2 = 35) (by decide) ?_
    refine q_iload_n dX6_weightOf_35 (rfl : 35 + 1 = 36) rfl ?_
    refine q_aload_n dX6_weightOf_36 (rfl : 36 + 1 = 37) rfl ?_
    refine q_getR dX6_weightOf_37 (rfl : 37 + 3 = 40) fX6_19 (by first | rfl | assumption) (by first | rfl | assumption) ?_
    refine q_getR dX6_weightOf_40 (rfl : 40 + 3 = 43) fX6_100 (by first | rfl | assumption) (by first | rfl | assumption) ?_
    refine q_iload_n dX6_weightOf_43 (rfl : 43 + 1 = 44) rfl ?_
    refine q_iald dX6_weightOf_44 (rfl : 44 + 1 = 45) (by first | rfl | assumption) (by first | assumption | omega) (by decide) ?_
    refine q_icmp_ne (q := 53) dX6_weightOf_45 (by decide) (rfl : 45 + 3 = 48) (fun e => ?_) (fun e => ?_)
    ·
      refine q_iconst (v := nI 1) dX6_weightOf_53 (rfl : 53 + 1 = 54) (by decide) ?_
      exact tail c1 _ h1 (by rw [if_neg e])
    ·
      refine q_bipush (v := nI 9) dX6_weightOf_48 (rfl : 48 + 2 = 50) (by decide) ?_
      refine q_goto (q := 54) dX6_weightOf_50 (by decide) ?_
      exact tail c1 _ h1 (by rw [if_pos e])
  refine q_iload_n dX6_weightOf_0 (rfl : 0 + 1 = 1) rfl ?_
  refine q_aload_n dX6_weightOf_1 (rfl : 1 + 1 = 2) rfl ?_
  refine q_getR dX6_weightOf_2 (rfl : 2 + 3 = 5) fX6_19 (by first | rfl | assumption) (by first | rfl | assumption) ?_
  refine q_getR dX6_weightOf_5 (rfl : 5 + 3 = 8) fX6_103 (by first | rfl | assumption) (by first | rfl | assumption) ?_
  refine q_iload_n dX6_weightOf_8 (rfl : 8 + 1 = 9) rfl ?_
  refine q_iald dX6_weightOf_9 (rfl : 9 + 1 = 10) (by first | rfl | assumption) (by first | assumption | omega) (by decide) ?_
  refine q_icmp_ne (q := 26) dX6_weightOf_10 (by decide) (rfl : 10 + 3 = 13) (fun e => ?_) (fun e => ?_)
  ·
    refine q_aload_n dX6_weightOf_26 (rfl : 26 + 1 = 27) rfl ?_
    refine q_getR dX6_weightOf_27 (rfl : 27 + 3 = 30) fX6_19 (by first | rfl | assumption) (by first | rfl | assumption) ?_
    refine q_getI dX6_weightOf_30 (rfl : 30 + 3 = 33) fX6_252 (by first | rfl | assumption) ?_
    exact mid _ (by rw [if_neg e])
  ·
    refine q_bipush (v := nI 10) dX6_weightOf_13 (rfl : 13 + 2 = 15) (by decide) ?_
    refine q_aload_n dX6_weightOf_15 (rfl : 15 + 1 = 16) rfl ?_
    refine q_getR dX6_weightOf_16 (rfl : 16 + 3 = 19) fX6_19 (by first | rfl | assumption) (by first | rfl | assumption) ?_
    refine q_getI dX6_weightOf_19 (rfl : 19 + 3 = 22) fX6_252 (by first | rfl | assumption) ?_
    refine q_isub dX6_weightOf_22 (rfl : 22 + 1 = 23) ?_
    refine q_goto (q := 33) dX6_weightOf_23 (by decide) ?_
    exact mid _ (by rw [if_pos e])
theorem L_weightOfAll {d n0 n : Nat} {Po : PO} {I : HI} {J : HJ} {dust heavy : Int32} (hn : I 16 0 = nI n) (h12 : n ≤ 12) (K : Wm mX6_weightOfAll (TM (d + 1) 0 0 false n0 Po) 0 0 shA 34 [some (.ref 0), some (.int dust), some (.int heavy), some (.int (sI (wI (I 17) (I 8) (I 7) (I 4 3) dust heavy) n)), none] [] I J RA) :
    ∀ (i : Nat), i ≤ n → Wm mX6_weightOfAll (TM (d + 1) 0 0 false n0 Po) 0 0 shA 5 [some (.ref 0), some (.int dust), some (.int heavy), some (.int (sI (wI (I 17) (I 8) (I 7) (I 4 3) dust heavy) i)), some (.int (nI i))] [] I J RA := by
  refine loopN (fun i hi ih => ?_)
  refine q_iload dX6_weightOfAll_5 (rfl : 5 + 2 = 7) rfl ?_
  refine q_aload_n dX6_weightOfAll_7 (rfl : 7 + 1 = 8) rfl ?_
  refine q_getR dX6_weightOfAll_8 (rfl : 8 + 3 = 11) fX6_29 (by first | rfl | assumption) (by first | rfl | assumption) ?_
  refine q_getI dX6_weightOfAll_11 (rfl : 11 + 3 = 14) fX6_110 (by first | rfl | assumption) ?_
  try simp (disch := omega) only [wr_hit, wr_p, wr_k, nI_add, pk_mul, nI_1, nI_s1, pk_sub, Nat.add_sub_cancel, hn]
  refine q_icmp_ge_n (q := 34) (by omega) (by omega) dX6_weightOfAll_14 (by decide) (rfl : 14 + 3 = 17) (fun h => ?_) (fun h => ?_)
  ·
    obtain rfl : i = n := by omega
    refine q_forget (L' := [some (.ref 0), some (.int dust), some (.int heavy), some (.int (sI (wI (I 17) (I 8) (I 7) (I 4 3) dust heavy) i)), none]) (by repeat (first | exact trivial | refine And.intro rfl ?_)) ?_
    exact K
  ·
    refine q_iload_n dX6_weightOfAll_17 (rfl : 17 + 1 = 18) rfl ?_
    refine q_aload_n dX6_weightOfAll_18 (rfl : 18 + 1 = 19) rfl ?_
    refine q_iload dX6_weightOfAll_19 (rfl : 19 + 2 = 21) rfl ?_
    refine q_iload_n dX6_weightOfAll_21 (rfl : 21 + 1 = 22) rfl ?_
    refine q_iload_n dX6_weightOfAll_22 (rfl : 22 + 1 = 23) rfl ?_
    refine q_callVIp (S_weightOf (d := d) (show i < 12 by omega)) dX6_weightOfAll_23 (rfl : 23 + 3 = 26) lX6_255 vX6_weightOf (by first | rfl | assumption) rfl rfl (Nat.le_of_ble_eq_true rfl) TM_room TM_cs ?_
    refine q_iadd dX6_weightOfAll_26 (rfl : 26 + 1 = 27) ?_
    try simp (disch := omega) only [wr_hit, wr_p, wr_k, nI_add, pk_mul, nI_1, nI_s1, pk_sub, Nat.add_sub_cancel, hn]
    refine q_istore_n dX6_weightOfAll_27 (rfl : 27 + 1 = 28) (by decide) ?_
    first | refine q_iinc1 dX6_weightOfAll_28 (rfl : 28 + 3 = 31) rfl (by decide) ?_ | refine q_iinc dX6_weightOfAll_28 (rfl : 28 + 3 = 31) rfl rfl (by decide) ?_
    refine q_goto (q := 5) dX6_weightOfAll_31 (by decide) ?_
    exact ih h
theorem S_weightOfAll {d n : Nat} {I : HI} {J : HJ} {dust heavy : Int32} (hn : I 16 0 = nI n) (h12 : n ≤ 12) : MIp mX6_weightOfAll (d + 1) [.ref 0, .int dust, .int heavy] shA I J RA (sI (wI (I 17) (I 8) (I 7) (I 4 3) dust heavy) n) := by
  refine Mt.of (L := [some (.ref 0), some (.int dust), some (.int heavy), none, none]) (by decide +kernel) (Nat.le_of_ble_eq_true rfl) rfl ?_
  refine q_iconst (v := nI 0) dX6_weightOfAll_0 (rfl : 0 + 1 = 1) (by decide) ?_
  refine q_istore_n dX6_weightOfAll_1 (rfl : 1 + 1 = 2) (by decide) ?_
  refine q_iconst (v := nI 0) dX6_weightOfAll_2 (rfl : 2 + 1 = 3) (by decide) ?_
  refine q_istore dX6_weightOfAll_3 (rfl : 3 + 2 = 5) (by decide) ?_
  refine L_weightOfAll (d := d) hn h12 ?_ 0 (by omega)
  refine q_iload_n dX6_weightOfAll_34 (rfl : 34 + 1 = 35) rfl ?_
  refine q_iret rfl dX6_weightOfAll_35 ⟨rfl, rfl, _, rfl, ?_⟩
  exact ⟨rfl, rfl, rfl⟩
def wyI (t y d h : Nat → Int32) (sl dust heavy year : Int32) (i : Nat) : Int32 := if y i = year then wI t d h sl dust heavy i else 0
theorem L_weightOfYear {d n0 n : Nat} {Po : PO} {I : HI} {J : HJ} {dust heavy year : Int32} (hn : I 16 0 = nI n) (h12 : n ≤ 12) (K : Wm mX6_weightOfYear (TM (d + 1) 0 0 false n0 Po) 0 0 shA 51 [some (.ref 0), some (.int dust), some (.int heavy), some (.int year), some (.int (sI (wyI (I 17) (I 5) (I 8) (I 7) (I 4 3) dust heavy year) n)), none] [] I J RA) :
    ∀ (i : Nat), i ≤ n → Wm mX6_weightOfYear (TM (d + 1) 0 0 false n0 Po) 0 0 shA 6 [some (.ref 0), some (.int dust), some (.int heavy), some (.int year), some (.int (sI (wyI (I 17) (I 5) (I 8) (I 7) (I 4 3) dust heavy year) i)), some (.int (nI i))] [] I J RA := by
  refine loopN (fun i hi ih => ?_)
  refine q_iload dX6_weightOfYear_6 (rfl : 6 + 2 = 8) rfl ?_
  refine q_aload_n dX6_weightOfYear_8 (rfl : 8 + 1 = 9) rfl ?_
  refine q_getR dX6_weightOfYear_9 (rfl : 9 + 3 = 12) fX6_29 (by first | rfl | assumption) (by first | rfl | assumption) ?_
  refine q_getI dX6_weightOfYear_12 (rfl : 12 + 3 = 15) fX6_110 (by first | rfl | assumption) ?_
  try simp (disch := omega) only [wr_hit, wr_p, wr_k, nI_add, pk_mul, nI_1, nI_s1, pk_sub, Nat.add_sub_cancel, hn]
  refine q_icmp_ge_n (q := 51) (by omega) (by omega) dX6_weightOfYear_15 (by decide) (rfl : 15 + 3 = 18) (fun h => ?_) (fun h => ?_)
  ·
    obtain rfl : i = n := by omega
    refine q_forget (L' := [some (.ref 0), some (.int dust), some (.int heavy), some (.int year), some (.int (sI (wyI (I 17) (I 5) (I 8) (I 7) (I 4 3) dust heavy year) i)), none]) (by repeat (first | exact trivial | refine And.intro rfl ?_)) ?_
    exact K
  ·
    refine q_aload_n dX6_weightOfYear_18 (rfl : 18 + 1 = 19) rfl ?_
    refine q_getR dX6_weightOfYear_19 (rfl : 19 + 3 = 22) fX6_19 (by first | rfl | assumption) (by first | rfl | assumption) ?_
    refine q_getR dX6_weightOfYear_22 (rfl : 22 + 3 = 25) fX6_93 (by first | rfl | assumption) (by first | rfl | assumption) ?_
    refine q_iload dX6_weightOfYear_25 (rfl : 25 + 2 = 27) rfl ?_
    refine q_iald dX6_weightOfYear_27 (rfl : 27 + 1 = 28) (by first | rfl | assumption) (by first | assumption | omega) (by decide) ?_
    try simp (disch := omega) only [wr_hit, wr_p, wr_k, nI_add, pk_mul, nI_1, nI_s1, pk_sub, Nat.add_sub_cancel, hn]
    refine q_iload_n dX6_weightOfYear_28 (rfl : 28 + 1 = 29) rfl ?_
    refine q_icmp_ne (q := 45) dX6_weightOfYear_29 (by decide) (rfl : 29 + 3 = 32) (fun e => ?_) (fun e => ?_)
    ·
      first | refine q_iinc1 dX6_weightOfYear_45 (rfl : 45 + 3 = 48) rfl (by decide) ?_ | refine q_iinc dX6_weightOfYear_45 (rfl : 45 + 3 = 48) rfl rfl (by decide) ?_
      refine q_goto (q := 6) dX6_weightOfYear_48 (by decide) ?_
      have e3 : sI (wyI (I 17) (I 5) (I 8) (I 7) (I 4 3) dust heavy year) (i + 1) = sI (wyI (I 17) (I 5) (I 8) (I 7) (I 4 3) dust heavy year) i := by
        simp only [sI, wyI, if_neg e, Int32.add_zero]
      rw [← e3]
      exact ih h
    ·
      refine q_iload dX6_weightOfYear_32 (rfl : 32 + 2 = 34) rfl ?_
      refine q_aload_n dX6_weightOfYear_34 (rfl : 34 + 1 = 35) rfl ?_
      refine q_iload dX6_weightOfYear_35 (rfl : 35 + 2 = 37) rfl ?_
      refine q_iload_n dX6_weightOfYear_37 (rfl : 37 + 1 = 38) rfl ?_
      refine q_iload_n dX6_weightOfYear_38 (rfl : 38 + 1 = 39) rfl ?_
      refine q_callVIp (S_weightOf (d := d) (show i < 12 by omega)) dX6_weightOfYear_39 (rfl : 39 + 3 = 42) lX6_255 vX6_weightOf (by first | rfl | assumption) rfl rfl (Nat.le_of_ble_eq_true rfl) TM_room TM_cs ?_
      refine q_iadd dX6_weightOfYear_42 (rfl : 42 + 1 = 43) ?_
      try simp (disch := omega) only [wr_hit, wr_p, wr_k, nI_add, pk_mul, nI_1, nI_s1, pk_sub, Nat.add_sub_cancel, hn]
      refine q_istore dX6_weightOfYear_43 (rfl : 43 + 2 = 45) (by decide) ?_
      first | refine q_iinc1 dX6_weightOfYear_45 (rfl : 45 + 3 = 48) rfl (by decide) ?_ | refine q_iinc dX6_weightOfYear_45 (rfl : 45 + 3 = 48) rfl rfl (by decide) ?_
      refine q_goto (q := 6) dX6_weightOfYear_48 (by decide) ?_
      have e3 : sI (wyI (I 17) (I 5) (I 8) (I 7) (I 4 3) dust heavy year) (i + 1) = sI (wyI (I 17) (I 5) (I 8) (I 7) (I 4 3) dust heavy year) i + wI (I 17) (I 8) (I 7) (I 4 3) dust heavy i := by
        simp only [sI, wyI, if_pos e]
      rw [← e3]
      exact ih h
theorem S_weightOfYear {d n : Nat} {I : HI} {J : HJ} {dust heavy year : Int32} (hn : I 16 0 = nI n) (h12 : n ≤ 12) : MIp mX6_weightOfYear (d + 1) [.ref 0, .int dust, .int heavy, .int year] shA I J RA (sI (wyI (I 17) (I 5) (I 8) (I 7) (I 4 3) dust heavy year) n) := by
  refine Mt.of (L := [some (.ref 0), some (.int dust), some (.int heavy), some (.int year), none, none]) (by decide +kernel) (Nat.le_of_ble_eq_true rfl) rfl ?_
  refine q_iconst (v := nI 0) dX6_weightOfYear_0 (rfl : 0 + 1 = 1) (by decide) ?_
  refine q_istore dX6_weightOfYear_1 (rfl : 1 + 2 = 3) (by decide) ?_
  refine q_iconst (v := nI 0) dX6_weightOfYear_3 (rfl : 3 + 1 = 4) (by decide) ?_
  refine q_istore dX6_weightOfYear_4 (rfl : 4 + 2 = 6) (by decide) ?_
  refine L_weightOfYear (d := d) hn h12 ?_ 0 (by omega)
  refine q_iload dX6_weightOfYear_51 (rfl : 51 + 2 = 53) rfl ?_
  refine q_iret rfl dX6_weightOfYear_53 ⟨rfl, rfl, _, rfl, ?_⟩
  exact ⟨rfl, rfl, rfl⟩
def tyI (t y : Nat → Int32) (year : Int32) (i : Nat) : Int32 := if y i = year then t i else 0
theorem L_tenthsOfYear {T : Tg} {n : Nat} {I : HI} {J : HJ} {year : Int32} (hn : I 16 0 = nI n) (h12 : n ≤ 12) (K : Wm mX6_tenthsOfYear T 0 0 shA 46 [some (.ref 0), some (.int year), some (.int (sI (tyI (I 17) (I 5) year) n)), none] [] I J RA) :
    ∀ (i : Nat), i ≤ n → Wm mX6_tenthsOfYear T 0 0 shA 4 [some (.ref 0), some (.int year), some (.int (sI (tyI (I 17) (I 5) year) i)), some (.int (nI i))] [] I J RA := by
  refine loopN (fun i hi ih => ?_)
  refine q_iload_n dX6_tenthsOfYear_4 (rfl : 4 + 1 = 5) rfl ?_
  refine q_aload_n dX6_tenthsOfYear_5 (rfl : 5 + 1 = 6) rfl ?_
  refine q_getR dX6_tenthsOfYear_6 (rfl : 6 + 3 = 9) fX6_29 (by first | rfl | assumption) (by first | rfl | assumption) ?_
  refine q_getI dX6_tenthsOfYear_9 (rfl : 9 + 3 = 12) fX6_110 (by first | rfl | assumption) ?_
  try simp (disch := omega) only [wr_hit, wr_p, wr_k, nI_add, pk_mul, nI_1, nI_s1, pk_sub, Nat.add_sub_cancel, hn]
  refine q_icmp_ge_n (q := 46) (by omega) (by omega) dX6_tenthsOfYear_12 (by decide) (rfl : 12 + 3 = 15) (fun h => ?_) (fun h => ?_)
  ·
    obtain rfl : i = n := by omega
    refine q_forget (L' := [some (.ref 0), some (.int year), some (.int (sI (tyI (I 17) (I 5) year) i)), none]) (by repeat (first | exact trivial | refine And.intro rfl ?_)) ?_
    exact K
  ·
    refine q_aload_n dX6_tenthsOfYear_15 (rfl : 15 + 1 = 16) rfl ?_
    refine q_getR dX6_tenthsOfYear_16 (rfl : 16 + 3 = 19) fX6_19 (by first | rfl | assumption) (by first | rfl | assumption) ?_
    refine q_getR dX6_tenthsOfYear_19 (rfl : 19 + 3 = 22) fX6_93 (by first | rfl | assumption) (by first | rfl | assumption) ?_
    refine q_iload_n dX6_tenthsOfYear_22 (rfl : 22 + 1 = 23) rfl ?_
    refine q_iald dX6_tenthsOfYear_23 (rfl : 23 + 1 = 24) (by first | rfl | assumption) (by first | assumption | omega) (by decide) ?_
    try simp (disch := omega) only [wr_hit, wr_p, wr_k, nI_add, pk_mul, nI_1, nI_s1, pk_sub, Nat.add_sub_cancel, hn]
    refine q_iload_n dX6_tenthsOfYear_24 (rfl : 24 + 1 = 25) rfl ?_
    refine q_icmp_ne (q := 40) dX6_tenthsOfYear_25 (by decide) (rfl : 25 + 3 = 28) (fun e => ?_) (fun e => ?_)
    ·
      first | refine q_iinc1 dX6_tenthsOfYear_40 (rfl : 40 + 3 = 43) rfl (by decide) ?_ | refine q_iinc dX6_tenthsOfYear_40 (rfl : 40 + 3 = 43) rfl rfl (by decide) ?_
      refine q_goto (q := 4) dX6_tenthsOfYear_43 (by decide) ?_
      have e3 : sI (tyI (I 17) (I 5) year) (i + 1) = sI (tyI (I 17) (I 5) year) i := by
        simp only [sI, tyI, if_neg e, Int32.add_zero]
      rw [← e3]
      exact ih h
    ·
      refine q_iload_n dX6_tenthsOfYear_28 (rfl : 28 + 1 = 29) rfl ?_
      refine q_aload_n dX6_tenthsOfYear_29 (rfl : 29 + 1 = 30) rfl ?_
      refine q_getR dX6_tenthsOfYear_30 (rfl : 30 + 3 = 33) fX6_29 (by first | rfl | assumption) (by first | rfl | assumption) ?_
      refine q_getR dX6_tenthsOfYear_33 (rfl : 33 + 3 = 36) fX6_131 (by first | rfl | assumption) (by first | rfl | assumption) ?_
      refine q_iload_n dX6_tenthsOfYear_36 (rfl : 36 + 1 = 37) rfl ?_
      refine q_iald dX6_tenthsOfYear_37 (rfl : 37 + 1 = 38) (by first | rfl | assumption) (by first | assumption | omega) (by decide) ?_
      try simp (disch := omega) only [wr_hit, wr_p, wr_k, nI_add, pk_mul, nI_1, nI_s1, pk_sub, Nat.add_sub_cancel, hn]
      refine q_iadd dX6_tenthsOfYear_38 (rfl : 38 + 1 = 39) ?_
      try simp (disch := omega) only [wr_hit, wr_p, wr_k, nI_add, pk_mul, nI_1, nI_s1, pk_sub, Nat.add_sub_cancel, hn]
      refine q_istore_n dX6_tenthsOfYear_39 (rfl : 39 + 1 = 40) (by decide) ?_
      first | refine q_iinc1 dX6_tenthsOfYear_40 (rfl : 40 + 3 = 43) rfl (by decide) ?_ | refine q_iinc dX6_tenthsOfYear_40 (rfl : 40 + 3 = 43) rfl rfl (by decide) ?_
      refine q_goto (q := 4) dX6_tenthsOfYear_43 (by decide) ?_
      have e3 : sI (tyI (I 17) (I 5) year) (i + 1) = sI (tyI (I 17) (I 5) year) i + I 17 i := by
        simp only [sI, tyI, if_pos e]
      rw [← e3]
      exact ih h
theorem S_tenthsOfYear {d n : Nat} {I : HI} {J : HJ} {year : Int32} (hn : I 16 0 = nI n) (h12 : n ≤ 12) : MIp mX6_tenthsOfYear d [.ref 0, .int year] shA I J RA (sI (tyI (I 17) (I 5) year) n) := by
  refine Mt.of (L := [some (.ref 0), some (.int year), none, none]) (by decide +kernel) (Nat.le_of_ble_eq_true rfl) rfl ?_
  refine q_iconst (v := nI 0) dX6_tenthsOfYear_0 (rfl : 0 + 1 = 1) (by decide) ?_
  refine q_istore_n dX6_tenthsOfYear_1 (rfl : 1 + 1 = 2) (by decide) ?_
  refine q_iconst (v := nI 0) dX6_tenthsOfYear_2 (rfl : 2 + 1 = 3) (by decide) ?_
  refine q_istore_n dX6_tenthsOfYear_3 (rfl : 3 + 1 = 4) (by decide) ?_
  refine L_tenthsOfYear hn h12 ?_ 0 (by omega)
  refine q_iload_n dX6_tenthsOfYear_46 (rfl : 46 + 1 = 47) rfl ?_
  refine q_iret rfl dX6_tenthsOfYear_47 ⟨rfl, rfl, _, rfl, ?_⟩
  exact ⟨rfl, rfl, rfl⟩
def cdI (k : Nat) (a b : Int32) : Int32 := match k with
  | 0 => a
  | k + 1 => if b = 0 then a else cdI k b (a - a / b * b)
theorem L_cd {d n0 : Nat} {Po : PO} {sh : List Kd} {I : HI} {J : HJ} {R : HR} :
    ∀ (k s : Nat) (a b : Int32), s + k = 64 → Po sh (some (.int (cdI k a b))) I J R → Wm mX6_commonDivisor (TM d 0 0 false n0 Po) 0 0 sh 2 [some (.int a), some (.int b), some (.int (nI s)), none] [] I J R := by
  intro k
  induction k with
  | zero =>
    intro s a b hk hPo
    obtain rfl : s = 64 := by omega
    refine q_iload_n dX6_commonDivisor_2 (rfl : 2 + 1 = 3) rfl ?_
    refine q_bipush (v := nI 64) dX6_commonDivisor_3 (rfl : 3 + 2 = 5) (by decide) ?_
    refine q_icmp_ge_n (q := 26) (by omega) (by omega) dX6_commonDivisor_5 (by decide) (rfl : 5 + 3 = 8) (fun h => ?_) (fun h => ?_)
    ·
      refine q_iload_n dX6_commonDivisor_26 (rfl : 26 + 1 = 27) rfl ?_
      exact q_iret rfl dX6_commonDivisor_27 hPo
    ·
      omega
  | succ k ih =>
    intro s a b hk hPo
    refine q_iload_n dX6_commonDivisor_2 (rfl : 2 + 1 = 3) rfl ?_
    refine q_bipush (v := nI 64) dX6_commonDivisor_3 (rfl : 3 + 2 = 5) (by decide) ?_
    refine q_icmp_ge_n (q := 26) (by omega) (by omega) dX6_commonDivisor_5 (by decide) (rfl : 5 + 3 = 8) (fun h => ?_) (fun h => ?_)
    · omega
    ·
      refine q_iload_n dX6_commonDivisor_8 (rfl : 8 + 1 = 9) rfl ?_
      refine q_if_eq (q := 26) dX6_commonDivisor_9 (by decide) (rfl : 9 + 3 = 12) (fun e => ?_) (fun e => ?_)
      ·
        refine q_iload_n dX6_commonDivisor_26 (rfl : 26 + 1 = 27) rfl ?_
        have e2 : cdI (k + 1) a b = a := by simp only [cdI, if_pos e]
        rw [e2] at hPo
        exact q_iret rfl dX6_commonDivisor_27 hPo
      ·
        refine q_iload_n dX6_commonDivisor_12 (rfl : 12 + 1 = 13) rfl ?_
        refine q_iload_n dX6_commonDivisor_13 (rfl : 13 + 1 = 14) rfl ?_
        refine q_irem dX6_commonDivisor_14 (rfl : 14 + 1 = 15) (by first | assumption | decide) ?_
        refine q_istore_n dX6_commonDivisor_15 (rfl : 15 + 1 = 16) (by decide) ?_
        refine q_iload_n dX6_commonDivisor_16 (rfl : 16 + 1 = 17) rfl ?_
        refine q_istore_n dX6_commonDivisor_17 (rfl : 17 + 1 = 18) (by decide) ?_
        refine q_iload_n dX6_commonDivisor_18 (rfl : 18 + 1 = 19) rfl ?_
        refine q_istore_n dX6_commonDivisor_19 (rfl : 19 + 1 = 20) (by decide) ?_
        first | refine q_iinc1 dX6_commonDivisor_20 (rfl : 20 + 3 = 23) rfl (by decide) ?_ | refine q_iinc dX6_commonDivisor_20 (rfl : 20 + 3 = 23) rfl rfl (by decide) ?_
        refine q_goto (q := 2) dX6_commonDivisor_23 (by decide) ?_
        have e2 : cdI (k + 1) a b = cdI k b (a - a / b * b) := by simp only [cdI, if_neg e]
        rw [e2] at hPo
        refine q_forget (L' := [some (.int b), some (.int (a - a / b * b)), some (.int (nI (s + 1))), none]) (by repeat (first | exact trivial | refine And.intro rfl ?_)) ?_
        exact ih (s + 1) _ _ (by omega) hPo
theorem S_cd {d : Nat} {sh : List Kd} {I : HI} {J : HJ} {R : HR} {a b : Int32} : MIp mX6_commonDivisor d [.int a, .int b] sh I J R (cdI 64 a b) := by
  refine Mt.of (L := [some (.int a), some (.int b), none, none]) (by decide +kernel) (Nat.le_of_ble_eq_true rfl) rfl ?_
  refine q_iconst (v := nI 0) dX6_commonDivisor_0 (rfl : 0 + 1 = 1) (by decide) ?_
  refine q_istore_n dX6_commonDivisor_1 (rfl : 1 + 1 = 2) (by decide) ?_
  exact L_cd 64 0 a b (by omega) ⟨rfl, rfl, _, rfl, rfl, rfl, rfl⟩
