/-! the reference: ranges, bytes, falls, the barn -/
def inJ (v a b : Int64) : Bool := decide (a ≤ v) && decide (v ≤ b)
theorem lgc_lt {x y : Int64} : lg_cmp x y < 0 ↔ x < y := by
  rw [← Int32.not_le, lg_cmp_ge, Int64.not_le]
theorem lgc_gt {x y : Int64} : 0 < lg_cmp x y ↔ y < x := by
  unfold lg_cmp
  simp only [gt_iff_lt]
  by_cases h : y < x
  · rw [if_pos h]
    exact ⟨fun _ => h, fun _ => by decide⟩
  · rw [if_neg h]
    split
    · exact ⟨fun z => absurd z (by decide), fun z => absurd z h⟩
    · exact ⟨fun z => absurd z (by decide), fun z => absurd z h⟩
theorem S_inJ {d : Nat} {sh : List Kd} {I : HI} {J : HJ} {R : HR} {v a b : Int64} : MIp mX7_in d [.long v, .long a, .long b] sh I J R (bI (inJ v a b)) := by
  refine Mt.of (L := [some (.long v), none, some (.long a), none, some (.long b), none]) (by decide +kernel) (Nat.le_of_ble_eq_true rfl) rfl ?_
  refine q_lload_n dX7_in_0 (rfl : 0 + 1 = 1) rfl ?_
  refine q_lload_n dX7_in_1 (rfl : 1 + 1 = 2) rfl ?_
  refine q_lcmp dX7_in_2 (rfl : 2 + 1 = 3) ?_
  refine q_if_lt (q := 17) dX7_in_3 (by decide) (rfl : 3 + 3 = 6) (fun h => ?_) (fun h => ?_)
  ·
    have h' := lgc_lt.mp h
    refine q_iconst (v := nI 0) dX7_in_17 (rfl : 17 + 1 = 18) (by decide) ?_
    refine q_zret rfl dX7_in_18 (by first | exact bI_01 _ | exact Or.inl rfl | exact Or.inr rfl) ⟨rfl, rfl, _, rfl, ?_⟩
    have e : inJ v a b = false := by unfold inJ; rw [decide_eq_false (Int64.not_le.mpr h')]; rfl
    rw [e]
    exact ⟨rfl, rfl, rfl⟩
  ·
    have h' : a ≤ v := Int64.not_lt.mp (fun z => h (lgc_lt.mpr z))
    refine q_lload_n dX7_in_6 (rfl : 6 + 1 = 7) rfl ?_
    refine q_lload dX7_in_7 (rfl : 7 + 2 = 9) rfl ?_
    refine q_lcmp dX7_in_9 (rfl : 9 + 1 = 10) ?_
    refine q_if_gt (q := 17) dX7_in_10 (by decide) (rfl : 10 + 3 = 13) (fun h2 => ?_) (fun h2 => ?_)
    ·
      have h2' := lgc_gt.mp h2
      refine q_iconst (v := nI 0) dX7_in_17 (rfl : 17 + 1 = 18) (by decide) ?_
      refine q_zret rfl dX7_in_18 (by first | exact bI_01 _ | exact Or.inl rfl | exact Or.inr rfl) ⟨rfl, rfl, _, rfl, ?_⟩
      have e : inJ v a b = false := by unfold inJ; rw [decide_eq_false (Int64.not_le.mpr h2')]; simp
      rw [e]
      exact ⟨rfl, rfl, rfl⟩
    ·
      have h2' : v ≤ b := Int64.not_lt.mp (fun z => h2 (lgc_gt.mpr z))
      refine q_iconst (v := nI 1) dX7_in_13 (rfl : 13 + 1 = 14) (by decide) ?_
      refine q_goto (q := 18) dX7_in_14 (by decide) ?_
      refine q_zret rfl dX7_in_18 (by first | exact bI_01 _ | exact Or.inl rfl | exact Or.inr rfl) ⟨rfl, rfl, _, rfl, ?_⟩
      have e : inJ v a b = true := by unfold inJ; simp [h', h2']
      rw [e]
      exact ⟨rfl, rfl, rfl⟩
theorem inJ_inr (v a b : Int32) : inJ v.toInt64 a.toInt64 b.toInt64 = inr v a b := by
  unfold inJ inr
  simp only [Int64.le_iff_toInt_le, Int32.le_iff_toInt_le, Int32.toInt_toInt64]
theorem S_inI {d : Nat} {sh : List Kd} {I : HI} {J : HJ} {R : HR} {x a b : Int32} {v lo hi : Int64} (h1 : v = x.toInt64) (h2 : lo = a.toInt64) (h3 : hi = b.toInt64) : MIp mX7_in d [.long v, .long lo, .long hi] sh I J R (bI (inr x a b)) := by
  have := S_inJ (d := d) (sh := sh) (I := I) (J := J) (R := R) (v := v) (a := lo) (b := hi)
  rw [h1, h2, h3, inJ_inr] at this
  subst h1 h2 h3
  exact this
def bM (v : Int64) (s : Nat) : Int32 := vp_nar .byte (((v >>> ((nI (8 * s)).toInt64 &&& 63)).toInt32).toInt8.toInt32)
def mapH (I : HI) (nt n : Nat) (v : Int64) (j : Nat) : HI := fun a b => if a = 45 ∧ nt ≤ b ∧ b < nt + j then bM v (n - 1 - (b - nt)) else if a = 44 ∧ b = 0 then nI (nt + j) else I a b
theorem mapH_0 {I : HI} {nt n : Nat} {v : Int64} (h : I 44 0 = nI nt) : mapH I nt n v 0 = I := by
  funext a b
  unfold mapH
  rw [if_neg (by omega)]
  split
  · rename_i h2
    obtain ⟨rfl, rfl⟩ := h2
    exact h.symm
  · rfl
theorem mapH_s {I : HI} {nt n j s : Nat} {v : Int64} (h : s = n - 1 - j) : wr (wr (mapH I nt n v j) 45 (nt + j) (bM v s)) 44 0 (nI (nt + j + 1)) = mapH I nt n v (j + 1) := by
  subst h
  funext a b
  unfold wr mapH
  by_cases h1 : a = 44
  · subst h1
    by_cases hb : b = 0
    · subst hb; simp; rfl
    · simp [hb]
  · by_cases h2 : a = 45
    · subst h2
      by_cases hb : b = nt + j
      · subst hb; simp
      · by_cases hl : nt ≤ b ∧ b < nt + j
        · simp [hb, hl, show nt ≤ b ∧ b < nt + (j + 1) by omega]
        · simp [hb, hl, show ¬ (nt ≤ b ∧ b < nt + (j + 1)) by omega]
    · simp [h1, h2]
theorem mapH_len {I : HI} {nt n j : Nat} {v : Int64} : mapH I nt n v j 44 0 = nI (nt + j) := by simp [mapH]
theorem L_mwrite {T : Tg} {I : HI} {J : HJ} {nt n : Nat} {v : Int64} (h4 : nt + n ≤ 400) (K : Wm mX7_write T 0 0 shA 73 [some (.ref 44), some (.int (nI n)), some (.long v), none, none] [] (mapH I nt n v n) J RA) :
    ∀ (j : Nat), j ≤ n → Wm mX7_write T 0 0 shA 34 [some (.ref 44), some (.int (nI n)), some (.long v), none, some (.int (nI (n - j) - nI 1))] [] (mapH I nt n v j) J RA := by
  refine loopN (fun j hj ih => ?_)
  refine q_iload dX7_write_34 (rfl : 34 + 2 = 36) rfl ?_
  refine q_if_lt (q := 73) dX7_write_36 (by decide) (rfl : 36 + 3 = 39) (fun h => ?_) (fun h => ?_)
  ·
    have : j = n := by
      rcases Nat.lt_or_ge j n with q | q
      · obtain ⟨s, hs⟩ : ∃ s, n - j = s + 1 := ⟨n - j - 1, by omega⟩
        rw [hs, nI_s1] at h
        exact absurd h (nI_pos (by omega))
      · omega
    subst this
    refine q_forget (L' := [some (.ref 44), some (.int (nI j)), some (.long v), none, none]) (by repeat (first | exact trivial | refine And.intro rfl ?_)) ?_
    exact K
  ·
    have hlt : j < n := by
      rcases Nat.lt_or_ge j n with q | q
      · exact q
      · rw [show n - j = 0 by omega] at h
        exact absurd nI_m1neg h
    obtain ⟨s, hs⟩ : ∃ s, n - j = s + 1 := ⟨n - j - 1, by omega⟩
    rw [hs, nI_s1]
    refine q_aload_n dX7_write_39 (rfl : 39 + 1 = 40) rfl ?_
    refine q_getR dX7_write_40 (rfl : 40 + 3 = 43) fX7_7 (by first | rfl | assumption) (by first | rfl | assumption) ?_
    refine q_aload_n dX7_write_43 (rfl : 43 + 1 = 44) rfl ?_
    refine q_getI dX7_write_44 (rfl : 44 + 3 = 47) fX7_81 (by first | rfl | assumption) ?_
    try simp (disch := omega) only [wr_hit, wr_p, wr_k, nI_add, pk_mul, nI_1, nI_s1, pk_sub, Nat.add_sub_cancel, mapH_len]
    refine q_lload_n dX7_write_47 (rfl : 47 + 1 = 48) rfl ?_
    refine q_bipush (v := nI 8) dX7_write_48 (rfl : 48 + 2 = 50) (by decide) ?_
    refine q_iload dX7_write_50 (rfl : 50 + 2 = 52) rfl ?_
    refine q_imul dX7_write_52 (rfl : 52 + 1 = 53) ?_
    try simp (disch := omega) only [wr_hit, wr_p, wr_k, nI_add, pk_mul, nI_1, nI_s1, pk_sub, Nat.add_sub_cancel, mapH_len]
    refine q_lshr dX7_write_53 (rfl : 53 + 1 = 54) ?_
    refine q_l2i dX7_write_54 (rfl : 54 + 1 = 55) ?_
    refine q_i2b dX7_write_55 (rfl : 55 + 1 = 56) ?_
    refine q_bast dX7_write_56 (rfl : 56 + 1 = 57) (by first | rfl | assumption) (by first | assumption | omega) (by decide) ?_
    refine q_aload_n dX7_write_57 (rfl : 57 + 1 = 58) rfl ?_
    refine q_dup dX7_write_58 (rfl : 58 + 1 = 59) rfl ?_
    refine q_getI dX7_write_59 (rfl : 59 + 3 = 62) fX7_81 (by first | rfl | assumption) ?_
    try simp (disch := omega) only [wr_hit, wr_p, wr_k, nI_add, pk_mul, nI_1, nI_s1, pk_sub, Nat.add_sub_cancel, mapH_len]
    refine q_iconst (v := nI 1) dX7_write_62 (rfl : 62 + 1 = 63) (by decide) ?_
    refine q_iadd dX7_write_63 (rfl : 63 + 1 = 64) ?_
    try simp (disch := omega) only [wr_hit, wr_p, wr_k, nI_add, pk_mul, nI_1, nI_s1, pk_sub, Nat.add_sub_cancel, mapH_len]
    refine q_putI dX7_write_64 (rfl : 64 + 3 = 67) pX7_81 (by first | rfl | assumption) ?_
    refine q_iinc dX7_write_67 (rfl : 67 + 3 = 70) rfl rfl (by decide) ?_
    refine q_goto (q := 34) dX7_write_70 (by decide) ?_
    rw [nI_m1]
    have e2 := mapH_s (I := I) (nt := nt) (v := v) (show s = n - 1 - j by omega)
    unfold bM at e2
    rw [e2]
    have := ih hlt
    rw [show n - (j + 1) = s by omega] at this
    exact this
theorem S_mwrite_bad {d : Nat} {I : HI} {J : HJ} {n : Int32} {v : Int64} (h : inr n (nI 1) (nI 8) = false) : MIp mX7_write (d + 1) [.ref 44, .int n, .long v] shA I J RA (-1) := by
  refine Mt.of (L := [some (.ref 44), some (.int n), some (.long v), none, none]) (by decide +kernel) (Nat.le_of_ble_eq_true rfl) rfl ?_
  refine q_iload_n dX7_write_0 (rfl : 0 + 1 = 1) rfl ?_
  refine q_i2l dX7_write_1 (rfl : 1 + 1 = 2) ?_
  refine q_lconst (v := 1) dX7_write_2 (rfl : 2 + 1 = 3) (by decide) ?_
  refine q_ldc2 dX7_write_3 (rfl : 3 + 3 = 6) kX7_75 ?_
  refine q_callSIp (S_inI (x := n) (a := nI 1) (b := nI 8) rfl (by decide) (by decide)) dX7_write_6 (rfl : 6 + 3 = 9) lX7_77 vX7_in rfl rfl (Nat.le_of_ble_eq_true rfl) TM_room TM_cs ?_
  refine q_if_ne_b (q := 14) dX7_write_9 (by decide) (rfl : 9 + 3 = 12) (fun h2 => ?_) (fun h2 => ?_)
  · rw [h] at h2; cases h2
  ·
    refine q_iconst (v := -1) dX7_write_12 (rfl : 12 + 1 = 13) (by decide) ?_
    refine q_iret rfl dX7_write_13 ⟨rfl, rfl, _, rfl, ?_⟩
    exact ⟨rfl, rfl, rfl⟩
theorem S_mwrite {d nt n : Nat} {I : HI} {J : HJ} {v : Int64} (ht : I 44 0 = nI nt) (h4 : nt ≤ 400) (h1 : 1 ≤ n) (h8 : n ≤ 8) : MI mX7_write (d + 1) [.ref 44, .int (nI n), .long v] shA I J RA (fun x I' J' => x = (if nt + n ≤ 400 then nI (nt + n) else -3) ∧ I' = (if nt + n ≤ 400 then mapH I nt n v n else I) ∧ J' = J) := by
  refine Mt.of (L := [some (.ref 44), some (.int (nI n)), some (.long v), none, none]) (by decide +kernel) (Nat.le_of_ble_eq_true rfl) rfl ?_
  refine q_iload_n dX7_write_0 (rfl : 0 + 1 = 1) rfl ?_
  refine q_i2l dX7_write_1 (rfl : 1 + 1 = 2) ?_
  refine q_lconst (v := 1) dX7_write_2 (rfl : 2 + 1 = 3) (by decide) ?_
  refine q_ldc2 dX7_write_3 (rfl : 3 + 3 = 6) kX7_75 ?_
  refine q_callSIp (S_inI (x := nI n) (a := nI 1) (b := nI 8) rfl (by decide) (by decide)) dX7_write_6 (rfl : 6 + 3 = 9) lX7_77 vX7_in rfl rfl (Nat.le_of_ble_eq_true rfl) TM_room TM_cs ?_
  refine q_if_ne_b (q := 14) dX7_write_9 (by decide) (rfl : 9 + 3 = 12) (fun h2 => ?_) (fun h2 => ?_)
  ·
    refine q_aload_n dX7_write_14 (rfl : 14 + 1 = 15) rfl ?_
    refine q_getI dX7_write_15 (rfl : 15 + 3 = 18) fX7_81 (by first | rfl | assumption) ?_
    try simp (disch := omega) only [wr_hit, wr_p, wr_k, nI_add, pk_mul, nI_1, nI_s1, pk_sub, Nat.add_sub_cancel, ht]
    refine q_iload_n dX7_write_18 (rfl : 18 + 1 = 19) rfl ?_
    refine q_iadd dX7_write_19 (rfl : 19 + 1 = 20) ?_
    try simp (disch := omega) only [wr_hit, wr_p, wr_k, nI_add, pk_mul, nI_1, nI_s1, pk_sub, Nat.add_sub_cancel, ht]
    refine q_sipush (v := nI 400) dX7_write_20 (rfl : 20 + 3 = 23) (by decide) ?_
    refine q_icmp_le_n (q := 29) (by omega) (by omega) dX7_write_23 (by decide) (rfl : 23 + 3 = 26) (fun h3 => ?_) (fun h3 => ?_)
    ·
      refine q_iload_n dX7_write_29 (rfl : 29 + 1 = 30) rfl ?_
      refine q_iconst (v := nI 1) dX7_write_30 (rfl : 30 + 1 = 31) (by decide) ?_
      refine q_isub dX7_write_31 (rfl : 31 + 1 = 32) ?_
      refine q_istore dX7_write_32 (rfl : 32 + 2 = 34) (by decide) ?_
      have key := L_mwrite (J := J) (I := I) (v := v) (nt := nt) (n := n) (T := TM (d + 1) 0 0 false shA.length (fun sh' w I' J' R' => sh' = shA ∧ R' = RA ∧ ∃ x : Int32, w = some (.int x) ∧ (x = (if nt + n ≤ 400 then nI (nt + n) else -3) ∧ I' = (if nt + n ≤ 400 then mapH I nt n v n else I) ∧ J' = J))) h3 ?_ 0 (by omega)
      · rw [mapH_0 ht] at key
        exact key
      refine q_aload_n dX7_write_73 (rfl : 73 + 1 = 74) rfl ?_
      refine q_getI dX7_write_74 (rfl : 74 + 3 = 77) fX7_81 (by first | rfl | assumption) ?_
      try simp (disch := omega) only [wr_hit, wr_p, wr_k, nI_add, pk_mul, nI_1, nI_s1, pk_sub, Nat.add_sub_cancel, mapH_len]
      refine q_iret rfl dX7_write_77 ⟨rfl, rfl, _, rfl, ?_⟩
      rw [if_pos h3, if_pos h3]
      exact ⟨rfl, rfl, rfl⟩
    ·
      refine q_bipush (v := -3) dX7_write_26 (rfl : 26 + 2 = 28) (by decide) ?_
      refine q_iret rfl dX7_write_28 ⟨rfl, rfl, _, rfl, ?_⟩
      rw [if_neg (by omega), if_neg (by omega)]
      exact ⟨rfl, rfl, rfl⟩
  · rw [inr_of h1 h8 (by decide)] at h2; cases h2
theorem S_mwipe {d : Nat} {I : HI} {J : HJ} : MI mX7_wipe d [.ref 44] shA I J RA (fun x I' J' => x = I 44 0 ∧ I' = wr I 44 0 (nI 0) ∧ J' = J) := by
  refine Mt.of (L := [some (.ref 44), none]) (by decide +kernel) (Nat.le_of_ble_eq_true rfl) rfl ?_
  refine q_aload_n dX7_wipe_0 (rfl : 0 + 1 = 1) rfl ?_
  refine q_getI dX7_wipe_1 (rfl : 1 + 3 = 4) fX7_81 (by first | rfl | assumption) ?_
  refine q_istore_n dX7_wipe_4 (rfl : 4 + 1 = 5) (by decide) ?_
  refine q_aload_n dX7_wipe_5 (rfl : 5 + 1 = 6) rfl ?_
  refine q_iconst (v := nI 0) dX7_wipe_6 (rfl : 6 + 1 = 7) (by decide) ?_
  refine q_putI dX7_wipe_7 (rfl : 7 + 3 = 10) pX7_81 (by first | rfl | assumption) ?_
  refine q_iload_n dX7_wipe_10 (rfl : 10 + 1 = 11) rfl ?_
  refine q_iret rfl dX7_wipe_11 ⟨rfl, rfl, _, rfl, ?_⟩
  exact ⟨rfl, rfl, rfl⟩
theorem S_of {d i w : Nat} {I : HI} {J : HJ} (h : 4 * i + w < 96) : MIp mX7_of d [.ref 44, .int (nI i), .int (nI w)] shA I J RA (I 48 (4 * i + w)) := by
  refine Mt.of (L := [some (.ref 44), some (.int (nI i)), some (.int (nI w))]) (by decide +kernel) (Nat.le_of_ble_eq_true rfl) rfl ?_
  refine q_aload_n dX7_of_0 (rfl : 0 + 1 = 1) rfl ?_
  refine q_getR dX7_of_1 (rfl : 1 + 3 = 4) fX7_20 (by first | rfl | assumption) (by first | rfl | assumption) ?_
  refine q_iconst (v := nI 4) dX7_of_4 (rfl : 4 + 1 = 5) (by decide) ?_
  refine q_iload_n dX7_of_5 (rfl : 5 + 1 = 6) rfl ?_
  refine q_imul dX7_of_6 (rfl : 6 + 1 = 7) ?_
  try simp (disch := omega) only [wr_hit, wr_p, wr_k, nI_add, pk_mul, nI_1, nI_s1, pk_sub, Nat.add_sub_cancel]
  refine q_iload_n dX7_of_7 (rfl : 7 + 1 = 8) rfl ?_
  refine q_iadd dX7_of_8 (rfl : 8 + 1 = 9) ?_
  try simp (disch := omega) only [wr_hit, wr_p, wr_k, nI_add, pk_mul, nI_1, nI_s1, pk_sub, Nat.add_sub_cancel]
  refine q_iald dX7_of_9 (rfl : 9 + 1 = 10) (by first | rfl | assumption) (by first | assumption | omega) (by decide) ?_
  try simp (disch := omega) only [wr_hit, wr_p, wr_k, nI_add, pk_mul, nI_1, nI_s1, pk_sub, Nat.add_sub_cancel]
  refine q_iret rfl dX7_of_10 ⟨rfl, rfl, _, rfl, ?_⟩
  exact ⟨rfl, rfl, rfl⟩
theorem S_mcostOf {d i y : Nat} {I : HI} {J : HJ} (hi : i < 12) (hy : I 48 (4 * i) = nI y) (hy2 : y < 100) : MIp mX7_costOf (d + 1) [.ref 44, .int (nI i)] shA I J RA (I 49 y) := by
  refine Mt.of (L := [some (.ref 44), some (.int (nI i))]) (by decide +kernel) (Nat.le_of_ble_eq_true rfl) rfl ?_
  refine q_aload_n dX7_costOf_0 (rfl : 0 + 1 = 1) rfl ?_
  refine q_getR dX7_costOf_1 (rfl : 1 + 3 = 4) fX7_23 (by first | rfl | assumption) (by first | rfl | assumption) ?_
  refine q_aload_n dX7_costOf_4 (rfl : 4 + 1 = 5) rfl ?_
  refine q_iload_n dX7_costOf_5 (rfl : 5 + 1 = 6) rfl ?_
  refine q_iconst (v := nI 0) dX7_costOf_6 (rfl : 6 + 1 = 7) (by decide) ?_
  refine q_callVIp (S_of (d := d) (w := 0) (by omega)) dX7_costOf_7 (rfl : 7 + 3 = 10) lX7_123 vX7_of (by first | rfl | assumption) rfl rfl (Nat.le_of_ble_eq_true rfl) TM_room TM_cs ?_
  rw [show 4 * i + 0 = 4 * i from rfl, hy]
  refine q_iald dX7_costOf_10 (rfl : 10 + 1 = 11) (by first | rfl | assumption) (by first | assumption | omega) (by decide) ?_
  refine q_iret rfl dX7_costOf_11 ⟨rfl, rfl, _, rfl, ?_⟩
  exact ⟨rfl, rfl, rfl⟩
theorem S_isLayer {d n : Nat} {I : HI} {J : HJ} {i : Int32} (hn : I 50 0 = nI n) : MIp mX7_isLayer (d + 1) [.ref 44, .int i] shA I J RA (bI (inr i (nI 0) (nI n - nI 1))) := by
  refine Mt.of (L := [some (.ref 44), some (.int i)]) (by decide +kernel) (Nat.le_of_ble_eq_true rfl) rfl ?_
  refine q_iload_n dX7_isLayer_0 (rfl : 0 + 1 = 1) rfl ?_
  refine q_i2l dX7_isLayer_1 (rfl : 1 + 1 = 2) ?_
  refine q_lconst (v := 0) dX7_isLayer_2 (rfl : 2 + 1 = 3) (by decide) ?_
  refine q_aload_n dX7_isLayer_3 (rfl : 3 + 1 = 4) rfl ?_
  refine q_getR dX7_isLayer_4 (rfl : 4 + 3 = 7) fX7_26 (by first | rfl | assumption) (by first | rfl | assumption) ?_
  refine q_iconst (v := nI 0) dX7_isLayer_7 (rfl : 7 + 1 = 8) (by decide) ?_
  refine q_iald (j := 0) dX7_isLayer_8 (rfl : 8 + 1 = 9) (by first | rfl | assumption) (by decide) (by decide) ?_
  refine q_iconst (v := nI 1) dX7_isLayer_9 (rfl : 9 + 1 = 10) (by decide) ?_
  rw [hn]
  refine q_isub dX7_isLayer_10 (rfl : 10 + 1 = 11) ?_
  refine q_i2l dX7_isLayer_11 (rfl : 11 + 1 = 12) ?_
  refine q_callSIp (S_inI (x := i) (a := nI 0) (b := nI n - nI 1) rfl (by decide) rfl) dX7_isLayer_12 (rfl : 12 + 3 = 15) lX7_77 vX7_in rfl rfl (Nat.le_of_ble_eq_true rfl) TM_room TM_cs ?_
  refine q_zret rfl dX7_isLayer_15 (by first | exact bI_01 _ | exact Or.inl rfl | exact Or.inr rfl) ⟨rfl, rfl, _, rfl, ?_⟩
  exact ⟨rfl, rfl, rfl⟩
theorem S_misYear {d : Nat} {sh : List Kd} {I : HI} {J : HJ} {R : HR} {y : Int32} : MIp mX7_isYear (d + 1) [.int y] sh I J R (bI (inr y (nI 0) (nI 99))) := by
  refine Mt.of (L := [some (.int y)]) (by decide +kernel) (Nat.le_of_ble_eq_true rfl) rfl ?_
  refine q_iload_n dX7_isYear_0 (rfl : 0 + 1 = 1) rfl ?_
  refine q_i2l dX7_isYear_1 (rfl : 1 + 1 = 2) ?_
  refine q_lconst (v := 0) dX7_isYear_2 (rfl : 2 + 1 = 3) (by decide) ?_
  refine q_ldc2 dX7_isYear_3 (rfl : 3 + 3 = 6) kX7_127 ?_
  refine q_callSIp (S_inI (x := y) (a := nI 0) (b := nI 99) rfl (by decide) (by decide)) dX7_isYear_6 (rfl : 6 + 3 = 9) lX7_77 vX7_in rfl rfl (Nat.le_of_ble_eq_true rfl) TM_room TM_cs ?_
  refine q_zret rfl dX7_isYear_9 (by first | exact bI_01 _ | exact Or.inl rfl | exact Or.inr rfl) ⟨rfl, rfl, _, rfl, ?_⟩
  exact ⟨rfl, rfl, rfl⟩
theorem S_isSeed {d : Nat} {sh : List Kd} {I : HI} {J : HJ} {R : HR} {y : Int32} : MIp mX7_isSeed (d + 1) [.int y] sh I J R (bI (inr y (nI 0) (nI 9999))) := by
  refine Mt.of (L := [some (.int y)]) (by decide +kernel) (Nat.le_of_ble_eq_true rfl) rfl ?_
  refine q_iload_n dX7_isSeed_0 (rfl : 0 + 1 = 1) rfl ?_
  refine q_i2l dX7_isSeed_1 (rfl : 1 + 1 = 2) ?_
  refine q_lconst (v := 0) dX7_isSeed_2 (rfl : 2 + 1 = 3) (by decide) ?_
  refine q_ldc2 dX7_isSeed_3 (rfl : 3 + 3 = 6) kX7_215 ?_
  refine q_callSIp (S_inI (x := y) (a := nI 0) (b := nI 9999) rfl (by decide) (by decide)) dX7_isSeed_6 (rfl : 6 + 3 = 9) lX7_77 vX7_in rfl rfl (Nat.le_of_ble_eq_true rfl) TM_room TM_cs ?_
  refine q_zret rfl dX7_isSeed_9 (by first | exact bI_01 _ | exact Or.inl rfl | exact Or.inr rfl) ⟨rfl, rfl, _, rfl, ?_⟩
  exact ⟨rfl, rfl, rfl⟩
theorem S_misPiece {d : Nat} {sh : List Kd} {I : HI} {J : HJ} {R : HR} {x y : Int32} : MIp mX7_isPiece (d + 1) [.int x, .int y] sh I J R (bI (inr x (nI 0) (nI 9) && inr y (nI 1) (nI 9))) := by
  refine Mt.of (L := [some (.int x), some (.int y)]) (by decide +kernel) (Nat.le_of_ble_eq_true rfl) rfl ?_
  refine q_iload_n dX7_isPiece_0 (rfl : 0 + 1 = 1) rfl ?_
  refine q_i2l dX7_isPiece_1 (rfl : 1 + 1 = 2) ?_
  refine q_lconst (v := 0) dX7_isPiece_2 (rfl : 2 + 1 = 3) (by decide) ?_
  refine q_ldc2 dX7_isPiece_3 (rfl : 3 + 3 = 6) kX7_161 ?_
  refine q_callSIp (S_inI (x := x) (a := nI 0) (b := nI 9) rfl (by decide) (by decide)) dX7_isPiece_6 (rfl : 6 + 3 = 9) lX7_77 vX7_in rfl rfl (Nat.le_of_ble_eq_true rfl) TM_room TM_cs ?_
  refine q_if_eq_b (q := 28) dX7_isPiece_9 (by decide) (rfl : 9 + 3 = 12) (fun h1 => ?_) (fun h1 => ?_)
  ·
    refine q_iconst (v := nI 0) dX7_isPiece_28 (rfl : 28 + 1 = 29) (by decide) ?_
    refine q_zret rfl dX7_isPiece_29 (by first | exact bI_01 _ | exact Or.inl rfl | exact Or.inr rfl) ⟨rfl, rfl, _, rfl, ?_⟩
    rw [h1]
    exact ⟨rfl, rfl, rfl⟩
  ·
    refine q_iload_n dX7_isPiece_12 (rfl : 12 + 1 = 13) rfl ?_
    refine q_i2l dX7_isPiece_13 (rfl : 13 + 1 = 14) ?_
    refine q_lconst (v := 1) dX7_isPiece_14 (rfl : 14 + 1 = 15) (by decide) ?_
    refine q_ldc2 dX7_isPiece_15 (rfl : 15 + 3 = 18) kX7_161 ?_
    refine q_callSIp (S_inI (x := y) (a := nI 1) (b := nI 9) rfl (by decide) (by decide)) dX7_isPiece_18 (rfl : 18 + 3 = 21) lX7_77 vX7_in rfl rfl (Nat.le_of_ble_eq_true rfl) TM_room TM_cs ?_
    refine q_if_eq_b (q := 28) dX7_isPiece_21 (by decide) (rfl : 21 + 3 = 24) (fun h2 => ?_) (fun h2 => ?_)
    ·
      refine q_iconst (v := nI 0) dX7_isPiece_28 (rfl : 28 + 1 = 29) (by decide) ?_
      refine q_zret rfl dX7_isPiece_29 (by first | exact bI_01 _ | exact Or.inl rfl | exact Or.inr rfl) ⟨rfl, rfl, _, rfl, ?_⟩
      rw [h1, h2]
      exact ⟨rfl, rfl, rfl⟩
    ·
      refine q_iconst (v := nI 1) dX7_isPiece_24 (rfl : 24 + 1 = 25) (by decide) ?_
      refine q_goto (q := 29) dX7_isPiece_25 (by decide) ?_
      refine q_zret rfl dX7_isPiece_29 (by first | exact bI_01 _ | exact Or.inl rfl | exact Or.inr rfl) ⟨rfl, rfl, _, rfl, ?_⟩
      rw [h1, h2]
      exact ⟨rfl, rfl, rfl⟩
theorem S_mfalls_bad {d nf : Nat} {I : HI} {J : HJ} {i w : Int32} (hf : I 47 0 = nI nf) (h : inr i (nI 0) (nI nf - nI 1) = false) : MIp mX7_falls (d + 1) [.ref 44, .int i, .int w] shA I J RA (-1) := by
  refine Mt.of (L := [some (.ref 44), some (.int i), some (.int w)]) (by decide +kernel) (Nat.le_of_ble_eq_true rfl) rfl ?_
  refine q_iload_n dX7_falls_0 (rfl : 0 + 1 = 1) rfl ?_
  refine q_i2l dX7_falls_1 (rfl : 1 + 1 = 2) ?_
  refine q_lconst (v := 0) dX7_falls_2 (rfl : 2 + 1 = 3) (by decide) ?_
  refine q_aload_n dX7_falls_3 (rfl : 3 + 1 = 4) rfl ?_
  refine q_getR dX7_falls_4 (rfl : 4 + 3 = 7) fX7_17 (by first | rfl | assumption) (by first | rfl | assumption) ?_
  refine q_iconst (v := nI 0) dX7_falls_7 (rfl : 7 + 1 = 8) (by decide) ?_
  refine q_iald (j := 0) dX7_falls_8 (rfl : 8 + 1 = 9) (by first | rfl | assumption) (by decide) (by decide) ?_
  refine q_iconst (v := nI 1) dX7_falls_9 (rfl : 9 + 1 = 10) (by decide) ?_
  rw [hf]
  refine q_isub dX7_falls_10 (rfl : 10 + 1 = 11) ?_
  refine q_i2l dX7_falls_11 (rfl : 11 + 1 = 12) ?_
  refine q_callSIp (S_inI (x := i) (a := nI 0) (b := nI nf - nI 1) rfl (by decide) rfl) dX7_falls_12 (rfl : 12 + 3 = 15) lX7_77 vX7_in rfl rfl (Nat.le_of_ble_eq_true rfl) TM_room TM_cs ?_
  refine q_if_eq_b (q := 30) dX7_falls_15 (by decide) (rfl : 15 + 3 = 18) (fun h2 => ?_) (fun h2 => ?_)
  ·
    refine q_iconst (v := -1) dX7_falls_30 (rfl : 30 + 1 = 31) (by decide) ?_
    refine q_goto (q := 53) dX7_falls_31 (by decide) ?_
    refine q_iret rfl dX7_falls_53 ⟨rfl, rfl, _, rfl, ?_⟩
    exact ⟨rfl, rfl, rfl⟩
  · rw [h] at h2; cases h2
theorem S_mfalls_w {d nf j : Nat} {I : HI} {J : HJ} {w : Int32} (hf : I 47 0 = nI nf) (h12 : nf ≤ 12) (hj : j < nf) (h : inr w (nI 0) (nI 4) = false) : MIp mX7_falls (d + 1) [.ref 44, .int (nI j), .int w] shA I J RA (-1) := by
  refine Mt.of (L := [some (.ref 44), some (.int (nI j)), some (.int w)]) (by decide +kernel) (Nat.le_of_ble_eq_true rfl) rfl ?_
  refine q_iload_n dX7_falls_0 (rfl : 0 + 1 = 1) rfl ?_
  refine q_i2l dX7_falls_1 (rfl : 1 + 1 = 2) ?_
  refine q_lconst (v := 0) dX7_falls_2 (rfl : 2 + 1 = 3) (by decide) ?_
  refine q_aload_n dX7_falls_3 (rfl : 3 + 1 = 4) rfl ?_
  refine q_getR dX7_falls_4 (rfl : 4 + 3 = 7) fX7_17 (by first | rfl | assumption) (by first | rfl | assumption) ?_
  refine q_iconst (v := nI 0) dX7_falls_7 (rfl : 7 + 1 = 8) (by decide) ?_
  refine q_iald (j := 0) dX7_falls_8 (rfl : 8 + 1 = 9) (by first | rfl | assumption) (by decide) (by decide) ?_
  refine q_iconst (v := nI 1) dX7_falls_9 (rfl : 9 + 1 = 10) (by decide) ?_
  rw [hf]
  refine q_isub dX7_falls_10 (rfl : 10 + 1 = 11) ?_
  refine q_i2l dX7_falls_11 (rfl : 11 + 1 = 12) ?_
  refine q_callSIp (S_inI (x := nI j) (a := nI 0) (b := nI nf - nI 1) rfl (by decide) rfl) dX7_falls_12 (rfl : 12 + 3 = 15) lX7_77 vX7_in rfl rfl (Nat.le_of_ble_eq_true rfl) TM_room TM_cs ?_
  refine q_if_eq_b (q := 30) dX7_falls_15 (by decide) (rfl : 15 + 3 = 18) (fun h2 => ?_) (fun h2 => ?_)
  · rw [in0 hj (by omega)] at h2; cases h2
  ·
    refine q_iload_n dX7_falls_18 (rfl : 18 + 1 = 19) rfl ?_
    refine q_i2l dX7_falls_19 (rfl : 19 + 1 = 20) ?_
    refine q_lconst (v := 0) dX7_falls_20 (rfl : 20 + 1 = 21) (by decide) ?_
    refine q_ldc2 dX7_falls_21 (rfl : 21 + 3 = 24) kX7_129 ?_
    refine q_callSIp (S_inI (x := w) (a := nI 0) (b := nI 4) rfl (by decide) (by decide)) dX7_falls_24 (rfl : 24 + 3 = 27) lX7_77 vX7_in rfl rfl (Nat.le_of_ble_eq_true rfl) TM_room TM_cs ?_
    refine q_if_ne_b (q := 34) dX7_falls_27 (by decide) (rfl : 27 + 3 = 30) (fun h3 => ?_) (fun h3 => ?_)
    · rw [h] at h3; cases h3
    ·
      refine q_iconst (v := -1) dX7_falls_30 (rfl : 30 + 1 = 31) (by decide) ?_
      refine q_goto (q := 53) dX7_falls_31 (by decide) ?_
      refine q_iret rfl dX7_falls_53 ⟨rfl, rfl, _, rfl, ?_⟩
      exact ⟨rfl, rfl, rfl⟩
theorem S_mfalls {d nf j y w : Nat} {I : HI} {J : HJ} (hf : I 47 0 = nI nf) (h12 : nf ≤ 12) (hj : j < nf) (hy : I 48 (4 * j) = nI y) (hy2 : y < 100) (hw : w ≤ 4) : MIp mX7_falls (d + 2) [.ref 44, .int (nI j), .int (nI w)] shA I J RA (if w < 4 then I 48 (4 * j + w) else I 49 y) := by
  refine Mt.of (L := [some (.ref 44), some (.int (nI j)), some (.int (nI w))]) (by decide +kernel) (Nat.le_of_ble_eq_true rfl) rfl ?_
  refine q_iload_n dX7_falls_0 (rfl : 0 + 1 = 1) rfl ?_
  refine q_i2l dX7_falls_1 (rfl : 1 + 1 = 2) ?_
  refine q_lconst (v := 0) dX7_falls_2 (rfl : 2 + 1 = 3) (by decide) ?_
  refine q_aload_n dX7_falls_3 (rfl : 3 + 1 = 4) rfl ?_
  refine q_getR dX7_falls_4 (rfl : 4 + 3 = 7) fX7_17 (by first | rfl | assumption) (by first | rfl | assumption) ?_
  refine q_iconst (v := nI 0) dX7_falls_7 (rfl : 7 + 1 = 8) (by decide) ?_
  refine q_iald (j := 0) dX7_falls_8 (rfl : 8 + 1 = 9) (by first | rfl | assumption) (by decide) (by decide) ?_
  refine q_iconst (v := nI 1) dX7_falls_9 (rfl : 9 + 1 = 10) (by decide) ?_
  rw [hf]
  refine q_isub dX7_falls_10 (rfl : 10 + 1 = 11) ?_
  refine q_i2l dX7_falls_11 (rfl : 11 + 1 = 12) ?_
  refine q_callSIp (S_inI (x := nI j) (a := nI 0) (b := nI nf - nI 1) rfl (by decide) rfl) dX7_falls_12 (rfl : 12 + 3 = 15) lX7_77 vX7_in rfl rfl (Nat.le_of_ble_eq_true rfl) TM_room TM_cs ?_
  refine q_if_eq_b (q := 30) dX7_falls_15 (by decide) (rfl : 15 + 3 = 18) (fun h2 => ?_) (fun h2 => ?_)
  · rw [in0 hj (by omega)] at h2; cases h2
  ·
    refine q_iload_n dX7_falls_18 (rfl : 18 + 1 = 19) rfl ?_
    refine q_i2l dX7_falls_19 (rfl : 19 + 1 = 20) ?_
    refine q_lconst (v := 0) dX7_falls_20 (rfl : 20 + 1 = 21) (by decide) ?_
    refine q_ldc2 dX7_falls_21 (rfl : 21 + 3 = 24) kX7_129 ?_
    refine q_callSIp (S_inI (x := nI w) (a := nI 0) (b := nI 4) rfl (by decide) (by decide)) dX7_falls_24 (rfl : 24 + 3 = 27) lX7_77 vX7_in rfl rfl (Nat.le_of_ble_eq_true rfl) TM_room TM_cs ?_
    refine q_if_ne_b (q := 34) dX7_falls_27 (by decide) (rfl : 27 + 3 = 30) (fun h3 => ?_) (fun h3 => ?_)
    ·
      refine q_iload_n dX7_falls_34 (rfl : 34 + 1 = 35) rfl ?_
      refine q_iconst (v := nI 4) dX7_falls_35 (rfl : 35 + 1 = 36) (by decide) ?_
      refine q_icmp_ge_n (q := 48) (by omega) (by omega) dX7_falls_36 (by decide) (rfl : 36 + 3 = 39) (fun h4 => ?_) (fun h4 => ?_)
      ·
        refine q_aload_n dX7_falls_48 (rfl : 48 + 1 = 49) rfl ?_
        refine q_iload_n dX7_falls_49 (rfl : 49 + 1 = 50) rfl ?_
        refine q_callVIp (S_mcostOf (d := d) (by omega) hy hy2) dX7_falls_50 (rfl : 50 + 3 = 53) lX7_131 vX7_costOf (by first | rfl | assumption) rfl rfl (Nat.le_of_ble_eq_true rfl) TM_room TM_cs ?_
        refine q_iret rfl dX7_falls_53 ⟨rfl, rfl, _, rfl, ?_⟩
        rw [if_neg (by omega)]
        exact ⟨rfl, rfl, rfl⟩
      ·
        refine q_aload_n dX7_falls_39 (rfl : 39 + 1 = 40) rfl ?_
        refine q_iload_n dX7_falls_40 (rfl : 40 + 1 = 41) rfl ?_
        refine q_iload_n dX7_falls_41 (rfl : 41 + 1 = 42) rfl ?_
        refine q_callVIp (S_of (d := d + 1) (i := j) (w := w) (by omega)) dX7_falls_42 (rfl : 42 + 3 = 45) lX7_123 vX7_of (by first | rfl | assumption) rfl rfl (Nat.le_of_ble_eq_true rfl) TM_room TM_cs ?_
        refine q_goto (q := 53) dX7_falls_45 (by decide) ?_
        refine q_iret rfl dX7_falls_53 ⟨rfl, rfl, _, rfl, ?_⟩
        rw [if_pos h4]
        exact ⟨rfl, rfl, rfl⟩
    · rw [inr_of (Nat.zero_le w) hw (by decide)] at h3; cases h3
theorem L_mhigh {T : Tg} {I : HI} {J : HJ} {n : Nat} (hn : I 50 0 = nI n) (h12 : n ≤ 12) (K : Wm mX7_high T 0 0 shA 29 [some (.ref 44), some (.int (sI (I 51) n)), some (.int (nI n))] [] I J RA) :
    ∀ (i : Nat), i ≤ n → Wm mX7_high T 0 0 shA 4 [some (.ref 44), some (.int (sI (I 51) i)), some (.int (nI i))] [] I J RA := by
  refine loopN (fun i hi ih => ?_)
  refine q_iload_n dX7_high_4 (rfl : 4 + 1 = 5) rfl ?_
  refine q_aload_n dX7_high_5 (rfl : 5 + 1 = 6) rfl ?_
  refine q_getR dX7_high_6 (rfl : 6 + 3 = 9) fX7_26 (by first | rfl | assumption) (by first | rfl | assumption) ?_
  refine q_iconst (v := nI 0) dX7_high_9 (rfl : 9 + 1 = 10) (by decide) ?_
  refine q_iald (j := 0) dX7_high_10 (rfl : 10 + 1 = 11) (by first | rfl | assumption) (by decide) (by decide) ?_
  try simp (disch := omega) only [wr_hit, wr_p, wr_k, nI_add, pk_mul, nI_1, nI_s1, pk_sub, Nat.add_sub_cancel, hn]
  refine q_icmp_ge_n (q := 29) (by omega) (by omega) dX7_high_11 (by decide) (rfl : 11 + 3 = 14) (fun hc => ?_) (fun hc => ?_)
  · obtain rfl : i = n := by omega
    exact K
  ·
    refine q_iload_n dX7_high_14 (rfl : 14 + 1 = 15) rfl ?_
    refine q_aload_n dX7_high_15 (rfl : 15 + 1 = 16) rfl ?_
    refine q_getR dX7_high_16 (rfl : 16 + 3 = 19) fX7_29 (by first | rfl | assumption) (by first | rfl | assumption) ?_
    refine q_iload_n dX7_high_19 (rfl : 19 + 1 = 20) rfl ?_
    refine q_iald dX7_high_20 (rfl : 20 + 1 = 21) (by first | rfl | assumption) (by first | assumption | omega) (by decide) ?_
    refine q_iadd dX7_high_21 (rfl : 21 + 1 = 22) ?_
    refine q_istore_n dX7_high_22 (rfl : 22 + 1 = 23) (by decide) ?_
    first | refine q_iinc1 dX7_high_23 (rfl : 23 + 3 = 26) rfl (by decide) ?_ | refine q_iinc dX7_high_23 (rfl : 23 + 3 = 26) rfl rfl (by decide) ?_
    refine q_goto (q := 4) dX7_high_26 (by decide) ?_
    exact ih hc
theorem S_mhigh {d : Nat} {I : HI} {J : HJ} {n : Nat} (hn : I 50 0 = nI n) (h12 : n ≤ 12) : MIp mX7_high d [.ref 44] shA I J RA (sI (I 51) n) := by
  refine Mt.of (L := [some (.ref 44), none, none]) (by decide +kernel) (Nat.le_of_ble_eq_true rfl) rfl ?_
  refine q_iconst (v := nI 0) dX7_high_0 (rfl : 0 + 1 = 1) (by decide) ?_
  refine q_istore_n dX7_high_1 (rfl : 1 + 1 = 2) (by decide) ?_
  refine q_iconst (v := nI 0) dX7_high_2 (rfl : 2 + 1 = 3) (by decide) ?_
  refine q_istore_n dX7_high_3 (rfl : 3 + 1 = 4) (by decide) ?_
  refine L_mhigh hn h12 ?_ 0 (by omega)
  refine q_iload_n dX7_high_29 (rfl : 29 + 1 = 30) rfl ?_
  refine q_iret rfl dX7_high_30 ⟨rfl, rfl, _, rfl, ?_⟩
  exact ⟨rfl, rfl, rfl⟩
theorem L_mload {d n0 : Nat} {Po : PO} {I : HI} {J : HJ} {n : Nat} (hn : I 50 0 = nI n) (h12 : n ≤ 12) (K : Wm mX7_load (TM (d + 1) 0 0 false n0 Po) 0 0 shA 36 [some (.ref 44), some (.int (sI (fun j => I 51 j * I 48 (4 * j + 2)) n)), some (.int (nI n))] [] I J RA) :
    ∀ (i : Nat), i ≤ n → Wm mX7_load (TM (d + 1) 0 0 false n0 Po) 0 0 shA 4 [some (.ref 44), some (.int (sI (fun j => I 51 j * I 48 (4 * j + 2)) i)), some (.int (nI i))] [] I J RA := by
  refine loopN (fun i hi ih => ?_)
  refine q_iload_n dX7_load_4 (rfl : 4 + 1 = 5) rfl ?_
  refine q_aload_n dX7_load_5 (rfl : 5 + 1 = 6) rfl ?_
  refine q_getR dX7_load_6 (rfl : 6 + 3 = 9) fX7_26 (by first | rfl | assumption) (by first | rfl | assumption) ?_
  refine q_iconst (v := nI 0) dX7_load_9 (rfl : 9 + 1 = 10) (by decide) ?_
  refine q_iald (j := 0) dX7_load_10 (rfl : 10 + 1 = 11) (by first | rfl | assumption) (by decide) (by decide) ?_
  try simp (disch := omega) only [wr_hit, wr_p, wr_k, nI_add, pk_mul, nI_1, nI_s1, pk_sub, Nat.add_sub_cancel, hn]
  refine q_icmp_ge_n (q := 36) (by omega) (by omega) dX7_load_11 (by decide) (rfl : 11 + 3 = 14) (fun hc => ?_) (fun hc => ?_)
  · obtain rfl : i = n := by omega
    exact K
  ·
    refine q_iload_n dX7_load_14 (rfl : 14 + 1 = 15) rfl ?_
    refine q_aload_n dX7_load_15 (rfl : 15 + 1 = 16) rfl ?_
    refine q_getR dX7_load_16 (rfl : 16 + 3 = 19) fX7_29 (by first | rfl | assumption) (by first | rfl | assumption) ?_
    refine q_iload_n dX7_load_19 (rfl : 19 + 1 = 20) rfl ?_
    refine q_iald dX7_load_20 (rfl : 20 + 1 = 21) (by first | rfl | assumption) (by first | assumption | omega) (by decide) ?_
    refine q_aload_n dX7_load_21 (rfl : 21 + 1 = 22) rfl ?_
    refine q_iload_n dX7_load_22 (rfl : 22 + 1 = 23) rfl ?_
    refine q_iconst (v := nI 2) dX7_load_23 (rfl : 23 + 1 = 24) (by decide) ?_
    refine q_callVIp (S_of (d := d) (i := i) (w := 2) (by omega)) dX7_load_24 (rfl : 24 + 3 = 27) lX7_123 vX7_of (by first | rfl | assumption) rfl rfl (Nat.le_of_ble_eq_true rfl) TM_room TM_cs ?_
    refine q_imul dX7_load_27 (rfl : 27 + 1 = 28) ?_
    refine q_iadd dX7_load_28 (rfl : 28 + 1 = 29) ?_
    refine q_istore_n dX7_load_29 (rfl : 29 + 1 = 30) (by decide) ?_
    first | refine q_iinc1 dX7_load_30 (rfl : 30 + 3 = 33) rfl (by decide) ?_ | refine q_iinc dX7_load_30 (rfl : 30 + 3 = 33) rfl rfl (by decide) ?_
    refine q_goto (q := 4) dX7_load_33 (by decide) ?_
    exact ih hc
theorem S_mload {d : Nat} {I : HI} {J : HJ} {n : Nat} (hn : I 50 0 = nI n) (h12 : n ≤ 12) : MIp mX7_load (d + 1) [.ref 44] shA I J RA (sI (fun j => I 51 j * I 48 (4 * j + 2)) n) := by
  refine Mt.of (L := [some (.ref 44), none, none]) (by decide +kernel) (Nat.le_of_ble_eq_true rfl) rfl ?_
  refine q_iconst (v := nI 0) dX7_load_0 (rfl : 0 + 1 = 1) (by decide) ?_
  refine q_istore_n dX7_load_1 (rfl : 1 + 1 = 2) (by decide) ?_
  refine q_iconst (v := nI 0) dX7_load_2 (rfl : 2 + 1 = 3) (by decide) ?_
  refine q_istore_n dX7_load_3 (rfl : 3 + 1 = 4) (by decide) ?_
  refine L_mload hn h12 ?_ 0 (by omega)
  refine q_iload_n dX7_load_36 (rfl : 36 + 1 = 37) rfl ?_
  refine q_iret rfl dX7_load_37 ⟨rfl, rfl, _, rfl, ?_⟩
  exact ⟨rfl, rfl, rfl⟩
def fitsB (I : HI) (high load : Int32) : Bool := decide (high ≤ nI 10 * I 46 1) && decide (load ≤ nI 10 * I 46 0)
theorem S_fits {d : Nat} {I : HI} {J : HJ} {high load : Int32} : MIp mX7_fits d [.ref 44, .int high, .int load] shA I J RA (bI (fitsB I high load)) := by
  refine Mt.of (L := [some (.ref 44), some (.int high), some (.int load)]) (by decide +kernel) (Nat.le_of_ble_eq_true rfl) rfl ?_
  refine q_iload_n dX7_fits_0 (rfl : 0 + 1 = 1) rfl ?_
  refine q_bipush (v := nI 10) dX7_fits_1 (rfl : 1 + 2 = 3) (by decide) ?_
  refine q_aload_n dX7_fits_3 (rfl : 3 + 1 = 4) rfl ?_
  refine q_getR dX7_fits_4 (rfl : 4 + 3 = 7) fX7_13 (by first | rfl | assumption) (by first | rfl | assumption) ?_
  refine q_iconst (v := nI 1) dX7_fits_7 (rfl : 7 + 1 = 8) (by decide) ?_
  refine q_iald (j := 1) dX7_fits_8 (rfl : 8 + 1 = 9) (by first | rfl | assumption) (by decide) (by decide) ?_
  refine q_imul dX7_fits_9 (rfl : 9 + 1 = 10) ?_
  refine q_icmp_gt (q := 30) dX7_fits_10 (by decide) (rfl : 10 + 3 = 13) (fun h1 => ?_) (fun h1 => ?_)
  ·
    refine q_iconst (v := nI 0) dX7_fits_30 (rfl : 30 + 1 = 31) (by decide) ?_
    refine q_zret rfl dX7_fits_31 (by first | exact bI_01 _ | exact Or.inl rfl | exact Or.inr rfl) ⟨rfl, rfl, _, rfl, ?_⟩
    have e : fitsB I high load = false := by simp [fitsB, Int32.not_le.mpr h1]
    rw [e]
    exact ⟨rfl, rfl, rfl⟩
  ·
    refine q_iload_n dX7_fits_13 (rfl : 13 + 1 = 14) rfl ?_
    refine q_bipush (v := nI 10) dX7_fits_14 (rfl : 14 + 2 = 16) (by decide) ?_
    refine q_aload_n dX7_fits_16 (rfl : 16 + 1 = 17) rfl ?_
    refine q_getR dX7_fits_17 (rfl : 17 + 3 = 20) fX7_13 (by first | rfl | assumption) (by first | rfl | assumption) ?_
    refine q_iconst (v := nI 0) dX7_fits_20 (rfl : 20 + 1 = 21) (by decide) ?_
    refine q_iald (j := 0) dX7_fits_21 (rfl : 21 + 1 = 22) (by first | rfl | assumption) (by decide) (by decide) ?_
    refine q_imul dX7_fits_22 (rfl : 22 + 1 = 23) ?_
    refine q_icmp_gt (q := 30) dX7_fits_23 (by decide) (rfl : 23 + 3 = 26) (fun h2 => ?_) (fun h2 => ?_)
    ·
      refine q_iconst (v := nI 0) dX7_fits_30 (rfl : 30 + 1 = 31) (by decide) ?_
      refine q_zret rfl dX7_fits_31 (by first | exact bI_01 _ | exact Or.inl rfl | exact Or.inr rfl) ⟨rfl, rfl, _, rfl, ?_⟩
      have e : fitsB I high load = false := by simp [fitsB, Int32.not_le.mpr h2]
      rw [e]
      exact ⟨rfl, rfl, rfl⟩
    ·
      refine q_iconst (v := nI 1) dX7_fits_26 (rfl : 26 + 1 = 27) (by decide) ?_
      refine q_goto (q := 31) dX7_fits_27 (by decide) ?_
      refine q_zret rfl dX7_fits_31 (by first | exact bI_01 _ | exact Or.inl rfl | exact Or.inr rfl) ⟨rfl, rfl, _, rfl, ?_⟩
      have e : fitsB I high load = true := by simp [fitsB, Int32.not_lt.mp h1, Int32.not_lt.mp h2]
      rw [e]
      exact ⟨rfl, rfl, rfl⟩
theorem S_mfall_no {d nf : Nat} {I : HI} {J : HJ} (hf : I 47 0 = nI nf) (h12 : nf ≤ 12) (hn : I 50 0 = nI nf) : MIp mX7_fall (d + 2) [.ref 44] shA I J RA (-2) := by
  refine Mt.of (L := [some (.ref 44), none, none]) (by decide +kernel) (Nat.le_of_ble_eq_true rfl) rfl ?_
  refine q_aload_n dX7_fall_0 (rfl : 0 + 1 = 1) rfl ?_
  refine q_getR dX7_fall_1 (rfl : 1 + 3 = 4) fX7_26 (by first | rfl | assumption) (by first | rfl | assumption) ?_
  refine q_iconst (v := nI 0) dX7_fall_4 (rfl : 4 + 1 = 5) (by decide) ?_
  refine q_iald (j := 0) dX7_fall_5 (rfl : 5 + 1 = 6) (by first | rfl | assumption) (by decide) (by decide) ?_
  try simp (disch := omega) only [wr_hit, wr_p, wr_k, nI_add, pk_mul, nI_1, nI_s1, pk_sub, Nat.add_sub_cancel, hn, hf]
  refine q_istore_n dX7_fall_6 (rfl : 6 + 1 = 7) (by decide) ?_
  refine q_iload_n dX7_fall_7 (rfl : 7 + 1 = 8) rfl ?_
  refine q_aload_n dX7_fall_8 (rfl : 8 + 1 = 9) rfl ?_
  refine q_getR dX7_fall_9 (rfl : 9 + 3 = 12) fX7_17 (by first | rfl | assumption) (by first | rfl | assumption) ?_
  refine q_iconst (v := nI 0) dX7_fall_12 (rfl : 12 + 1 = 13) (by decide) ?_
  refine q_iald (j := 0) dX7_fall_13 (rfl : 13 + 1 = 14) (by first | rfl | assumption) (by decide) (by decide) ?_
  try simp (disch := omega) only [wr_hit, wr_p, wr_k, nI_add, pk_mul, nI_1, nI_s1, pk_sub, Nat.add_sub_cancel, hn, hf]
  refine q_icmp_ne_n (q := 20) (by omega) (by omega) dX7_fall_14 (by decide) (rfl : 14 + 3 = 17) (fun h => ?_) (fun h => ?_)
  · omega
  ·
    refine q_bipush (v := -2) dX7_fall_17 (rfl : 17 + 2 = 19) (by decide) ?_
    refine q_iret rfl dX7_fall_19 ⟨rfl, rfl, _, rfl, ?_⟩
    exact ⟨rfl, rfl, rfl⟩
def mfallB (I : HI) (n : Nat) : Bool := fitsB I (sI (I 51) n + nI 10 * I 48 (4 * n + 1)) (sI (fun j => I 51 j * I 48 (4 * j + 2)) n + nI 10 * I 48 (4 * n + 1) * I 48 (4 * n + 2))
def mfallH (I : HI) (n : Nat) : HI := wr (wr (wr I 51 n (nI 10 * I 48 (4 * n + 1))) 52 n (I 48 (4 * n + 3))) 50 0 (nI (n + 1))
theorem S_mfall {d nf n : Nat} {I : HI} {J : HJ} (hf : I 47 0 = nI nf) (h12 : nf ≤ 12) (hn : I 50 0 = nI n) (hlt : n < nf) : MI mX7_fall (d + 2) [.ref 44] shA I J RA (fun x I' J' => x = cond (mfallB I n) (nI (n + 1)) (-3) ∧ I' = cond (mfallB I n) (mfallH I n) I ∧ J' = J) := by
  refine Mt.of (L := [some (.ref 44), none, none]) (by decide +kernel) (Nat.le_of_ble_eq_true rfl) rfl ?_
  refine q_aload_n dX7_fall_0 (rfl : 0 + 1 = 1) rfl ?_
  refine q_getR dX7_fall_1 (rfl : 1 + 3 = 4) fX7_26 (by first | rfl | assumption) (by first | rfl | assumption) ?_
  refine q_iconst (v := nI 0) dX7_fall_4 (rfl : 4 + 1 = 5) (by decide) ?_
  refine q_iald (j := 0) dX7_fall_5 (rfl : 5 + 1 = 6) (by first | rfl | assumption) (by decide) (by decide) ?_
  try simp (disch := omega) only [wr_hit, wr_p, wr_k, nI_add, pk_mul, nI_1, nI_s1, pk_sub, Nat.add_sub_cancel, hn, hf]
  refine q_istore_n dX7_fall_6 (rfl : 6 + 1 = 7) (by decide) ?_
  refine q_iload_n dX7_fall_7 (rfl : 7 + 1 = 8) rfl ?_
  refine q_aload_n dX7_fall_8 (rfl : 8 + 1 = 9) rfl ?_
  refine q_getR dX7_fall_9 (rfl : 9 + 3 = 12) fX7_17 (by first | rfl | assumption) (by first | rfl | assumption) ?_
  refine q_iconst (v := nI 0) dX7_fall_12 (rfl : 12 + 1 = 13) (by decide) ?_
  refine q_iald (j := 0) dX7_fall_13 (rfl : 13 + 1 = 14) (by first | rfl | assumption) (by decide) (by decide) ?_
  try simp (disch := omega) only [wr_hit, wr_p, wr_k, nI_add, pk_mul, nI_1, nI_s1, pk_sub, Nat.add_sub_cancel, hn, hf]
  refine q_icmp_ne_n (q := 20) (by omega) (by omega) dX7_fall_14 (by decide) (rfl : 14 + 3 = 17) (fun h => ?_) (fun h => ?_)
  ·
    refine q_bipush (v := nI 10) dX7_fall_20 (rfl : 20 + 2 = 22) (by decide) ?_
    refine q_aload_n dX7_fall_22 (rfl : 22 + 1 = 23) rfl ?_
    refine q_iload_n dX7_fall_23 (rfl : 23 + 1 = 24) rfl ?_
    refine q_iconst (v := nI 1) dX7_fall_24 (rfl : 24 + 1 = 25) (by decide) ?_
    refine q_callVIp (S_of (d := d + 1) (i := n) (w := 1) (by omega)) dX7_fall_25 (rfl : 25 + 3 = 28) lX7_123 vX7_of (by first | rfl | assumption) rfl rfl (Nat.le_of_ble_eq_true rfl) TM_room TM_cs ?_
    refine q_imul dX7_fall_28 (rfl : 28 + 1 = 29) ?_
    refine q_istore_n dX7_fall_29 (rfl : 29 + 1 = 30) (by decide) ?_
    refine q_aload_n dX7_fall_30 (rfl : 30 + 1 = 31) rfl ?_
    refine q_aload_n dX7_fall_31 (rfl : 31 + 1 = 32) rfl ?_
    refine q_callVIp (S_mhigh (d := d + 1) hn (by omega)) dX7_fall_32 (rfl : 32 + 3 = 35) lX7_134 vX7_high (by first | rfl | assumption) rfl rfl (Nat.le_of_ble_eq_true rfl) TM_room TM_cs ?_
    refine q_iload_n dX7_fall_35 (rfl : 35 + 1 = 36) rfl ?_
    refine q_iadd dX7_fall_36 (rfl : 36 + 1 = 37) ?_
    refine q_aload_n dX7_fall_37 (rfl : 37 + 1 = 38) rfl ?_
    refine q_callVIp (S_mload (d := d) hn (by omega)) dX7_fall_38 (rfl : 38 + 3 = 41) lX7_137 vX7_load (by first | rfl | assumption) rfl rfl (Nat.le_of_ble_eq_true rfl) TM_room TM_cs ?_
    refine q_iload_n dX7_fall_41 (rfl : 41 + 1 = 42) rfl ?_
    refine q_aload_n dX7_fall_42 (rfl : 42 + 1 = 43) rfl ?_
    refine q_iload_n dX7_fall_43 (rfl : 43 + 1 = 44) rfl ?_
    refine q_iconst (v := nI 2) dX7_fall_44 (rfl : 44 + 1 = 45) (by decide) ?_
    refine q_callVIp (S_of (d := d + 1) (i := n) (w := 2) (by omega)) dX7_fall_45 (rfl : 45 + 3 = 48) lX7_123 vX7_of (by first | rfl | assumption) rfl rfl (Nat.le_of_ble_eq_true rfl) TM_room TM_cs ?_
    refine q_imul dX7_fall_48 (rfl : 48 + 1 = 49) ?_
    refine q_iadd dX7_fall_49 (rfl : 49 + 1 = 50) ?_
    refine q_callVIp (S_fits (d := d + 1)) dX7_fall_50 (rfl : 50 + 3 = 53) lX7_140 vX7_fits (by first | rfl | assumption) rfl rfl (Nat.le_of_ble_eq_true rfl) TM_room TM_cs ?_
    refine q_if_ne_b (q := 59) dX7_fall_53 (by decide) (rfl : 53 + 3 = 56) (fun hb => ?_) (fun hb => ?_)
    ·
      have hb' : mfallB I n = true := hb
      refine q_aload_n dX7_fall_59 (rfl : 59 + 1 = 60) rfl ?_
      refine q_getR dX7_fall_60 (rfl : 60 + 3 = 63) fX7_29 (by first | rfl | assumption) (by first | rfl | assumption) ?_
      refine q_iload_n dX7_fall_63 (rfl : 63 + 1 = 64) rfl ?_
      refine q_iload_n dX7_fall_64 (rfl : 64 + 1 = 65) rfl ?_
      refine q_iast dX7_fall_65 (rfl : 65 + 1 = 66) (by first | rfl | assumption) (by first | assumption | omega) (by decide) ?_
      refine q_aload_n dX7_fall_66 (rfl : 66 + 1 = 67) rfl ?_
      refine q_getR dX7_fall_67 (rfl : 67 + 3 = 70) fX7_32 (by first | rfl | assumption) (by first | rfl | assumption) ?_
      refine q_iload_n dX7_fall_70 (rfl : 70 + 1 = 71) rfl ?_
      refine q_aload_n dX7_fall_71 (rfl : 71 + 1 = 72) rfl ?_
      refine q_iload_n dX7_fall_72 (rfl : 72 + 1 = 73) rfl ?_
      refine q_iconst (v := nI 3) dX7_fall_73 (rfl : 73 + 1 = 74) (by decide) ?_
      refine q_callVIp (S_of (d := d + 1) (i := n) (w := 3) (by omega)) dX7_fall_74 (rfl : 74 + 3 = 77) lX7_123 vX7_of (by first | rfl | assumption) rfl rfl (Nat.le_of_ble_eq_true rfl) TM_room TM_cs ?_
      rw [wr_ne (show (48 : Nat) ≠ 51 by omega)]
      refine q_iast dX7_fall_77 (rfl : 77 + 1 = 78) (by first | rfl | assumption) (by first | assumption | omega) (by decide) ?_
      refine q_aload_n dX7_fall_78 (rfl : 78 + 1 = 79) rfl ?_
      refine q_getR dX7_fall_79 (rfl : 79 + 3 = 82) fX7_26 (by first | rfl | assumption) (by first | rfl | assumption) ?_
      refine q_iconst (v := nI 0) dX7_fall_82 (rfl : 82 + 1 = 83) (by decide) ?_
      refine q_dup2 dX7_fall_83 (rfl : 83 + 1 = 84) rfl rfl ?_
      refine q_iald (j := 0) dX7_fall_84 (rfl : 84 + 1 = 85) (by first | rfl | assumption) (by decide) (by decide) ?_
      try simp (disch := omega) only [wr_hit, wr_p, wr_k, nI_add, pk_mul, nI_1, nI_s1, pk_sub, Nat.add_sub_cancel, hn]
      refine q_iconst (v := nI 1) dX7_fall_85 (rfl : 85 + 1 = 86) (by decide) ?_
      refine q_iadd dX7_fall_86 (rfl : 86 + 1 = 87) ?_
      try simp (disch := omega) only [wr_hit, wr_p, wr_k, nI_add, pk_mul, nI_1, nI_s1, pk_sub, Nat.add_sub_cancel, hn]
      refine q_iast (j := 0) dX7_fall_87 (rfl : 87 + 1 = 88) (by first | rfl | assumption) (by decide) (by decide) ?_
      refine q_aload_n dX7_fall_88 (rfl : 88 + 1 = 89) rfl ?_
      refine q_getR dX7_fall_89 (rfl : 89 + 3 = 92) fX7_26 (by first | rfl | assumption) (by first | rfl | assumption) ?_
      refine q_iconst (v := nI 0) dX7_fall_92 (rfl : 92 + 1 = 93) (by decide) ?_
      refine q_iald (j := 0) dX7_fall_93 (rfl : 93 + 1 = 94) (by first | rfl | assumption) (by decide) (by decide) ?_
      try simp (disch := omega) only [wr_hit, wr_p, wr_k, nI_add, pk_mul, nI_1, nI_s1, pk_sub, Nat.add_sub_cancel, hn]
      refine q_iret rfl dX7_fall_94 ⟨rfl, rfl, _, rfl, ?_⟩
      rw [hb']
      exact ⟨rfl, rfl, rfl⟩
    ·
      have hb' : mfallB I n = false := hb
      refine q_bipush (v := -3) dX7_fall_56 (rfl : 56 + 2 = 58) (by decide) ?_
      refine q_iret rfl dX7_fall_58 ⟨rfl, rfl, _, rfl, ?_⟩
      rw [hb']
      exact ⟨rfl, rfl, rfl⟩
  · omega
theorem S_mdoorOf {d n i : Nat} {sh : List Kd} {I : HI} {J : HJ} {R : HR} (h12 : n ≤ 12) (hi : i < n) : MIp mX7_doorOf d [.int (nI i), .int (nI n)] sh I J R (nI (3 * i / n)) := by
  refine Mt.of (L := [some (.int (nI i)), some (.int (nI n))]) (by decide +kernel) (Nat.le_of_ble_eq_true rfl) rfl ?_
  have e2 : ¬ nI n = 0 := nI_ne0 (by omega) (by omega)
  refine q_iconst (v := nI 3) dX7_doorOf_0 (rfl : 0 + 1 = 1) (by decide) ?_
  refine q_iload_n dX7_doorOf_1 (rfl : 1 + 1 = 2) rfl ?_
  refine q_imul dX7_doorOf_2 (rfl : 2 + 1 = 3) ?_
  try simp (disch := omega) only [wr_hit, wr_p, wr_k, nI_add, pk_mul, nI_1, nI_s1, pk_sub, Nat.add_sub_cancel]
  refine q_iload_n dX7_doorOf_3 (rfl : 3 + 1 = 4) rfl ?_
  refine q_idiv dX7_doorOf_4 (rfl : 4 + 1 = 5) (by first | assumption | decide) ?_
  refine q_iret rfl dX7_doorOf_5 ⟨rfl, rfl, _, rfl, ?_⟩
  exact ⟨pk_div (by omega) (by omega) (by omega), rfl, rfl⟩
theorem S_mlayer_bad {d n : Nat} {I : HI} {J : HJ} {i w : Int32} (hn : I 50 0 = nI n) (h : inr i (nI 0) (nI n - nI 1) = false) : MIp mX7_layer (d + 2) [.ref 44, .int i, .int w] shA I J RA (-1) := by
  refine Mt.of (L := [some (.ref 44), some (.int i), some (.int w)]) (by decide +kernel) (Nat.le_of_ble_eq_true rfl) rfl ?_
  refine q_aload_n dX7_layer_0 (rfl : 0 + 1 = 1) rfl ?_
  refine q_iload_n dX7_layer_1 (rfl : 1 + 1 = 2) rfl ?_
  refine q_callVIp (S_isLayer (d := d) hn) dX7_layer_2 (rfl : 2 + 3 = 5) lX7_144 vX7_isLayer (by first | rfl | assumption) rfl rfl (Nat.le_of_ble_eq_true rfl) TM_room TM_cs ?_
  refine q_if_eq_b (q := 20) dX7_layer_5 (by decide) (rfl : 5 + 3 = 8) (fun h2 => ?_) (fun h2 => ?_)
  ·
    refine q_iconst (v := -1) dX7_layer_20 (rfl : 20 + 1 = 21) (by decide) ?_
    refine q_goto (q := 61) dX7_layer_21 (by decide) ?_
    refine q_iret rfl dX7_layer_61 ⟨rfl, rfl, _, rfl, ?_⟩
    exact ⟨rfl, rfl, rfl⟩
  · rw [h] at h2; cases h2
theorem S_mlayer_w {d n j : Nat} {I : HI} {J : HJ} {w : Int32} (hn : I 50 0 = nI n) (h12 : n ≤ 12) (hj : j < n) (h : inr w (nI 0) (nI 2) = false) : MIp mX7_layer (d + 2) [.ref 44, .int (nI j), .int w] shA I J RA (-1) := by
  refine Mt.of (L := [some (.ref 44), some (.int (nI j)), some (.int w)]) (by decide +kernel) (Nat.le_of_ble_eq_true rfl) rfl ?_
  refine q_aload_n dX7_layer_0 (rfl : 0 + 1 = 1) rfl ?_
  refine q_iload_n dX7_layer_1 (rfl : 1 + 1 = 2) rfl ?_
  refine q_callVIp (S_isLayer (d := d) hn) dX7_layer_2 (rfl : 2 + 3 = 5) lX7_144 vX7_isLayer (by first | rfl | assumption) rfl rfl (Nat.le_of_ble_eq_true rfl) TM_room TM_cs ?_
  refine q_if_eq_b (q := 20) dX7_layer_5 (by decide) (rfl : 5 + 3 = 8) (fun h2 => ?_) (fun h2 => ?_)
  · rw [in0 hj (by omega)] at h2; cases h2
  ·
    refine q_iload_n dX7_layer_8 (rfl : 8 + 1 = 9) rfl ?_
    refine q_i2l dX7_layer_9 (rfl : 9 + 1 = 10) ?_
    refine q_lconst (v := 0) dX7_layer_10 (rfl : 10 + 1 = 11) (by decide) ?_
    refine q_ldc2 dX7_layer_11 (rfl : 11 + 3 = 14) kX7_147 ?_
    refine q_callSIp (S_inI (x := w) (a := nI 0) (b := nI 2) rfl (by decide) (by decide)) dX7_layer_14 (rfl : 14 + 3 = 17) lX7_77 vX7_in rfl rfl (Nat.le_of_ble_eq_true rfl) TM_room TM_cs ?_
    refine q_if_ne_b (q := 24) dX7_layer_17 (by decide) (rfl : 17 + 3 = 20) (fun h3 => ?_) (fun h3 => ?_)
    · rw [h] at h3; cases h3
    ·
      refine q_iconst (v := -1) dX7_layer_20 (rfl : 20 + 1 = 21) (by decide) ?_
      refine q_goto (q := 61) dX7_layer_21 (by decide) ?_
      refine q_iret rfl dX7_layer_61 ⟨rfl, rfl, _, rfl, ?_⟩
      exact ⟨rfl, rfl, rfl⟩
def mlayerV (I : HI) (n j w : Nat) : Int32 := match w with
  | 0 => I 51 j
  | 1 => I 52 j
  | _ => nI (3 * j / n)
theorem S_mlayer {d n j w : Nat} {I : HI} {J : HJ} (hn : I 50 0 = nI n) (h12 : n ≤ 12) (hj : j < n) (hw : w ≤ 2) : MIp mX7_layer (d + 2) [.ref 44, .int (nI j), .int (nI w)] shA I J RA (mlayerV I n j w) := by
  refine Mt.of (L := [some (.ref 44), some (.int (nI j)), some (.int (nI w))]) (by decide +kernel) (Nat.le_of_ble_eq_true rfl) rfl ?_
  refine q_aload_n dX7_layer_0 (rfl : 0 + 1 = 1) rfl ?_
  refine q_iload_n dX7_layer_1 (rfl : 1 + 1 = 2) rfl ?_
  refine q_callVIp (S_isLayer (d := d) hn) dX7_layer_2 (rfl : 2 + 3 = 5) lX7_144 vX7_isLayer (by first | rfl | assumption) rfl rfl (Nat.le_of_ble_eq_true rfl) TM_room TM_cs ?_
  refine q_if_eq_b (q := 20) dX7_layer_5 (by decide) (rfl : 5 + 3 = 8) (fun h2 => ?_) (fun h2 => ?_)
  · rw [in0 hj (by omega)] at h2; cases h2
  ·
    refine q_iload_n dX7_layer_8 (rfl : 8 + 1 = 9) rfl ?_
    refine q_i2l dX7_layer_9 (rfl : 9 + 1 = 10) ?_
    refine q_lconst (v := 0) dX7_layer_10 (rfl : 10 + 1 = 11) (by decide) ?_
    refine q_ldc2 dX7_layer_11 (rfl : 11 + 3 = 14) kX7_147 ?_
    refine q_callSIp (S_inI (x := nI w) (a := nI 0) (b := nI 2) rfl (by decide) (by decide)) dX7_layer_14 (rfl : 14 + 3 = 17) lX7_77 vX7_in rfl rfl (Nat.le_of_ble_eq_true rfl) TM_room TM_cs ?_
    refine q_if_ne_b (q := 24) dX7_layer_17 (by decide) (rfl : 17 + 3 = 20) (fun h3 => ?_) (fun h3 => ?_)
    ·
      refine q_iload_n dX7_layer_24 (rfl : 24 + 1 = 25) rfl ?_
      refine q_if_ne_n (q := 37) (by omega) dX7_layer_25 (by decide) (rfl : 25 + 3 = 28) (fun h0 => ?_) (fun h0 => ?_)
      ·
        refine q_iload_n dX7_layer_37 (rfl : 37 + 1 = 38) rfl ?_
        refine q_iconst (v := nI 1) dX7_layer_38 (rfl : 38 + 1 = 39) (by decide) ?_
        refine q_icmp_ne_n (q := 51) (by omega) (by omega) dX7_layer_39 (by decide) (rfl : 39 + 3 = 42) (fun h1 => ?_) (fun h1 => ?_)
        ·
          obtain rfl : w = 2 := by omega
          refine q_iload_n dX7_layer_51 (rfl : 51 + 1 = 52) rfl ?_
          refine q_aload_n dX7_layer_52 (rfl : 52 + 1 = 53) rfl ?_
          refine q_getR dX7_layer_53 (rfl : 53 + 3 = 56) fX7_26 (by first | rfl | assumption) (by first | rfl | assumption) ?_
          refine q_iconst (v := nI 0) dX7_layer_56 (rfl : 56 + 1 = 57) (by decide) ?_
          refine q_iald (j := 0) dX7_layer_57 (rfl : 57 + 1 = 58) (by first | rfl | assumption) (by decide) (by decide) ?_
          try simp (disch := omega) only [wr_hit, wr_p, wr_k, nI_add, pk_mul, nI_1, nI_s1, pk_sub, Nat.add_sub_cancel, hn]
          refine q_callSIp (S_mdoorOf (d := d + 1) h12 hj) dX7_layer_58 (rfl : 58 + 3 = 61) lX7_149 vX7_doorOf rfl rfl (Nat.le_of_ble_eq_true rfl) TM_room TM_cs ?_
          refine q_iret rfl dX7_layer_61 ⟨rfl, rfl, _, rfl, ?_⟩
          exact ⟨rfl, rfl, rfl⟩
        ·
          subst h1
          refine q_aload_n dX7_layer_42 (rfl : 42 + 1 = 43) rfl ?_
          refine q_getR dX7_layer_43 (rfl : 43 + 3 = 46) fX7_32 (by first | rfl | assumption) (by first | rfl | assumption) ?_
          refine q_iload_n dX7_layer_46 (rfl : 46 + 1 = 47) rfl ?_
          refine q_iald dX7_layer_47 (rfl : 47 + 1 = 48) (by first | rfl | assumption) (by first | assumption | omega) (by decide) ?_
          refine q_goto (q := 61) dX7_layer_48 (by decide) ?_
          refine q_iret rfl dX7_layer_61 ⟨rfl, rfl, _, rfl, ?_⟩
          exact ⟨rfl, rfl, rfl⟩
      ·
        subst h0
        refine q_aload_n dX7_layer_28 (rfl : 28 + 1 = 29) rfl ?_
        refine q_getR dX7_layer_29 (rfl : 29 + 3 = 32) fX7_29 (by first | rfl | assumption) (by first | rfl | assumption) ?_
        refine q_iload_n dX7_layer_32 (rfl : 32 + 1 = 33) rfl ?_
        refine q_iald dX7_layer_33 (rfl : 33 + 1 = 34) (by first | rfl | assumption) (by first | assumption | omega) (by decide) ?_
        refine q_goto (q := 61) dX7_layer_34 (by decide) ?_
        refine q_iret rfl dX7_layer_61 ⟨rfl, rfl, _, rfl, ?_⟩
        exact ⟨rfl, rfl, rfl⟩
    · rw [inr_of (Nat.zero_le w) hw (by decide)] at h3; cases h3
def mfo (inch heavy : Nat → Int32) (be : Int32 → Int32 → Bool) (k i : Nat) (hi lo : Int32) : Int32 := match k with
  | 0 => -4
  | k + 1 => if be (hi + nI 10 * inch i) (lo + nI 10 * inch i * heavy i) = true then mfo inch heavy be k (i + 1) (hi + nI 10 * inch i) (lo + nI 10 * inch i * heavy i) else nI i
theorem L_mfo {d n0 nf : Nat} {Po : PO} {I : HI} {J : HJ} (hf : I 47 0 = nI nf) (h12 : nf ≤ 12) :
    ∀ (k i : Nat) (hi lo : Int32), i + k = nf → Po shA (some (.int (mfo (fun i => I 48 (4 * i + 1)) (fun i => I 48 (4 * i + 2)) (fitsB I) k i hi lo))) I J RA → Wm mX7_firstOut (TM (d + 1) 0 0 false n0 Po) 0 0 shA 17 [some (.ref 44), some (.int hi), some (.int lo), some (.int (nI i))] [] I J RA := by
  intro k
  induction k with
  | zero =>
    intro i hi lo hk hPo
    obtain rfl : i = nf := by omega
    refine q_iload_n dX7_firstOut_17 (rfl : 17 + 1 = 18) rfl ?_
    refine q_aload_n dX7_firstOut_18 (rfl : 18 + 1 = 19) rfl ?_
    refine q_getR dX7_firstOut_19 (rfl : 19 + 3 = 22) fX7_17 (by first | rfl | assumption) (by first | rfl | assumption) ?_
    refine q_iconst (v := nI 0) dX7_firstOut_22 (rfl : 22 + 1 = 23) (by decide) ?_
    refine q_iald (j := 0) dX7_firstOut_23 (rfl : 23 + 1 = 24) (by first | rfl | assumption) (by decide) (by decide) ?_
    try simp (disch := omega) only [wr_hit, wr_p, wr_k, nI_add, pk_mul, nI_1, nI_s1, pk_sub, Nat.add_sub_cancel, hf]
    refine q_icmp_ge_n (q := 75) (by omega) (by omega) dX7_firstOut_24 (by decide) (rfl : 24 + 3 = 27) (fun h => ?_) (fun h => ?_)
    ·
      refine q_bipush (v := -4) dX7_firstOut_75 (rfl : 75 + 2 = 77) (by decide) ?_
      exact q_iret rfl dX7_firstOut_77 hPo
    · omega
  | succ k ih =>
    intro i hi lo hk hPo
    refine q_iload_n dX7_firstOut_17 (rfl : 17 + 1 = 18) rfl ?_
    refine q_aload_n dX7_firstOut_18 (rfl : 18 + 1 = 19) rfl ?_
    refine q_getR dX7_firstOut_19 (rfl : 19 + 3 = 22) fX7_17 (by first | rfl | assumption) (by first | rfl | assumption) ?_
    refine q_iconst (v := nI 0) dX7_firstOut_22 (rfl : 22 + 1 = 23) (by decide) ?_
    refine q_iald (j := 0) dX7_firstOut_23 (rfl : 23 + 1 = 24) (by first | rfl | assumption) (by decide) (by decide) ?_
    try simp (disch := omega) only [wr_hit, wr_p, wr_k, nI_add, pk_mul, nI_1, nI_s1, pk_sub, Nat.add_sub_cancel, hf]
    refine q_icmp_ge_n (q := 75) (by omega) (by omega) dX7_firstOut_24 (by decide) (rfl : 24 + 3 = 27) (fun h => ?_) (fun h => ?_)
    · omega
    ·
      refine q_iload_n dX7_firstOut_27 (rfl : 27 + 1 = 28) rfl ?_
      refine q_bipush (v := nI 10) dX7_firstOut_28 (rfl : 28 + 2 = 30) (by decide) ?_
      refine q_aload_n dX7_firstOut_30 (rfl : 30 + 1 = 31) rfl ?_
      refine q_iload_n dX7_firstOut_31 (rfl : 31 + 1 = 32) rfl ?_
      refine q_iconst (v := nI 1) dX7_firstOut_32 (rfl : 32 + 1 = 33) (by decide) ?_
      refine q_callVIp (S_of (d := d) (i := i) (w := 1) (by omega)) dX7_firstOut_33 (rfl : 33 + 3 = 36) lX7_123 vX7_of (by first | rfl | assumption) rfl rfl (Nat.le_of_ble_eq_true rfl) TM_room TM_cs ?_
      refine q_imul dX7_firstOut_36 (rfl : 36 + 1 = 37) ?_
      refine q_iadd dX7_firstOut_37 (rfl : 37 + 1 = 38) ?_
      refine q_istore_n dX7_firstOut_38 (rfl : 38 + 1 = 39) (by decide) ?_
      refine q_iload_n dX7_firstOut_39 (rfl : 39 + 1 = 40) rfl ?_
      refine q_bipush (v := nI 10) dX7_firstOut_40 (rfl : 40 + 2 = 42) (by decide) ?_
      refine q_aload_n dX7_firstOut_42 (rfl : 42 + 1 = 43) rfl ?_
      refine q_iload_n dX7_firstOut_43 (rfl : 43 + 1 = 44) rfl ?_
      refine q_iconst (v := nI 1) dX7_firstOut_44 (rfl : 44 + 1 = 45) (by decide) ?_
      refine q_callVIp (S_of (d := d) (i := i) (w := 1) (by omega)) dX7_firstOut_45 (rfl : 45 + 3 = 48) lX7_123 vX7_of (by first | rfl | assumption) rfl rfl (Nat.le_of_ble_eq_true rfl) TM_room TM_cs ?_
      refine q_imul dX7_firstOut_48 (rfl : 48 + 1 = 49) ?_
      refine q_aload_n dX7_firstOut_49 (rfl : 49 + 1 = 50) rfl ?_
      refine q_iload_n dX7_firstOut_50 (rfl : 50 + 1 = 51) rfl ?_
      refine q_iconst (v := nI 2) dX7_firstOut_51 (rfl : 51 + 1 = 52) (by decide) ?_
      refine q_callVIp (S_of (d := d) (i := i) (w := 2) (by omega)) dX7_firstOut_52 (rfl : 52 + 3 = 55) lX7_123 vX7_of (by first | rfl | assumption) rfl rfl (Nat.le_of_ble_eq_true rfl) TM_room TM_cs ?_
      refine q_imul dX7_firstOut_55 (rfl : 55 + 1 = 56) ?_
      refine q_iadd dX7_firstOut_56 (rfl : 56 + 1 = 57) ?_
      refine q_istore_n dX7_firstOut_57 (rfl : 57 + 1 = 58) (by decide) ?_
      refine q_aload_n dX7_firstOut_58 (rfl : 58 + 1 = 59) rfl ?_
      refine q_iload_n dX7_firstOut_59 (rfl : 59 + 1 = 60) rfl ?_
      refine q_iload_n dX7_firstOut_60 (rfl : 60 + 1 = 61) rfl ?_
      refine q_callVIp (S_fits (d := d)) dX7_firstOut_61 (rfl : 61 + 3 = 64) lX7_140 vX7_fits (by first | rfl | assumption) rfl rfl (Nat.le_of_ble_eq_true rfl) TM_room TM_cs ?_
      refine q_if_ne_b (q := 69) dX7_firstOut_64 (by decide) (rfl : 64 + 3 = 67) (fun hb => ?_) (fun hb => ?_)
      ·
        first | refine q_iinc1 dX7_firstOut_69 (rfl : 69 + 3 = 72) rfl (by decide) ?_ | refine q_iinc dX7_firstOut_69 (rfl : 69 + 3 = 72) rfl rfl (by decide) ?_
        refine q_goto (q := 17) dX7_firstOut_72 (by decide) ?_
        have e : mfo (fun i => I 48 (4 * i + 1)) (fun i => I 48 (4 * i + 2)) (fitsB I) (k + 1) i hi lo = mfo (fun i => I 48 (4 * i + 1)) (fun i => I 48 (4 * i + 2)) (fitsB I) k (i + 1) (hi + nI 10 * I 48 (4 * i + 1)) (lo + nI 10 * I 48 (4 * i + 1) * I 48 (4 * i + 2)) := by
          simp only [mfo, if_pos hb]
        rw [e] at hPo
        exact ih (i + 1) _ _ (by omega) hPo
      ·
        refine q_iload_n dX7_firstOut_67 (rfl : 67 + 1 = 68) rfl ?_
        have e : mfo (fun i => I 48 (4 * i + 1)) (fun i => I 48 (4 * i + 2)) (fitsB I) (k + 1) i hi lo = nI i := by
          simp only [mfo, hb, Bool.false_eq_true, if_false]
        rw [e] at hPo
        exact q_iret rfl dX7_firstOut_68 hPo
theorem S_mfirstOut {d nf n : Nat} {I : HI} {J : HJ} (hf : I 47 0 = nI nf) (h12 : nf ≤ 12) (hn : I 50 0 = nI n) (hle : n ≤ nf) : MIp mX7_firstOut (d + 2) [.ref 44] shA I J RA (mfo (fun i => I 48 (4 * i + 1)) (fun i => I 48 (4 * i + 2)) (fitsB I) (nf - n) n (sI (I 51) n) (sI (fun j => I 51 j * I 48 (4 * j + 2)) n)) := by
  refine Mt.of (L := [some (.ref 44), none, none, none]) (by decide +kernel) (Nat.le_of_ble_eq_true rfl) rfl ?_
  refine q_aload_n dX7_firstOut_0 (rfl : 0 + 1 = 1) rfl ?_
  refine q_callVIp (S_mhigh (d := d + 1) hn (by omega)) dX7_firstOut_1 (rfl : 1 + 3 = 4) lX7_134 vX7_high (by first | rfl | assumption) rfl rfl (Nat.le_of_ble_eq_true rfl) TM_room TM_cs ?_
  refine q_istore_n dX7_firstOut_4 (rfl : 4 + 1 = 5) (by decide) ?_
  refine q_aload_n dX7_firstOut_5 (rfl : 5 + 1 = 6) rfl ?_
  refine q_callVIp (S_mload (d := d) hn (by omega)) dX7_firstOut_6 (rfl : 6 + 3 = 9) lX7_137 vX7_load (by first | rfl | assumption) rfl rfl (Nat.le_of_ble_eq_true rfl) TM_room TM_cs ?_
  refine q_istore_n dX7_firstOut_9 (rfl : 9 + 1 = 10) (by decide) ?_
  refine q_aload_n dX7_firstOut_10 (rfl : 10 + 1 = 11) rfl ?_
  refine q_getR dX7_firstOut_11 (rfl : 11 + 3 = 14) fX7_26 (by first | rfl | assumption) (by first | rfl | assumption) ?_
  refine q_iconst (v := nI 0) dX7_firstOut_14 (rfl : 14 + 1 = 15) (by decide) ?_
  refine q_iald (j := 0) dX7_firstOut_15 (rfl : 15 + 1 = 16) (by first | rfl | assumption) (by decide) (by decide) ?_
  try simp (disch := omega) only [wr_hit, wr_p, wr_k, nI_add, pk_mul, nI_1, nI_s1, pk_sub, Nat.add_sub_cancel, hn]
  refine q_istore_n dX7_firstOut_16 (rfl : 16 + 1 = 17) (by decide) ?_
  exact L_mfo hf h12 (nf - n) n _ _ (by omega) ⟨rfl, rfl, _, rfl, rfl, rfl, rfl⟩
def mlessI (t : Nat → Int32) (n : Nat) (door most : Int32) (i : Nat) : Int32 := if nI (3 * i / n) = door then (if t i < most then t i else most) else 0
def mmeltH (I : HI) (n : Nat) (door most : Int32) (i : Nat) : HI := fun a b => if a = 51 ∧ b < i then I 51 b - mlessI (I 51) n door most b else I a b
theorem mmeltH_0 (I : HI) (n : Nat) (door most : Int32) : mmeltH I n door most 0 = I := by
  funext a b
  simp [mmeltH]
theorem mmeltH_s (I : HI) (n : Nat) (door most c : Int32) (i : Nat) (h : c = mlessI (I 51) n door most i) : wr (mmeltH I n door most i) 51 i (I 51 i - c) = mmeltH I n door most (i + 1) := by
  subst h
  funext a b
  unfold wr mmeltH
  by_cases ha : a = 51
  · subst ha
    by_cases hb : b = i
    · subst hb
      simp
    · simp only [if_true, hb, if_false, true_and]
      by_cases h1 : b < i
      · rw [if_pos h1, if_pos (by omega)]
      · rw [if_neg h1, if_neg (by omega)]
  · simp [ha]
theorem mmeltH_n (I : HI) (n : Nat) (door most : Int32) (i : Nat) (h : ¬ nI (3 * i / n) = door) : mmeltH I n door most i = mmeltH I n door most (i + 1) := by
  funext a b
  unfold mmeltH
  by_cases ha : a = 51 ∧ b = i
  · obtain ⟨rfl, rfl⟩ := ha
    simp [mlessI, h]
  · by_cases h1 : a = 51 ∧ b < i
    · rw [if_pos h1, if_pos ⟨h1.1, by omega⟩]
    · rw [if_neg h1, if_neg (by omega)]
theorem mmeltH_at (I : HI) (n : Nat) (door most : Int32) (i : Nat) : mmeltH I n door most i 51 i = I 51 i := by simp [mmeltH]
theorem mmeltH_o (I : HI) (n : Nat) (door most : Int32) (i a : Nat) (h : a ≠ 51) : mmeltH I n door most i a = I a := by
  funext b
  simp [mmeltH, h]
theorem L_mthaw {d n0 : Nat} {Po : PO} {I : HI} {J : HJ} {n : Nat} {door : Int32} (hn : I 50 0 = nI n) (h12 : n ≤ 12) (K : Wm mX7_thaw (TM (d + 1) 0 0 false n0 Po) 0 0 shA 96 [some (.ref 44), some (.int door), some (.int (sI (mlessI (I 51) n door (I 46 2)) n)), none, none] [] (mmeltH I n door (I 46 2) n) J RA) :
    ∀ (i : Nat), i ≤ n → Wm mX7_thaw (TM (d + 1) 0 0 false n0 Po) 0 0 shA 18 [some (.ref 44), some (.int door), some (.int (sI (mlessI (I 51) n door (I 46 2)) i)), some (.int (nI i)), none] [] (mmeltH I n door (I 46 2) i) J RA := by
  refine loopN (fun i hi ih => ?_)
  have hn' : mmeltH I n door (I 46 2) i 50 0 = nI n := by rw [mmeltH_o _ _ _ _ _ _ (by omega)]; exact hn
  have h46 : mmeltH I n door (I 46 2) i 46 = I 46 := mmeltH_o _ _ _ _ _ _ (by omega)
  have h51 : mmeltH I n door (I 46 2) i 51 i = I 51 i := mmeltH_at _ _ _ _ _
  refine q_iload_n dX7_thaw_18 (rfl : 18 + 1 = 19) rfl ?_
  refine q_aload_n dX7_thaw_19 (rfl : 19 + 1 = 20) rfl ?_
  refine q_getR dX7_thaw_20 (rfl : 20 + 3 = 23) fX7_26 (by first | rfl | assumption) (by first | rfl | assumption) ?_
  refine q_iconst (v := nI 0) dX7_thaw_23 (rfl : 23 + 1 = 24) (by decide) ?_
  refine q_iald (j := 0) dX7_thaw_24 (rfl : 24 + 1 = 25) (by first | rfl | assumption) (by decide) (by decide) ?_
  try simp (disch := omega) only [wr_hit, wr_p, wr_k, nI_add, pk_mul, nI_1, nI_s1, pk_sub, Nat.add_sub_cancel, hn']
  refine q_icmp_ge_n (q := 96) (by omega) (by omega) dX7_thaw_25 (by decide) (rfl : 25 + 3 = 28) (fun hc => ?_) (fun hc => ?_)
  ·
    obtain rfl : i = n := by omega
    refine q_forget (L' := [some (.ref 44), some (.int door), some (.int (sI (mlessI (I 51) i door (I 46 2)) i)), none, none]) (by repeat (first | exact trivial | refine And.intro rfl ?_)) ?_
    exact K
  ·
    refine q_iload_n dX7_thaw_28 (rfl : 28 + 1 = 29) rfl ?_
    refine q_aload_n dX7_thaw_29 (rfl : 29 + 1 = 30) rfl ?_
    refine q_getR dX7_thaw_30 (rfl : 30 + 3 = 33) fX7_26 (by first | rfl | assumption) (by first | rfl | assumption) ?_
    refine q_iconst (v := nI 0) dX7_thaw_33 (rfl : 33 + 1 = 34) (by decide) ?_
    refine q_iald (j := 0) dX7_thaw_34 (rfl : 34 + 1 = 35) (by first | rfl | assumption) (by decide) (by decide) ?_
    try simp (disch := omega) only [wr_hit, wr_p, wr_k, nI_add, pk_mul, nI_1, nI_s1, pk_sub, Nat.add_sub_cancel, hn']
    refine q_callSIp (S_mdoorOf (d := d) h12 hc) dX7_thaw_35 (rfl : 35 + 3 = 38) lX7_149 vX7_doorOf rfl rfl (Nat.le_of_ble_eq_true rfl) TM_room TM_cs ?_
    refine q_iload_n dX7_thaw_38 (rfl : 38 + 1 = 39) rfl ?_
    refine q_icmp_ne (q := 90) dX7_thaw_39 (by decide) (rfl : 39 + 3 = 42) (fun e => ?_) (fun e => ?_)
    ·
      first | refine q_iinc1 dX7_thaw_90 (rfl : 90 + 3 = 93) rfl (by decide) ?_ | refine q_iinc dX7_thaw_90 (rfl : 90 + 3 = 93) rfl rfl (by decide) ?_
      refine q_goto (q := 18) dX7_thaw_93 (by decide) ?_
      rw [mmeltH_n I n door (I 46 2) i e]
      have e3 : sI (mlessI (I 51) n door (I 46 2)) (i + 1) = sI (mlessI (I 51) n door (I 46 2)) i := by simp [sI, mlessI, e]
      rw [← e3]
      exact ih hc
    ·
      have tail : ∀ c : Int32, c = (if I 51 i < I 46 2 then I 51 i else I 46 2) → Wm mX7_thaw (TM (d + 1) 0 0 false n0 Po) 0 0 shA 72 [some (.ref 44), some (.int door), some (.int (sI (mlessI (I 51) n door (I 46 2)) i)), some (.int (nI i)), none] [.int c] (mmeltH I n door (I 46 2) i) J RA := by
        intro c hc2
        have e4 : c = mlessI (I 51) n door (I 46 2) i := by unfold mlessI; rw [if_pos e]; exact hc2
        refine q_istore dX7_thaw_72 (rfl : 72 + 2 = 74) (by decide) ?_
        refine q_aload_n dX7_thaw_74 (rfl : 74 + 1 = 75) rfl ?_
        refine q_getR dX7_thaw_75 (rfl : 75 + 3 = 78) fX7_29 (by first | rfl | assumption) (by first | rfl | assumption) ?_
        refine q_iload_n dX7_thaw_78 (rfl : 78 + 1 = 79) rfl ?_
        refine q_dup2 dX7_thaw_79 (rfl : 79 + 1 = 80) rfl rfl ?_
        refine q_iald dX7_thaw_80 (rfl : 80 + 1 = 81) (by first | rfl | assumption) (by first | assumption | omega) (by decide) ?_
        try simp (disch := omega) only [wr_hit, wr_p, wr_k, nI_add, pk_mul, nI_1, nI_s1, pk_sub, Nat.add_sub_cancel, h51]
        refine q_iload dX7_thaw_81 (rfl : 81 + 2 = 83) rfl ?_
        refine q_isub dX7_thaw_83 (rfl : 83 + 1 = 84) ?_
        try simp (disch := omega) only [wr_hit, wr_p, wr_k, nI_add, pk_mul, nI_1, nI_s1, pk_sub, Nat.add_sub_cancel, h51]
        refine q_iast dX7_thaw_84 (rfl : 84 + 1 = 85) (by first | rfl | assumption) (by first | assumption | omega) (by decide) ?_
        refine q_iload_n dX7_thaw_85 (rfl : 85 + 1 = 86) rfl ?_
        refine q_iload dX7_thaw_86 (rfl : 86 + 2 = 88) rfl ?_
        refine q_iadd dX7_thaw_88 (rfl : 88 + 1 = 89) ?_
        try simp (disch := omega) only [wr_hit, wr_p, wr_k, nI_add, pk_mul, nI_1, nI_s1, pk_sub, Nat.add_sub_cancel, h51]
        refine q_istore_n dX7_thaw_89 (rfl : 89 + 1 = 90) (by decide) ?_
        first | refine q_iinc1 dX7_thaw_90 (rfl : 90 + 3 = 93) rfl (by decide) ?_ | refine q_iinc dX7_thaw_90 (rfl : 90 + 3 = 93) rfl rfl (by decide) ?_
        refine q_goto (q := 18) dX7_thaw_93 (by decide) ?_
        rw [mmeltH_s I n door (I 46 2) c i e4]
        have e3 : sI (mlessI (I 51) n door (I 46 2)) (i + 1) = sI (mlessI (I 51) n door (I 46 2)) i + c := by rw [e4]; rfl
        rw [← e3]
        refine q_forget (L' := [some (.ref 44), some (.int door), some (.int (sI (mlessI (I 51) n door (I 46 2)) (i + 1))), some (.int (nI (i + 1))), none]) (by repeat (first | exact trivial | refine And.intro rfl ?_)) ?_
        exact ih hc
      refine q_aload_n dX7_thaw_42 (rfl : 42 + 1 = 43) rfl ?_
      refine q_getR dX7_thaw_43 (rfl : 43 + 3 = 46) fX7_29 (by first | rfl | assumption) (by first | rfl | assumption) ?_
      refine q_iload_n dX7_thaw_46 (rfl : 46 + 1 = 47) rfl ?_
      refine q_iald dX7_thaw_47 (rfl : 47 + 1 = 48) (by first | rfl | assumption) (by first | assumption | omega) (by decide) ?_
      try simp (disch := omega) only [wr_hit, wr_p, wr_k, nI_add, pk_mul, nI_1, nI_s1, pk_sub, Nat.add_sub_cancel, h51, h46]
      refine q_aload_n dX7_thaw_48 (rfl : 48 + 1 = 49) rfl ?_
      refine q_getR dX7_thaw_49 (rfl : 49 + 3 = 52) fX7_13 (by first | rfl | assumption) (by first | rfl | assumption) ?_
      refine q_iconst (v := nI 2) dX7_thaw_52 (rfl : 52 + 1 = 53) (by decide) ?_
      refine q_iald (j := 2) dX7_thaw_53 (rfl : 53 + 1 = 54) (by first | rfl | assumption) (by decide) (by decide) ?_
      try simp (disch := omega) only [wr_hit, wr_p, wr_k, nI_add, pk_mul, nI_1, nI_s1, pk_sub, Nat.add_sub_cancel, h51, h46]
      refine q_icmp_ge (q := 66) dX7_thaw_54 (by decide) (rfl : 54 + 3 = 57) (fun e5 => ?_) (fun e5 => ?_)
      ·
        refine q_aload_n dX7_thaw_66 (rfl : 66 + 1 = 67) rfl ?_
        refine q_getR dX7_thaw_67 (rfl : 67 + 3 = 70) fX7_13 (by first | rfl | assumption) (by first | rfl | assumption) ?_
        refine q_iconst (v := nI 2) dX7_thaw_70 (rfl : 70 + 1 = 71) (by decide) ?_
        refine q_iald (j := 2) dX7_thaw_71 (rfl : 71 + 1 = 72) (by first | rfl | assumption) (by decide) (by decide) ?_
        try simp (disch := omega) only [wr_hit, wr_p, wr_k, nI_add, pk_mul, nI_1, nI_s1, pk_sub, Nat.add_sub_cancel, h51, h46]
        exact tail _ (by rw [if_neg (Int32.not_lt.mpr e5)])
      ·
        refine q_aload_n dX7_thaw_57 (rfl : 57 + 1 = 58) rfl ?_
        refine q_getR dX7_thaw_58 (rfl : 58 + 3 = 61) fX7_29 (by first | rfl | assumption) (by first | rfl | assumption) ?_
        refine q_iload_n dX7_thaw_61 (rfl : 61 + 1 = 62) rfl ?_
        refine q_iald dX7_thaw_62 (rfl : 62 + 1 = 63) (by first | rfl | assumption) (by first | assumption | omega) (by decide) ?_
        try simp (disch := omega) only [wr_hit, wr_p, wr_k, nI_add, pk_mul, nI_1, nI_s1, pk_sub, Nat.add_sub_cancel, h51, h46]
        refine q_goto (q := 72) dX7_thaw_63 (by decide) ?_
        exact tail _ (by rw [if_pos (Int32.not_le.mp e5)])
theorem S_mthaw_bad {d : Nat} {I : HI} {J : HJ} {x : Int32} (h : inr x (nI 0) (nI 2) = false) : MIp mX7_thaw (d + 1) [.ref 44, .int x] shA I J RA (-1) := by
  refine Mt.of (L := [some (.ref 44), some (.int x), none, none, none]) (by decide +kernel) (Nat.le_of_ble_eq_true rfl) rfl ?_
  refine q_iload_n dX7_thaw_0 (rfl : 0 + 1 = 1) rfl ?_
  refine q_i2l dX7_thaw_1 (rfl : 1 + 1 = 2) ?_
  refine q_lconst (v := 0) dX7_thaw_2 (rfl : 2 + 1 = 3) (by decide) ?_
  refine q_ldc2 dX7_thaw_3 (rfl : 3 + 3 = 6) kX7_147 ?_
  refine q_callSIp (S_inI (x := x) (a := nI 0) (b := nI 2) rfl (by decide) (by decide)) dX7_thaw_6 (rfl : 6 + 3 = 9) lX7_77 vX7_in rfl rfl (Nat.le_of_ble_eq_true rfl) TM_room TM_cs ?_
  refine q_if_ne_b (q := 14) dX7_thaw_9 (by decide) (rfl : 9 + 3 = 12) (fun h2 => ?_) (fun h2 => ?_)
  · rw [h] at h2; cases h2
  ·
    refine q_iconst (v := -1) dX7_thaw_12 (rfl : 12 + 1 = 13) (by decide) ?_
    refine q_iret rfl dX7_thaw_13 ⟨rfl, rfl, _, rfl, ?_⟩
    exact ⟨rfl, rfl, rfl⟩
theorem S_mthaw {d n : Nat} {I : HI} {J : HJ} {x : Int32} (hn : I 50 0 = nI n) (h12 : n ≤ 12) (h : inr x (nI 0) (nI 2) = true) : MI mX7_thaw (d + 1) [.ref 44, .int x] shA I J RA (fun y I' J' => y = sI (mlessI (I 51) n x (I 46 2)) n ∧ I' = mmeltH I n x (I 46 2) n ∧ J' = J) := by
  refine Mt.of (L := [some (.ref 44), some (.int x), none, none, none]) (by decide +kernel) (Nat.le_of_ble_eq_true rfl) rfl ?_
  refine q_iload_n dX7_thaw_0 (rfl : 0 + 1 = 1) rfl ?_
  refine q_i2l dX7_thaw_1 (rfl : 1 + 1 = 2) ?_
  refine q_lconst (v := 0) dX7_thaw_2 (rfl : 2 + 1 = 3) (by decide) ?_
  refine q_ldc2 dX7_thaw_3 (rfl : 3 + 3 = 6) kX7_147 ?_
  refine q_callSIp (S_inI (x := x) (a := nI 0) (b := nI 2) rfl (by decide) (by decide)) dX7_thaw_6 (rfl : 6 + 3 = 9) lX7_77 vX7_in rfl rfl (Nat.le_of_ble_eq_true rfl) TM_room TM_cs ?_
  refine q_if_ne_b (q := 14) dX7_thaw_9 (by decide) (rfl : 9 + 3 = 12) (fun h2 => ?_) (fun h2 => ?_)
  ·
    refine q_iconst (v := nI 0) dX7_thaw_14 (rfl : 14 + 1 = 15) (by decide) ?_
    refine q_istore_n dX7_thaw_15 (rfl : 15 + 1 = 16) (by decide) ?_
    refine q_iconst (v := nI 0) dX7_thaw_16 (rfl : 16 + 1 = 17) (by decide) ?_
    refine q_istore_n dX7_thaw_17 (rfl : 17 + 1 = 18) (by decide) ?_
    have key := L_mthaw (d := d) (n0 := shA.length) (J := J) (door := x) (Po := fun sh' v I' J' R' => sh' = shA ∧ R' = RA ∧ ∃ y : Int32, v = some (.int y) ∧ (y = sI (mlessI (I 51) n x (I 46 2)) n ∧ I' = mmeltH I n x (I 46 2) n ∧ J' = J)) hn h12 ?_ 0 (by omega)
    · rw [mmeltH_0] at key
      exact key
    refine q_iload_n dX7_thaw_96 (rfl : 96 + 1 = 97) rfl ?_
    refine q_iret rfl dX7_thaw_97 ⟨rfl, rfl, _, rfl, ?_⟩
    exact ⟨rfl, rfl, rfl⟩
  · rw [h] at h2; cases h2
