/-! the reference: the telling of the whole text, and the laying -/
def cosH (I : HI) (k : Nat) : HI := fun a b => if a = 49 ∧ 100 ≤ b ∧ b < 100 + k then nI 10 else I a b
theorem cosH_0 (I : HI) : cosH I 0 = I := by
  funext a b
  unfold cosH
  rw [if_neg (by omega)]
theorem cosH_s (I : HI) (k : Nat) : wr (cosH I k) 49 (100 + k) (nI 10) = cosH I (k + 1) := by
  funext a b
  unfold cosH wr
  by_cases h : a = 49
  · subst h
    by_cases hb : b = 100 + k
    · subst hb; simp
    · by_cases h2 : 100 ≤ b ∧ b < 100 + k
      · simp [hb, h2, show b < 100 + (k + 1) by omega]
      · simp [hb, h2, show ¬ (100 ≤ b ∧ b < 100 + (k + 1)) by omega]
  · simp [h]
theorem cosH_Fr (I : HI) (k : Nat) : Fr I (cosH I k) := by
  intro a b h
  unfold cosH
  rw [if_neg]
  intro z
  exact h (Or.inr (Or.inr (Or.inr (Or.inl ⟨z.1, z.2.1⟩))))
def begH (I : HI) : HI := cosH (wr (wr (wr (wr (wr (wr I 47 1 (nI 0)) 46 5 (nI 400)) 46 6 (nI 60)) 46 7 (nI 5)) 46 8 (nI 1)) 46 9 (nI 0)) 100
theorem begH_Fr (I : HI) : Fr I (begH I) := ((((((Fr.rf.st (Or.inr (Or.inl ⟨rfl, rfl⟩))).st (Or.inl ⟨rfl, by omega⟩)).st (Or.inl ⟨rfl, by omega⟩)).st (Or.inl ⟨rfl, by omega⟩)).st (Or.inl ⟨rfl, by omega⟩)).st (Or.inl ⟨rfl, by omega⟩)).trans (cosH_Fr _ 100)
theorem begH_n (I : HI) : begH I 47 1 = nI 0 := by simp [begH, cosH, wr]
theorem L_begins {T : Tg} {I : HI} {J : HJ} (K : Wm mX7_begins T 0 0 shA 74 [some (.ref 44), some (.int (nI 100))] [] (cosH I 100) J RA) :
    ∀ (k : Nat), k ≤ 100 → Wm mX7_begins T 0 0 shA 51 [some (.ref 44), some (.int (nI k))] [] (cosH I k) J RA := by
  refine loopN (fun k hk ih => ?_)
  refine q_iload_n dX7_begins_51 (rfl : 51 + 1 = 52) rfl ?_
  refine q_bipush (v := nI 100) dX7_begins_52 (rfl : 52 + 2 = 54) (by decide) ?_
  refine q_icmp_ge_n (q := 74) (by omega) (by omega) dX7_begins_54 (by decide) (rfl : 54 + 3 = 57) (fun h => ?_) (fun h => ?_)
  · obtain rfl : k = 100 := by omega
    exact K
  ·
    refine q_aload_n dX7_begins_57 (rfl : 57 + 1 = 58) rfl ?_
    refine q_getR dX7_begins_58 (rfl : 58 + 3 = 61) fX7_23 (by first | rfl | assumption) (by first | rfl | assumption) ?_
    refine q_bipush (v := nI 100) dX7_begins_61 (rfl : 61 + 2 = 63) (by decide) ?_
    refine q_iload_n dX7_begins_63 (rfl : 63 + 1 = 64) rfl ?_
    refine q_iadd dX7_begins_64 (rfl : 64 + 1 = 65) ?_
    try simp (disch := omega) only [wr_hit, wr_p, wr_k, nI_add, pk_mul, nI_1, nI_s1, pk_sub, Nat.add_sub_cancel]
    refine q_bipush (v := nI 10) dX7_begins_65 (rfl : 65 + 2 = 67) (by decide) ?_
    refine q_iast dX7_begins_67 (rfl : 67 + 1 = 68) (by first | rfl | assumption) (by first | assumption | omega) (by decide) ?_
    first | refine q_iinc1 dX7_begins_68 (rfl : 68 + 3 = 71) rfl (by decide) ?_ | refine q_iinc dX7_begins_68 (rfl : 68 + 3 = 71) rfl rfl (by decide) ?_
    refine q_goto (q := 51) dX7_begins_71 (by decide) ?_
    rw [cosH_s]
    exact ih h
theorem S_begins {d : Nat} {I : HI} {J : HJ} : MV mX7_begins d [.ref 44] shA I J RA (fun I' J' => I' = begH I ∧ J' = J) := by
  refine Mt.of (L := [some (.ref 44), none]) (by decide +kernel) (Nat.le_of_ble_eq_true rfl) rfl ?_
  refine q_aload_n dX7_begins_0 (rfl : 0 + 1 = 1) rfl ?_
  refine q_getR dX7_begins_1 (rfl : 1 + 3 = 4) fX7_17 (by first | rfl | assumption) (by first | rfl | assumption) ?_
  refine q_iconst (v := nI 1) dX7_begins_4 (rfl : 4 + 1 = 5) (by decide) ?_
  refine q_iconst (v := nI 0) dX7_begins_5 (rfl : 5 + 1 = 6) (by decide) ?_
  refine q_iast (j := 1) dX7_begins_6 (rfl : 6 + 1 = 7) (by first | rfl | assumption) (by decide) (by decide) ?_
  refine q_aload_n dX7_begins_7 (rfl : 7 + 1 = 8) rfl ?_
  refine q_getR dX7_begins_8 (rfl : 8 + 3 = 11) fX7_13 (by first | rfl | assumption) (by first | rfl | assumption) ?_
  refine q_iconst (v := nI 5) dX7_begins_11 (rfl : 11 + 1 = 12) (by decide) ?_
  refine q_sipush (v := nI 400) dX7_begins_12 (rfl : 12 + 3 = 15) (by decide) ?_
  refine q_iast (j := 5) dX7_begins_15 (rfl : 15 + 1 = 16) (by first | rfl | assumption) (by decide) (by decide) ?_
  refine q_aload_n dX7_begins_16 (rfl : 16 + 1 = 17) rfl ?_
  refine q_getR dX7_begins_17 (rfl : 17 + 3 = 20) fX7_13 (by first | rfl | assumption) (by first | rfl | assumption) ?_
  refine q_bipush (v := nI 6) dX7_begins_20 (rfl : 20 + 2 = 22) (by decide) ?_
  refine q_bipush (v := nI 60) dX7_begins_22 (rfl : 22 + 2 = 24) (by decide) ?_
  refine q_iast (j := 6) dX7_begins_24 (rfl : 24 + 1 = 25) (by first | rfl | assumption) (by decide) (by decide) ?_
  refine q_aload_n dX7_begins_25 (rfl : 25 + 1 = 26) rfl ?_
  refine q_getR dX7_begins_26 (rfl : 26 + 3 = 29) fX7_13 (by first | rfl | assumption) (by first | rfl | assumption) ?_
  refine q_bipush (v := nI 7) dX7_begins_29 (rfl : 29 + 2 = 31) (by decide) ?_
  refine q_iconst (v := nI 5) dX7_begins_31 (rfl : 31 + 1 = 32) (by decide) ?_
  refine q_iast (j := 7) dX7_begins_32 (rfl : 32 + 1 = 33) (by first | rfl | assumption) (by decide) (by decide) ?_
  refine q_aload_n dX7_begins_33 (rfl : 33 + 1 = 34) rfl ?_
  refine q_getR dX7_begins_34 (rfl : 34 + 3 = 37) fX7_13 (by first | rfl | assumption) (by first | rfl | assumption) ?_
  refine q_bipush (v := nI 8) dX7_begins_37 (rfl : 37 + 2 = 39) (by decide) ?_
  refine q_iconst (v := nI 1) dX7_begins_39 (rfl : 39 + 1 = 40) (by decide) ?_
  refine q_iast (j := 8) dX7_begins_40 (rfl : 40 + 1 = 41) (by first | rfl | assumption) (by decide) (by decide) ?_
  refine q_aload_n dX7_begins_41 (rfl : 41 + 1 = 42) rfl ?_
  refine q_getR dX7_begins_42 (rfl : 42 + 3 = 45) fX7_13 (by first | rfl | assumption) (by first | rfl | assumption) ?_
  refine q_bipush (v := nI 9) dX7_begins_45 (rfl : 45 + 2 = 47) (by decide) ?_
  refine q_iconst (v := nI 0) dX7_begins_47 (rfl : 47 + 1 = 48) (by decide) ?_
  refine q_iast (j := 9) dX7_begins_48 (rfl : 48 + 1 = 49) (by first | rfl | assumption) (by decide) (by decide) ?_
  refine q_iconst (v := nI 0) dX7_begins_49 (rfl : 49 + 1 = 50) (by decide) ?_
  refine q_istore_n dX7_begins_50 (rfl : 50 + 1 = 51) (by decide) ?_
  have key := L_begins (T := TM d 0 0 false shA.length (fun sh' w I' J' R' => sh' = shA ∧ R' = RA ∧ w = none ∧ (I' = begH I ∧ J' = J))) (I := wr (wr (wr (wr (wr (wr I 47 1 (nI 0)) 46 5 (nI 400)) 46 6 (nI 60)) 46 7 (nI 5)) 46 8 (nI 1)) 46 9 (nI 0)) (J := J) ?_ 0 (by omega)
  · rw [cosH_0] at key
    exact key
  refine q_vret rfl dX7_begins_74 ⟨rfl, rfl, rfl, ?_⟩
  exact ⟨rfl, rfl⟩
def takH (I : HI) (k : Nat) : HI := fun a b => if a = 49 ∧ b < k then I 49 (100 + b) else if a = 48 ∧ b < k ∧ b < 48 then I 48 (48 + b) else if a = 46 ∧ b < k ∧ b < 5 then I 46 (5 + b) else I a b
theorem takH_0 (I : HI) : takH I 0 = I := by
  funext a b
  simp [takH]
theorem takH_s1 {I : HI} {k : Nat} (h : 48 ≤ k) : wr (takH I k) 49 k (I 49 (100 + k)) = takH I (k + 1) := by
  funext a b
  unfold takH wr
  by_cases hb : b = k
  · subst hb
    by_cases h1 : a = 49
    · simp [h1]
    · simp [h1, show ¬ b < 48 by omega, show ¬ b < 5 by omega]
  · have e : b < k + 1 ↔ b < k := by omega
    simp [hb, e]
theorem takH_s2 {I : HI} {k : Nat} (h : 5 ≤ k) (h2 : k < 48) : wr (wr (takH I k) 49 k (I 49 (100 + k))) 48 k (I 48 (48 + k)) = takH I (k + 1) := by
  funext a b
  unfold takH wr
  by_cases hb : b = k
  · subst hb
    by_cases h1 : a = 49
    · simp [h1]
    · by_cases h3 : a = 48
      · simp [h3, h2]
      · simp [h1, h3, show ¬ b < 5 by omega]
  · have e : b < k + 1 ↔ b < k := by omega
    simp [hb, e]
theorem takH_s3 {I : HI} {k : Nat} (h : k < 5) : wr (wr (wr (takH I k) 49 k (I 49 (100 + k))) 48 k (I 48 (48 + k))) 46 k (I 46 (5 + k)) = takH I (k + 1) := by
  funext a b
  unfold takH wr
  by_cases hb : b = k
  · subst hb
    by_cases h1 : a = 49
    · simp [h1]
    · by_cases h3 : a = 48
      · simp [h3, show b < 48 by omega]
      · by_cases h4 : a = 46
        · simp [h4, h]
        · simp [h1, h3, h4]
  · have e : b < k + 1 ↔ b < k := by omega
    simp [hb, e]
theorem takH_a {I : HI} {k : Nat} : takH I k 49 (100 + k) = I 49 (100 + k) := by
  unfold takH
  rw [if_neg (by omega), if_neg (by omega), if_neg (by omega)]
theorem takH_b {I : HI} {k : Nat} : takH I k 48 (48 + k) = I 48 (48 + k) := by
  unfold takH
  rw [if_neg (by omega), if_neg (by omega), if_neg (by omega)]
theorem takH_c {I : HI} {k : Nat} : takH I k 46 (5 + k) = I 46 (5 + k) := by
  unfold takH
  rw [if_neg (by omega), if_neg (by omega), if_neg (by omega)]
theorem L_takes {T : Tg} {I : HI} {J : HJ} (K : Wm mX7_takes T 0 0 shA 81 [some (.ref 44), some (.int (nI 100))] [] (takH I 100) J RA) :
    ∀ (k : Nat), k ≤ 100 → Wm mX7_takes T 0 0 shA 14 [some (.ref 44), some (.int (nI k))] [] (takH I k) J RA := by
  refine loopN (fun k hk ih => ?_)
  refine q_iload_n dX7_takes_14 (rfl : 14 + 1 = 15) rfl ?_
  refine q_bipush (v := nI 100) dX7_takes_15 (rfl : 15 + 2 = 17) (by decide) ?_
  refine q_icmp_ge_n (q := 81) (by omega) (by omega) dX7_takes_17 (by decide) (rfl : 17 + 3 = 20) (fun h => ?_) (fun h => ?_)
  · obtain rfl : k = 100 := by omega
    exact K
  ·
    refine q_aload_n dX7_takes_20 (rfl : 20 + 1 = 21) rfl ?_
    refine q_getR dX7_takes_21 (rfl : 21 + 3 = 24) fX7_23 (by first | rfl | assumption) (by first | rfl | assumption) ?_
    refine q_iload_n dX7_takes_24 (rfl : 24 + 1 = 25) rfl ?_
    refine q_aload_n dX7_takes_25 (rfl : 25 + 1 = 26) rfl ?_
    refine q_getR dX7_takes_26 (rfl : 26 + 3 = 29) fX7_23 (by first | rfl | assumption) (by first | rfl | assumption) ?_
    refine q_bipush (v := nI 100) dX7_takes_29 (rfl : 29 + 2 = 31) (by decide) ?_
    refine q_iload_n dX7_takes_31 (rfl : 31 + 1 = 32) rfl ?_
    refine q_iadd dX7_takes_32 (rfl : 32 + 1 = 33) ?_
    try simp (disch := omega) only [wr_hit, wr_p, wr_k, nI_add, pk_mul, nI_1, nI_s1, pk_sub, Nat.add_sub_cancel, takH_a, takH_b, takH_c]
    refine q_iald dX7_takes_33 (rfl : 33 + 1 = 34) (by first | rfl | assumption) (by first | assumption | omega) (by decide) ?_
    try simp (disch := omega) only [wr_hit, wr_p, wr_k, nI_add, pk_mul, nI_1, nI_s1, pk_sub, Nat.add_sub_cancel, takH_a, takH_b, takH_c]
    refine q_iast dX7_takes_34 (rfl : 34 + 1 = 35) (by first | rfl | assumption) (by first | assumption | omega) (by decide) ?_
    refine q_iload_n dX7_takes_35 (rfl : 35 + 1 = 36) rfl ?_
    refine q_bipush (v := nI 48) dX7_takes_36 (rfl : 36 + 2 = 38) (by decide) ?_
    refine q_icmp_ge_n (q := 56) (by omega) (by omega) dX7_takes_38 (by decide) (rfl : 38 + 3 = 41) (fun h2 => ?_) (fun h2 => ?_)
    ·
      refine q_iload_n dX7_takes_56 (rfl : 56 + 1 = 57) rfl ?_
      refine q_iconst (v := nI 5) dX7_takes_57 (rfl : 57 + 1 = 58) (by decide) ?_
      refine q_icmp_ge_n (q := 75) (by omega) (by omega) dX7_takes_58 (by decide) (rfl : 58 + 3 = 61) (fun h3 => ?_) (fun h3 => ?_)
      ·
        first | refine q_iinc1 dX7_takes_75 (rfl : 75 + 3 = 78) rfl (by decide) ?_ | refine q_iinc dX7_takes_75 (rfl : 75 + 3 = 78) rfl rfl (by decide) ?_
        refine q_goto (q := 14) dX7_takes_78 (by decide) ?_
        rw [takH_s1 h2]
        exact ih h
      ·
        omega
    ·
      refine q_aload_n dX7_takes_41 (rfl : 41 + 1 = 42) rfl ?_
      refine q_getR dX7_takes_42 (rfl : 42 + 3 = 45) fX7_20 (by first | rfl | assumption) (by first | rfl | assumption) ?_
      refine q_iload_n dX7_takes_45 (rfl : 45 + 1 = 46) rfl ?_
      refine q_aload_n dX7_takes_46 (rfl : 46 + 1 = 47) rfl ?_
      refine q_getR dX7_takes_47 (rfl : 47 + 3 = 50) fX7_20 (by first | rfl | assumption) (by first | rfl | assumption) ?_
      refine q_bipush (v := nI 48) dX7_takes_50 (rfl : 50 + 2 = 52) (by decide) ?_
      refine q_iload_n dX7_takes_52 (rfl : 52 + 1 = 53) rfl ?_
      refine q_iadd dX7_takes_53 (rfl : 53 + 1 = 54) ?_
      try simp (disch := omega) only [wr_hit, wr_p, wr_k, nI_add, pk_mul, nI_1, nI_s1, pk_sub, Nat.add_sub_cancel, takH_a, takH_b, takH_c]
      refine q_iald dX7_takes_54 (rfl : 54 + 1 = 55) (by first | rfl | assumption) (by first | assumption | omega) (by decide) ?_
      try simp (disch := omega) only [wr_hit, wr_p, wr_k, nI_add, pk_mul, nI_1, nI_s1, pk_sub, Nat.add_sub_cancel, takH_a, takH_b, takH_c]
      refine q_iast dX7_takes_55 (rfl : 55 + 1 = 56) (by first | rfl | assumption) (by first | assumption | omega) (by decide) ?_
      refine q_iload_n dX7_takes_56 (rfl : 56 + 1 = 57) rfl ?_
      refine q_iconst (v := nI 5) dX7_takes_57 (rfl : 57 + 1 = 58) (by decide) ?_
      refine q_icmp_ge_n (q := 75) (by omega) (by omega) dX7_takes_58 (by decide) (rfl : 58 + 3 = 61) (fun h3 => ?_) (fun h3 => ?_)
      ·
        first | refine q_iinc1 dX7_takes_75 (rfl : 75 + 3 = 78) rfl (by decide) ?_ | refine q_iinc dX7_takes_75 (rfl : 75 + 3 = 78) rfl rfl (by decide) ?_
        refine q_goto (q := 14) dX7_takes_78 (by decide) ?_
        rw [takH_s2 h3 h2]
        exact ih h
      ·
        refine q_aload_n dX7_takes_61 (rfl : 61 + 1 = 62) rfl ?_
        refine q_getR dX7_takes_62 (rfl : 62 + 3 = 65) fX7_13 (by first | rfl | assumption) (by first | rfl | assumption) ?_
        refine q_iload_n dX7_takes_65 (rfl : 65 + 1 = 66) rfl ?_
        refine q_aload_n dX7_takes_66 (rfl : 66 + 1 = 67) rfl ?_
        refine q_getR dX7_takes_67 (rfl : 67 + 3 = 70) fX7_13 (by first | rfl | assumption) (by first | rfl | assumption) ?_
        refine q_iconst (v := nI 5) dX7_takes_70 (rfl : 70 + 1 = 71) (by decide) ?_
        refine q_iload_n dX7_takes_71 (rfl : 71 + 1 = 72) rfl ?_
        refine q_iadd dX7_takes_72 (rfl : 72 + 1 = 73) ?_
        try simp (disch := omega) only [wr_hit, wr_p, wr_k, nI_add, pk_mul, nI_1, nI_s1, pk_sub, Nat.add_sub_cancel, takH_a, takH_b, takH_c]
        refine q_iald dX7_takes_73 (rfl : 73 + 1 = 74) (by first | rfl | assumption) (by first | assumption | omega) (by decide) ?_
        try simp (disch := omega) only [wr_hit, wr_p, wr_k, nI_add, pk_mul, nI_1, nI_s1, pk_sub, Nat.add_sub_cancel, takH_a, takH_b, takH_c]
        refine q_iast dX7_takes_74 (rfl : 74 + 1 = 75) (by first | rfl | assumption) (by first | assumption | omega) (by decide) ?_
        first | refine q_iinc1 dX7_takes_75 (rfl : 75 + 3 = 78) rfl (by decide) ?_ | refine q_iinc dX7_takes_75 (rfl : 75 + 3 = 78) rfl rfl (by decide) ?_
        refine q_goto (q := 14) dX7_takes_78 (by decide) ?_
        rw [takH_s3 h3]
        exact ih h
def takZ (I : HI) : HI := wr (wr (wr (wr (takH (wr I 47 0 (I 47 1)) 100) 50 0 (nI 0)) 54 0 (nI 0)) 44 14 (nI 0)) 44 13 (nI 0)
theorem S_takes {d : Nat} {I : HI} {J : HJ} : MV mX7_takes d [.ref 44] shA I J RA (fun I' J' => I' = takZ I ∧ J' = wr J 53 0 0) := by
  refine Mt.of (L := [some (.ref 44), none]) (by decide +kernel) (Nat.le_of_ble_eq_true rfl) rfl ?_
  refine q_aload_n dX7_takes_0 (rfl : 0 + 1 = 1) rfl ?_
  refine q_getR dX7_takes_1 (rfl : 1 + 3 = 4) fX7_17 (by first | rfl | assumption) (by first | rfl | assumption) ?_
  refine q_iconst (v := nI 0) dX7_takes_4 (rfl : 4 + 1 = 5) (by decide) ?_
  refine q_aload_n dX7_takes_5 (rfl : 5 + 1 = 6) rfl ?_
  refine q_getR dX7_takes_6 (rfl : 6 + 3 = 9) fX7_17 (by first | rfl | assumption) (by first | rfl | assumption) ?_
  refine q_iconst (v := nI 1) dX7_takes_9 (rfl : 9 + 1 = 10) (by decide) ?_
  refine q_iald (j := 1) dX7_takes_10 (rfl : 10 + 1 = 11) (by first | rfl | assumption) (by decide) (by decide) ?_
  refine q_iast (j := 0) dX7_takes_11 (rfl : 11 + 1 = 12) (by first | rfl | assumption) (by decide) (by decide) ?_
  refine q_iconst (v := nI 0) dX7_takes_12 (rfl : 12 + 1 = 13) (by decide) ?_
  refine q_istore_n dX7_takes_13 (rfl : 13 + 1 = 14) (by decide) ?_
  have key := L_takes (T := TM d 0 0 false shA.length (fun sh' w I' J' R' => sh' = shA ∧ R' = RA ∧ w = none ∧ (I' = takZ I ∧ J' = wr J 53 0 0))) (I := wr I 47 0 (I 47 1)) (J := J) ?_ 0 (by omega)
  · rw [takH_0] at key
    exact key
  refine q_aload_n dX7_takes_81 (rfl : 81 + 1 = 82) rfl ?_
  refine q_getR dX7_takes_82 (rfl : 82 + 3 = 85) fX7_26 (by first | rfl | assumption) (by first | rfl | assumption) ?_
  refine q_iconst (v := nI 0) dX7_takes_85 (rfl : 85 + 1 = 86) (by decide) ?_
  refine q_iconst (v := nI 0) dX7_takes_86 (rfl : 86 + 1 = 87) (by decide) ?_
  refine q_iast (j := 0) dX7_takes_87 (rfl : 87 + 1 = 88) (by first | rfl | assumption) (by decide) (by decide) ?_
  refine q_aload_n dX7_takes_88 (rfl : 88 + 1 = 89) rfl ?_
  refine q_getR dX7_takes_89 (rfl : 89 + 3 = 92) fX7_35 (by first | rfl | assumption) (by first | rfl | assumption) ?_
  refine q_iconst (v := nI 0) dX7_takes_92 (rfl : 92 + 1 = 93) (by decide) ?_
  refine q_lconst (v := 0) dX7_takes_93 (rfl : 93 + 1 = 94) (by decide) ?_
  refine q_last (j := 0) dX7_takes_94 (rfl : 94 + 1 = 95) (by first | rfl | assumption) (by decide) (by decide) ?_
  refine q_aload_n dX7_takes_95 (rfl : 95 + 1 = 96) rfl ?_
  refine q_getR dX7_takes_96 (rfl : 96 + 3 = 99) fX7_39 (by first | rfl | assumption) (by first | rfl | assumption) ?_
  refine q_iconst (v := nI 0) dX7_takes_99 (rfl : 99 + 1 = 100) (by decide) ?_
  refine q_iconst (v := nI 0) dX7_takes_100 (rfl : 100 + 1 = 101) (by decide) ?_
  refine q_iast (j := 0) dX7_takes_101 (rfl : 101 + 1 = 102) (by first | rfl | assumption) (by decide) (by decide) ?_
  refine q_aload_n dX7_takes_102 (rfl : 102 + 1 = 103) rfl ?_
  refine q_iconst (v := nI 0) dX7_takes_103 (rfl : 103 + 1 = 104) (by decide) ?_
  refine q_putI dX7_takes_104 (rfl : 104 + 3 = 107) pX7_110 (by first | rfl | assumption) ?_
  refine q_aload_n dX7_takes_107 (rfl : 107 + 1 = 108) rfl ?_
  refine q_iconst (v := nI 0) dX7_takes_108 (rfl : 108 + 1 = 109) (by decide) ?_
  refine q_putI dX7_takes_109 (rfl : 109 + 3 = 112) pX7_113 (by first | rfl | assumption) ?_
  refine q_vret rfl dX7_takes_112 ⟨rfl, rfl, rfl, ?_⟩
  exact ⟨rfl, rfl⟩
theorem numsF_p {f : Nat → Int32} {len : Nat} : ∀ (m c p : Nat) (acc : Nat → Nat) (q : Nat) (a : Nat → Nat), numsF f len m c p acc = some (q, a) → p ≤ q := by
  intro m
  induction m with
  | zero =>
    intro c p acc q a h
    unfold numsF at h
    cases h
    exact Nat.le_refl _
  | succ m ih =>
    intro c p acc q a h
    unfold numsF at h
    obtain ⟨p2, hp2⟩ : ∃ p2, p2 = (if c = 0 then p else p + 1) := ⟨_, rfl⟩
    rw [← hp2] at h
    have hle : p ≤ p2 := by
      rw [hp2]
      split <;> omega
    split at h
    · split at h
      · have h1 := ih _ _ _ _ _ h
        have h2 := (numF_p (f := f) (len - p2) p2 0 0).1
        omega
      · cases h
    · cases h
theorem itemF_q {f : Nat → Int32} {len p q : Nat} {acc : Nat → Nat} (h : itemF f len p = some (q, acc)) : p < q ∧ q ≤ len := by
  unfold itemF at h
  split at h
  · cases h
  · cases e : numsF f len (partsF (f p)) 0 (p + 1) (fun _ => 0) with
    | none => rw [e] at h; cases h
    | some r =>
      rw [e] at h
      have := numsF_p _ _ _ _ r.1 r.2 e
      simp only at h
      split at h
      · cases h
        omega
      · cases h
def runM (f : Nat → Int32) (len k p n : Nat) (Y : HI) : Int32 × HI × Nat := match k with
  | 0 => (-4, Y, n)
  | k + 1 => if p < len then (match itemF f len p with
    | none => (nI p, Y, n)
    | some r => if goodB Y n (f p) (fun j => nI (r.2 j)) = true then runM f len k r.1 (if f p = nI 102 then n + 1 else n) (goodH Y n (f p) (fun j => nI (r.2 j))) else (nI p, Y, n)) else (-4, Y, n)
theorem goodH_n {Y : HI} {n : Nat} {l : Int32} {g : Nat → Int32} (h : Y 47 1 = nI n) : goodH Y n l g 47 1 = nI (if l = nI 102 then n + 1 else n) := by
  unfold goodH
  by_cases h98 : l = nI 98
  · subst h98
    rw [if_pos rfl, if_neg (by decide), wr_ne (by omega), wr_ne (by omega), h]
  · rw [if_neg h98]
    by_cases h102 : l = nI 102
    · rw [if_pos h102, if_pos h102, wr_hit]
    · rw [if_neg h102, if_neg h102]
      split
      · rw [wr_ne (by omega), h]
      · rw [wr_ne (by omega), h]
theorem goodB_n {Y : HI} {n : Nat} {l : Int32} {g : Nat → Int32} (h12 : n ≤ 12) (h : goodB Y n l g = true) : (if l = nI 102 then n + 1 else n) ≤ 12 := by
  split
  · rename_i e
    subst e
    have h2 : goodB Y n (nI 102) g = ((inr (g 0) (leastF Y n) (nI 99) && inr (g 1) (nI 1) (nI 20) && inr (g 2) (nI 1) (nI 9) && inr (g 3) (nI 0) (nI 9)) && decide (n < 12)) := by
      unfold goodB
      rw [if_neg (by decide), if_pos rfl]
    rw [h2, Bool.and_eq_true, decide_eq_true_eq] at h
    omega
  · exact h12
theorem nI_nm4 {j : Nat} (h : j < 2 ^ 31) : ¬ nI j = -4 := fun z => absurd (nI_pos h) (by rw [z]; decide)
def faultP (I : HI) (J : HJ) (r : Int32 × HI × Nat) : Int32 → HI → HJ → Prop := fun x I' J' => J' = J ∧ Fr I I' ∧ x = r.1 ∧ (r.1 = -4 → Eqx r.2.1 I' ∧ I' 47 1 = nI r.2.2 ∧ r.2.2 ≤ 12)
theorem L_fault {d n0 len : Nat} {Po : PO} {J : HJ} {f : Nat → Int32} {I0 : HI} (h400 : len ≤ 400) (hf : I0 45 = f) (hl : I0 44 0 = nI len) :
    ∀ (k p n : Nat) (Y I : HI), len - p ≤ k → p ≤ len → Fr I0 I → Eqx Y I → I 44 2 = nI p → Y 47 1 = nI n → n ≤ 12 →
      (∀ x I', faultP I0 J (runM f len k p n Y) x I' J → Po shA (some (.int x)) I' J RA) →
      Wm mX7_fault (TM (d + 4) 0 0 false n0 Po) 0 0 shA 9 [some (.ref 44), none] [] I J RA := by
  intro k
  induction k with
  | zero =>
    intro p n Y I hk hple hfr hx hat hn h12 hPo
    have hl' : I 44 0 = nI len := (hfr 44 0 (by unfold drt; omega)).trans hl
    have hn' : I 47 1 = nI n := (hx 47 1 (by omega) (by omega)).trans hn
    refine q_aload_n dX7_fault_9 (rfl : 9 + 1 = 10) rfl ?_
    refine q_getI dX7_fault_10 (rfl : 10 + 3 = 13) fX7_85 (by first | rfl | assumption) ?_
    try simp (disch := omega) only [wr_hit, wr_p, wr_k, nI_add, pk_mul, nI_1, nI_s1, pk_sub, Nat.add_sub_cancel, hl', hat]
    refine q_aload_n dX7_fault_13 (rfl : 13 + 1 = 14) rfl ?_
    refine q_getI dX7_fault_14 (rfl : 14 + 3 = 17) fX7_81 (by first | rfl | assumption) ?_
    try simp (disch := omega) only [wr_hit, wr_p, wr_k, nI_add, pk_mul, nI_1, nI_s1, pk_sub, Nat.add_sub_cancel, hl', hat]
    refine q_icmp_ge_n (q := 37) (by omega) (by omega) dX7_fault_17 (by decide) (rfl : 17 + 3 = 20) (fun h => ?_) (fun h => ?_)
    ·
      refine q_bipush (v := -4) dX7_fault_37 (rfl : 37 + 2 = 39) (by decide) ?_
      refine q_iret rfl dX7_fault_39 (hPo _ _ ⟨rfl, hfr, rfl, fun _ => ⟨hx, hn', h12⟩⟩)
    ·
      omega
  | succ k ih =>
    intro p n Y I hk hple hfr hx hat hn h12 hPo
    have hl' : I 44 0 = nI len := (hfr 44 0 (by unfold drt; omega)).trans hl
    have hf' : I 45 = f := by
      rw [← hf]
      funext b
      exact hfr 45 b (by unfold drt; omega)
    have hn' : I 47 1 = nI n := (hx 47 1 (by omega) (by omega)).trans hn
    refine q_aload_n dX7_fault_9 (rfl : 9 + 1 = 10) rfl ?_
    refine q_getI dX7_fault_10 (rfl : 10 + 3 = 13) fX7_85 (by first | rfl | assumption) ?_
    try simp (disch := omega) only [wr_hit, wr_p, wr_k, nI_add, pk_mul, nI_1, nI_s1, pk_sub, Nat.add_sub_cancel, hl', hat]
    refine q_aload_n dX7_fault_13 (rfl : 13 + 1 = 14) rfl ?_
    refine q_getI dX7_fault_14 (rfl : 14 + 3 = 17) fX7_81 (by first | rfl | assumption) ?_
    try simp (disch := omega) only [wr_hit, wr_p, wr_k, nI_add, pk_mul, nI_1, nI_s1, pk_sub, Nat.add_sub_cancel, hl', hat]
    refine q_icmp_ge_n (q := 37) (by omega) (by omega) dX7_fault_17 (by decide) (rfl : 17 + 3 = 20) (fun h => ?_) (fun h => ?_)
    ·
      have e : runM f len (k + 1) p n Y = (-4, Y, n) := by
        unfold runM
        rw [if_neg (by omega)]
      rw [e] at hPo
      refine q_bipush (v := -4) dX7_fault_37 (rfl : 37 + 2 = 39) (by decide) ?_
      refine q_iret rfl dX7_fault_39 (hPo _ _ ⟨rfl, hfr, rfl, fun _ => ⟨hx, hn', h12⟩⟩)
    ·
      refine q_aload_n dX7_fault_20 (rfl : 20 + 1 = 21) rfl ?_
      refine q_getI dX7_fault_21 (rfl : 21 + 3 = 24) fX7_85 (by first | rfl | assumption) ?_
      try simp (disch := omega) only [wr_hit, wr_p, wr_k, nI_add, pk_mul, nI_1, nI_s1, pk_sub, Nat.add_sub_cancel, hl', hat]
      refine q_istore_n dX7_fault_24 (rfl : 24 + 1 = 25) (by decide) ?_
      refine q_aload_n dX7_fault_25 (rfl : 25 + 1 = 26) rfl ?_
      refine q_callVI (S_isItem (d := d) hl' h400 hn' h12 hat h) dX7_fault_26 (rfl : 26 + 3 = 29) lX7_116 vX7_isItem (by first | rfl | assumption) rfl rfl (Nat.le_of_ble_eq_true rfl) TM_room TM_cs ?_
      intro x I1 J1 hp
      obtain ⟨rfl, q1, q2, q3⟩ := hp
      rw [hf'] at q2 q3
      cases e : itemF f len p with
      | none =>
        have e2 : runM f len (k + 1) p n Y = (nI p, Y, n) := by
          unfold runM
          rw [if_pos h, e]
        rw [e2] at hPo
        rw [q2 e]
        refine q_if_ne_b (q := 34) dX7_fault_29 (by decide) (rfl : 29 + 3 = 32) (fun hb => ?_) (fun hb => ?_)
        ·
          cases hb
        ·
          refine q_iload_n dX7_fault_32 (rfl : 32 + 1 = 33) rfl ?_
          refine q_iret rfl dX7_fault_33 (hPo _ _ ⟨rfl, hfr.trans q1, rfl, fun z => absurd z (nI_nm4 (by omega))⟩)
      | some r =>
        obtain ⟨hx1, hx2⟩ := q3 r.1 r.2 e
        rw [hx1]
        rw [goodB_x hx] at hx1 hx2 ⊢
        refine q_if_ne_b (q := 34) dX7_fault_29 (by decide) (rfl : 29 + 3 = 32) (fun hb => ?_) (fun hb => ?_)
        ·
          refine q_goto (q := 9) dX7_fault_34 (by decide) ?_
          obtain ⟨a1, a2⟩ := hx2 hb
          have e2 : runM f len (k + 1) p n Y = runM f len k r.1 (if f p = nI 102 then n + 1 else n) (goodH Y n (f p) (fun j => nI (r.2 j))) := by
            show (if p < len then _ else _) = _
            rw [if_pos h, e]
            exact if_pos hb
          rw [e2] at hPo
          have iq := itemF_q (q := r.1) (acc := r.2) e
          refine q_forget (L' := [some (.ref 44), none]) (by repeat (first | exact trivial | refine And.intro rfl ?_)) ?_
          exact ih r.1 _ _ _ (by omega) (by omega) (hfr.trans q1) ((goodH_x hx).tr a2) a1 (goodH_n hn) (goodB_n h12 hb) hPo
        ·
          have e2 : runM f len (k + 1) p n Y = (nI p, Y, n) := by
            show (if p < len then _ else _) = _
            rw [if_pos h, e]
            exact if_neg (by rw [hb]; simp)
          rw [e2] at hPo
          refine q_iload_n dX7_fault_32 (rfl : 32 + 1 = 33) rfl ?_
          refine q_iret rfl dX7_fault_33 (hPo _ _ ⟨rfl, hfr.trans q1, rfl, fun z => absurd z (nI_nm4 (by omega))⟩)
theorem S_mfault {d len : Nat} {I : HI} {J : HJ} (hl : I 44 0 = nI len) (h400 : len ≤ 400) : MI mX7_fault (d + 4) [.ref 44] shA I J RA (faultP I J (runM (I 45) len len 0 0 (begH I))) := by
  refine Mt.of (L := [some (.ref 44), none]) (by decide +kernel) (Nat.le_of_ble_eq_true rfl) rfl ?_
  refine q_aload_n dX7_fault_0 (rfl : 0 + 1 = 1) rfl ?_
  refine q_iconst (v := nI 0) dX7_fault_1 (rfl : 1 + 1 = 2) (by decide) ?_
  refine q_putI dX7_fault_2 (rfl : 2 + 3 = 5) pX7_85 (by first | rfl | assumption) ?_
  refine q_aload_n dX7_fault_5 (rfl : 5 + 1 = 6) rfl ?_
  refine q_callVV (S_begins (d := d + 3)) dX7_fault_6 (rfl : 6 + 3 = 9) lX7_69 vX7_begins (by first | rfl | assumption) rfl rfl (Nat.le_of_ble_eq_true rfl) TM_room TM_cs ?_
  intro I1 J1 hp
  obtain ⟨rfl, rfl⟩ := hp
  have fr : Fr I (begH (wr I 44 2 (nI 0))) := (Fr.rf.st (Or.inr (Or.inr (Or.inr (Or.inr (Or.inr ⟨rfl, rfl⟩)))))).trans (begH_Fr _)
  have hx : Eqx (begH I) (begH (wr I 44 2 (nI 0))) := by
    intro a b h1 h2
    unfold begH cosH
    split
    · rfl
    · exact (Eqx.rf (I := I)).at2.both.both.both.both.both.both a b h1 h2
  refine L_fault (d := d) (I0 := I) h400 rfl hl len 0 0 (begH I) _ (by omega) (by omega) fr hx ?_ (begH_n I) (by omega) (fun x I' hp => ⟨rfl, rfl, x, rfl, hp⟩)
  simp [begH, cosH, wr]
def mlayP (I : HI) (J : HJ) (r : Int32 × HI × Nat) : Int32 → HI → HJ → Prop := fun x I' J' =>
  ((r.1 ≠ -4 ∨ r.2.2 = 0) → x = -2 ∧ Fr I I' ∧ J' = J) ∧ (r.1 = -4 → r.2.2 ≠ 0 → x = nI r.2.2 ∧ J' = wr J 53 0 0 ∧ r.2.2 ≤ 12 ∧ ∃ I2, Eqx r.2.1 I2 ∧ I2 47 1 = nI r.2.2 ∧ Fr I I2 ∧ I' = takZ I2)
theorem S_mlay {d len : Nat} {I : HI} {J : HJ} (hl : I 44 0 = nI len) (h400 : len ≤ 400) : MI mX7_lay (d + 5) [.ref 44] shA I J RA (mlayP I J (runM (I 45) len len 0 0 (begH I))) := by
  refine Mt.of (L := [some (.ref 44)]) (by decide +kernel) (Nat.le_of_ble_eq_true rfl) rfl ?_
  refine q_aload_n dX7_lay_0 (rfl : 0 + 1 = 1) rfl ?_
  refine q_callVI (S_mfault (d := d) hl h400) dX7_lay_1 (rfl : 1 + 3 = 4) lX7_120 vX7_fault (by first | rfl | assumption) rfl rfl (Nat.le_of_ble_eq_true rfl) TM_room TM_cs ?_
  intro x I1 J1 hp
  obtain ⟨rfl, q1, rfl, q3⟩ := hp
  refine q_bipush (v := -4) dX7_lay_4 (rfl : 4 + 2 = 6) (by decide) ?_
  refine q_icmp_ne (q := 18) dX7_lay_6 (by decide) (rfl : 6 + 3 = 9) (fun h => ?_) (fun h => ?_)
  ·
    refine q_bipush (v := -2) dX7_lay_18 (rfl : 18 + 2 = 20) (by decide) ?_
    refine q_iret rfl dX7_lay_20 ⟨rfl, rfl, _, rfl, ?_⟩
    exact ⟨fun _ => ⟨rfl, q1, rfl⟩, fun z => absurd z h⟩
  ·
    have h' : (runM (I 45) len len 0 0 (begH I)).1 = -4 := h
    obtain ⟨a1, a2, a3⟩ := q3 h'
    refine q_aload_n dX7_lay_9 (rfl : 9 + 1 = 10) rfl ?_
    refine q_getR dX7_lay_10 (rfl : 10 + 3 = 13) fX7_17 (by first | rfl | assumption) (by first | rfl | assumption) ?_
    refine q_iconst (v := nI 1) dX7_lay_13 (rfl : 13 + 1 = 14) (by decide) ?_
    refine q_iald (j := 1) dX7_lay_14 (rfl : 14 + 1 = 15) (by first | rfl | assumption) (by decide) (by decide) ?_
    try simp (disch := omega) only [wr_hit, wr_p, wr_k, nI_add, pk_mul, nI_1, nI_s1, pk_sub, Nat.add_sub_cancel, a2]
    refine q_if_ne_n (q := 21) (by omega) dX7_lay_15 (by decide) (rfl : 15 + 3 = 18) (fun h2 => ?_) (fun h2 => ?_)
    ·
      refine q_aload_n dX7_lay_21 (rfl : 21 + 1 = 22) rfl ?_
      refine q_callVV (S_takes (d := d + 4)) dX7_lay_22 (rfl : 22 + 3 = 25) lX7_72 vX7_takes (by first | rfl | assumption) rfl rfl (Nat.le_of_ble_eq_true rfl) TM_room TM_cs ?_
      intro I2 J2 hp
      obtain ⟨rfl, rfl⟩ := hp
      refine q_aload_n dX7_lay_25 (rfl : 25 + 1 = 26) rfl ?_
      refine q_getR dX7_lay_26 (rfl : 26 + 3 = 29) fX7_17 (by first | rfl | assumption) (by first | rfl | assumption) ?_
      refine q_iconst (v := nI 0) dX7_lay_29 (rfl : 29 + 1 = 30) (by decide) ?_
      refine q_iald (j := 0) dX7_lay_30 (rfl : 30 + 1 = 31) (by first | rfl | assumption) (by decide) (by decide) ?_
      refine q_iret rfl dX7_lay_31 ⟨rfl, rfl, _, rfl, ?_⟩
      refine ⟨fun z => ?_, fun _ _ => ⟨?_, rfl, a3, I1, a1, a2, q1, rfl⟩⟩
      · rcases z with z | z
        · exact absurd h' z
        · exact absurd z h2
      · unfold takZ takH
        simp [wr, a2]
    ·
      refine q_bipush (v := -2) dX7_lay_18 (rfl : 18 + 2 = 20) (by decide) ?_
      refine q_iret rfl dX7_lay_20 ⟨rfl, rfl, _, rfl, ?_⟩
      exact ⟨fun _ => ⟨rfl, q1, rfl⟩, fun _ z => absurd h2 z⟩
