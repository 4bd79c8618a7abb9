/-! the class's barn: writes -/
theorem S_clear {d : Nat} {R : HR} {I : HI} {J : HJ} : MV mX0_clear d [.ref 16] shA I J R (fun I' J' => I' = wr (wr (wr I 16 0 (nI 0)) 16 3 (nI 0)) 16 4 (nI 0) ∧ J' = J) := by
  refine Mt.of (L := [some (.ref 16)]) (by decide +kernel) (Nat.le_of_ble_eq_true rfl) rfl ?_
  refine q_aload_n dX0_clear_0 (rfl : 0 + 1 = 1) rfl ?_
  refine q_iconst (v := nI 0) dX0_clear_1 (rfl : 1 + 1 = 2) (by decide) ?_
  refine q_putI dX0_clear_2 (rfl : 2 + 3 = 5) pX0_9 (by first | rfl | assumption) ?_
  refine q_aload_n dX0_clear_5 (rfl : 5 + 1 = 6) rfl ?_
  refine q_iconst (v := nI 0) dX0_clear_6 (rfl : 6 + 1 = 7) (by decide) ?_
  refine q_putI dX0_clear_7 (rfl : 7 + 3 = 10) pX0_22 (by first | rfl | assumption) ?_
  refine q_aload_n dX0_clear_10 (rfl : 10 + 1 = 11) rfl ?_
  refine q_iconst (v := nI 0) dX0_clear_11 (rfl : 11 + 1 = 12) (by decide) ?_
  refine q_putI dX0_clear_12 (rfl : 12 + 3 = 15) pX0_25 (by first | rfl | assumption) ?_
  refine q_vret rfl dX0_clear_15 ⟨rfl, rfl, rfl, ?_⟩
  exact ⟨rfl, rfl⟩
theorem S_comeIn {d : Nat} {I : HI} {J : HJ} {n : Nat} {t u : Int32} (hn : I 16 0 = nI n) (h12 : n < 12) : MV mX0_comeIn d [.ref 16, .int t, .int u] shA I J RA (fun I' J' => I' = wr (wr (wr I 17 n t) 18 n u) 16 0 (nI (n + 1)) ∧ J' = J) := by
  refine Mt.of (L := [some (.ref 16), some (.int t), some (.int u)]) (by decide +kernel) (Nat.le_of_ble_eq_true rfl) rfl ?_
  refine q_aload_n dX0_comeIn_0 (rfl : 0 + 1 = 1) rfl ?_
  refine q_getI dX0_comeIn_1 (rfl : 1 + 3 = 4) fX0_9 (by first | rfl | assumption) ?_
  try simp (disch := omega) only [wr_hit, wr_p, wr_k, nI_add, pk_mul, nI_1, nI_s1, pk_sub, Nat.add_sub_cancel, hn]
  refine q_bipush (v := nI 12) dX0_comeIn_4 (rfl : 4 + 2 = 6) (by decide) ?_
  refine q_icmp_ge_n (q := 39) (by omega) (by omega) dX0_comeIn_6 (by decide) (rfl : 6 + 3 = 9) (fun h => ?_) (fun h => ?_)
  · omega
  · refine q_aload_n dX0_comeIn_9 (rfl : 9 + 1 = 10) rfl ?_
    refine q_getR dX0_comeIn_10 (rfl : 10 + 3 = 13) fX0_15 (by first | rfl | assumption) (by first | rfl | assumption) ?_
    refine q_aload_n dX0_comeIn_13 (rfl : 13 + 1 = 14) rfl ?_
    refine q_getI dX0_comeIn_14 (rfl : 14 + 3 = 17) fX0_9 (by first | rfl | assumption) ?_
    try simp (disch := omega) only [wr_hit, wr_p, wr_k, nI_add, pk_mul, nI_1, nI_s1, pk_sub, Nat.add_sub_cancel, hn]
    refine q_iload_n dX0_comeIn_17 (rfl : 17 + 1 = 18) rfl ?_
    refine q_iast dX0_comeIn_18 (rfl : 18 + 1 = 19) (by first | rfl | assumption) (by first | assumption | omega) (by decide) ?_
    refine q_aload_n dX0_comeIn_19 (rfl : 19 + 1 = 20) rfl ?_
    refine q_getR dX0_comeIn_20 (rfl : 20 + 3 = 23) fX0_19 (by first | rfl | assumption) (by first | rfl | assumption) ?_
    refine q_aload_n dX0_comeIn_23 (rfl : 23 + 1 = 24) rfl ?_
    refine q_getI dX0_comeIn_24 (rfl : 24 + 3 = 27) fX0_9 (by first | rfl | assumption) ?_
    try simp (disch := omega) only [wr_hit, wr_p, wr_k, nI_add, pk_mul, nI_1, nI_s1, pk_sub, Nat.add_sub_cancel, hn]
    refine q_iload_n dX0_comeIn_27 (rfl : 27 + 1 = 28) rfl ?_
    refine q_iast dX0_comeIn_28 (rfl : 28 + 1 = 29) (by first | rfl | assumption) (by first | assumption | omega) (by decide) ?_
    refine q_aload_n dX0_comeIn_29 (rfl : 29 + 1 = 30) rfl ?_
    refine q_dup dX0_comeIn_30 (rfl : 30 + 1 = 31) rfl ?_
    refine q_getI dX0_comeIn_31 (rfl : 31 + 3 = 34) fX0_9 (by first | rfl | assumption) ?_
    try simp (disch := omega) only [wr_hit, wr_p, wr_k, nI_add, pk_mul, nI_1, nI_s1, pk_sub, Nat.add_sub_cancel, hn]
    refine q_iconst (v := nI 1) dX0_comeIn_34 (rfl : 34 + 1 = 35) (by decide) ?_
    refine q_iadd dX0_comeIn_35 (rfl : 35 + 1 = 36) ?_
    try simp (disch := omega) only [wr_hit, wr_p, wr_k, nI_add, pk_mul, nI_1, nI_s1, pk_sub, Nat.add_sub_cancel, hn]
    refine q_putI dX0_comeIn_36 (rfl : 36 + 3 = 39) pX0_9 (by first | rfl | assumption) ?_
    refine q_vret rfl dX0_comeIn_39 ⟨rfl, rfl, rfl, ?_⟩
    exact ⟨rfl, rfl⟩
def shH (I : HI) (i : Nat) : HI := fun a b => if (a = 19 ∨ a = 20 ∨ a = 21) ∧ b < i then I a (b + 1) else I a b
theorem shH_0 (I : HI) : shH I 0 = I := by
  funext a b
  simp [shH]
theorem shH_o {I : HI} {i a b : Nat} (h : ¬ (a = 19 ∨ a = 20 ∨ a = 21)) : shH I i a b = I a b := by simp [shH, h]
theorem shH_b {I : HI} {i a b : Nat} (h : i ≤ b) : shH I i a b = I a b := by
  unfold shH
  rw [if_neg (by omega)]
theorem shH_s (I : HI) (i : Nat) : wr (wr (wr (shH I i) 19 i (I 19 (i + 1))) 20 i (I 20 (i + 1))) 21 i (I 21 (i + 1)) = shH I (i + 1) := by
  funext a b
  unfold wr shH
  by_cases h1 : a = 21
  · subst h1
    by_cases hb : b = i
    · subst hb; simp
    · by_cases hl : b < i
      · simp [hb, hl, show b < i + 1 by omega]
      · simp [hb, hl, show ¬ b < i + 1 by omega]
  · by_cases h2 : a = 20
    · subst h2
      by_cases hb : b = i
      · subst hb; simp
      · by_cases hl : b < i
        · simp [hb, hl, show b < i + 1 by omega]
        · simp [hb, hl, show ¬ b < i + 1 by omega]
    · by_cases h3 : a = 19
      · subst h3
        by_cases hb : b = i
        · subst hb; simp
        · by_cases hl : b < i
          · simp [hb, hl, show b < i + 1 by omega]
          · simp [hb, hl, show ¬ b < i + 1 by omega]
      · simp [h1, h2, h3]
theorem shH_x {I : HI} {i a : Nat} : shH I i a (i + 1) = I a (i + 1) := shH_b (by omega)
theorem L_forgetOldestSale {T : Tg} {I : HI} {J : HJ} (K : Wm mX0_forgetOldestSale T 0 0 shA 56 [some (.ref 16), some (.int (nI 8))] [] (shH I 7) J RA) :
    ∀ (i : Nat), i ≤ 7 → Wm mX0_forgetOldestSale T 0 0 shA 2 [some (.ref 16), some (.int (nI (i + 1)))] [] (shH I i) J RA := by
  refine loopN (fun i hi ih => ?_)
  refine q_iload_n dX0_forgetOldestSale_2 (rfl : 2 + 1 = 3) rfl ?_
  refine q_bipush (v := nI 8) dX0_forgetOldestSale_3 (rfl : 3 + 2 = 5) (by decide) ?_
  refine q_icmp_ge_n (q := 56) (by omega) (by omega) dX0_forgetOldestSale_5 (by decide) (rfl : 5 + 3 = 8) (fun h => ?_) (fun h => ?_)
  · obtain rfl : i = 7 := by omega
    exact K
  ·
    refine q_aload_n dX0_forgetOldestSale_8 (rfl : 8 + 1 = 9) rfl ?_
    refine q_getR dX0_forgetOldestSale_9 (rfl : 9 + 3 = 12) fX0_28 (by first | rfl | assumption) (by first | rfl | assumption) ?_
    refine q_iload_n dX0_forgetOldestSale_12 (rfl : 12 + 1 = 13) rfl ?_
    refine q_iconst (v := nI 1) dX0_forgetOldestSale_13 (rfl : 13 + 1 = 14) (by decide) ?_
    refine q_isub dX0_forgetOldestSale_14 (rfl : 14 + 1 = 15) ?_
    try simp (disch := omega) only [wr_hit, wr_p, wr_k, nI_add, pk_mul, nI_1, nI_s1, pk_sub, Nat.add_sub_cancel, shH_x]
    refine q_aload_n dX0_forgetOldestSale_15 (rfl : 15 + 1 = 16) rfl ?_
    refine q_getR dX0_forgetOldestSale_16 (rfl : 16 + 3 = 19) fX0_28 (by first | rfl | assumption) (by first | rfl | assumption) ?_
    refine q_iload_n dX0_forgetOldestSale_19 (rfl : 19 + 1 = 20) rfl ?_
    refine q_iald dX0_forgetOldestSale_20 (rfl : 20 + 1 = 21) (by first | rfl | assumption) (by first | assumption | omega) (by decide) ?_
    try simp (disch := omega) only [wr_hit, wr_p, wr_k, nI_add, pk_mul, nI_1, nI_s1, pk_sub, Nat.add_sub_cancel, shH_x]
    refine q_iast dX0_forgetOldestSale_21 (rfl : 21 + 1 = 22) (by first | rfl | assumption) (by first | assumption | omega) (by decide) ?_
    refine q_aload_n dX0_forgetOldestSale_22 (rfl : 22 + 1 = 23) rfl ?_
    refine q_getR dX0_forgetOldestSale_23 (rfl : 23 + 3 = 26) fX0_31 (by first | rfl | assumption) (by first | rfl | assumption) ?_
    refine q_iload_n dX0_forgetOldestSale_26 (rfl : 26 + 1 = 27) rfl ?_
    refine q_iconst (v := nI 1) dX0_forgetOldestSale_27 (rfl : 27 + 1 = 28) (by decide) ?_
    refine q_isub dX0_forgetOldestSale_28 (rfl : 28 + 1 = 29) ?_
    try simp (disch := omega) only [wr_hit, wr_p, wr_k, nI_add, pk_mul, nI_1, nI_s1, pk_sub, Nat.add_sub_cancel, shH_x]
    refine q_aload_n dX0_forgetOldestSale_29 (rfl : 29 + 1 = 30) rfl ?_
    refine q_getR dX0_forgetOldestSale_30 (rfl : 30 + 3 = 33) fX0_31 (by first | rfl | assumption) (by first | rfl | assumption) ?_
    refine q_iload_n dX0_forgetOldestSale_33 (rfl : 33 + 1 = 34) rfl ?_
    refine q_iald dX0_forgetOldestSale_34 (rfl : 34 + 1 = 35) (by first | rfl | assumption) (by first | assumption | omega) (by decide) ?_
    try simp (disch := omega) only [wr_hit, wr_p, wr_k, nI_add, pk_mul, nI_1, nI_s1, pk_sub, Nat.add_sub_cancel, shH_x]
    refine q_iast dX0_forgetOldestSale_35 (rfl : 35 + 1 = 36) (by first | rfl | assumption) (by first | assumption | omega) (by decide) ?_
    refine q_aload_n dX0_forgetOldestSale_36 (rfl : 36 + 1 = 37) rfl ?_
    refine q_getR dX0_forgetOldestSale_37 (rfl : 37 + 3 = 40) fX0_34 (by first | rfl | assumption) (by first | rfl | assumption) ?_
    refine q_iload_n dX0_forgetOldestSale_40 (rfl : 40 + 1 = 41) rfl ?_
    refine q_iconst (v := nI 1) dX0_forgetOldestSale_41 (rfl : 41 + 1 = 42) (by decide) ?_
    refine q_isub dX0_forgetOldestSale_42 (rfl : 42 + 1 = 43) ?_
    try simp (disch := omega) only [wr_hit, wr_p, wr_k, nI_add, pk_mul, nI_1, nI_s1, pk_sub, Nat.add_sub_cancel, shH_x]
    refine q_aload_n dX0_forgetOldestSale_43 (rfl : 43 + 1 = 44) rfl ?_
    refine q_getR dX0_forgetOldestSale_44 (rfl : 44 + 3 = 47) fX0_34 (by first | rfl | assumption) (by first | rfl | assumption) ?_
    refine q_iload_n dX0_forgetOldestSale_47 (rfl : 47 + 1 = 48) rfl ?_
    refine q_iald dX0_forgetOldestSale_48 (rfl : 48 + 1 = 49) (by first | rfl | assumption) (by first | assumption | omega) (by decide) ?_
    try simp (disch := omega) only [wr_hit, wr_p, wr_k, nI_add, pk_mul, nI_1, nI_s1, pk_sub, Nat.add_sub_cancel, shH_x]
    refine q_iast dX0_forgetOldestSale_49 (rfl : 49 + 1 = 50) (by first | rfl | assumption) (by first | assumption | omega) (by decide) ?_
    first | refine q_iinc1 dX0_forgetOldestSale_50 (rfl : 50 + 3 = 53) rfl (by decide) ?_ | refine q_iinc dX0_forgetOldestSale_50 (rfl : 50 + 3 = 53) rfl rfl (by decide) ?_
    refine q_goto (q := 2) dX0_forgetOldestSale_53 (by decide) ?_
    rw [shH_s]
    exact ih (by omega)
def forgetH (I : HI) : HI := wr (shH I 7) 16 4 (nI 7)
theorem S_forgetOldestSale {d : Nat} {I : HI} {J : HJ} : MV mX0_forgetOldestSale d [.ref 16] shA I J RA (fun I' J' => I' = forgetH I ∧ J' = J) := by
  refine Mt.of (L := [some (.ref 16), none]) (by decide +kernel) (Nat.le_of_ble_eq_true rfl) rfl ?_
  refine q_iconst (v := nI 1) dX0_forgetOldestSale_0 (rfl : 0 + 1 = 1) (by decide) ?_
  refine q_istore_n dX0_forgetOldestSale_1 (rfl : 1 + 1 = 2) (by decide) ?_
  have e := shH_0 I
  rw [← e]
  refine L_forgetOldestSale ?_ 0 (by omega)
  refine q_aload_n dX0_forgetOldestSale_56 (rfl : 56 + 1 = 57) rfl ?_
  refine q_bipush (v := nI 7) dX0_forgetOldestSale_57 (rfl : 57 + 2 = 59) (by decide) ?_
  refine q_putI dX0_forgetOldestSale_59 (rfl : 59 + 3 = 62) pX0_25 (by first | rfl | assumption) ?_
  refine q_vret rfl dX0_forgetOldestSale_62 ⟨rfl, rfl, rfl, ?_⟩
  rw [e]
  exact ⟨rfl, rfl⟩
def saleH (I : HI) (ns i : Nat) (q paid : Int32) : HI := wr (wr (wr (wr (wr (wr I 17 i (I 17 i - q)) 16 3 (I 16 3 + paid)) 19 ns (nI i)) 20 ns q) 21 ns paid) 16 4 (nI (ns + 1))
theorem L_addSale {T : Tg} {I : HI} {J : HJ} {ns i : Nat} {q paid : Int32} (hs : I 16 4 = nI ns) (h8 : ns < 8) (hi : i < 12) (K : Wm mX0_addSale T 0 0 shA 73 [some (.ref 16), some (.int (nI i)), some (.int q), some (.int paid)] [] (saleH I ns i q paid) J RA) :
    Wm mX0_addSale T 0 0 shA 13 [some (.ref 16), some (.int (nI i)), some (.int q), some (.int paid)] [] I J RA := by
  refine q_aload_n dX0_addSale_13 (rfl : 13 + 1 = 14) rfl ?_
  refine q_getR dX0_addSale_14 (rfl : 14 + 3 = 17) fX0_15 (by first | rfl | assumption) (by first | rfl | assumption) ?_
  refine q_iload_n dX0_addSale_17 (rfl : 17 + 1 = 18) rfl ?_
  refine q_dup2 dX0_addSale_18 (rfl : 18 + 1 = 19) rfl rfl ?_
  refine q_iald dX0_addSale_19 (rfl : 19 + 1 = 20) (by first | rfl | assumption) (by first | assumption | omega) (by decide) ?_
  try simp (disch := omega) only [wr_hit, wr_p, wr_k, nI_add, pk_mul, nI_1, nI_s1, pk_sub, Nat.add_sub_cancel, hs]
  refine q_iload_n dX0_addSale_20 (rfl : 20 + 1 = 21) rfl ?_
  refine q_isub dX0_addSale_21 (rfl : 21 + 1 = 22) ?_
  try simp (disch := omega) only [wr_hit, wr_p, wr_k, nI_add, pk_mul, nI_1, nI_s1, pk_sub, Nat.add_sub_cancel, hs]
  refine q_iast dX0_addSale_22 (rfl : 22 + 1 = 23) (by first | rfl | assumption) (by first | assumption | omega) (by decide) ?_
  refine q_aload_n dX0_addSale_23 (rfl : 23 + 1 = 24) rfl ?_
  refine q_dup dX0_addSale_24 (rfl : 24 + 1 = 25) rfl ?_
  refine q_getI dX0_addSale_25 (rfl : 25 + 3 = 28) fX0_22 (by first | rfl | assumption) ?_
  try simp (disch := omega) only [wr_hit, wr_p, wr_k, nI_add, pk_mul, nI_1, nI_s1, pk_sub, Nat.add_sub_cancel, hs]
  refine q_iload_n dX0_addSale_28 (rfl : 28 + 1 = 29) rfl ?_
  refine q_iadd dX0_addSale_29 (rfl : 29 + 1 = 30) ?_
  try simp (disch := omega) only [wr_hit, wr_p, wr_k, nI_add, pk_mul, nI_1, nI_s1, pk_sub, Nat.add_sub_cancel, hs]
  refine q_putI dX0_addSale_30 (rfl : 30 + 3 = 33) pX0_22 (by first | rfl | assumption) ?_
  refine q_aload_n dX0_addSale_33 (rfl : 33 + 1 = 34) rfl ?_
  refine q_getR dX0_addSale_34 (rfl : 34 + 3 = 37) fX0_28 (by first | rfl | assumption) (by first | rfl | assumption) ?_
  refine q_aload_n dX0_addSale_37 (rfl : 37 + 1 = 38) rfl ?_
  refine q_getI dX0_addSale_38 (rfl : 38 + 3 = 41) fX0_25 (by first | rfl | assumption) ?_
  try simp (disch := omega) only [wr_hit, wr_p, wr_k, nI_add, pk_mul, nI_1, nI_s1, pk_sub, Nat.add_sub_cancel, hs]
  refine q_iload_n dX0_addSale_41 (rfl : 41 + 1 = 42) rfl ?_
  refine q_iast dX0_addSale_42 (rfl : 42 + 1 = 43) (by first | rfl | assumption) (by first | assumption | omega) (by decide) ?_
  refine q_aload_n dX0_addSale_43 (rfl : 43 + 1 = 44) rfl ?_
  refine q_getR dX0_addSale_44 (rfl : 44 + 3 = 47) fX0_31 (by first | rfl | assumption) (by first | rfl | assumption) ?_
  refine q_aload_n dX0_addSale_47 (rfl : 47 + 1 = 48) rfl ?_
  refine q_getI dX0_addSale_48 (rfl : 48 + 3 = 51) fX0_25 (by first | rfl | assumption) ?_
  try simp (disch := omega) only [wr_hit, wr_p, wr_k, nI_add, pk_mul, nI_1, nI_s1, pk_sub, Nat.add_sub_cancel, hs]
  refine q_iload_n dX0_addSale_51 (rfl : 51 + 1 = 52) rfl ?_
  refine q_iast dX0_addSale_52 (rfl : 52 + 1 = 53) (by first | rfl | assumption) (by first | assumption | omega) (by decide) ?_
  refine q_aload_n dX0_addSale_53 (rfl : 53 + 1 = 54) rfl ?_
  refine q_getR dX0_addSale_54 (rfl : 54 + 3 = 57) fX0_34 (by first | rfl | assumption) (by first | rfl | assumption) ?_
  refine q_aload_n dX0_addSale_57 (rfl : 57 + 1 = 58) rfl ?_
  refine q_getI dX0_addSale_58 (rfl : 58 + 3 = 61) fX0_25 (by first | rfl | assumption) ?_
  try simp (disch := omega) only [wr_hit, wr_p, wr_k, nI_add, pk_mul, nI_1, nI_s1, pk_sub, Nat.add_sub_cancel, hs]
  refine q_iload_n dX0_addSale_61 (rfl : 61 + 1 = 62) rfl ?_
  refine q_iast dX0_addSale_62 (rfl : 62 + 1 = 63) (by first | rfl | assumption) (by first | assumption | omega) (by decide) ?_
  refine q_aload_n dX0_addSale_63 (rfl : 63 + 1 = 64) rfl ?_
  refine q_dup dX0_addSale_64 (rfl : 64 + 1 = 65) rfl ?_
  refine q_getI dX0_addSale_65 (rfl : 65 + 3 = 68) fX0_25 (by first | rfl | assumption) ?_
  try simp (disch := omega) only [wr_hit, wr_p, wr_k, nI_add, pk_mul, nI_1, nI_s1, pk_sub, Nat.add_sub_cancel, hs]
  refine q_iconst (v := nI 1) dX0_addSale_68 (rfl : 68 + 1 = 69) (by decide) ?_
  refine q_iadd dX0_addSale_69 (rfl : 69 + 1 = 70) ?_
  try simp (disch := omega) only [wr_hit, wr_p, wr_k, nI_add, pk_mul, nI_1, nI_s1, pk_sub, Nat.add_sub_cancel, hs]
  refine q_putI dX0_addSale_70 (rfl : 70 + 3 = 73) pX0_25 (by first | rfl | assumption) ?_
  exact K
theorem S_addSale {d : Nat} {I : HI} {J : HJ} {ns i : Nat} {q paid : Int32} (hs : I 16 4 = nI ns) (h8 : ns ≤ 8) (hi : i < 12) : MV mX0_addSale (d + 1) [.ref 16, .int (nI i), .int q, .int paid] shA I J RA (fun I' J' => I' = (if ns < 8 then saleH I ns i q paid else saleH (forgetH I) 7 i q paid) ∧ J' = J) := by
  refine Mt.of (L := [some (.ref 16), some (.int (nI i)), some (.int q), some (.int paid)]) (by decide +kernel) (Nat.le_of_ble_eq_true rfl) rfl ?_
  refine q_aload_n dX0_addSale_0 (rfl : 0 + 1 = 1) rfl ?_
  refine q_getI dX0_addSale_1 (rfl : 1 + 3 = 4) fX0_25 (by first | rfl | assumption) ?_
  try simp (disch := omega) only [wr_hit, wr_p, wr_k, nI_add, pk_mul, nI_1, nI_s1, pk_sub, Nat.add_sub_cancel, hs]
  refine q_bipush (v := nI 8) dX0_addSale_4 (rfl : 4 + 2 = 6) (by decide) ?_
  refine q_icmp_lt_n (q := 13) (by omega) (by omega) dX0_addSale_6 (by decide) (rfl : 6 + 3 = 9) (fun h => ?_) (fun h => ?_)
  ·
    refine L_addSale hs h hi ?_
    refine q_vret rfl dX0_addSale_73 ⟨rfl, rfl, rfl, ?_⟩
    rw [if_pos h]
    exact ⟨rfl, rfl⟩
  ·
    refine q_aload_n dX0_addSale_9 (rfl : 9 + 1 = 10) rfl ?_
    refine q_callVV S_forgetOldestSale dX0_addSale_10 (rfl : 10 + 3 = 13) lX0_59 vX0_forgetOldestSale (by first | rfl | assumption) rfl rfl (Nat.le_of_ble_eq_true rfl) TM_room TM_cs ?_
    intro I1 J1 hp
    obtain ⟨rfl, rfl⟩ := hp
    refine L_addSale (ns := 7) (by simp [forgetH, wr]) (by omega) hi ?_
    refine q_vret rfl dX0_addSale_73 ⟨rfl, rfl, rfl, ?_⟩
    rw [if_neg (by omega)]
    exact ⟨rfl, rfl⟩
def undoH (I : HI) (k j : Nat) : HI := wr (wr (wr I 16 4 (nI k)) 17 j (I 17 j + I 20 k)) 16 3 (I 16 3 - I 21 k)
theorem S_takeSaleBack0 {d : Nat} {I : HI} {J : HJ} (hs : I 16 4 = nI 0) : MIp mX0_takeSaleBack d [.ref 16] shA I J RA (-2) := by
  refine Mt.of (L := [some (.ref 16)]) (by decide +kernel) (Nat.le_of_ble_eq_true rfl) rfl ?_
  refine q_aload_n dX0_takeSaleBack_0 (rfl : 0 + 1 = 1) rfl ?_
  refine q_getI dX0_takeSaleBack_1 (rfl : 1 + 3 = 4) fX0_25 (by first | rfl | assumption) ?_
  try simp (disch := omega) only [wr_hit, wr_p, wr_k, nI_add, pk_mul, nI_1, nI_s1, pk_sub, Nat.add_sub_cancel, hs]
  refine q_if_ne_n (q := 10) (by omega) dX0_takeSaleBack_4 (by decide) (rfl : 4 + 3 = 7) (fun h => ?_) (fun h => ?_)
  · omega
  ·
    refine q_bipush (v := -2) dX0_takeSaleBack_7 (rfl : 7 + 2 = 9) (by decide) ?_
    refine q_iret rfl dX0_takeSaleBack_9 ⟨rfl, rfl, _, rfl, ?_⟩
    exact ⟨rfl, rfl, rfl⟩
theorem S_takeSaleBack {d : Nat} {I : HI} {J : HJ} {k j : Nat} (hs : I 16 4 = nI (k + 1)) (h8 : k < 8) (hj : I 19 k = nI j) (h12 : j < 12) : MI mX0_takeSaleBack d [.ref 16] shA I J RA (fun x I' J' => x = I 20 k ∧ I' = undoH I k j ∧ J' = J) := by
  refine Mt.of (L := [some (.ref 16)]) (by decide +kernel) (Nat.le_of_ble_eq_true rfl) rfl ?_
  refine q_aload_n dX0_takeSaleBack_0 (rfl : 0 + 1 = 1) rfl ?_
  refine q_getI dX0_takeSaleBack_1 (rfl : 1 + 3 = 4) fX0_25 (by first | rfl | assumption) ?_
  try simp (disch := omega) only [wr_hit, wr_p, wr_k, nI_add, pk_mul, nI_1, nI_s1, pk_sub, Nat.add_sub_cancel, hs, hj]
  refine q_if_ne_n (q := 10) (by omega) dX0_takeSaleBack_4 (by decide) (rfl : 4 + 3 = 7) (fun h => ?_) (fun h => ?_)
  ·
    refine q_aload_n dX0_takeSaleBack_10 (rfl : 10 + 1 = 11) rfl ?_
    refine q_dup dX0_takeSaleBack_11 (rfl : 11 + 1 = 12) rfl ?_
    refine q_getI dX0_takeSaleBack_12 (rfl : 12 + 3 = 15) fX0_25 (by first | rfl | assumption) ?_
    try simp (disch := omega) only [wr_hit, wr_p, wr_k, nI_add, pk_mul, nI_1, nI_s1, pk_sub, Nat.add_sub_cancel, hs, hj]
    refine q_iconst (v := nI 1) dX0_takeSaleBack_15 (rfl : 15 + 1 = 16) (by decide) ?_
    refine q_isub dX0_takeSaleBack_16 (rfl : 16 + 1 = 17) ?_
    try simp (disch := omega) only [wr_hit, wr_p, wr_k, nI_add, pk_mul, nI_1, nI_s1, pk_sub, Nat.add_sub_cancel, hs, hj]
    refine q_putI dX0_takeSaleBack_17 (rfl : 17 + 3 = 20) pX0_25 (by first | rfl | assumption) ?_
    refine q_aload_n dX0_takeSaleBack_20 (rfl : 20 + 1 = 21) rfl ?_
    refine q_getR dX0_takeSaleBack_21 (rfl : 21 + 3 = 24) fX0_15 (by first | rfl | assumption) (by first | rfl | assumption) ?_
    refine q_aload_n dX0_takeSaleBack_24 (rfl : 24 + 1 = 25) rfl ?_
    refine q_getR dX0_takeSaleBack_25 (rfl : 25 + 3 = 28) fX0_28 (by first | rfl | assumption) (by first | rfl | assumption) ?_
    refine q_aload_n dX0_takeSaleBack_28 (rfl : 28 + 1 = 29) rfl ?_
    refine q_getI dX0_takeSaleBack_29 (rfl : 29 + 3 = 32) fX0_25 (by first | rfl | assumption) ?_
    try simp (disch := omega) only [wr_hit, wr_p, wr_k, nI_add, pk_mul, nI_1, nI_s1, pk_sub, Nat.add_sub_cancel, hs, hj]
    refine q_iald dX0_takeSaleBack_32 (rfl : 32 + 1 = 33) (by first | rfl | assumption) (by first | assumption | omega) (by decide) ?_
    try simp (disch := omega) only [wr_hit, wr_p, wr_k, nI_add, pk_mul, nI_1, nI_s1, pk_sub, Nat.add_sub_cancel, hs, hj]
    refine q_dup2 dX0_takeSaleBack_33 (rfl : 33 + 1 = 34) rfl rfl ?_
    refine q_iald dX0_takeSaleBack_34 (rfl : 34 + 1 = 35) (by first | rfl | assumption) (by first | assumption | omega) (by decide) ?_
    try simp (disch := omega) only [wr_hit, wr_p, wr_k, nI_add, pk_mul, nI_1, nI_s1, pk_sub, Nat.add_sub_cancel, hs, hj]
    refine q_aload_n dX0_takeSaleBack_35 (rfl : 35 + 1 = 36) rfl ?_
    refine q_getR dX0_takeSaleBack_36 (rfl : 36 + 3 = 39) fX0_31 (by first | rfl | assumption) (by first | rfl | assumption) ?_
    refine q_aload_n dX0_takeSaleBack_39 (rfl : 39 + 1 = 40) rfl ?_
    refine q_getI dX0_takeSaleBack_40 (rfl : 40 + 3 = 43) fX0_25 (by first | rfl | assumption) ?_
    try simp (disch := omega) only [wr_hit, wr_p, wr_k, nI_add, pk_mul, nI_1, nI_s1, pk_sub, Nat.add_sub_cancel, hs, hj]
    refine q_iald dX0_takeSaleBack_43 (rfl : 43 + 1 = 44) (by first | rfl | assumption) (by first | assumption | omega) (by decide) ?_
    try simp (disch := omega) only [wr_hit, wr_p, wr_k, nI_add, pk_mul, nI_1, nI_s1, pk_sub, Nat.add_sub_cancel, hs, hj]
    refine q_iadd dX0_takeSaleBack_44 (rfl : 44 + 1 = 45) ?_
    try simp (disch := omega) only [wr_hit, wr_p, wr_k, nI_add, pk_mul, nI_1, nI_s1, pk_sub, Nat.add_sub_cancel, hs, hj]
    refine q_iast dX0_takeSaleBack_45 (rfl : 45 + 1 = 46) (by first | rfl | assumption) (by first | assumption | omega) (by decide) ?_
    refine q_aload_n dX0_takeSaleBack_46 (rfl : 46 + 1 = 47) rfl ?_
    refine q_dup dX0_takeSaleBack_47 (rfl : 47 + 1 = 48) rfl ?_
    refine q_getI dX0_takeSaleBack_48 (rfl : 48 + 3 = 51) fX0_22 (by first | rfl | assumption) ?_
    try simp (disch := omega) only [wr_hit, wr_p, wr_k, nI_add, pk_mul, nI_1, nI_s1, pk_sub, Nat.add_sub_cancel, hs, hj]
    refine q_aload_n dX0_takeSaleBack_51 (rfl : 51 + 1 = 52) rfl ?_
    refine q_getR dX0_takeSaleBack_52 (rfl : 52 + 3 = 55) fX0_34 (by first | rfl | assumption) (by first | rfl | assumption) ?_
    refine q_aload_n dX0_takeSaleBack_55 (rfl : 55 + 1 = 56) rfl ?_
    refine q_getI dX0_takeSaleBack_56 (rfl : 56 + 3 = 59) fX0_25 (by first | rfl | assumption) ?_
    try simp (disch := omega) only [wr_hit, wr_p, wr_k, nI_add, pk_mul, nI_1, nI_s1, pk_sub, Nat.add_sub_cancel, hs, hj]
    refine q_iald dX0_takeSaleBack_59 (rfl : 59 + 1 = 60) (by first | rfl | assumption) (by first | assumption | omega) (by decide) ?_
    try simp (disch := omega) only [wr_hit, wr_p, wr_k, nI_add, pk_mul, nI_1, nI_s1, pk_sub, Nat.add_sub_cancel, hs, hj]
    refine q_isub dX0_takeSaleBack_60 (rfl : 60 + 1 = 61) ?_
    try simp (disch := omega) only [wr_hit, wr_p, wr_k, nI_add, pk_mul, nI_1, nI_s1, pk_sub, Nat.add_sub_cancel, hs, hj]
    refine q_putI dX0_takeSaleBack_61 (rfl : 61 + 3 = 64) pX0_22 (by first | rfl | assumption) ?_
    refine q_aload_n dX0_takeSaleBack_64 (rfl : 64 + 1 = 65) rfl ?_
    refine q_getR dX0_takeSaleBack_65 (rfl : 65 + 3 = 68) fX0_31 (by first | rfl | assumption) (by first | rfl | assumption) ?_
    refine q_aload_n dX0_takeSaleBack_68 (rfl : 68 + 1 = 69) rfl ?_
    refine q_getI dX0_takeSaleBack_69 (rfl : 69 + 3 = 72) fX0_25 (by first | rfl | assumption) ?_
    try simp (disch := omega) only [wr_hit, wr_p, wr_k, nI_add, pk_mul, nI_1, nI_s1, pk_sub, Nat.add_sub_cancel, hs, hj]
    refine q_iald dX0_takeSaleBack_72 (rfl : 72 + 1 = 73) (by first | rfl | assumption) (by first | assumption | omega) (by decide) ?_
    try simp (disch := omega) only [wr_hit, wr_p, wr_k, nI_add, pk_mul, nI_1, nI_s1, pk_sub, Nat.add_sub_cancel, hs, hj]
    refine q_iret rfl dX0_takeSaleBack_73 ⟨rfl, rfl, _, rfl, ?_⟩
    exact ⟨rfl, rfl, rfl⟩
  ·
    omega
