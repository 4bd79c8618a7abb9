/-! the class's marks -/
/-- row p with its first k places as r has them -/
def setN (I : HI) (p : Nat) (r : Nat → Int32) (k : Nat) : HI := fun a b => if a = p ∧ b < k then r b else I a b
theorem setN_0 {I : HI} {p : Nat} {r : Nat → Int32} : setN I p r 0 = I := by
  funext a b
  simp [setN]
theorem setN_o {I : HI} {p k a b : Nat} {r : Nat → Int32} (h : a ≠ p) : setN I p r k a b = I a b := by simp [setN, h]
theorem setN_lo {I : HI} {p k b : Nat} {r : Nat → Int32} (h : b < k) : setN I p r k p b = r b := by simp [setN, h]
theorem setN_hi {I : HI} {p k b : Nat} {r : Nat → Int32} (h : k ≤ b) : setN I p r k p b = I p b := by
  unfold setN
  rw [if_neg (by omega)]
theorem setN_row {I : HI} {p k a : Nat} {r : Nat → Int32} (h : a ≠ p) : setN I p r k a = I a := by
  funext b
  exact setN_o h
theorem setN_s {I : HI} {p k : Nat} {r : Nat → Int32} {v : Int32} (h : v = r k) : wr (setN I p r k) p k v = setN I p r (k + 1) := by
  subst h
  funext a b
  unfold wr setN
  by_cases h1 : a = p
  · subst h1
    by_cases hb : b = k
    · subst hb; simp
    · by_cases hl : b < k
      · simp [hb, hl, show b < k + 1 by omega]
      · simp [hb, hl, show ¬ b < k + 1 by omega]
  · simp [h1]
theorem S_madd {d k : Nat} {I : HI} {J : HJ} {x : Int32} (hk : I 34 1 = nI k) (h14 : k ≤ 14) : MI mX2_add d [.ref 34, .int x] shA I J RA (fun y I' J' => y = bI (decide (k < 14)) ∧ I' = cond (decide (k < 14)) (wr (wr I 35 k x) 34 1 (nI (k + 1))) I ∧ J' = J) := by
  refine Mt.of (L := [some (.ref 34), some (.int x)]) (by decide +kernel) (Nat.le_of_ble_eq_true rfl) rfl ?_
  refine q_aload_n dX2_add_0 (rfl : 0 + 1 = 1) rfl ?_
  refine q_getI dX2_add_1 (rfl : 1 + 3 = 4) fX2_15 (by first | rfl | assumption) ?_
  try simp (disch := omega) only [wr_hit, wr_p, wr_k, nI_add, pk_mul, nI_1, nI_s1, pk_sub, Nat.add_sub_cancel, hk]
  refine q_bipush (v := nI 14) dX2_add_4 (rfl : 4 + 2 = 6) (by decide) ?_
  refine q_icmp_lt_n (q := 11) (by omega) (by omega) dX2_add_6 (by decide) (rfl : 6 + 3 = 9) (fun h => ?_) (fun h => ?_)
  ·
    refine q_aload_n dX2_add_11 (rfl : 11 + 1 = 12) rfl ?_
    refine q_getR dX2_add_12 (rfl : 12 + 3 = 15) fX2_9 (by first | rfl | assumption) (by first | rfl | assumption) ?_
    refine q_aload_n dX2_add_15 (rfl : 15 + 1 = 16) rfl ?_
    refine q_getI dX2_add_16 (rfl : 16 + 3 = 19) fX2_15 (by first | rfl | assumption) ?_
    try simp (disch := omega) only [wr_hit, wr_p, wr_k, nI_add, pk_mul, nI_1, nI_s1, pk_sub, Nat.add_sub_cancel, hk]
    refine q_iload_n dX2_add_19 (rfl : 19 + 1 = 20) rfl ?_
    refine q_iast dX2_add_20 (rfl : 20 + 1 = 21) (by first | rfl | assumption) (by first | assumption | omega) (by decide) ?_
    refine q_aload_n dX2_add_21 (rfl : 21 + 1 = 22) rfl ?_
    refine q_dup dX2_add_22 (rfl : 22 + 1 = 23) rfl ?_
    refine q_getI dX2_add_23 (rfl : 23 + 3 = 26) fX2_15 (by first | rfl | assumption) ?_
    try simp (disch := omega) only [wr_hit, wr_p, wr_k, nI_add, pk_mul, nI_1, nI_s1, pk_sub, Nat.add_sub_cancel, hk]
    refine q_iconst (v := nI 1) dX2_add_26 (rfl : 26 + 1 = 27) (by decide) ?_
    refine q_iadd dX2_add_27 (rfl : 27 + 1 = 28) ?_
    try simp (disch := omega) only [wr_hit, wr_p, wr_k, nI_add, pk_mul, nI_1, nI_s1, pk_sub, Nat.add_sub_cancel, hk]
    refine q_putI dX2_add_28 (rfl : 28 + 3 = 31) pX2_15 (by first | rfl | assumption) ?_
    refine q_iconst (v := nI 1) dX2_add_31 (rfl : 31 + 1 = 32) (by decide) ?_
    refine q_zret rfl dX2_add_32 (by first | exact bI_01 _ | exact Or.inl rfl | exact Or.inr rfl) ⟨rfl, rfl, _, rfl, ?_⟩
    rw [show decide (k < 14) = true by simp [h]]
    exact ⟨rfl, rfl, rfl⟩
  ·
    refine q_iconst (v := nI 0) dX2_add_9 (rfl : 9 + 1 = 10) (by decide) ?_
    refine q_zret rfl dX2_add_10 (by first | exact bI_01 _ | exact Or.inl rfl | exact Or.inr rfl) ⟨rfl, rfl, _, rfl, ?_⟩
    rw [show decide (k < 14) = false by simp; omega]
    exact ⟨rfl, rfl, rfl⟩
theorem S_mclear {d : Nat} {R : HR} {I : HI} {J : HJ} : MI mX2_clear d [.ref 34] shA I J R (fun x I' J' => x = I 34 1 ∧ I' = wr I 34 1 (nI 0) ∧ J' = J) := by
  refine Mt.of (L := [some (.ref 34), none]) (by decide +kernel) (Nat.le_of_ble_eq_true rfl) rfl ?_
  refine q_aload_n dX2_clear_0 (rfl : 0 + 1 = 1) rfl ?_
  refine q_getI dX2_clear_1 (rfl : 1 + 3 = 4) fX2_15 (by first | rfl | assumption) ?_
  refine q_istore_n dX2_clear_4 (rfl : 4 + 1 = 5) (by decide) ?_
  refine q_aload_n dX2_clear_5 (rfl : 5 + 1 = 6) rfl ?_
  refine q_iconst (v := nI 0) dX2_clear_6 (rfl : 6 + 1 = 7) (by decide) ?_
  refine q_putI dX2_clear_7 (rfl : 7 + 3 = 10) pX2_15 (by first | rfl | assumption) ?_
  refine q_iload_n dX2_clear_10 (rfl : 10 + 1 = 11) rfl ?_
  refine q_iret rfl dX2_clear_11 ⟨rfl, rfl, _, rfl, ?_⟩
  exact ⟨rfl, rfl, rfl⟩
def edR (du : Nat → Int32) (s : Int32) (pr : Nat → Int32) (k : Nat) : Int32 := match k with
  | 0 => pr 0 + nI 1
  | k + 1 => mnI (pr k + (if du k = s then nI 0 else nI 1)) (nI 1 + mnI (pr (k + 1)) (edR du s pr k))
def edX (X : HI) (nm : Nat) (s : Int32) : HI := setN X 36 (edR (X 35) s (X 36)) (nm + 1)
theorem L_addLayer {T : Tg} {X : HI} {J : HJ} {nm : Nat} {s : Int32} (hk : X 34 1 = nI nm) (h14 : nm ≤ 14) (hT : 1 ≤ T.1.frames ∧ 21 ≤ T.1.locals ∧ 0 ≤ T.1.cells ∧ 0 ≤ T.1.slots) (K : Wm mX2_addLayer T 0 0 shA 86 [some (.ref 34), some (.int s), none, none, none] [] (edX X nm s) J RA) :
    ∀ (k : Nat), k ≤ nm → Wm mX2_addLayer T 0 0 shA 19 [some (.ref 34), some (.int s), some (.int (X 36 k)), some (.int (nI (k + 1))), none] [] (setN X 36 (edR (X 35) s (X 36)) (k + 1)) J RA := by
  refine loopN (fun k hkk ih => ?_)
  have e1 : setN X 36 (edR (X 35) s (X 36)) (k + 1) 34 1 = nI nm := by rw [setN_o (by omega)]; exact hk
  have e2 : ∀ b, setN X 36 (edR (X 35) s (X 36)) (k + 1) 35 b = X 35 b := fun b => setN_o (by omega)
  have e3 : setN X 36 (edR (X 35) s (X 36)) (k + 1) 36 (k + 1) = X 36 (k + 1) := setN_hi (by omega)
  have e4 : setN X 36 (edR (X 35) s (X 36)) (k + 1) 36 k = edR (X 35) s (X 36) k := setN_lo (by omega)
  refine q_iload_n dX2_addLayer_19 (rfl : 19 + 1 = 20) rfl ?_
  refine q_aload_n dX2_addLayer_20 (rfl : 20 + 1 = 21) rfl ?_
  refine q_getI dX2_addLayer_21 (rfl : 21 + 3 = 24) fX2_15 (by first | rfl | assumption) ?_
  try simp (disch := omega) only [wr_hit, wr_p, wr_k, nI_add, pk_mul, nI_1, nI_s1, pk_sub, Nat.add_sub_cancel, e1, e2, e3, e4]
  refine q_icmp_gt_n (q := 86) (by omega) (by omega) dX2_addLayer_24 (by decide) (rfl : 24 + 3 = 27) (fun h => ?_) (fun h => ?_)
  ·
    obtain rfl : k = nm := by omega
    refine q_forget (L' := [some (.ref 34), some (.int s), none, none, none]) (by repeat (first | exact trivial | refine And.intro rfl ?_)) ?_
    exact K
  ·
    have rest : ∀ c : Int32, c = (if X 35 k = s then nI 0 else nI 1) → Wm mX2_addLayer T 0 0 shA 45 [some (.ref 34), some (.int s), some (.int (X 36 k)), some (.int (nI (k + 1))), none] [.int c, .int (X 36 k)] (setN X 36 (edR (X 35) s (X 36)) (k + 1)) J RA := by
      intro c hc
      refine q_iadd dX2_addLayer_45 (rfl : 45 + 1 = 46) ?_
      try simp (disch := omega) only [wr_hit, wr_p, wr_k, nI_add, pk_mul, nI_1, nI_s1, pk_sub, Nat.add_sub_cancel, e1, e2, e3, e4]
      refine q_istore dX2_addLayer_46 (rfl : 46 + 2 = 48) (by decide) ?_
      refine q_aload_n dX2_addLayer_48 (rfl : 48 + 1 = 49) rfl ?_
      refine q_getR dX2_addLayer_49 (rfl : 49 + 3 = 52) fX2_19 (by first | rfl | assumption) (by first | rfl | assumption) ?_
      refine q_iload_n dX2_addLayer_52 (rfl : 52 + 1 = 53) rfl ?_
      refine q_iald dX2_addLayer_53 (rfl : 53 + 1 = 54) (by first | rfl | assumption) (by first | assumption | omega) (by decide) ?_
      try simp (disch := omega) only [wr_hit, wr_p, wr_k, nI_add, pk_mul, nI_1, nI_s1, pk_sub, Nat.add_sub_cancel, e1, e2, e3, e4]
      refine q_istore_n dX2_addLayer_54 (rfl : 54 + 1 = 55) (by decide) ?_
      refine q_aload_n dX2_addLayer_55 (rfl : 55 + 1 = 56) rfl ?_
      refine q_getR dX2_addLayer_56 (rfl : 56 + 3 = 59) fX2_19 (by first | rfl | assumption) (by first | rfl | assumption) ?_
      refine q_iload_n dX2_addLayer_59 (rfl : 59 + 1 = 60) rfl ?_
      refine q_iload dX2_addLayer_60 (rfl : 60 + 2 = 62) rfl ?_
      refine q_iconst (v := nI 1) dX2_addLayer_62 (rfl : 62 + 1 = 63) (by decide) ?_
      refine q_iload_n dX2_addLayer_63 (rfl : 63 + 1 = 64) rfl ?_
      refine q_aload_n dX2_addLayer_64 (rfl : 64 + 1 = 65) rfl ?_
      refine q_getR dX2_addLayer_65 (rfl : 65 + 3 = 68) fX2_19 (by first | rfl | assumption) (by first | rfl | assumption) ?_
      refine q_iload_n dX2_addLayer_68 (rfl : 68 + 1 = 69) rfl ?_
      refine q_iconst (v := nI 1) dX2_addLayer_69 (rfl : 69 + 1 = 70) (by decide) ?_
      refine q_isub dX2_addLayer_70 (rfl : 70 + 1 = 71) ?_
      try simp (disch := omega) only [wr_hit, wr_p, wr_k, nI_add, pk_mul, nI_1, nI_s1, pk_sub, Nat.add_sub_cancel, e1, e2, e3, e4]
      refine q_iald dX2_addLayer_71 (rfl : 71 + 1 = 72) (by first | rfl | assumption) (by first | assumption | omega) (by decide) ?_
      try simp (disch := omega) only [wr_hit, wr_p, wr_k, nI_add, pk_mul, nI_1, nI_s1, pk_sub, Nat.add_sub_cancel, e1, e2, e3, e4]
      refine q_min dX2_addLayer_72 (rfl : 72 + 3 = 75) lX2_35 w_min (Nat.le_of_ble_eq_true rfl) hT ?_
      refine q_iadd dX2_addLayer_75 (rfl : 75 + 1 = 76) ?_
      try simp (disch := omega) only [wr_hit, wr_p, wr_k, nI_add, pk_mul, nI_1, nI_s1, pk_sub, Nat.add_sub_cancel, e1, e2, e3, e4]
      refine q_min dX2_addLayer_76 (rfl : 76 + 3 = 79) lX2_35 w_min (Nat.le_of_ble_eq_true rfl) hT ?_
      refine q_iast dX2_addLayer_79 (rfl : 79 + 1 = 80) (by first | rfl | assumption) (by first | assumption | omega) (by decide) ?_
      first | refine q_iinc1 dX2_addLayer_80 (rfl : 80 + 3 = 83) rfl (by decide) ?_ | refine q_iinc dX2_addLayer_80 (rfl : 80 + 3 = 83) rfl rfl (by decide) ?_
      refine q_goto (q := 19) dX2_addLayer_83 (by decide) ?_
      rw [setN_s (by rw [hc]; rfl)]
      have := ih (by omega)
      refine q_forget (L' := [some (.ref 34), some (.int s), some (.int (X 36 (k + 1))), some (.int (nI (k + 1 + 1))), none]) (by repeat (first | exact trivial | refine And.intro rfl ?_)) ?_
      exact this
    refine q_iload_n dX2_addLayer_27 (rfl : 27 + 1 = 28) rfl ?_
    refine q_aload_n dX2_addLayer_28 (rfl : 28 + 1 = 29) rfl ?_
    refine q_getR dX2_addLayer_29 (rfl : 29 + 3 = 32) fX2_9 (by first | rfl | assumption) (by first | rfl | assumption) ?_
    refine q_iload_n dX2_addLayer_32 (rfl : 32 + 1 = 33) rfl ?_
    refine q_iconst (v := nI 1) dX2_addLayer_33 (rfl : 33 + 1 = 34) (by decide) ?_
    refine q_isub dX2_addLayer_34 (rfl : 34 + 1 = 35) ?_
    try simp (disch := omega) only [wr_hit, wr_p, wr_k, nI_add, pk_mul, nI_1, nI_s1, pk_sub, Nat.add_sub_cancel, e1, e2, e3, e4]
    refine q_iald dX2_addLayer_35 (rfl : 35 + 1 = 36) (by first | rfl | assumption) (by first | assumption | omega) (by decide) ?_
    try simp (disch := omega) only [wr_hit, wr_p, wr_k, nI_add, pk_mul, nI_1, nI_s1, pk_sub, Nat.add_sub_cancel, e1, e2, e3, e4]
    refine q_iload_n dX2_addLayer_36 (rfl : 36 + 1 = 37) rfl ?_
    refine q_icmp_ne (q := 44) dX2_addLayer_37 (by decide) (rfl : 37 + 3 = 40) (fun e => ?_) (fun e => ?_)
    ·
      refine q_iconst (v := nI 1) dX2_addLayer_44 (rfl : 44 + 1 = 45) (by decide) ?_
      exact rest (nI 1) (by rw [if_neg e])
    ·
      refine q_iconst (v := nI 0) dX2_addLayer_40 (rfl : 40 + 1 = 41) (by decide) ?_
      refine q_goto (q := 45) dX2_addLayer_41 (by decide) ?_
      exact rest (nI 0) (by rw [if_pos e])
theorem S_addLayer {d nm : Nat} {X : HI} {J : HJ} {s : Int32} (hk : X 34 1 = nI nm) (h14 : nm ≤ 14) : MV mX2_addLayer (d + 1) [.ref 34, .int s] shA X J RA (fun I' J' => I' = edX X nm s ∧ J' = J) := by
  refine Mt.of (L := [some (.ref 34), some (.int s), none, none, none]) (by decide +kernel) (Nat.le_of_ble_eq_true rfl) rfl ?_
  refine q_aload_n dX2_addLayer_0 (rfl : 0 + 1 = 1) rfl ?_
  refine q_getR dX2_addLayer_1 (rfl : 1 + 3 = 4) fX2_19 (by first | rfl | assumption) (by first | rfl | assumption) ?_
  refine q_iconst (v := nI 0) dX2_addLayer_4 (rfl : 4 + 1 = 5) (by decide) ?_
  refine q_iald (j := 0) dX2_addLayer_5 (rfl : 5 + 1 = 6) (by first | rfl | assumption) (by decide) (by decide) ?_
  refine q_istore_n dX2_addLayer_6 (rfl : 6 + 1 = 7) (by decide) ?_
  refine q_aload_n dX2_addLayer_7 (rfl : 7 + 1 = 8) rfl ?_
  refine q_getR dX2_addLayer_8 (rfl : 8 + 3 = 11) fX2_19 (by first | rfl | assumption) (by first | rfl | assumption) ?_
  refine q_iconst (v := nI 0) dX2_addLayer_11 (rfl : 11 + 1 = 12) (by decide) ?_
  refine q_dup2 dX2_addLayer_12 (rfl : 12 + 1 = 13) rfl rfl ?_
  refine q_iald (j := 0) dX2_addLayer_13 (rfl : 13 + 1 = 14) (by first | rfl | assumption) (by decide) (by decide) ?_
  refine q_iconst (v := nI 1) dX2_addLayer_14 (rfl : 14 + 1 = 15) (by decide) ?_
  refine q_iadd dX2_addLayer_15 (rfl : 15 + 1 = 16) ?_
  refine q_iast (j := 0) dX2_addLayer_16 (rfl : 16 + 1 = 17) (by first | rfl | assumption) (by decide) (by decide) ?_
  refine q_iconst (v := nI 1) dX2_addLayer_17 (rfl : 17 + 1 = 18) (by decide) ?_
  refine q_istore_n dX2_addLayer_18 (rfl : 18 + 1 = 19) (by decide) ?_
  have e0 : wr X 36 0 (X 36 0 + nI 1) = setN X 36 (edR (X 35) s (X 36)) 1 := by
    have := setN_s (I := X) (p := 36) (k := 0) (r := edR (X 35) s (X 36)) (v := X 36 0 + nI 1) rfl
    rw [setN_0] at this
    exact this
  rw [e0]
  refine L_addLayer hk h14 (TM_math (Nat.le_refl _) (Nat.le_refl _)) ?_ 0 (by omega)
  refine q_vret rfl dX2_addLayer_86 ⟨rfl, rfl, rfl, ?_⟩
  exact ⟨rfl, rfl⟩
def chX (I : HI) (nm i : Nat) : HI := match i with
  | 0 => setN I 36 nI (nm + 1)
  | i + 1 => if 0 < I 17 i then edX (chX I nm i) nm (I 18 i) else chX I nm i
theorem chX_row {I : HI} {nm a : Nat} (h : a ≠ 36) : ∀ i, chX I nm i a = I a := by
  intro i
  induction i with
  | zero => exact setN_row h
  | succ i ih =>
    unfold chX
    split
    · unfold edX; rw [setN_row h]; exact ih
    · exact ih
theorem L_changesTo1 {T : Tg} {I : HI} {J : HJ} {nm : Nat} (hk : I 34 1 = nI nm) (h14 : nm ≤ 14) (K : Wm mX2_changesTo T 0 0 shA 23 [some (.ref 34), some (.ref 16), none] [] (setN I 36 nI (nm + 1)) J RA) :
    ∀ (k : Nat), k ≤ nm + 1 → Wm mX2_changesTo T 0 0 shA 2 [some (.ref 34), some (.ref 16), some (.int (nI k))] [] (setN I 36 nI k) J RA := by
  refine loopN (fun k hkk ih => ?_)
  have e1 : setN I 36 nI k 34 1 = nI nm := by rw [setN_o (by omega)]; exact hk
  refine q_iload_n dX2_changesTo_2 (rfl : 2 + 1 = 3) rfl ?_
  refine q_aload_n dX2_changesTo_3 (rfl : 3 + 1 = 4) rfl ?_
  refine q_getI dX2_changesTo_4 (rfl : 4 + 3 = 7) fX2_15 (by first | rfl | assumption) ?_
  try simp (disch := omega) only [wr_hit, wr_p, wr_k, nI_add, pk_mul, nI_1, nI_s1, pk_sub, Nat.add_sub_cancel, e1]
  refine q_icmp_gt_n (q := 23) (by omega) (by omega) dX2_changesTo_7 (by decide) (rfl : 7 + 3 = 10) (fun h => ?_) (fun h => ?_)
  ·
    obtain rfl : k = nm + 1 := by omega
    refine q_forget (L' := [some (.ref 34), some (.ref 16), none]) (by repeat (first | exact trivial | refine And.intro rfl ?_)) ?_
    exact K
  ·
    refine q_aload_n dX2_changesTo_10 (rfl : 10 + 1 = 11) rfl ?_
    refine q_getR dX2_changesTo_11 (rfl : 11 + 3 = 14) fX2_19 (by first | rfl | assumption) (by first | rfl | assumption) ?_
    refine q_iload_n dX2_changesTo_14 (rfl : 14 + 1 = 15) rfl ?_
    refine q_iload_n dX2_changesTo_15 (rfl : 15 + 1 = 16) rfl ?_
    refine q_iast dX2_changesTo_16 (rfl : 16 + 1 = 17) (by first | rfl | assumption) (by first | assumption | omega) (by decide) ?_
    first | refine q_iinc1 dX2_changesTo_17 (rfl : 17 + 3 = 20) rfl (by decide) ?_ | refine q_iinc dX2_changesTo_17 (rfl : 17 + 3 = 20) rfl rfl (by decide) ?_
    refine q_goto (q := 2) dX2_changesTo_20 (by decide) ?_
    rw [setN_s rfl]
    exact ih (by omega)
theorem L_changesTo2 {d n0 : Nat} {Po : PO} {I : HI} {J : HJ} {nm n : Nat} (hk : I 34 1 = nI nm) (h14 : nm ≤ 14) (hn : I 16 0 = nI n) (h12 : n ≤ 12) (K : Wm mX2_changesTo (TM (d + 2) 0 0 false n0 Po) 0 0 shA 58 [some (.ref 34), some (.ref 16), none] [] (chX I nm n) J RA) :
    ∀ (i : Nat), i ≤ n → Wm mX2_changesTo (TM (d + 2) 0 0 false n0 Po) 0 0 shA 25 [some (.ref 34), some (.ref 16), some (.int (nI i))] [] (chX I nm i) J RA := by
  refine loopN (fun i hi ih => ?_)
  have e1 : chX I nm i 16 0 = nI n := by rw [chX_row (by omega)]; exact hn
  have e2 : chX I nm i 17 = I 17 := chX_row (by omega) i
  have e3 : chX I nm i 18 = I 18 := chX_row (by omega) i
  have e4 : chX I nm i 34 1 = nI nm := by rw [chX_row (by omega)]; exact hk
  refine q_iload_n dX2_changesTo_25 (rfl : 25 + 1 = 26) rfl ?_
  refine q_aload_n dX2_changesTo_26 (rfl : 26 + 1 = 27) rfl ?_
  refine q_getI dX2_changesTo_27 (rfl : 27 + 3 = 30) fX2_22 (by first | rfl | assumption) ?_
  try simp (disch := omega) only [wr_hit, wr_p, wr_k, nI_add, pk_mul, nI_1, nI_s1, pk_sub, Nat.add_sub_cancel, e1, e2, e3]
  refine q_icmp_ge_n (q := 58) (by omega) (by omega) dX2_changesTo_30 (by decide) (rfl : 30 + 3 = 33) (fun h => ?_) (fun h => ?_)
  ·
    obtain rfl : i = n := by omega
    refine q_forget (L' := [some (.ref 34), some (.ref 16), none]) (by repeat (first | exact trivial | refine And.intro rfl ?_)) ?_
    exact K
  ·
    refine q_aload_n dX2_changesTo_33 (rfl : 33 + 1 = 34) rfl ?_
    refine q_getR dX2_changesTo_34 (rfl : 34 + 3 = 37) fX2_25 (by first | rfl | assumption) (by first | rfl | assumption) ?_
    refine q_iload_n dX2_changesTo_37 (rfl : 37 + 1 = 38) rfl ?_
    refine q_iald dX2_changesTo_38 (rfl : 38 + 1 = 39) (by first | rfl | assumption) (by first | assumption | omega) (by decide) ?_
    try simp (disch := omega) only [wr_hit, wr_p, wr_k, nI_add, pk_mul, nI_1, nI_s1, pk_sub, Nat.add_sub_cancel, e1, e2, e3]
    refine q_if_le (q := 52) dX2_changesTo_39 (by decide) (rfl : 39 + 3 = 42) (fun z => ?_) (fun z => ?_)
    ·
      first | refine q_iinc1 dX2_changesTo_52 (rfl : 52 + 3 = 55) rfl (by decide) ?_ | refine q_iinc dX2_changesTo_52 (rfl : 52 + 3 = 55) rfl rfl (by decide) ?_
      refine q_goto (q := 25) dX2_changesTo_55 (by decide) ?_
      have e : chX I nm (i + 1) = chX I nm i := by
        show (if 0 < I 17 i then _ else _) = _
        rw [if_neg (Int32.not_lt.mpr z)]
      rw [← e]
      exact ih h
    ·
      refine q_aload_n dX2_changesTo_42 (rfl : 42 + 1 = 43) rfl ?_
      refine q_aload_n dX2_changesTo_43 (rfl : 43 + 1 = 44) rfl ?_
      refine q_getR dX2_changesTo_44 (rfl : 44 + 3 = 47) fX2_28 (by first | rfl | assumption) (by first | rfl | assumption) ?_
      refine q_iload_n dX2_changesTo_47 (rfl : 47 + 1 = 48) rfl ?_
      refine q_iald dX2_changesTo_48 (rfl : 48 + 1 = 49) (by first | rfl | assumption) (by first | assumption | omega) (by decide) ?_
      try simp (disch := omega) only [wr_hit, wr_p, wr_k, nI_add, pk_mul, nI_1, nI_s1, pk_sub, Nat.add_sub_cancel, e1, e2, e3]
      refine q_callVV (S_addLayer (d := d) e4 h14) dX2_changesTo_49 (rfl : 49 + 3 = 52) lX2_31 vX2_addLayer (by first | rfl | assumption) rfl rfl (Nat.le_of_ble_eq_true rfl) TM_room TM_cs ?_
      intro I1 J1 hp
      obtain ⟨rfl, rfl⟩ := hp
      first | refine q_iinc1 dX2_changesTo_52 (rfl : 52 + 3 = 55) rfl (by decide) ?_ | refine q_iinc dX2_changesTo_52 (rfl : 52 + 3 = 55) rfl rfl (by decide) ?_
      refine q_goto (q := 25) dX2_changesTo_55 (by decide) ?_
      have e : chX I nm (i + 1) = edX (chX I nm i) nm (I 18 i) := by
        show (if 0 < I 17 i then _ else _) = _
        rw [if_pos (Int32.not_le.mp z)]
      rw [← e]
      exact ih h
theorem S_changesTo {d nm n : Nat} {I : HI} {J : HJ} (hk : I 34 1 = nI nm) (h14 : nm ≤ 14) (hn : I 16 0 = nI n) (h12 : n ≤ 12) : MI mX2_changesTo (d + 2) [.ref 34, .ref 16] shA I J RA (fun x I' J' => x = chX I nm n 36 nm ∧ I' = chX I nm n ∧ J' = J) := by
  refine Mt.of (L := [some (.ref 34), some (.ref 16), none]) (by decide +kernel) (Nat.le_of_ble_eq_true rfl) rfl ?_
  refine q_iconst (v := nI 0) dX2_changesTo_0 (rfl : 0 + 1 = 1) (by decide) ?_
  refine q_istore_n dX2_changesTo_1 (rfl : 1 + 1 = 2) (by decide) ?_
  have e0 : setN I 36 nI 0 = I := setN_0
  have key := L_changesTo1 (J := J) (T := TM (d + 2) 0 0 false shA.length (fun sh' v I' J' R' => sh' = shA ∧ R' = RA ∧ ∃ x : Int32, v = some (.int x) ∧ (x = chX I nm n 36 nm ∧ I' = chX I nm n ∧ J' = J))) hk h14 ?_ 0 (by omega)
  · rw [e0] at key
    exact key
  refine q_iconst (v := nI 0) dX2_changesTo_23 (rfl : 23 + 1 = 24) (by decide) ?_
  refine q_istore_n dX2_changesTo_24 (rfl : 24 + 1 = 25) (by decide) ?_
  refine L_changesTo2 hk h14 hn h12 ?_ 0 (by omega)
  have e4 : chX I nm n 34 1 = nI nm := by rw [chX_row (by omega)]; exact hk
  refine q_aload_n dX2_changesTo_58 (rfl : 58 + 1 = 59) rfl ?_
  refine q_getR dX2_changesTo_59 (rfl : 59 + 3 = 62) fX2_19 (by first | rfl | assumption) (by first | rfl | assumption) ?_
  refine q_aload_n dX2_changesTo_62 (rfl : 62 + 1 = 63) rfl ?_
  refine q_getI dX2_changesTo_63 (rfl : 63 + 3 = 66) fX2_15 (by first | rfl | assumption) ?_
  try simp (disch := omega) only [wr_hit, wr_p, wr_k, nI_add, pk_mul, nI_1, nI_s1, pk_sub, Nat.add_sub_cancel, e4]
  refine q_iald dX2_changesTo_66 (rfl : 66 + 1 = 67) (by first | rfl | assumption) (by first | assumption | omega) (by decide) ?_
  try simp (disch := omega) only [wr_hit, wr_p, wr_k, nI_add, pk_mul, nI_1, nI_s1, pk_sub, Nat.add_sub_cancel, e4]
  refine q_iret rfl dX2_changesTo_67 ⟨rfl, rfl, _, rfl, ?_⟩
  exact ⟨rfl, rfl, rfl⟩
def fuL (du t s : Nat → Int32) (nm n k i al : Nat) : Int32 := match k with
  | 0 => nI n
  | k + 1 => if 0 < t i then (if al < nm ∧ du al = s i then fuL du t s nm n k (i + 1) (al + 1) else nI i) else fuL du t s nm n k (i + 1) al
theorem L_firstUnlike {d n0 : Nat} {Po : PO} {I : HI} {J : HJ} {nm n : Nat} (hk : I 34 1 = nI nm) (h14 : nm ≤ 14) (hn : I 16 0 = nI n) (h12 : n ≤ 12) :
    ∀ (k i al : Nat), i + k = n → al ≤ i → Po shA (some (.int (fuL (I 35) (I 17) (I 18) nm n k i al))) I J RA → Wm mX2_firstUnlike (TM d 0 0 false n0 Po) 0 0 shA 4 [some (.ref 34), some (.ref 16), some (.int (nI al)), some (.int (nI i))] [] I J RA := by
  intro k
  induction k with
  | zero =>
    intro i al hi hal hPo
    obtain rfl : i = n := by omega
    refine q_iload_n dX2_firstUnlike_4 (rfl : 4 + 1 = 5) rfl ?_
    refine q_aload_n dX2_firstUnlike_5 (rfl : 5 + 1 = 6) rfl ?_
    refine q_getI dX2_firstUnlike_6 (rfl : 6 + 3 = 9) fX2_22 (by first | rfl | assumption) ?_
    try simp (disch := omega) only [wr_hit, wr_p, wr_k, nI_add, pk_mul, nI_1, nI_s1, pk_sub, Nat.add_sub_cancel, hn]
    refine q_icmp_ge_n (q := 55) (by omega) (by omega) dX2_firstUnlike_9 (by decide) (rfl : 9 + 3 = 12) (fun h => ?_) (fun h => ?_)
    ·
      refine q_aload_n dX2_firstUnlike_55 (rfl : 55 + 1 = 56) rfl ?_
      refine q_getI dX2_firstUnlike_56 (rfl : 56 + 3 = 59) fX2_22 (by first | rfl | assumption) ?_
      try simp (disch := omega) only [wr_hit, wr_p, wr_k, nI_add, pk_mul, nI_1, nI_s1, pk_sub, Nat.add_sub_cancel, hn]
      exact q_iret rfl dX2_firstUnlike_59 hPo
    ·
      omega
  | succ k ih =>
    intro i al hi hal hPo
    refine q_iload_n dX2_firstUnlike_4 (rfl : 4 + 1 = 5) rfl ?_
    refine q_aload_n dX2_firstUnlike_5 (rfl : 5 + 1 = 6) rfl ?_
    refine q_getI dX2_firstUnlike_6 (rfl : 6 + 3 = 9) fX2_22 (by first | rfl | assumption) ?_
    try simp (disch := omega) only [wr_hit, wr_p, wr_k, nI_add, pk_mul, nI_1, nI_s1, pk_sub, Nat.add_sub_cancel, hn, hk]
    refine q_icmp_ge_n (q := 55) (by omega) (by omega) dX2_firstUnlike_9 (by decide) (rfl : 9 + 3 = 12) (fun h => ?_) (fun h => ?_)
    · omega
    ·
      refine q_aload_n dX2_firstUnlike_12 (rfl : 12 + 1 = 13) rfl ?_
      refine q_getR dX2_firstUnlike_13 (rfl : 13 + 3 = 16) fX2_25 (by first | rfl | assumption) (by first | rfl | assumption) ?_
      refine q_iload_n dX2_firstUnlike_16 (rfl : 16 + 1 = 17) rfl ?_
      refine q_iald dX2_firstUnlike_17 (rfl : 17 + 1 = 18) (by first | rfl | assumption) (by first | assumption | omega) (by decide) ?_
      try simp (disch := omega) only [wr_hit, wr_p, wr_k, nI_add, pk_mul, nI_1, nI_s1, pk_sub, Nat.add_sub_cancel, hn, hk]
      refine q_if_le (q := 49) dX2_firstUnlike_18 (by decide) (rfl : 18 + 3 = 21) (fun z => ?_) (fun z => ?_)
      ·
        first | refine q_iinc1 dX2_firstUnlike_49 (rfl : 49 + 3 = 52) rfl (by decide) ?_ | refine q_iinc dX2_firstUnlike_49 (rfl : 49 + 3 = 52) rfl rfl (by decide) ?_
        refine q_goto (q := 4) dX2_firstUnlike_52 (by decide) ?_
        have e : fuL (I 35) (I 17) (I 18) nm n (k + 1) i al = fuL (I 35) (I 17) (I 18) nm n k (i + 1) al := by
          simp only [fuL, if_neg (Int32.not_lt.mpr z)]
        rw [e] at hPo
        exact ih (i + 1) al (by omega) (by omega) hPo
      ·
        have hpos := Int32.not_le.mp z
        refine q_iload_n dX2_firstUnlike_21 (rfl : 21 + 1 = 22) rfl ?_
        refine q_aload_n dX2_firstUnlike_22 (rfl : 22 + 1 = 23) rfl ?_
        refine q_getI dX2_firstUnlike_23 (rfl : 23 + 3 = 26) fX2_15 (by first | rfl | assumption) ?_
        try simp (disch := omega) only [wr_hit, wr_p, wr_k, nI_add, pk_mul, nI_1, nI_s1, pk_sub, Nat.add_sub_cancel, hn, hk]
        refine q_icmp_ge_n (q := 44) (by omega) (by omega) dX2_firstUnlike_26 (by decide) (rfl : 26 + 3 = 29) (fun h2 => ?_) (fun h2 => ?_)
        ·
          refine q_iload_n dX2_firstUnlike_44 (rfl : 44 + 1 = 45) rfl ?_
          have e : fuL (I 35) (I 17) (I 18) nm n (k + 1) i al = nI i := by
            simp only [fuL, if_pos hpos, if_neg (show ¬ (al < nm ∧ I 35 al = I 18 i) from fun q => by omega)]
          rw [e] at hPo
          exact q_iret rfl dX2_firstUnlike_45 hPo
        ·
          refine q_aload_n dX2_firstUnlike_29 (rfl : 29 + 1 = 30) rfl ?_
          refine q_getR dX2_firstUnlike_30 (rfl : 30 + 3 = 33) fX2_9 (by first | rfl | assumption) (by first | rfl | assumption) ?_
          refine q_iload_n dX2_firstUnlike_33 (rfl : 33 + 1 = 34) rfl ?_
          refine q_iald dX2_firstUnlike_34 (rfl : 34 + 1 = 35) (by first | rfl | assumption) (by first | assumption | omega) (by decide) ?_
          try simp (disch := omega) only [wr_hit, wr_p, wr_k, nI_add, pk_mul, nI_1, nI_s1, pk_sub, Nat.add_sub_cancel, hn, hk]
          refine q_aload_n dX2_firstUnlike_35 (rfl : 35 + 1 = 36) rfl ?_
          refine q_getR dX2_firstUnlike_36 (rfl : 36 + 3 = 39) fX2_28 (by first | rfl | assumption) (by first | rfl | assumption) ?_
          refine q_iload_n dX2_firstUnlike_39 (rfl : 39 + 1 = 40) rfl ?_
          refine q_iald dX2_firstUnlike_40 (rfl : 40 + 1 = 41) (by first | rfl | assumption) (by first | assumption | omega) (by decide) ?_
          try simp (disch := omega) only [wr_hit, wr_p, wr_k, nI_add, pk_mul, nI_1, nI_s1, pk_sub, Nat.add_sub_cancel, hn, hk]
          refine q_icmp_eq (q := 46) dX2_firstUnlike_41 (by decide) (rfl : 41 + 3 = 44) (fun e2 => ?_) (fun e2 => ?_)
          ·
            first | refine q_iinc1 dX2_firstUnlike_46 (rfl : 46 + 3 = 49) rfl (by decide) ?_ | refine q_iinc dX2_firstUnlike_46 (rfl : 46 + 3 = 49) rfl rfl (by decide) ?_
            first | refine q_iinc1 dX2_firstUnlike_49 (rfl : 49 + 3 = 52) rfl (by decide) ?_ | refine q_iinc dX2_firstUnlike_49 (rfl : 49 + 3 = 52) rfl rfl (by decide) ?_
            refine q_goto (q := 4) dX2_firstUnlike_52 (by decide) ?_
            have e : fuL (I 35) (I 17) (I 18) nm n (k + 1) i al = fuL (I 35) (I 17) (I 18) nm n k (i + 1) (al + 1) := by
              simp only [fuL, if_pos hpos, if_pos (show al < nm ∧ I 35 al = I 18 i from ⟨h2, e2⟩)]
            rw [e] at hPo
            exact ih (i + 1) (al + 1) (by omega) (by omega) hPo
          ·
            refine q_iload_n dX2_firstUnlike_44 (rfl : 44 + 1 = 45) rfl ?_
            have e : fuL (I 35) (I 17) (I 18) nm n (k + 1) i al = nI i := by
              simp only [fuL, if_pos hpos, if_neg (show ¬ (al < nm ∧ I 35 al = I 18 i) from fun q => e2 q.2)]
            rw [e] at hPo
            exact q_iret rfl dX2_firstUnlike_45 hPo
theorem S_firstUnlike {d nm n : Nat} {I : HI} {J : HJ} (hk : I 34 1 = nI nm) (h14 : nm ≤ 14) (hn : I 16 0 = nI n) (h12 : n ≤ 12) : MIp mX2_firstUnlike d [.ref 34, .ref 16] shA I J RA (fuL (I 35) (I 17) (I 18) nm n n 0 0) := by
  refine Mt.of (L := [some (.ref 34), some (.ref 16), none, none]) (by decide +kernel) (Nat.le_of_ble_eq_true rfl) rfl ?_
  refine q_iconst (v := nI 0) dX2_firstUnlike_0 (rfl : 0 + 1 = 1) (by decide) ?_
  refine q_istore_n dX2_firstUnlike_1 (rfl : 1 + 1 = 2) (by decide) ?_
  refine q_iconst (v := nI 0) dX2_firstUnlike_2 (rfl : 2 + 1 = 3) (by decide) ?_
  refine q_istore_n dX2_firstUnlike_3 (rfl : 3 + 1 = 4) (by decide) ?_
  exact L_firstUnlike hk h14 hn h12 n 0 0 (by omega) (by omega) ⟨rfl, rfl, _, rfl, rfl, rfl, rfl⟩
