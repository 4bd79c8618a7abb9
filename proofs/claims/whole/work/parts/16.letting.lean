/-! the class's letting go -/
abbrev LSt : Type := Int32 × Int32 × Int32 × (Nat → Int32)
def lsOf (X : HI) : LSt := (X 42 1, X 42 2, X 42 3, X 43)
def lsH (X : HI) (s : LSt) : HI := fun a b => if a = 42 then (if b = 1 then s.1 else if b = 2 then s.2.1 else if b = 3 then s.2.2.1 else X a b) else if a = 43 then s.2.2.2 b else X a b
theorem lsOf_H {X : HI} {s : LSt} : lsOf (lsH X s) = s := by
  unfold lsOf lsH
  simp
theorem lsH_H {X : HI} {s s' : LSt} : lsH (lsH X s) s' = lsH X s' := by
  funext a b
  unfold lsH
  by_cases h1 : a = 42
  · simp only [h1, if_true]
    by_cases b1 : b = 1
    · simp [b1]
    · by_cases b2 : b = 2
      · simp [b2]
      · by_cases b3 : b = 3
        · simp [b3]
        · simp [b1, b2, b3]
  · by_cases h2 : a = 43
    · simp [h2]
    · simp [h1, h2]
theorem lsH_of {X : HI} : lsH X (lsOf X) = X := by
  funext a b
  unfold lsH lsOf
  by_cases h1 : a = 42
  · simp only [h1, if_true]
    by_cases b1 : b = 1
    · simp [b1]
    · by_cases b2 : b = 2
      · simp [b2]
      · by_cases b3 : b = 3
        · simp [b3]
        · simp [b1, b2, b3]
  · by_cases h2 : a = 43
    · simp [h2]
    · simp [h1, h2]
theorem lsH_o {X : HI} {s : LSt} {a : Nat} (h : a ≠ 42 ∧ a ≠ 43) : lsH X s a = X a := by
  funext b
  simp [lsH, h.1, h.2]
def pbS (t h : Int32) (y : Nat) (s : LSt) : LSt := if 0 < t then (s.1 + t, s.2.1 + t * h, s.2.2.1 + (if s.2.2.2 y = 0 then nI 1 else nI 0), upd s.2.2.2 y (s.2.2.2 y + nI 1)) else s
def toS (t h : Int32) (y : Nat) (s : LSt) : LSt := if 0 < t then (s.1 - t, s.2.1 - t * h, s.2.2.1 - (if s.2.2.2 y - nI 1 = 0 then nI 1 else nI 0), upd s.2.2.2 y (s.2.2.2 y - nI 1)) else s
theorem nI0z : nI 0 = 0 := nI_0
theorem S_putBack {d y : Nat} {X : HI} {J : HJ} {t h : Int32} (hy : y < 100) : MV mX1_putBack d [.ref 42, .int t, .int h, .int (nI y)] shA X J RA (fun I' J' => I' = lsH X (pbS t h y (lsOf X)) ∧ J' = J) := by
  refine Mt.of (L := [some (.ref 42), some (.int t), some (.int h), some (.int (nI y))]) (by decide +kernel) (Nat.le_of_ble_eq_true rfl) rfl ?_
  refine q_iload_n dX1_putBack_0 (rfl : 0 + 1 = 1) rfl ?_
  refine q_if_le (q := 59) dX1_putBack_1 (by decide) (rfl : 1 + 3 = 4) (fun z => ?_) (fun z => ?_)
  ·
    refine q_vret rfl dX1_putBack_59 ⟨rfl, rfl, rfl, ?_⟩
    have e : pbS t h y (lsOf X) = lsOf X := by unfold pbS; rw [if_neg (Int32.not_lt.mpr z)]
    rw [e, lsH_of]
    exact ⟨rfl, rfl⟩
  ·
    have hpos := Int32.not_le.mp z
    have rest : ∀ c : Int32, c = (if X 43 y = 0 then nI 1 else nI 0) → Wm mX1_putBack (TM d 0 0 false shA.length (fun sh' v I' J' R' => sh' = shA ∧ R' = RA ∧ v = none ∧ (I' = lsH X (pbS t h y (lsOf X)) ∧ J' = J))) 0 0 shA 45 [some (.ref 42), some (.int t), some (.int h), some (.int (nI y))] [.int c, .int (X 42 3), .ref 42] (wr (wr X 42 1 (X 42 1 + t)) 42 2 (X 42 2 + t * h)) J RA := by
      intro c hc
      refine q_iadd dX1_putBack_45 (rfl : 45 + 1 = 46) ?_
      try simp (disch := omega) only [wr_hit, wr_p, wr_k, nI_add, pk_mul, nI_1, nI_s1, pk_sub, Nat.add_sub_cancel]
      refine q_putI dX1_putBack_46 (rfl : 46 + 3 = 49) pX1_22 (by first | rfl | assumption) ?_
      refine q_aload_n dX1_putBack_49 (rfl : 49 + 1 = 50) rfl ?_
      refine q_getR dX1_putBack_50 (rfl : 50 + 3 = 53) fX1_9 (by first | rfl | assumption) (by first | rfl | assumption) ?_
      refine q_iload_n dX1_putBack_53 (rfl : 53 + 1 = 54) rfl ?_
      refine q_dup2 dX1_putBack_54 (rfl : 54 + 1 = 55) rfl rfl ?_
      refine q_iald dX1_putBack_55 (rfl : 55 + 1 = 56) (by first | rfl | assumption) (by first | assumption | omega) (by decide) ?_
      try simp (disch := omega) only [wr_hit, wr_p, wr_k, nI_add, pk_mul, nI_1, nI_s1, pk_sub, Nat.add_sub_cancel]
      refine q_iconst (v := nI 1) dX1_putBack_56 (rfl : 56 + 1 = 57) (by decide) ?_
      refine q_iadd dX1_putBack_57 (rfl : 57 + 1 = 58) ?_
      try simp (disch := omega) only [wr_hit, wr_p, wr_k, nI_add, pk_mul, nI_1, nI_s1, pk_sub, Nat.add_sub_cancel]
      refine q_iast dX1_putBack_58 (rfl : 58 + 1 = 59) (by first | rfl | assumption) (by first | assumption | omega) (by decide) ?_
      refine q_vret rfl dX1_putBack_59 ⟨rfl, rfl, rfl, ?_⟩
      refine ⟨?_, rfl⟩
      have e : pbS t h y (lsOf X) = (X 42 1 + t, X 42 2 + t * h, X 42 3 + c, upd (X 43) y (X 43 y + nI 1)) := by
        unfold pbS lsOf
        rw [if_pos hpos, hc]
      rw [e]
      funext a b
      unfold wr lsH upd
      by_cases h1 : a = 42
      · subst h1
        by_cases b1 : b = 1
        · simp [b1]
        · by_cases b2 : b = 2
          · simp [b2]
          · by_cases b3 : b = 3
            · simp [b3]
            · simp [b1, b2, b3]
      · by_cases h2 : a = 43
        · subst h2
          by_cases hb : b = y <;> simp [hb]
        · simp [h1, h2]
    refine q_aload_n dX1_putBack_4 (rfl : 4 + 1 = 5) rfl ?_
    refine q_dup dX1_putBack_5 (rfl : 5 + 1 = 6) rfl ?_
    refine q_getI dX1_putBack_6 (rfl : 6 + 3 = 9) fX1_15 (by first | rfl | assumption) ?_
    try simp (disch := omega) only [wr_hit, wr_p, wr_k, nI_add, pk_mul, nI_1, nI_s1, pk_sub, Nat.add_sub_cancel]
    refine q_iload_n dX1_putBack_9 (rfl : 9 + 1 = 10) rfl ?_
    refine q_iadd dX1_putBack_10 (rfl : 10 + 1 = 11) ?_
    try simp (disch := omega) only [wr_hit, wr_p, wr_k, nI_add, pk_mul, nI_1, nI_s1, pk_sub, Nat.add_sub_cancel]
    refine q_putI dX1_putBack_11 (rfl : 11 + 3 = 14) pX1_15 (by first | rfl | assumption) ?_
    refine q_aload_n dX1_putBack_14 (rfl : 14 + 1 = 15) rfl ?_
    refine q_dup dX1_putBack_15 (rfl : 15 + 1 = 16) rfl ?_
    refine q_getI dX1_putBack_16 (rfl : 16 + 3 = 19) fX1_19 (by first | rfl | assumption) ?_
    try simp (disch := omega) only [wr_hit, wr_p, wr_k, nI_add, pk_mul, nI_1, nI_s1, pk_sub, Nat.add_sub_cancel]
    refine q_iload_n dX1_putBack_19 (rfl : 19 + 1 = 20) rfl ?_
    refine q_iload_n dX1_putBack_20 (rfl : 20 + 1 = 21) rfl ?_
    refine q_imul dX1_putBack_21 (rfl : 21 + 1 = 22) ?_
    try simp (disch := omega) only [wr_hit, wr_p, wr_k, nI_add, pk_mul, nI_1, nI_s1, pk_sub, Nat.add_sub_cancel]
    refine q_iadd dX1_putBack_22 (rfl : 22 + 1 = 23) ?_
    try simp (disch := omega) only [wr_hit, wr_p, wr_k, nI_add, pk_mul, nI_1, nI_s1, pk_sub, Nat.add_sub_cancel]
    refine q_putI dX1_putBack_23 (rfl : 23 + 3 = 26) pX1_19 (by first | rfl | assumption) ?_
    refine q_aload_n dX1_putBack_26 (rfl : 26 + 1 = 27) rfl ?_
    refine q_dup dX1_putBack_27 (rfl : 27 + 1 = 28) rfl ?_
    refine q_getI dX1_putBack_28 (rfl : 28 + 3 = 31) fX1_22 (by first | rfl | assumption) ?_
    try simp (disch := omega) only [wr_hit, wr_p, wr_k, nI_add, pk_mul, nI_1, nI_s1, pk_sub, Nat.add_sub_cancel]
    refine q_aload_n dX1_putBack_31 (rfl : 31 + 1 = 32) rfl ?_
    refine q_getR dX1_putBack_32 (rfl : 32 + 3 = 35) fX1_9 (by first | rfl | assumption) (by first | rfl | assumption) ?_
    refine q_iload_n dX1_putBack_35 (rfl : 35 + 1 = 36) rfl ?_
    refine q_iald dX1_putBack_36 (rfl : 36 + 1 = 37) (by first | rfl | assumption) (by first | assumption | omega) (by decide) ?_
    try simp (disch := omega) only [wr_hit, wr_p, wr_k, nI_add, pk_mul, nI_1, nI_s1, pk_sub, Nat.add_sub_cancel]
    refine q_if_ne (q := 44) dX1_putBack_37 (by decide) (rfl : 37 + 3 = 40) (fun e => ?_) (fun e => ?_)
    ·
      refine q_iconst (v := nI 0) dX1_putBack_44 (rfl : 44 + 1 = 45) (by decide) ?_
      exact rest _ (by rw [if_neg e])
    ·
      refine q_iconst (v := nI 1) dX1_putBack_40 (rfl : 40 + 1 = 41) (by decide) ?_
      refine q_goto (q := 45) dX1_putBack_41 (by decide) ?_
      exact rest _ (by rw [if_pos e])
theorem S_takeOut {d y : Nat} {X : HI} {J : HJ} {t h : Int32} (hy : y < 100) : MV mX1_takeOut d [.ref 42, .int t, .int h, .int (nI y)] shA X J RA (fun I' J' => I' = lsH X (toS t h y (lsOf X)) ∧ J' = J) := by
  refine Mt.of (L := [some (.ref 42), some (.int t), some (.int h), some (.int (nI y))]) (by decide +kernel) (Nat.le_of_ble_eq_true rfl) rfl ?_
  refine q_iload_n dX1_takeOut_0 (rfl : 0 + 1 = 1) rfl ?_
  refine q_if_le (q := 59) dX1_takeOut_1 (by decide) (rfl : 1 + 3 = 4) (fun z => ?_) (fun z => ?_)
  ·
    refine q_vret rfl dX1_takeOut_59 ⟨rfl, rfl, rfl, ?_⟩
    have e : toS t h y (lsOf X) = lsOf X := by unfold toS; rw [if_neg (Int32.not_lt.mpr z)]
    rw [e, lsH_of]
    exact ⟨rfl, rfl⟩
  ·
    have hpos := Int32.not_le.mp z
    have rest : ∀ c : Int32, c = (if X 43 y - nI 1 = 0 then nI 1 else nI 0) → Wm mX1_takeOut (TM d 0 0 false shA.length (fun sh' v I' J' R' => sh' = shA ∧ R' = RA ∧ v = none ∧ (I' = lsH X (toS t h y (lsOf X)) ∧ J' = J))) 0 0 shA 55 [some (.ref 42), some (.int t), some (.int h), some (.int (nI y))] [.int c, .int (X 42 3), .ref 42] (wr (wr (wr X 42 1 (X 42 1 - t)) 42 2 (X 42 2 - t * h)) 43 y (X 43 y - nI 1)) J RA := by
      intro c hc
      refine q_isub dX1_takeOut_55 (rfl : 55 + 1 = 56) ?_
      try simp (disch := omega) only [wr_hit, wr_p, wr_k, nI_add, pk_mul, nI_1, nI_s1, pk_sub, Nat.add_sub_cancel]
      refine q_putI dX1_takeOut_56 (rfl : 56 + 3 = 59) pX1_22 (by first | rfl | assumption) ?_
      refine q_vret rfl dX1_takeOut_59 ⟨rfl, rfl, rfl, ?_⟩
      refine ⟨?_, rfl⟩
      have e : toS t h y (lsOf X) = (X 42 1 - t, X 42 2 - t * h, X 42 3 - c, upd (X 43) y (X 43 y - nI 1)) := by
        unfold toS lsOf
        rw [if_pos hpos, hc]
      rw [e]
      funext a b
      unfold wr lsH upd
      by_cases h1 : a = 42
      · subst h1
        by_cases b1 : b = 1
        · simp [b1]
        · by_cases b2 : b = 2
          · simp [b2]
          · by_cases b3 : b = 3
            · simp [b3]
            · simp [b1, b2, b3]
      · by_cases h2 : a = 43
        · subst h2
          by_cases hb : b = y <;> simp [hb]
        · simp [h1, h2]
    refine q_aload_n dX1_takeOut_4 (rfl : 4 + 1 = 5) rfl ?_
    refine q_dup dX1_takeOut_5 (rfl : 5 + 1 = 6) rfl ?_
    refine q_getI dX1_takeOut_6 (rfl : 6 + 3 = 9) fX1_15 (by first | rfl | assumption) ?_
    try simp (disch := omega) only [wr_hit, wr_p, wr_k, nI_add, pk_mul, nI_1, nI_s1, pk_sub, Nat.add_sub_cancel]
    refine q_iload_n dX1_takeOut_9 (rfl : 9 + 1 = 10) rfl ?_
    refine q_isub dX1_takeOut_10 (rfl : 10 + 1 = 11) ?_
    try simp (disch := omega) only [wr_hit, wr_p, wr_k, nI_add, pk_mul, nI_1, nI_s1, pk_sub, Nat.add_sub_cancel]
    refine q_putI dX1_takeOut_11 (rfl : 11 + 3 = 14) pX1_15 (by first | rfl | assumption) ?_
    refine q_aload_n dX1_takeOut_14 (rfl : 14 + 1 = 15) rfl ?_
    refine q_dup dX1_takeOut_15 (rfl : 15 + 1 = 16) rfl ?_
    refine q_getI dX1_takeOut_16 (rfl : 16 + 3 = 19) fX1_19 (by first | rfl | assumption) ?_
    try simp (disch := omega) only [wr_hit, wr_p, wr_k, nI_add, pk_mul, nI_1, nI_s1, pk_sub, Nat.add_sub_cancel]
    refine q_iload_n dX1_takeOut_19 (rfl : 19 + 1 = 20) rfl ?_
    refine q_iload_n dX1_takeOut_20 (rfl : 20 + 1 = 21) rfl ?_
    refine q_imul dX1_takeOut_21 (rfl : 21 + 1 = 22) ?_
    try simp (disch := omega) only [wr_hit, wr_p, wr_k, nI_add, pk_mul, nI_1, nI_s1, pk_sub, Nat.add_sub_cancel]
    refine q_isub dX1_takeOut_22 (rfl : 22 + 1 = 23) ?_
    try simp (disch := omega) only [wr_hit, wr_p, wr_k, nI_add, pk_mul, nI_1, nI_s1, pk_sub, Nat.add_sub_cancel]
    refine q_putI dX1_takeOut_23 (rfl : 23 + 3 = 26) pX1_19 (by first | rfl | assumption) ?_
    refine q_aload_n dX1_takeOut_26 (rfl : 26 + 1 = 27) rfl ?_
    refine q_getR dX1_takeOut_27 (rfl : 27 + 3 = 30) fX1_9 (by first | rfl | assumption) (by first | rfl | assumption) ?_
    refine q_iload_n dX1_takeOut_30 (rfl : 30 + 1 = 31) rfl ?_
    refine q_dup2 dX1_takeOut_31 (rfl : 31 + 1 = 32) rfl rfl ?_
    refine q_iald dX1_takeOut_32 (rfl : 32 + 1 = 33) (by first | rfl | assumption) (by first | assumption | omega) (by decide) ?_
    try simp (disch := omega) only [wr_hit, wr_p, wr_k, nI_add, pk_mul, nI_1, nI_s1, pk_sub, Nat.add_sub_cancel]
    refine q_iconst (v := nI 1) dX1_takeOut_33 (rfl : 33 + 1 = 34) (by decide) ?_
    refine q_isub dX1_takeOut_34 (rfl : 34 + 1 = 35) ?_
    try simp (disch := omega) only [wr_hit, wr_p, wr_k, nI_add, pk_mul, nI_1, nI_s1, pk_sub, Nat.add_sub_cancel]
    refine q_iast dX1_takeOut_35 (rfl : 35 + 1 = 36) (by first | rfl | assumption) (by first | assumption | omega) (by decide) ?_
    refine q_aload_n dX1_takeOut_36 (rfl : 36 + 1 = 37) rfl ?_
    refine q_dup dX1_takeOut_37 (rfl : 37 + 1 = 38) rfl ?_
    refine q_getI dX1_takeOut_38 (rfl : 38 + 3 = 41) fX1_22 (by first | rfl | assumption) ?_
    try simp (disch := omega) only [wr_hit, wr_p, wr_k, nI_add, pk_mul, nI_1, nI_s1, pk_sub, Nat.add_sub_cancel]
    refine q_aload_n dX1_takeOut_41 (rfl : 41 + 1 = 42) rfl ?_
    refine q_getR dX1_takeOut_42 (rfl : 42 + 3 = 45) fX1_9 (by first | rfl | assumption) (by first | rfl | assumption) ?_
    refine q_iload_n dX1_takeOut_45 (rfl : 45 + 1 = 46) rfl ?_
    refine q_iald dX1_takeOut_46 (rfl : 46 + 1 = 47) (by first | rfl | assumption) (by first | assumption | omega) (by decide) ?_
    try simp (disch := omega) only [wr_hit, wr_p, wr_k, nI_add, pk_mul, nI_1, nI_s1, pk_sub, Nat.add_sub_cancel]
    refine q_if_ne (q := 54) dX1_takeOut_47 (by decide) (rfl : 47 + 3 = 50) (fun e => ?_) (fun e => ?_)
    ·
      refine q_iconst (v := nI 0) dX1_takeOut_54 (rfl : 54 + 1 = 55) (by decide) ?_
      exact rest _ (by rw [if_neg e])
    ·
      refine q_iconst (v := nI 1) dX1_takeOut_50 (rfl : 50 + 1 = 51) (by decide) ?_
      refine q_goto (q := 55) dX1_takeOut_51 (by decide) ?_
      exact rest _ (by rw [if_pos e])
/-- one bit of a set -/
theorem bitI {s i : Nat} (hs : s < 2 ^ 31) (hi : i < 32) : (nI s >>> (nI i &&& 31)) &&& nI 1 = nI (s / 2 ^ i % 2) := by
  rw [pk_andN (n := i) (by omega) (m := 31) 5 (by decide), Nat.mod_eq_of_lt (by omega)]
  have e : ((nI i).toBitVec.smod 32).toNat = i := by
    have : ∀ j, j < 32 → ((nI j).toBitVec.smod 32).toNat = j := by decide +kernel
    exact this i hi
  rw [pk_shrN hs _ i e]
  have hlt : s / 2 ^ i < 2 ^ 32 := Nat.lt_of_le_of_lt (Nat.div_le_self _ _) (by omega)
  exact pk_andN hlt (m := nI 1) 1 (by decide)
theorem shlI {i : Nat} (hi : i < 31) : nI 1 <<< (nI i &&& 31) = nI (2 ^ i) := by
  rw [pk_andN (n := i) (by omega) (m := 31) 5 (by decide), Nat.mod_eq_of_lt (by omega)]
  have e : ((nI i).toBitVec.smod 32).toNat = i := by
    have : ∀ j, j < 32 → ((nI j).toBitVec.smod 32).toNat = j := by decide +kernel
    exact this i (by omega)
  have h2 : 2 ^ i < 2 ^ 32 := Nat.pow_lt_pow_right (by omega) (by omega)
  rw [pk_shlN (n := 1) _ i e (by omega), Nat.one_mul]
def goS (t h : Nat → Int32) (yr : Nat → Nat) (s k i : Nat) (st : LSt) : LSt := match k with
  | 0 => st
  | k + 1 => if s / 2 ^ i % 2 = 0 then toS (t i) (h i) (yr i) st else goS t h yr s k (i + 1) (pbS (t i) (h i) (yr i) st)
theorem L_goOn {d n0 : Nat} {Po : PO} {X : HI} {J : HJ} {n s : Nat} {yr : Nat → Nat} (hs : s < 2 ^ 31) (hn : X 16 0 = nI n) (h12 : n ≤ 12) (hy : ∀ i, i < n → X 5 i = nI (yr i) ∧ yr i < 100) :
    ∀ (k i : Nat) (st : LSt), i + k = n → Po shA none (lsH X (goS (X 17) (X 7) yr s k i st)) J RA → Wm mX1_goOn (TM (d + 1) 0 0 false n0 Po) 0 0 shA 3 [some (.ref 42), some (.int (nI s)), some (.ref 16), some (.ref 4), some (.int (nI i))] [] (lsH X st) J RA := by
  intro k
  induction k with
  | zero =>
    intro i st hi hPo
    obtain rfl : i = n := by omega
    have o : ∀ a, a ≠ 42 ∧ a ≠ 43 → lsH X st a = X a := fun a ha => lsH_o ha
    have e0 : lsH X st 16 0 = nI i := by rw [o 16 (by omega)]; exact hn
    refine q_iload dX1_goOn_3 (rfl : 3 + 2 = 5) rfl ?_
    refine q_aload_n dX1_goOn_5 (rfl : 5 + 1 = 6) rfl ?_
    refine q_getI dX1_goOn_6 (rfl : 6 + 3 = 9) fX1_38 (by first | rfl | assumption) ?_
    try simp (disch := omega) only [wr_hit, wr_p, wr_k, nI_add, pk_mul, nI_1, nI_s1, pk_sub, Nat.add_sub_cancel, e0]
    refine q_icmp_ge_n (q := 78) (by omega) (by omega) dX1_goOn_9 (by decide) (rfl : 9 + 3 = 12) (fun h => ?_) (fun h => ?_)
    ·
      exact q_vret rfl dX1_goOn_78 hPo
    ·
      omega
  | succ k ih =>
    intro i st hi hPo
    have o : ∀ a, a ≠ 42 ∧ a ≠ 43 → lsH X st a = X a := fun a ha => lsH_o ha
    have e0 : lsH X st 16 0 = nI n := by rw [o 16 (by omega)]; exact hn
    have e17 := o 17 (by omega)
    have e7 := o 7 (by omega)
    have e5 := o 5 (by omega)
    refine q_iload dX1_goOn_3 (rfl : 3 + 2 = 5) rfl ?_
    refine q_aload_n dX1_goOn_5 (rfl : 5 + 1 = 6) rfl ?_
    refine q_getI dX1_goOn_6 (rfl : 6 + 3 = 9) fX1_38 (by first | rfl | assumption) ?_
    try simp (disch := omega) only [wr_hit, wr_p, wr_k, nI_add, pk_mul, nI_1, nI_s1, pk_sub, Nat.add_sub_cancel, e0]
    refine q_icmp_ge_n (q := 78) (by omega) (by omega) dX1_goOn_9 (by decide) (rfl : 9 + 3 = 12) (fun h => ?_) (fun h => ?_)
    · omega
    ·
      obtain ⟨y1, y2⟩ := hy i h
      refine q_iload_n dX1_goOn_12 (rfl : 12 + 1 = 13) rfl ?_
      refine q_iload dX1_goOn_13 (rfl : 13 + 2 = 15) rfl ?_
      refine q_ishr dX1_goOn_15 (rfl : 15 + 1 = 16) ?_
      refine q_iconst (v := nI 1) dX1_goOn_16 (rfl : 16 + 1 = 17) (by decide) ?_
      refine q_iand dX1_goOn_17 (rfl : 17 + 1 = 18) ?_
      rw [bitI hs (by omega)]
      refine q_if_ne_n (q := 47) (by omega) dX1_goOn_18 (by decide) (rfl : 18 + 3 = 21) (fun hb => ?_) (fun hb => ?_)
      ·
        refine q_aload_n dX1_goOn_47 (rfl : 47 + 1 = 48) rfl ?_
        refine q_aload_n dX1_goOn_48 (rfl : 48 + 1 = 49) rfl ?_
        refine q_getR dX1_goOn_49 (rfl : 49 + 3 = 52) fX1_57 (by first | rfl | assumption) (by first | rfl | assumption) ?_
        refine q_iload dX1_goOn_52 (rfl : 52 + 2 = 54) rfl ?_
        refine q_iald dX1_goOn_54 (rfl : 54 + 1 = 55) (by first | rfl | assumption) (by first | assumption | omega) (by decide) ?_
        try simp (disch := omega) only [wr_hit, wr_p, wr_k, nI_add, pk_mul, nI_1, nI_s1, pk_sub, Nat.add_sub_cancel, e17, e7, e5, y1]
        refine q_aload_n dX1_goOn_55 (rfl : 55 + 1 = 56) rfl ?_
        refine q_getR dX1_goOn_56 (rfl : 56 + 3 = 59) fX1_60 (by first | rfl | assumption) (by first | rfl | assumption) ?_
        refine q_iload dX1_goOn_59 (rfl : 59 + 2 = 61) rfl ?_
        refine q_iald dX1_goOn_61 (rfl : 61 + 1 = 62) (by first | rfl | assumption) (by first | assumption | omega) (by decide) ?_
        try simp (disch := omega) only [wr_hit, wr_p, wr_k, nI_add, pk_mul, nI_1, nI_s1, pk_sub, Nat.add_sub_cancel, e17, e7, e5, y1]
        refine q_aload_n dX1_goOn_62 (rfl : 62 + 1 = 63) rfl ?_
        refine q_getR dX1_goOn_63 (rfl : 63 + 3 = 66) fX1_65 (by first | rfl | assumption) (by first | rfl | assumption) ?_
        refine q_iload dX1_goOn_66 (rfl : 66 + 2 = 68) rfl ?_
        refine q_iald dX1_goOn_68 (rfl : 68 + 1 = 69) (by first | rfl | assumption) (by first | assumption | omega) (by decide) ?_
        try simp (disch := omega) only [wr_hit, wr_p, wr_k, nI_add, pk_mul, nI_1, nI_s1, pk_sub, Nat.add_sub_cancel, e17, e7, e5, y1]
        refine q_callVV (S_putBack (d := d) y2) dX1_goOn_69 (rfl : 69 + 3 = 72) lX1_68 vX1_putBack (by first | rfl | assumption) rfl rfl (Nat.le_of_ble_eq_true rfl) TM_room TM_cs ?_
        intro I1 J1 hp
        obtain ⟨rfl, rfl⟩ := hp
        rw [lsOf_H, lsH_H]
        first | refine q_iinc1 dX1_goOn_72 (rfl : 72 + 3 = 75) rfl (by decide) ?_ | refine q_iinc dX1_goOn_72 (rfl : 72 + 3 = 75) rfl rfl (by decide) ?_
        refine q_goto (q := 3) dX1_goOn_75 (by decide) ?_
        refine ih (i + 1) _ (by omega) ?_
        have e : goS (X 17) (X 7) yr s (k + 1) i st = goS (X 17) (X 7) yr s k (i + 1) (pbS (X 17 i) (X 7 i) (yr i) st) := by
          simp only [goS, if_neg hb]
        rw [e] at hPo
        exact hPo
      ·
        refine q_aload_n dX1_goOn_21 (rfl : 21 + 1 = 22) rfl ?_
        refine q_aload_n dX1_goOn_22 (rfl : 22 + 1 = 23) rfl ?_
        refine q_getR dX1_goOn_23 (rfl : 23 + 3 = 26) fX1_57 (by first | rfl | assumption) (by first | rfl | assumption) ?_
        refine q_iload dX1_goOn_26 (rfl : 26 + 2 = 28) rfl ?_
        refine q_iald dX1_goOn_28 (rfl : 28 + 1 = 29) (by first | rfl | assumption) (by first | assumption | omega) (by decide) ?_
        try simp (disch := omega) only [wr_hit, wr_p, wr_k, nI_add, pk_mul, nI_1, nI_s1, pk_sub, Nat.add_sub_cancel, e17, e7, e5, y1]
        refine q_aload_n dX1_goOn_29 (rfl : 29 + 1 = 30) rfl ?_
        refine q_getR dX1_goOn_30 (rfl : 30 + 3 = 33) fX1_60 (by first | rfl | assumption) (by first | rfl | assumption) ?_
        refine q_iload dX1_goOn_33 (rfl : 33 + 2 = 35) rfl ?_
        refine q_iald dX1_goOn_35 (rfl : 35 + 1 = 36) (by first | rfl | assumption) (by first | assumption | omega) (by decide) ?_
        try simp (disch := omega) only [wr_hit, wr_p, wr_k, nI_add, pk_mul, nI_1, nI_s1, pk_sub, Nat.add_sub_cancel, e17, e7, e5, y1]
        refine q_aload_n dX1_goOn_36 (rfl : 36 + 1 = 37) rfl ?_
        refine q_getR dX1_goOn_37 (rfl : 37 + 3 = 40) fX1_65 (by first | rfl | assumption) (by first | rfl | assumption) ?_
        refine q_iload dX1_goOn_40 (rfl : 40 + 2 = 42) rfl ?_
        refine q_iald dX1_goOn_42 (rfl : 42 + 1 = 43) (by first | rfl | assumption) (by first | assumption | omega) (by decide) ?_
        try simp (disch := omega) only [wr_hit, wr_p, wr_k, nI_add, pk_mul, nI_1, nI_s1, pk_sub, Nat.add_sub_cancel, e17, e7, e5, y1]
        refine q_callVV (S_takeOut (d := d) y2) dX1_goOn_43 (rfl : 43 + 3 = 46) lX1_72 vX1_takeOut (by first | rfl | assumption) rfl rfl (Nat.le_of_ble_eq_true rfl) TM_room TM_cs ?_
        intro I1 J1 hp
        obtain ⟨rfl, rfl⟩ := hp
        rw [lsOf_H, lsH_H]
        have e : goS (X 17) (X 7) yr s (k + 1) i st = toS (X 17 i) (X 7 i) (yr i) st := by
          simp only [goS, if_pos hb]
        rw [e] at hPo
        exact q_vret rfl dX1_goOn_46 hPo
theorem S_goOn {d n s : Nat} {X : HI} {J : HJ} {yr : Nat → Nat} (hs : s < 2 ^ 31) (hn : X 16 0 = nI n) (h12 : n ≤ 12) (hy : ∀ i, i < n → X 5 i = nI (yr i) ∧ yr i < 100) : MV mX1_goOn (d + 1) [.ref 42, .int (nI s), .ref 16, .ref 4] shA X J RA (fun I' J' => I' = lsH X (goS (X 17) (X 7) yr s n 0 (lsOf X)) ∧ J' = J) := by
  refine Mt.of (L := [some (.ref 42), some (.int (nI s)), some (.ref 16), some (.ref 4), none]) (by decide +kernel) (Nat.le_of_ble_eq_true rfl) rfl ?_
  refine q_iconst (v := nI 0) dX1_goOn_0 (rfl : 0 + 1 = 1) (by decide) ?_
  refine q_istore dX1_goOn_1 (rfl : 1 + 2 = 3) (by decide) ?_
  have key := L_goOn (d := d) (n0 := shA.length) (X := X) (J := J) (Po := fun sh' v I' J' R' => sh' = shA ∧ R' = RA ∧ v = none ∧ (I' = lsH X (goS (X 17) (X 7) yr s n 0 (lsOf X)) ∧ J' = J)) hs hn h12 hy n 0 (lsOf X) (by omega) ⟨rfl, rfl, rfl, rfl, rfl⟩
  rw [lsH_of] at key
  exact key
def betB (X : HI) : Bool := decide (X 42 5 < X 42 3) || (decide (X 42 3 = X 42 5) && decide (X 42 6 < X 42 1))
theorem S_isBetter {d : Nat} {X : HI} {J : HJ} : MIp mX1_isBetter d [.ref 42] shA X J RA (bI (betB X)) := by
  refine Mt.of (L := [some (.ref 42)]) (by decide +kernel) (Nat.le_of_ble_eq_true rfl) rfl ?_
  refine q_aload_n dX1_isBetter_0 (rfl : 0 + 1 = 1) rfl ?_
  refine q_getI dX1_isBetter_1 (rfl : 1 + 3 = 4) fX1_22 (by first | rfl | assumption) ?_
  refine q_aload_n dX1_isBetter_4 (rfl : 4 + 1 = 5) rfl ?_
  refine q_getI dX1_isBetter_5 (rfl : 5 + 3 = 8) fX1_28 (by first | rfl | assumption) ?_
  refine q_icmp_gt (q := 33) dX1_isBetter_8 (by decide) (rfl : 8 + 3 = 11) (fun h1 => ?_) (fun h1 => ?_)
  ·
    refine q_iconst (v := nI 1) dX1_isBetter_33 (rfl : 33 + 1 = 34) (by decide) ?_
    refine q_goto (q := 38) dX1_isBetter_34 (by decide) ?_
    refine q_zret rfl dX1_isBetter_38 (by first | exact bI_01 _ | exact Or.inl rfl | exact Or.inr rfl) ⟨rfl, rfl, _, rfl, ?_⟩
    have e : betB X = true := by simp [betB, h1]
    rw [e]
    exact ⟨rfl, rfl, rfl⟩
  ·
    refine q_aload_n dX1_isBetter_11 (rfl : 11 + 1 = 12) rfl ?_
    refine q_getI dX1_isBetter_12 (rfl : 12 + 3 = 15) fX1_22 (by first | rfl | assumption) ?_
    refine q_aload_n dX1_isBetter_15 (rfl : 15 + 1 = 16) rfl ?_
    refine q_getI dX1_isBetter_16 (rfl : 16 + 3 = 19) fX1_28 (by first | rfl | assumption) ?_
    refine q_icmp_ne (q := 37) dX1_isBetter_19 (by decide) (rfl : 19 + 3 = 22) (fun h2 => ?_) (fun h2 => ?_)
    ·
      refine q_iconst (v := nI 0) dX1_isBetter_37 (rfl : 37 + 1 = 38) (by decide) ?_
      refine q_zret rfl dX1_isBetter_38 (by first | exact bI_01 _ | exact Or.inl rfl | exact Or.inr rfl) ⟨rfl, rfl, _, rfl, ?_⟩
      have e : betB X = false := by simp only [betB, decide_eq_false h1, decide_eq_false h2, Bool.false_and, Bool.or_false]
      rw [e]
      exact ⟨rfl, rfl, rfl⟩
    ·
      refine q_aload_n dX1_isBetter_22 (rfl : 22 + 1 = 23) rfl ?_
      refine q_getI dX1_isBetter_23 (rfl : 23 + 3 = 26) fX1_15 (by first | rfl | assumption) ?_
      refine q_aload_n dX1_isBetter_26 (rfl : 26 + 1 = 27) rfl ?_
      refine q_getI dX1_isBetter_27 (rfl : 27 + 3 = 30) fX1_31 (by first | rfl | assumption) ?_
      refine q_icmp_le (q := 37) dX1_isBetter_30 (by decide) (rfl : 30 + 3 = 33) (fun h3 => ?_) (fun h3 => ?_)
      ·
        refine q_iconst (v := nI 0) dX1_isBetter_37 (rfl : 37 + 1 = 38) (by decide) ?_
        refine q_zret rfl dX1_isBetter_38 (by first | exact bI_01 _ | exact Or.inl rfl | exact Or.inr rfl) ⟨rfl, rfl, _, rfl, ?_⟩
        have e : betB X = false := by simp only [betB, decide_eq_false h1, decide_eq_false (Int32.not_lt.mpr h3), Bool.and_false, Bool.or_false]
        rw [e]
        exact ⟨rfl, rfl, rfl⟩
      ·
        refine q_iconst (v := nI 1) dX1_isBetter_33 (rfl : 33 + 1 = 34) (by decide) ?_
        refine q_goto (q := 38) dX1_isBetter_34 (by decide) ?_
        refine q_zret rfl dX1_isBetter_38 (by first | exact bI_01 _ | exact Or.inl rfl | exact Or.inr rfl) ⟨rfl, rfl, _, rfl, ?_⟩
        have e : betB X = true := by simp only [betB, decide_eq_true h2, decide_eq_true (Int32.not_le.mp h3), Bool.and_true, Bool.or_true]
        rw [e]
        exact ⟨rfl, rfl, rfl⟩
def swaS (t h : Nat → Int32) (yr : Nat → Nat) (st : LSt) (i : Nat) : LSt := match i with
  | 0 => st
  | i + 1 => pbS (t i) (h i) (yr i) (swaS t h yr st i)
theorem L_startWithAll {d n0 : Nat} {Po : PO} {X : HI} {J : HJ} {n : Nat} {yr : Nat → Nat} {st : LSt} (hn : X 16 0 = nI n) (h12 : n ≤ 12) (hy : ∀ i, i < n → X 5 i = nI (yr i) ∧ yr i < 100) (K : Wm mX1_startWithAll (TM (d + 1) 0 0 false n0 Po) 0 0 shA 61 [some (.ref 42), some (.ref 16), some (.ref 4), none] [] (lsH X (swaS (X 17) (X 7) yr st n)) J RA) :
    ∀ (i : Nat), i ≤ n → Wm mX1_startWithAll (TM (d + 1) 0 0 false n0 Po) 0 0 shA 25 [some (.ref 42), some (.ref 16), some (.ref 4), some (.int (nI i))] [] (lsH X (swaS (X 17) (X 7) yr st i)) J RA := by
  refine loopN (fun i hi ih => ?_)
  have o : ∀ a, a ≠ 42 ∧ a ≠ 43 → lsH X (swaS (X 17) (X 7) yr st i) a = X a := fun a ha => lsH_o ha
  have e0 : lsH X (swaS (X 17) (X 7) yr st i) 16 0 = nI n := by rw [o 16 (by omega)]; exact hn
  have e17 := o 17 (by omega)
  have e7 := o 7 (by omega)
  have e5 := o 5 (by omega)
  refine q_iload_n dX1_startWithAll_25 (rfl : 25 + 1 = 26) rfl ?_
  refine q_aload_n dX1_startWithAll_26 (rfl : 26 + 1 = 27) rfl ?_
  refine q_getI dX1_startWithAll_27 (rfl : 27 + 3 = 30) fX1_38 (by first | rfl | assumption) ?_
  try simp (disch := omega) only [wr_hit, wr_p, wr_k, nI_add, pk_mul, nI_1, nI_s1, pk_sub, Nat.add_sub_cancel, e0]
  refine q_icmp_ge_n (q := 61) (by omega) (by omega) dX1_startWithAll_30 (by decide) (rfl : 30 + 3 = 33) (fun h => ?_) (fun h => ?_)
  ·
    obtain rfl : i = n := by omega
    refine q_forget (L' := [some (.ref 42), some (.ref 16), some (.ref 4), none]) (by repeat (first | exact trivial | refine And.intro rfl ?_)) ?_
    exact K
  ·
    obtain ⟨y1, y2⟩ := hy i h
    refine q_aload_n dX1_startWithAll_33 (rfl : 33 + 1 = 34) rfl ?_
    refine q_aload_n dX1_startWithAll_34 (rfl : 34 + 1 = 35) rfl ?_
    refine q_getR dX1_startWithAll_35 (rfl : 35 + 3 = 38) fX1_57 (by first | rfl | assumption) (by first | rfl | assumption) ?_
    refine q_iload_n dX1_startWithAll_38 (rfl : 38 + 1 = 39) rfl ?_
    refine q_iald dX1_startWithAll_39 (rfl : 39 + 1 = 40) (by first | rfl | assumption) (by first | assumption | omega) (by decide) ?_
    try simp (disch := omega) only [wr_hit, wr_p, wr_k, nI_add, pk_mul, nI_1, nI_s1, pk_sub, Nat.add_sub_cancel, e17, e7, e5, y1]
    refine q_aload_n dX1_startWithAll_40 (rfl : 40 + 1 = 41) rfl ?_
    refine q_getR dX1_startWithAll_41 (rfl : 41 + 3 = 44) fX1_60 (by first | rfl | assumption) (by first | rfl | assumption) ?_
    refine q_iload_n dX1_startWithAll_44 (rfl : 44 + 1 = 45) rfl ?_
    refine q_iald dX1_startWithAll_45 (rfl : 45 + 1 = 46) (by first | rfl | assumption) (by first | assumption | omega) (by decide) ?_
    try simp (disch := omega) only [wr_hit, wr_p, wr_k, nI_add, pk_mul, nI_1, nI_s1, pk_sub, Nat.add_sub_cancel, e17, e7, e5, y1]
    refine q_aload_n dX1_startWithAll_46 (rfl : 46 + 1 = 47) rfl ?_
    refine q_getR dX1_startWithAll_47 (rfl : 47 + 3 = 50) fX1_65 (by first | rfl | assumption) (by first | rfl | assumption) ?_
    refine q_iload_n dX1_startWithAll_50 (rfl : 50 + 1 = 51) rfl ?_
    refine q_iald dX1_startWithAll_51 (rfl : 51 + 1 = 52) (by first | rfl | assumption) (by first | assumption | omega) (by decide) ?_
    try simp (disch := omega) only [wr_hit, wr_p, wr_k, nI_add, pk_mul, nI_1, nI_s1, pk_sub, Nat.add_sub_cancel, e17, e7, e5, y1]
    refine q_callVV (S_putBack (d := d) y2) dX1_startWithAll_52 (rfl : 52 + 3 = 55) lX1_68 vX1_putBack (by first | rfl | assumption) rfl rfl (Nat.le_of_ble_eq_true rfl) TM_room TM_cs ?_
    intro I1 J1 hp
    obtain ⟨rfl, rfl⟩ := hp
    rw [lsOf_H, lsH_H]
    first | refine q_iinc1 dX1_startWithAll_55 (rfl : 55 + 3 = 58) rfl (by decide) ?_ | refine q_iinc dX1_startWithAll_55 (rfl : 55 + 3 = 58) rfl rfl (by decide) ?_
    refine q_goto (q := 25) dX1_startWithAll_58 (by decide) ?_
    exact ih h
def sw0 (X : HI) : LSt := (nI 0, nI 0, nI 0, fillH X 43 100 (nI 0) 43)
theorem S_startWithAll {d n : Nat} {X : HI} {J : HJ} {yr : Nat → Nat} (hn : X 16 0 = nI n) (h12 : n ≤ 12) (hy : ∀ i, i < n → X 5 i = nI (yr i) ∧ yr i < 100) : MV mX1_startWithAll (d + 1) [.ref 42, .ref 16, .ref 4] shA X J RA (fun I' J' => I' = lsH X (swaS (X 17) (X 7) yr (sw0 X) n) ∧ J' = J) := by
  refine Mt.of (L := [some (.ref 42), some (.ref 16), some (.ref 4), none]) (by decide +kernel) (Nat.le_of_ble_eq_true rfl) rfl ?_
  refine q_aload_n dX1_startWithAll_0 (rfl : 0 + 1 = 1) rfl ?_
  refine q_getR dX1_startWithAll_1 (rfl : 1 + 3 = 4) fX1_9 (by first | rfl | assumption) (by first | rfl | assumption) ?_
  refine q_iconst (v := nI 0) dX1_startWithAll_4 (rfl : 4 + 1 = 5) (by decide) ?_
  refine q_callSV (S_fill (d := d) (show shA[43]? = some (.inr (.int, 100)) from rfl) (by decide)) dX1_startWithAll_5 (rfl : 5 + 3 = 8) lX1_51 vJ7_fill rfl rfl (Nat.le_of_ble_eq_true rfl) TM_room TM_cs ?_
  intro I1 J1 hp
  obtain ⟨rfl, rfl⟩ := hp
  refine q_aload_n dX1_startWithAll_8 (rfl : 8 + 1 = 9) rfl ?_
  refine q_iconst (v := nI 0) dX1_startWithAll_9 (rfl : 9 + 1 = 10) (by decide) ?_
  refine q_putI dX1_startWithAll_10 (rfl : 10 + 3 = 13) pX1_15 (by first | rfl | assumption) ?_
  refine q_aload_n dX1_startWithAll_13 (rfl : 13 + 1 = 14) rfl ?_
  refine q_iconst (v := nI 0) dX1_startWithAll_14 (rfl : 14 + 1 = 15) (by decide) ?_
  refine q_putI dX1_startWithAll_15 (rfl : 15 + 3 = 18) pX1_19 (by first | rfl | assumption) ?_
  refine q_aload_n dX1_startWithAll_18 (rfl : 18 + 1 = 19) rfl ?_
  refine q_iconst (v := nI 0) dX1_startWithAll_19 (rfl : 19 + 1 = 20) (by decide) ?_
  refine q_putI dX1_startWithAll_20 (rfl : 20 + 3 = 23) pX1_22 (by first | rfl | assumption) ?_
  refine q_iconst (v := nI 0) dX1_startWithAll_23 (rfl : 23 + 1 = 24) (by decide) ?_
  refine q_istore_n dX1_startWithAll_24 (rfl : 24 + 1 = 25) (by decide) ?_
  have e : wr (wr (wr (fillH X 43 100 (nI 0)) 42 1 (nI 0)) 42 2 (nI 0)) 42 3 (nI 0) = lsH X (sw0 X) := by
    funext a b
    unfold wr lsH sw0 fillH
    by_cases h1 : a = 42
    · subst h1
      by_cases b1 : b = 1
      · simp [b1]
      · by_cases b2 : b = 2
        · simp [b2]
        · by_cases b3 : b = 3
          · simp [b3]
          · simp [b1, b2, b3]
    · by_cases h2 : a = 43
      · subst h2
        simp
      · simp [h1, h2]
  rw [e]
  refine L_startWithAll (d := d) hn h12 hy ?_ 0 (by omega)
  refine q_vret rfl dX1_startWithAll_61 ⟨rfl, rfl, rfl, ?_⟩
  exact ⟨rfl, rfl⟩
/-- the best set so far: it, its years, its tenths -/
def lbH (X : HI) (st : LSt) (b : Int32 × Int32 × Int32) : HI := wr (wr (wr (lsH X st) 42 4 b.1) 42 5 b.2.1) 42 6 b.2.2
theorem lbH_at {X : HI} {st : LSt} {b : Int32 × Int32 × Int32} : lbH X st b 42 1 = st.1 ∧ lbH X st b 42 2 = st.2.1 ∧ lbH X st b 42 3 = st.2.2.1 ∧ lbH X st b 42 4 = b.1 ∧ lbH X st b 42 5 = b.2.1 ∧ lbH X st b 42 6 = b.2.2 := by
  unfold lbH wr lsH
  simp
theorem lbH_o {X : HI} {st : LSt} {b : Int32 × Int32 × Int32} {a : Nat} (h : a ≠ 42 ∧ a ≠ 43) : lbH X st b a = X a := by
  unfold lbH
  rw [wr_ne h.1, wr_ne h.1, wr_ne h.1, lsH_o h]
theorem lbH_of {X : HI} {st : LSt} {b : Int32 × Int32 × Int32} : lsOf (lbH X st b) = st := by
  unfold lsOf lbH wr lsH
  simp
theorem lbH_ls {X : HI} {st st' : LSt} {b : Int32 × Int32 × Int32} : lsH (lbH X st b) st' = lbH X st' b := by
  funext x y
  unfold lbH wr lsH
  by_cases h1 : x = 42
  · subst h1
    by_cases b1 : y = 1
    · simp [b1]
    · by_cases b2 : y = 2
      · simp [b2]
      · by_cases b3 : y = 3
        · simp [b3]
        · simp [b1, b2, b3]
  · by_cases h2 : x = 43
    · simp [h2]
    · simp [h1, h2]
theorem lbH_u {X : HI} {st : LSt} {b : Int32 × Int32 × Int32} {u v w : Int32} : wr (wr (wr (lbH X st b) 42 4 u) 42 5 v) 42 6 w = lbH X st (u, v, w) := by
  funext x y
  unfold lbH wr
  by_cases h1 : x = 42
  · subst h1
    by_cases b1 : y = 6
    · simp [b1]
    · by_cases b2 : y = 5
      · simp [b2]
      · by_cases b3 : y = 4
        · simp [b3]
        · simp [b1, b2, b3]
  · simp [h1]
def lgS (t h : Nat → Int32) (yr : Nat → Nat) (n : Nat) (mh ml : Int32) (k s : Nat) (st : LSt) (b : Int32 × Int32 × Int32) : LSt × (Int32 × Int32 × Int32) := match k with
  | 0 => (st, b)
  | k + 1 => lgS t h yr n mh ml k (s + 1) (goS t h yr s n 0 st) (if (st.1 ≤ mh ∧ st.2.1 ≤ ml) ∧ (b.2.1 < st.2.2.1 ∨ (st.2.2.1 = b.2.1 ∧ b.2.2 < st.1)) then (nI s, st.2.2.1, st.1) else b)
theorem L_choose {d n0 : Nat} {Po : PO} {X : HI} {J : HJ} {n : Nat} {yr : Nat → Nat} {mh ml : Int32} (hn : X 16 0 = nI n) (h12 : n ≤ 12) (hy : ∀ i, i < n → X 5 i = nI (yr i) ∧ yr i < 100) :
    ∀ (k s : Nat) (st : LSt) (b : Int32 × Int32 × Int32), s + k = 2 ^ n → Po shA none (lbH X (lgS (X 17) (X 7) yr n mh ml k s st b).1 (lgS (X 17) (X 7) yr n mh ml k s st b).2) J RA →
      Wm mX1_choose (TM (d + 2) 0 0 false n0 Po) 0 0 shA 25 [some (.ref 42), some (.int mh), some (.int ml), some (.ref 16), some (.ref 4), some (.int (nI s))] [] (lbH X st b) J RA := by
  have h2n : 2 ^ n ≤ 4096 := by
    have : 2 ^ n ≤ 2 ^ 12 := Nat.pow_le_pow_right (by omega) h12
    omega
  intro k
  induction k with
  | zero =>
    intro s st b hs hPo
    have e0 : lbH X st b 16 0 = nI n := by rw [lbH_o (by omega)]; exact hn
    refine q_iload dX1_choose_25 (rfl : 25 + 2 = 27) rfl ?_
    refine q_iconst (v := nI 1) dX1_choose_27 (rfl : 27 + 1 = 28) (by decide) ?_
    refine q_aload_n dX1_choose_28 (rfl : 28 + 1 = 29) rfl ?_
    refine q_getI dX1_choose_29 (rfl : 29 + 3 = 32) fX1_38 (by first | rfl | assumption) ?_
    try simp (disch := omega) only [wr_hit, wr_p, wr_k, nI_add, pk_mul, nI_1, nI_s1, pk_sub, Nat.add_sub_cancel, e0]
    refine q_ishl dX1_choose_32 (rfl : 32 + 1 = 33) ?_
    rw [shlI (by omega)]
    refine q_icmp_ge_n (q := 96) (by omega) (by omega) dX1_choose_33 (by decide) (rfl : 33 + 3 = 36) (fun h => ?_) (fun h => ?_)
    ·
      exact q_vret rfl dX1_choose_96 hPo
    ·
      omega
  | succ k ih =>
    intro s st b hs hPo
    have e0 : lbH X st b 16 0 = nI n := by rw [lbH_o (by omega)]; exact hn
    have hy' : ∀ b', ∀ i, i < n → lbH X st b' 5 i = nI (yr i) ∧ yr i < 100 := fun b' i hi => by rw [lbH_o (by omega)]; exact hy i hi
    obtain ⟨a1, a2, a3, a4, a5, a6⟩ := lbH_at (X := X) (st := st) (b := b)
    refine q_iload dX1_choose_25 (rfl : 25 + 2 = 27) rfl ?_
    refine q_iconst (v := nI 1) dX1_choose_27 (rfl : 27 + 1 = 28) (by decide) ?_
    refine q_aload_n dX1_choose_28 (rfl : 28 + 1 = 29) rfl ?_
    refine q_getI dX1_choose_29 (rfl : 29 + 3 = 32) fX1_38 (by first | rfl | assumption) ?_
    try simp (disch := omega) only [wr_hit, wr_p, wr_k, nI_add, pk_mul, nI_1, nI_s1, pk_sub, Nat.add_sub_cancel, e0]
    refine q_ishl dX1_choose_32 (rfl : 32 + 1 = 33) ?_
    rw [shlI (by omega)]
    refine q_icmp_ge_n (q := 96) (by omega) (by omega) dX1_choose_33 (by decide) (rfl : 33 + 3 = 36) (fun h => ?_) (fun h => ?_)
    · omega
    ·
      have rest : ∀ b', b' = (if (st.1 ≤ mh ∧ st.2.1 ≤ ml) ∧ (b.2.1 < st.2.2.1 ∨ (st.2.2.1 = b.2.1 ∧ b.2.2 < st.1)) then (nI s, st.2.2.1, st.1) else b) → Wm mX1_choose (TM (d + 2) 0 0 false n0 Po) 0 0 shA 81 [some (.ref 42), some (.int mh), some (.int ml), some (.ref 16), some (.ref 4), some (.int (nI s))] [] (lbH X st b') J RA := by
        intro b' hb'
        have e0' : lbH X st b' 16 0 = nI n := by rw [lbH_o (by omega)]; exact hn
        refine q_aload_n dX1_choose_81 (rfl : 81 + 1 = 82) rfl ?_
        refine q_iload dX1_choose_82 (rfl : 82 + 2 = 84) rfl ?_
        refine q_aload_n dX1_choose_84 (rfl : 84 + 1 = 85) rfl ?_
        refine q_aload dX1_choose_85 (rfl : 85 + 2 = 87) rfl ?_
        refine q_callVV (S_goOn (d := d) (show s < 2 ^ 31 by omega) e0' h12 (hy' b')) dX1_choose_87 (rfl : 87 + 3 = 90) lX1_47 vX1_goOn (by first | rfl | assumption) rfl rfl (Nat.le_of_ble_eq_true rfl) TM_room TM_cs ?_
        intro I1 J1 hp
        obtain ⟨rfl, rfl⟩ := hp
        rw [lbH_of, lbH_ls, lbH_o (show (17 : Nat) ≠ 42 ∧ (17 : Nat) ≠ 43 by omega), lbH_o (show (7 : Nat) ≠ 42 ∧ (7 : Nat) ≠ 43 by omega)]
        first | refine q_iinc1 dX1_choose_90 (rfl : 90 + 3 = 93) rfl (by decide) ?_ | refine q_iinc dX1_choose_90 (rfl : 90 + 3 = 93) rfl rfl (by decide) ?_
        refine q_goto (q := 25) dX1_choose_93 (by decide) ?_
        refine ih (s + 1) _ b' (by omega) ?_
        rw [hb']
        exact hPo
      have no : ¬ ((st.1 ≤ mh ∧ st.2.1 ≤ ml) ∧ (b.2.1 < st.2.2.1 ∨ (st.2.2.1 = b.2.1 ∧ b.2.2 < st.1))) → Wm mX1_choose (TM (d + 2) 0 0 false n0 Po) 0 0 shA 81 [some (.ref 42), some (.int mh), some (.int ml), some (.ref 16), some (.ref 4), some (.int (nI s))] [] (lbH X st b) J RA := fun q => rest b (by rw [if_neg q])
      refine q_aload_n dX1_choose_36 (rfl : 36 + 1 = 37) rfl ?_
      refine q_getI dX1_choose_37 (rfl : 37 + 3 = 40) fX1_15 (by first | rfl | assumption) ?_
      try simp (disch := omega) only [wr_hit, wr_p, wr_k, nI_add, pk_mul, nI_1, nI_s1, pk_sub, Nat.add_sub_cancel, a1, a2, a3, a4, a5, a6]
      refine q_iload_n dX1_choose_40 (rfl : 40 + 1 = 41) rfl ?_
      refine q_icmp_gt (q := 81) dX1_choose_41 (by decide) (rfl : 41 + 3 = 44) (fun q1 => ?_) (fun q1 => ?_)
      ·
        exact no (fun q => absurd q.1.1 (Int32.not_le.mpr q1))
      ·
        refine q_aload_n dX1_choose_44 (rfl : 44 + 1 = 45) rfl ?_
        refine q_getI dX1_choose_45 (rfl : 45 + 3 = 48) fX1_19 (by first | rfl | assumption) ?_
        try simp (disch := omega) only [wr_hit, wr_p, wr_k, nI_add, pk_mul, nI_1, nI_s1, pk_sub, Nat.add_sub_cancel, a1, a2, a3, a4, a5, a6]
        refine q_iload_n dX1_choose_48 (rfl : 48 + 1 = 49) rfl ?_
        refine q_icmp_gt (q := 81) dX1_choose_49 (by decide) (rfl : 49 + 3 = 52) (fun q2 => ?_) (fun q2 => ?_)
        ·
          exact no (fun q => absurd q.1.2 (Int32.not_le.mpr q2))
        ·
          refine q_aload_n dX1_choose_52 (rfl : 52 + 1 = 53) rfl ?_
          refine q_callVIp (S_isBetter (d := d + 1)) dX1_choose_53 (rfl : 53 + 3 = 56) lX1_43 vX1_isBetter (by first | rfl | assumption) rfl rfl (Nat.le_of_ble_eq_true rfl) TM_room TM_cs ?_
          refine q_if_eq_b (q := 81) dX1_choose_56 (by decide) (rfl : 56 + 3 = 59) (fun q3 => ?_) (fun q3 => ?_)
          ·
            have : ¬ (b.2.1 < st.2.2.1 ∨ (st.2.2.1 = b.2.1 ∧ b.2.2 < st.1)) := by
              intro q
              unfold betB at q3
              rw [a1, a3, a5, a6] at q3
              simp only [Bool.or_eq_false_iff, Bool.and_eq_false_iff, decide_eq_false_iff_not] at q3
              rcases q with q | q
              · exact q3.1 q
              · rcases q3.2 with z | z
                · exact z q.1
                · exact z q.2
            exact no (fun q => this q.2)
          ·
            have : (b.2.1 < st.2.2.1 ∨ (st.2.2.1 = b.2.1 ∧ b.2.2 < st.1)) := by
              unfold betB at q3
              rw [a1, a3, a5, a6] at q3
              simpa using q3
            refine q_aload_n dX1_choose_59 (rfl : 59 + 1 = 60) rfl ?_
            refine q_iload dX1_choose_60 (rfl : 60 + 2 = 62) rfl ?_
            refine q_putI dX1_choose_62 (rfl : 62 + 3 = 65) pX1_25 (by first | rfl | assumption) ?_
            refine q_aload_n dX1_choose_65 (rfl : 65 + 1 = 66) rfl ?_
            refine q_aload_n dX1_choose_66 (rfl : 66 + 1 = 67) rfl ?_
            refine q_getI dX1_choose_67 (rfl : 67 + 3 = 70) fX1_22 (by first | rfl | assumption) ?_
            try simp (disch := omega) only [wr_hit, wr_p, wr_k, nI_add, pk_mul, nI_1, nI_s1, pk_sub, Nat.add_sub_cancel, a1, a2, a3, a4, a5, a6]
            refine q_putI dX1_choose_70 (rfl : 70 + 3 = 73) pX1_28 (by first | rfl | assumption) ?_
            refine q_aload_n dX1_choose_73 (rfl : 73 + 1 = 74) rfl ?_
            refine q_aload_n dX1_choose_74 (rfl : 74 + 1 = 75) rfl ?_
            refine q_getI dX1_choose_75 (rfl : 75 + 3 = 78) fX1_15 (by first | rfl | assumption) ?_
            try simp (disch := omega) only [wr_hit, wr_p, wr_k, nI_add, pk_mul, nI_1, nI_s1, pk_sub, Nat.add_sub_cancel, a1, a2, a3, a4, a5, a6]
            refine q_putI dX1_choose_78 (rfl : 78 + 3 = 81) pX1_31 (by first | rfl | assumption) ?_
            rw [lbH_u]
            exact rest _ (by rw [if_pos ⟨⟨Int32.not_lt.mp q1, Int32.not_lt.mp q2⟩, this⟩])
theorem S_lchoose {d n : Nat} {X : HI} {J : HJ} {yr : Nat → Nat} {mh ml : Int32} (hn : X 16 0 = nI n) (h12 : n ≤ 12) (hy : ∀ i, i < n → X 5 i = nI (yr i) ∧ yr i < 100) : MV mX1_choose (d + 2) [.ref 42, .int mh, .int ml, .ref 16, .ref 4] shA X J RA (fun I' J' => I' = lbH X (lgS (X 17) (X 7) yr n mh ml (2 ^ n) 0 (swaS (X 17) (X 7) yr (sw0 X) n) (nI 0, -1, -1)).1 (lgS (X 17) (X 7) yr n mh ml (2 ^ n) 0 (swaS (X 17) (X 7) yr (sw0 X) n) (nI 0, -1, -1)).2 ∧ J' = J) := by
  refine Mt.of (L := [some (.ref 42), some (.int mh), some (.int ml), some (.ref 16), some (.ref 4), none]) (by decide +kernel) (Nat.le_of_ble_eq_true rfl) rfl ?_
  refine q_aload_n dX1_choose_0 (rfl : 0 + 1 = 1) rfl ?_
  refine q_aload_n dX1_choose_1 (rfl : 1 + 1 = 2) rfl ?_
  refine q_aload dX1_choose_2 (rfl : 2 + 2 = 4) rfl ?_
  refine q_callVV (S_startWithAll (d := d) hn h12 hy) dX1_choose_4 (rfl : 4 + 3 = 7) lX1_34 vX1_startWithAll (by first | rfl | assumption) rfl rfl (Nat.le_of_ble_eq_true rfl) TM_room TM_cs ?_
  intro I1 J1 hp
  obtain ⟨rfl, rfl⟩ := hp
  refine q_aload_n dX1_choose_7 (rfl : 7 + 1 = 8) rfl ?_
  refine q_iconst (v := nI 0) dX1_choose_8 (rfl : 8 + 1 = 9) (by decide) ?_
  refine q_putI dX1_choose_9 (rfl : 9 + 3 = 12) pX1_25 (by first | rfl | assumption) ?_
  refine q_aload_n dX1_choose_12 (rfl : 12 + 1 = 13) rfl ?_
  refine q_iconst (v := -1) dX1_choose_13 (rfl : 13 + 1 = 14) (by decide) ?_
  refine q_putI dX1_choose_14 (rfl : 14 + 3 = 17) pX1_28 (by first | rfl | assumption) ?_
  refine q_aload_n dX1_choose_17 (rfl : 17 + 1 = 18) rfl ?_
  refine q_iconst (v := -1) dX1_choose_18 (rfl : 18 + 1 = 19) (by decide) ?_
  refine q_putI dX1_choose_19 (rfl : 19 + 3 = 22) pX1_31 (by first | rfl | assumption) ?_
  refine q_iconst (v := nI 0) dX1_choose_22 (rfl : 22 + 1 = 23) (by decide) ?_
  refine q_istore dX1_choose_23 (rfl : 23 + 2 = 25) (by decide) ?_
  have e : wr (wr (wr (lsH X (swaS (X 17) (X 7) yr (sw0 X) n)) 42 4 (nI 0)) 42 5 (-1)) 42 6 (-1) = lbH X (swaS (X 17) (X 7) yr (sw0 X) n) (nI 0, -1, -1) := rfl
  rw [e]
  exact L_choose (d := d) hn h12 hy (2 ^ n) 0 _ _ (by omega) ⟨rfl, rfl, rfl, rfl, rfl⟩
