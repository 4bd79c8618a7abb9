/-! the reference: numbers and items of a text -/
theorem wr_wr {α : Type} (I : Nat → Nat → α) (p k : Nat) (v w : α) : wr (wr I p k v) p k w = wr I p k w := by
  funext a b
  unfold wr
  by_cases h : a = p
  · by_cases h2 : b = k <;> simp [h, h2]
  · simp [h]
theorem wr_self {α : Type} (I : Nat → Nat → α) (p k : Nat) : wr I p k (I p k) = I := by
  funext a b
  unfold wr
  by_cases h : a = p
  · by_cases h2 : b = k <;> simp [h, h2]
  · simp [h]
theorem inr_iff {a b j : Nat} (ha : a < 2 ^ 31) (hb : b < 2 ^ 31) (hj : j < 2 ^ 31) : inr (nI j) (nI a) (nI b) = true ↔ a ≤ j ∧ j ≤ b := by
  unfold inr
  simp only [Bool.and_eq_true, decide_eq_true_eq, nI_leI ha hj, nI_leI hj hb]
def dgP (f : Nat → Int32) (p : Nat) : Prop := nI 48 ≤ f p ∧ f p ≤ nI 57
def dgV (f : Nat → Int32) (p : Nat) : Nat := (f p - nI 48).toNatClampNeg
theorem dg_of {f : Nat → Int32} {p : Nat} (h : dgP f p) : f p = nI (48 + dgV f p) ∧ dgV f p ≤ 9 := by
  obtain ⟨h1, h2⟩ := h
  have h0 : ¬ f p < 0 := Int32.not_lt.mpr (Int32.le_trans (by decide) h1)
  obtain ⟨j, hj, e⟩ := nI_of2 (n := 57) (nI_toInt (by decide)) h0 h2
  have h48 : 48 ≤ j := by
    rw [e] at h1
    exact (nI_leI (by omega) (by omega)).mp h1
  have e2 : dgV f p = j - 48 := by
    unfold dgV
    rw [e, pk_sub h48, nI_clamp (by omega)]
  rw [e2]
  exact ⟨by rw [e]; congr 1; omega, by omega⟩
def numF (f : Nat → Int32) (k p v g : Nat) : Nat × Nat × Nat := match k with
  | 0 => (v, g, p)
  | k + 1 => if nI 48 ≤ f p ∧ f p ≤ nI 57 then numF f k (p + 1) (if g < 3 then 10 * v + dgV f p else v) (g + 1) else (v, g, p)
def numX (r : Nat × Nat × Nat) : Int32 := if 1 ≤ r.2.1 ∧ r.2.1 ≤ 3 then nI r.1 else -1
theorem numF_p {f : Nat → Int32} : ∀ (k p v g : Nat), p ≤ (numF f k p v g).2.2 ∧ (numF f k p v g).2.2 ≤ p + k := by
  intro k
  induction k with
  | zero => intro p v g; simp [numF]
  | succ k ih =>
    intro p v g
    unfold numF
    split
    · have := ih (p + 1) (if g < 3 then 10 * v + dgV f p else v) (g + 1)
      omega
    · simp
theorem numF_v {f : Nat → Int32} : ∀ (k p v g : Nat), v < 10 ^ (min g 3) → (numF f k p v g).1 < 1000 := by
  intro k
  induction k with
  | zero =>
    intro p v g h
    simp only [numF]
    have : (10 : Nat) ^ min g 3 ≤ 10 ^ 3 := Nat.pow_le_pow_right (by omega) (by omega)
    omega
  | succ k ih =>
    intro p v g h
    have : (10 : Nat) ^ min g 3 ≤ 10 ^ 3 := Nat.pow_le_pow_right (by omega) (by omega)
    unfold numF
    split
    · rename_i hd
      have hd9 := (dg_of hd).2
      apply ih
      split
      · rename_i hg
        rw [Nat.min_eq_left (by omega)] at h
        rw [Nat.min_eq_left (by omega), Nat.pow_succ]
        omega
      · rw [Nat.min_eq_right (by omega)] at h ⊢
        exact h
    · show v < 1000
      omega
theorem numX_pos {f : Nat → Int32} {k p : Nat} : (numX (numF f k p 0 0) < 0) ↔ ¬ (1 ≤ (numF f k p 0 0).2.1 ∧ (numF f k p 0 0).2.1 ≤ 3) := by
  have := numF_v (f := f) k p 0 0 (by simp)
  unfold numX
  split
  · rename_i h
    exact ⟨fun z => absurd z (nI_pos (Nat.lt_of_lt_of_le this (by decide))), fun z => absurd h z⟩
  · rename_i h
    simp only [h, not_false_eq_true, iff_true]
    decide
theorem L_number {d n0 : Nat} {Po : PO} {J : HJ} {len : Nat} {I0 : HI} {f : Nat → Int32} (hf : I0 45 = f) (h400 : len ≤ 400) (hl : I0 44 0 = nI len) :
    ∀ (k p v g : Nat), p + k = len → g ≤ 400 → Po shA (some (.int (numX (numF f k p v g)))) (wr I0 44 2 (nI (numF f k p v g).2.2)) J RA →
      g + k ≤ 400 → Wm mX7_number (TM (d + 1) 0 0 false n0 Po) 0 0 shA 4 [some (.ref 44), some (.int (nI v)), some (.int (nI g))] [] (wr I0 44 2 (nI p)) J RA := by
  intro k
  induction k with
  | zero =>
    intro p v g hk hg hPo hgk
    obtain rfl : p = len := by omega
    refine q_aload_n dX7_number_4 (rfl : 4 + 1 = 5) rfl ?_
    refine q_getI dX7_number_5 (rfl : 5 + 3 = 8) fX7_85 (by first | rfl | assumption) ?_
    try simp (disch := omega) only [wr_hit, wr_p, wr_k, nI_add, pk_mul, nI_1, nI_s1, pk_sub, Nat.add_sub_cancel, hl]
    refine q_aload_n dX7_number_8 (rfl : 8 + 1 = 9) rfl ?_
    refine q_getI dX7_number_9 (rfl : 9 + 3 = 12) fX7_81 (by first | rfl | assumption) ?_
    try simp (disch := omega) only [wr_hit, wr_p, wr_k, nI_add, pk_mul, nI_1, nI_s1, pk_sub, Nat.add_sub_cancel, hl]
    refine q_icmp_ge_n (q := 80) (by omega) (by omega) dX7_number_12 (by decide) (rfl : 12 + 3 = 15) (fun h => ?_) (fun h => ?_)
    ·
      refine q_iload_n dX7_number_80 (rfl : 80 + 1 = 81) rfl ?_
      refine q_i2l dX7_number_81 (rfl : 81 + 1 = 82) ?_
      refine q_lconst (v := 1) dX7_number_82 (rfl : 82 + 1 = 83) (by decide) ?_
      refine q_ldc2 dX7_number_83 (rfl : 83 + 3 = 86) kX7_92 ?_
      refine q_callSIp (S_inI (x := nI g) (a := nI 1) (b := nI 3) rfl (by decide) (by decide)) dX7_number_86 (rfl : 86 + 3 = 89) lX7_77 vX7_in rfl rfl (Nat.le_of_ble_eq_true rfl) TM_room TM_cs ?_
      refine q_if_eq_b (q := 96) dX7_number_89 (by decide) (rfl : 89 + 3 = 92) (fun h2 => ?_) (fun h2 => ?_)
      ·
        refine q_iconst (v := -1) dX7_number_96 (rfl : 96 + 1 = 97) (by decide) ?_
        have e : numX (numF f 0 p v g) = -1 := by
          unfold numX numF
          rw [if_neg]
          intro z
          rw [inr_of z.1 z.2 (by decide)] at h2
          cases h2
        rw [e] at hPo
        exact q_iret rfl dX7_number_97 hPo
      ·
        refine q_iload_n dX7_number_92 (rfl : 92 + 1 = 93) rfl ?_
        refine q_goto (q := 97) dX7_number_93 (by decide) ?_
        have e : numX (numF f 0 p v g) = nI v := by
          unfold numX numF
          rw [if_pos]
          exact (inr_iff (j := g) (by omega) (by omega) (by omega)).mp h2
        rw [e] at hPo
        exact q_iret rfl dX7_number_97 hPo
    · omega
  | succ k ih =>
    intro p v g hk hg hPo hgk
    refine q_aload_n dX7_number_4 (rfl : 4 + 1 = 5) rfl ?_
    refine q_getI dX7_number_5 (rfl : 5 + 3 = 8) fX7_85 (by first | rfl | assumption) ?_
    try simp (disch := omega) only [wr_hit, wr_p, wr_k, nI_add, pk_mul, nI_1, nI_s1, pk_sub, Nat.add_sub_cancel, hl]
    refine q_aload_n dX7_number_8 (rfl : 8 + 1 = 9) rfl ?_
    refine q_getI dX7_number_9 (rfl : 9 + 3 = 12) fX7_81 (by first | rfl | assumption) ?_
    try simp (disch := omega) only [wr_hit, wr_p, wr_k, nI_add, pk_mul, nI_1, nI_s1, pk_sub, Nat.add_sub_cancel, hl]
    refine q_icmp_ge_n (q := 80) (by omega) (by omega) dX7_number_12 (by decide) (rfl : 12 + 3 = 15) (fun h => ?_) (fun h => ?_)
    · omega
    ·
      have hp4 : p < 400 := by omega
      have e45 : wr I0 44 2 (nI p) 45 p = f p := by rw [wr_ne (by omega), hf]
      refine q_aload_n dX7_number_15 (rfl : 15 + 1 = 16) rfl ?_
      refine q_getR dX7_number_16 (rfl : 16 + 3 = 19) fX7_7 (by first | rfl | assumption) (by first | rfl | assumption) ?_
      refine q_aload_n dX7_number_19 (rfl : 19 + 1 = 20) rfl ?_
      refine q_getI dX7_number_20 (rfl : 20 + 3 = 23) fX7_85 (by first | rfl | assumption) ?_
      try simp (disch := omega) only [wr_hit, wr_p, wr_k, nI_add, pk_mul, nI_1, nI_s1, pk_sub, Nat.add_sub_cancel, e45]
      refine q_bald dX7_number_23 (rfl : 23 + 1 = 24) (by first | rfl | assumption) (by first | assumption | omega) (by decide) ?_
      refine q_i2l dX7_number_24 (rfl : 24 + 1 = 25) ?_
      refine q_ldc2 dX7_number_25 (rfl : 25 + 3 = 28) kX7_88 ?_
      refine q_ldc2 dX7_number_28 (rfl : 28 + 3 = 31) kX7_90 ?_
      rw [e45]
      refine q_callSIp (S_inI (x := f p) (a := nI 48) (b := nI 57) rfl (by decide) (by decide)) dX7_number_31 (rfl : 31 + 3 = 34) lX7_77 vX7_in rfl rfl (Nat.le_of_ble_eq_true rfl) TM_room TM_cs ?_
      refine q_if_eq_b (q := 80) dX7_number_34 (by decide) (rfl : 34 + 3 = 37) (fun h2 => ?_) (fun h2 => ?_)
      ·
        have hd : ¬ (nI 48 ≤ f p ∧ f p ≤ nI 57) := by
          intro z
          have : inr (f p) (nI 48) (nI 57) = true := by simp [inr, z]
          rw [this] at h2
          cases h2
        have e0 : numF f (k + 1) p v g = (v, g, p) := by simp only [numF, if_neg hd]
        rw [e0] at hPo
        refine q_iload_n dX7_number_80 (rfl : 80 + 1 = 81) rfl ?_
        refine q_i2l dX7_number_81 (rfl : 81 + 1 = 82) ?_
        refine q_lconst (v := 1) dX7_number_82 (rfl : 82 + 1 = 83) (by decide) ?_
        refine q_ldc2 dX7_number_83 (rfl : 83 + 3 = 86) kX7_92 ?_
        refine q_callSIp (S_inI (x := nI g) (a := nI 1) (b := nI 3) rfl (by decide) (by decide)) dX7_number_86 (rfl : 86 + 3 = 89) lX7_77 vX7_in rfl rfl (Nat.le_of_ble_eq_true rfl) TM_room TM_cs ?_
        refine q_if_eq_b (q := 96) dX7_number_89 (by decide) (rfl : 89 + 3 = 92) (fun h3 => ?_) (fun h3 => ?_)
        ·
          refine q_iconst (v := -1) dX7_number_96 (rfl : 96 + 1 = 97) (by decide) ?_
          have e : numX (v, g, p) = -1 := by
            unfold numX
            rw [if_neg]
            intro z
            rw [inr_of z.1 z.2 (by decide)] at h3
            cases h3
          rw [e] at hPo
          exact q_iret rfl dX7_number_97 hPo
        ·
          refine q_iload_n dX7_number_92 (rfl : 92 + 1 = 93) rfl ?_
          refine q_goto (q := 97) dX7_number_93 (by decide) ?_
          have e : numX (v, g, p) = nI v := by
            unfold numX
            rw [if_pos]
            exact (inr_iff (j := g) (by omega) (by omega) (by omega)).mp h3
          rw [e] at hPo
          exact q_iret rfl dX7_number_97 hPo
      ·
        have hd : nI 48 ≤ f p ∧ f p ≤ nI 57 := by simpa [inr] using h2
        have hdv := dg_of hd
        have e0 : numF f (k + 1) p v g = numF f k (p + 1) (if g < 3 then 10 * v + dgV f p else v) (g + 1) := by simp only [numF, if_pos hd]
        rw [e0] at hPo
        have rest : ∀ c : Int32, c = nI (if g < 3 then 10 * v + dgV f p else v) → Wm mX7_number (TM (d + 1) 0 0 false n0 Po) 0 0 shA 63 [some (.ref 44), some (.int (nI v)), some (.int (nI g))] [.int c] (wr I0 44 2 (nI p)) J RA := by
          intro c hc
          subst hc
          refine q_istore_n dX7_number_63 (rfl : 63 + 1 = 64) (by decide) ?_
          first | refine q_iinc1 dX7_number_64 (rfl : 64 + 3 = 67) rfl (by decide) ?_ | refine q_iinc dX7_number_64 (rfl : 64 + 3 = 67) rfl rfl (by decide) ?_
          refine q_aload_n dX7_number_67 (rfl : 67 + 1 = 68) rfl ?_
          refine q_dup dX7_number_68 (rfl : 68 + 1 = 69) rfl ?_
          refine q_getI dX7_number_69 (rfl : 69 + 3 = 72) fX7_85 (by first | rfl | assumption) ?_
          try simp (disch := omega) only [wr_hit, wr_p, wr_k, nI_add, pk_mul, nI_1, nI_s1, pk_sub, Nat.add_sub_cancel, hl]
          refine q_iconst (v := nI 1) dX7_number_72 (rfl : 72 + 1 = 73) (by decide) ?_
          refine q_iadd dX7_number_73 (rfl : 73 + 1 = 74) ?_
          try simp (disch := omega) only [wr_hit, wr_p, wr_k, nI_add, pk_mul, nI_1, nI_s1, pk_sub, Nat.add_sub_cancel, hl]
          refine q_putI dX7_number_74 (rfl : 74 + 3 = 77) pX7_85 (by first | rfl | assumption) ?_
          refine q_goto (q := 4) dX7_number_77 (by decide) ?_
          rw [wr_wr]
          exact ih (p + 1) _ (g + 1) (by omega) (by omega) hPo (by omega)
        refine q_iload_n dX7_number_37 (rfl : 37 + 1 = 38) rfl ?_
        refine q_iconst (v := nI 3) dX7_number_38 (rfl : 38 + 1 = 39) (by decide) ?_
        refine q_icmp_ge_n (q := 62) (by omega) (by omega) dX7_number_39 (by decide) (rfl : 39 + 3 = 42) (fun h3 => ?_) (fun h3 => ?_)
        ·
          refine q_iload_n dX7_number_62 (rfl : 62 + 1 = 63) rfl ?_
          have e3 : nI v = nI (if g < 3 then 10 * v + dgV f p else v) := by rw [if_neg (show ¬ g < 3 by omega)]
          exact rest (nI v) e3
        ·
          refine q_bipush (v := nI 10) dX7_number_42 (rfl : 42 + 2 = 44) (by decide) ?_
          refine q_iload_n dX7_number_44 (rfl : 44 + 1 = 45) rfl ?_
          refine q_imul dX7_number_45 (rfl : 45 + 1 = 46) ?_
          try simp (disch := omega) only [wr_hit, wr_p, wr_k, nI_add, pk_mul, nI_1, nI_s1, pk_sub, Nat.add_sub_cancel, e45]
          refine q_aload_n dX7_number_46 (rfl : 46 + 1 = 47) rfl ?_
          refine q_getR dX7_number_47 (rfl : 47 + 3 = 50) fX7_7 (by first | rfl | assumption) (by first | rfl | assumption) ?_
          refine q_aload_n dX7_number_50 (rfl : 50 + 1 = 51) rfl ?_
          refine q_getI dX7_number_51 (rfl : 51 + 3 = 54) fX7_85 (by first | rfl | assumption) ?_
          try simp (disch := omega) only [wr_hit, wr_p, wr_k, nI_add, pk_mul, nI_1, nI_s1, pk_sub, Nat.add_sub_cancel, e45]
          refine q_bald dX7_number_54 (rfl : 54 + 1 = 55) (by first | rfl | assumption) (by first | assumption | omega) (by decide) ?_
          refine q_iadd dX7_number_55 (rfl : 55 + 1 = 56) ?_
          try simp (disch := omega) only [wr_hit, wr_p, wr_k, nI_add, pk_mul, nI_1, nI_s1, pk_sub, Nat.add_sub_cancel, e45]
          rw [hf]
          refine q_bipush (v := nI 48) dX7_number_56 (rfl : 56 + 2 = 58) (by decide) ?_
          refine q_isub dX7_number_58 (rfl : 58 + 1 = 59) ?_
          refine q_goto (q := 63) dX7_number_59 (by decide) ?_
          have e3 : nI (10 * v) + f p - nI 48 = nI (if g < 3 then 10 * v + dgV f p else v) := by
            rw [if_pos h3, hdv.1]
            simp only [nI_add, pk_mul]
            rw [pk_sub (by omega)]
            congr 1
            omega
          exact rest _ e3
theorem S_number {d p len : Nat} {I : HI} {J : HJ} (hl : I 44 0 = nI len) (h400 : len ≤ 400) (hp : I 44 2 = nI p) (hle : p ≤ len) : MI mX7_number (d + 1) [.ref 44] shA I J RA (fun x I' J' => x = numX (numF (I 45) (len - p) p 0 0) ∧ I' = wr I 44 2 (nI (numF (I 45) (len - p) p 0 0).2.2) ∧ J' = J) := by
  refine Mt.of (L := [some (.ref 44), none, none]) (by decide +kernel) (Nat.le_of_ble_eq_true rfl) rfl ?_
  refine q_iconst (v := nI 0) dX7_number_0 (rfl : 0 + 1 = 1) (by decide) ?_
  refine q_istore_n dX7_number_1 (rfl : 1 + 1 = 2) (by decide) ?_
  refine q_iconst (v := nI 0) dX7_number_2 (rfl : 2 + 1 = 3) (by decide) ?_
  refine q_istore_n dX7_number_3 (rfl : 3 + 1 = 4) (by decide) ?_
  have e := L_number (J := J) (I0 := I) (d := d) (n0 := shA.length) (Po := fun sh' w I' J' R' => sh' = shA ∧ R' = RA ∧ ∃ x : Int32, w = some (.int x) ∧ (x = numX (numF (I 45) (len - p) p 0 0) ∧ I' = wr I 44 2 (nI (numF (I 45) (len - p) p 0 0).2.2) ∧ J' = J)) rfl h400 hl (len - p) p 0 0 (by omega) (by omega) ⟨rfl, rfl, _, rfl, rfl, rfl, rfl⟩ (by omega)
  rw [← hp, wr_self] at e
  exact e
def partsF (l : Int32) : Nat := if l = nI 102 then 4 else if l = nI 98 ∨ l = nI 112 then 2 else if l = nI 116 ∨ l = nI 115 ∨ l = nI 118 then 1 else 0
theorem S_parts {d : Nat} {sh : List Kd} {I : HI} {J : HJ} {R : HR} {l : Int32} : MIp mX7_parts d [.int l] sh I J R (nI (partsF l)) := by
  have rest : ∀ n : Nat, n = partsF l → Wm mX7_parts (TM d 0 0 false sh.length (fun sh' w I' J' R' => sh' = sh ∧ R' = R ∧ ∃ x : Int32, w = some (.int x) ∧ (x = nI (partsF l) ∧ I' = I ∧ J' = J))) 0 0 sh 49 [some (.int l)] [.int (nI n)] I J R := by
    intro n hn
    subst hn
    exact q_iret rfl dX7_parts_49 ⟨rfl, rfl, _, rfl, rfl, rfl, rfl⟩
  refine Mt.of (L := [some (.int l)]) (by decide +kernel) (Nat.le_of_ble_eq_true rfl) rfl ?_
  refine q_iload_n dX7_parts_0 (rfl : 0 + 1 = 1) rfl ?_
  refine q_bipush (v := nI 102) dX7_parts_1 (rfl : 1 + 2 = 3) (by decide) ?_
  refine q_icmp_ne (q := 10) dX7_parts_3 (by decide) (rfl : 3 + 3 = 6) (fun h1 => ?_) (fun h1 => ?_)
  ·
    have two : (l = nI 98 ∨ l = nI 112) → Wm mX7_parts (TM d 0 0 false sh.length (fun sh' w I' J' R' => sh' = sh ∧ R' = R ∧ ∃ x : Int32, w = some (.int x) ∧ (x = nI (partsF l) ∧ I' = I ∧ J' = J))) 0 0 sh 22 [some (.int l)] [] I J R := by
      intro h
      refine q_iconst (v := nI 2) dX7_parts_22 (rfl : 22 + 1 = 23) (by decide) ?_
      refine q_goto (q := 49) dX7_parts_23 (by decide) ?_
      exact rest 2 (by unfold partsF; rw [if_neg h1, if_pos h])
    have one : ¬ (l = nI 98 ∨ l = nI 112) → (l = nI 116 ∨ l = nI 115 ∨ l = nI 118) → Wm mX7_parts (TM d 0 0 false sh.length (fun sh' w I' J' R' => sh' = sh ∧ R' = R ∧ ∃ x : Int32, w = some (.int x) ∧ (x = nI (partsF l) ∧ I' = I ∧ J' = J))) 0 0 sh 44 [some (.int l)] [] I J R := by
      intro h h'
      refine q_iconst (v := nI 1) dX7_parts_44 (rfl : 44 + 1 = 45) (by decide) ?_
      refine q_goto (q := 49) dX7_parts_45 (by decide) ?_
      exact rest 1 (by unfold partsF; rw [if_neg h1, if_neg h, if_pos h'])
    refine q_iload_n dX7_parts_10 (rfl : 10 + 1 = 11) rfl ?_
    refine q_bipush (v := nI 98) dX7_parts_11 (rfl : 11 + 2 = 13) (by decide) ?_
    refine q_icmp_eq (q := 22) dX7_parts_13 (by decide) (rfl : 13 + 3 = 16) (fun h2 => ?_) (fun h2 => ?_)
    ·
      exact two (Or.inl h2)
    ·
      refine q_iload_n dX7_parts_16 (rfl : 16 + 1 = 17) rfl ?_
      refine q_bipush (v := nI 112) dX7_parts_17 (rfl : 17 + 2 = 19) (by decide) ?_
      refine q_icmp_ne (q := 26) dX7_parts_19 (by decide) (rfl : 19 + 3 = 22) (fun h3 => ?_) (fun h3 => ?_)
      ·
        refine q_iload_n dX7_parts_26 (rfl : 26 + 1 = 27) rfl ?_
        refine q_bipush (v := nI 116) dX7_parts_27 (rfl : 27 + 2 = 29) (by decide) ?_
        refine q_icmp_eq (q := 44) dX7_parts_29 (by decide) (rfl : 29 + 3 = 32) (fun h4 => ?_) (fun h4 => ?_)
        ·
          exact one (fun z => z.elim h2 h3) (Or.inl h4)
        ·
          refine q_iload_n dX7_parts_32 (rfl : 32 + 1 = 33) rfl ?_
          refine q_bipush (v := nI 115) dX7_parts_33 (rfl : 33 + 2 = 35) (by decide) ?_
          refine q_icmp_eq (q := 44) dX7_parts_35 (by decide) (rfl : 35 + 3 = 38) (fun h5 => ?_) (fun h5 => ?_)
          ·
            exact one (fun z => z.elim h2 h3) (Or.inr (Or.inl h5))
          ·
            refine q_iload_n dX7_parts_38 (rfl : 38 + 1 = 39) rfl ?_
            refine q_bipush (v := nI 118) dX7_parts_39 (rfl : 39 + 2 = 41) (by decide) ?_
            refine q_icmp_ne (q := 48) dX7_parts_41 (by decide) (rfl : 41 + 3 = 44) (fun h6 => ?_) (fun h6 => ?_)
            ·
              refine q_iconst (v := nI 0) dX7_parts_48 (rfl : 48 + 1 = 49) (by decide) ?_
              exact rest 0 (by unfold partsF; rw [if_neg h1, if_neg (fun z => z.elim h2 h3), if_neg (fun z => z.elim h4 (fun z => z.elim h5 h6))])
            ·
              exact one (fun z => z.elim h2 h3) (Or.inr (Or.inr h6))
      ·
        exact two (Or.inr h3)
  ·
    refine q_iconst (v := nI 4) dX7_parts_6 (rfl : 6 + 1 = 7) (by decide) ?_
    refine q_goto (q := 49) dX7_parts_7 (by decide) ?_
    exact rest 4 (by unfold partsF; rw [if_pos h1])
