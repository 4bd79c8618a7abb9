/-! the reference: weights, odds, likeliest, marks -/
theorem lgc_eq {x y : Int64} : lg_cmp x y = 0 ↔ x = y := by
  constructor
  · intro h
    have h1 : ¬ x < y := fun z => by
      have := lgc_lt.mpr z
      rw [h] at this
      exact absurd this (by decide)
    have h2 : ¬ y < x := fun z => by
      have := lgc_gt.mpr z
      rw [h] at this
      exact absurd this (by decide)
    exact Int64.le_antisymm (Int64.not_lt.mp h2) (Int64.not_lt.mp h1)
  · intro h
    subst h
    have h1 : ¬ lg_cmp x x < 0 := fun z => absurd (lgc_lt.mp z) Int64.lt_irrefl
    have h2 : ¬ 0 < lg_cmp x x := fun z => absurd (lgc_gt.mp z) Int64.lt_irrefl
    exact Int32.le_antisymm (Int32.not_lt.mp h2) (Int32.not_lt.mp h1)
def mwL (I : HI) (du he : Int32) (i : Nat) : Int64 := (I 51 i).toInt64 * (if du = I 48 (4 * i + 3) then nI 10 - I 46 3 else I 46 3).toInt64 * (if he = I 48 (4 * i + 2) then nI 9 else nI 1).toInt64
theorem S_weight {d n i : Nat} {I : HI} {J : HJ} {du he : Int32} (h12 : n ≤ 12) (hi : i < n) : MGp mX7_weight (d + 1) [.ref 44, .int (nI i), .int du, .int he] shA I J RA (mwL I du he i) := by
  have hi36 : i < 36 := by omega
  have last : ∀ (u v : Int32), u = (if du = I 48 (4 * i + 3) then nI 10 - I 46 3 else I 46 3) → v = (if he = I 48 (4 * i + 2) then nI 9 else nI 1) → Wm mX7_weight (TM (d + 1) 0 0 false shA.length (fun sh' w I' J' R' => sh' = shA ∧ R' = RA ∧ ∃ x : Int64, w = some (.long x) ∧ (x = mwL I du he i ∧ I' = I ∧ J' = J))) 0 0 shA 53 [some (.ref 44), some (.int (nI i)), some (.int du), some (.int he)] [.int v, .long ((I 51 i).toInt64 * u.toInt64)] I J RA := by
    intro u v hu hv
    refine q_i2l dX7_weight_53 (rfl : 53 + 1 = 54) ?_
    refine q_lmul dX7_weight_54 (rfl : 54 + 1 = 55) ?_
    refine q_lret rfl dX7_weight_55 ⟨rfl, rfl, _, rfl, ?_, rfl, rfl⟩
    rw [hu, hv]
    rfl
  have mid : ∀ (u : Int32), u = (if du = I 48 (4 * i + 3) then nI 10 - I 46 3 else I 46 3) → Wm mX7_weight (TM (d + 1) 0 0 false shA.length (fun sh' w I' J' R' => sh' = shA ∧ R' = RA ∧ ∃ x : Int64, w = some (.long x) ∧ (x = mwL I du he i ∧ I' = I ∧ J' = J))) 0 0 shA 35 [some (.ref 44), some (.int (nI i)), some (.int du), some (.int he)] [.int u, .long (I 51 i).toInt64] I J RA := by
    intro u hu
    refine q_i2l dX7_weight_35 (rfl : 35 + 1 = 36) ?_
    refine q_lmul dX7_weight_36 (rfl : 36 + 1 = 37) ?_
    refine q_iload_n dX7_weight_37 (rfl : 37 + 1 = 38) rfl ?_
    refine q_aload_n dX7_weight_38 (rfl : 38 + 1 = 39) rfl ?_
    refine q_iload_n dX7_weight_39 (rfl : 39 + 1 = 40) rfl ?_
    refine q_iconst (v := nI 2) dX7_weight_40 (rfl : 40 + 1 = 41) (by decide) ?_
    refine q_callVIp (S_of (d := d) (i := i) (w := 2) (by omega)) dX7_weight_41 (rfl : 41 + 3 = 44) lX7_123 vX7_of (by first | rfl | assumption) rfl rfl (Nat.le_of_ble_eq_true rfl) TM_room TM_cs ?_
    refine q_icmp_ne (q := 52) dX7_weight_44 (by decide) (rfl : 44 + 3 = 47) (fun q => ?_) (fun q => ?_)
    ·
      refine q_iconst (v := nI 1) dX7_weight_52 (rfl : 52 + 1 = 53) (by decide) ?_
      exact last u _ hu (by rw [if_neg q])
    ·
      refine q_bipush (v := nI 9) dX7_weight_47 (rfl : 47 + 2 = 49) (by decide) ?_
      refine q_goto (q := 53) dX7_weight_49 (by decide) ?_
      exact last u _ hu (by rw [if_pos q])
  refine Mt.of (L := [some (.ref 44), some (.int (nI i)), some (.int du), some (.int he)]) (by decide +kernel) (Nat.le_of_ble_eq_true rfl) rfl ?_
  refine q_aload_n dX7_weight_0 (rfl : 0 + 1 = 1) rfl ?_
  refine q_getR dX7_weight_1 (rfl : 1 + 3 = 4) fX7_29 (by first | rfl | assumption) (by first | rfl | assumption) ?_
  refine q_iload_n dX7_weight_4 (rfl : 4 + 1 = 5) rfl ?_
  refine q_iald dX7_weight_5 (rfl : 5 + 1 = 6) (by first | rfl | assumption) (by first | assumption | omega) (by decide) ?_
  refine q_i2l dX7_weight_6 (rfl : 6 + 1 = 7) ?_
  refine q_iload_n dX7_weight_7 (rfl : 7 + 1 = 8) rfl ?_
  refine q_aload_n dX7_weight_8 (rfl : 8 + 1 = 9) rfl ?_
  refine q_iload_n dX7_weight_9 (rfl : 9 + 1 = 10) rfl ?_
  refine q_iconst (v := nI 3) dX7_weight_10 (rfl : 10 + 1 = 11) (by decide) ?_
  refine q_callVIp (S_of (d := d) (i := i) (w := 3) (by omega)) dX7_weight_11 (rfl : 11 + 3 = 14) lX7_123 vX7_of (by first | rfl | assumption) rfl rfl (Nat.le_of_ble_eq_true rfl) TM_room TM_cs ?_
  refine q_icmp_ne (q := 29) dX7_weight_14 (by decide) (rfl : 14 + 3 = 17) (fun q => ?_) (fun q => ?_)
  ·
    refine q_aload_n dX7_weight_29 (rfl : 29 + 1 = 30) rfl ?_
    refine q_getR dX7_weight_30 (rfl : 30 + 3 = 33) fX7_13 (by first | rfl | assumption) (by first | rfl | assumption) ?_
    refine q_iconst (v := nI 3) dX7_weight_33 (rfl : 33 + 1 = 34) (by decide) ?_
    refine q_iald (j := 3) dX7_weight_34 (rfl : 34 + 1 = 35) (by first | rfl | assumption) (by decide) (by decide) ?_
    exact mid _ (by rw [if_neg q])
  ·
    refine q_bipush (v := nI 10) dX7_weight_17 (rfl : 17 + 2 = 19) (by decide) ?_
    refine q_aload_n dX7_weight_19 (rfl : 19 + 1 = 20) rfl ?_
    refine q_getR dX7_weight_20 (rfl : 20 + 3 = 23) fX7_13 (by first | rfl | assumption) (by first | rfl | assumption) ?_
    refine q_iconst (v := nI 3) dX7_weight_23 (rfl : 23 + 1 = 24) (by decide) ?_
    refine q_iald (j := 3) dX7_weight_24 (rfl : 24 + 1 = 25) (by first | rfl | assumption) (by decide) (by decide) ?_
    refine q_isub dX7_weight_25 (rfl : 25 + 1 = 26) ?_
    refine q_goto (q := 35) dX7_weight_26 (by decide) ?_
    exact mid _ (by rw [if_pos q])
def mwsJ (I : HI) (du he ye : Int32) (n : Nat) : Int64 := sJ (fun i => if ye < 0 ∨ I 48 (4 * i) = ye then mwL I du he i else 0) n
theorem S_weights {d n : Nat} {I : HI} {J : HJ} {du he ye : Int32} (hn : I 50 0 = nI n) (h12 : n ≤ 12) : MGp mX7_weights (d + 2) [.ref 44, .int du, .int he, .int ye] shA I J RA (mwsJ I du he ye n) := by
  have loop : ∀ (i : Nat), i ≤ n → Wm mX7_weights (TM (d + 2) 0 0 false shA.length (fun sh' w I' J' R' => sh' = shA ∧ R' = RA ∧ ∃ x : Int64, w = some (.long x) ∧ (x = mwsJ I du he ye n ∧ I' = I ∧ J' = J))) 0 0 shA 6 [some (.ref 44), some (.int du), some (.int he), some (.int ye), some (.long (sJ (fun i => if ye < 0 ∨ I 48 (4 * i) = ye then mwL I du he i else 0) i)), none, some (.int (nI i))] [] I J RA := by
    refine loopN (fun i hi ih => ?_)
    refine q_iload dX7_weights_6 (rfl : 6 + 2 = 8) rfl ?_
    refine q_aload_n dX7_weights_8 (rfl : 8 + 1 = 9) rfl ?_
    refine q_getR dX7_weights_9 (rfl : 9 + 3 = 12) fX7_26 (by first | rfl | assumption) (by first | rfl | assumption) ?_
    refine q_iconst (v := nI 0) dX7_weights_12 (rfl : 12 + 1 = 13) (by decide) ?_
    refine q_iald (j := 0) dX7_weights_13 (rfl : 13 + 1 = 14) (by first | rfl | assumption) (by decide) (by decide) ?_
    try simp (disch := omega) only [wr_hit, wr_p, wr_k, nI_add, pk_mul, nI_1, nI_s1, pk_sub, Nat.add_sub_cancel, hn]
    refine q_icmp_ge_n (q := 55) (by omega) (by omega) dX7_weights_14 (by decide) (rfl : 14 + 3 = 17) (fun h => ?_) (fun h => ?_)
    ·
      obtain rfl : i = n := by omega
      refine q_lload dX7_weights_55 (rfl : 55 + 2 = 57) rfl ?_
      refine q_lret rfl dX7_weights_57 ⟨rfl, rfl, _, rfl, ?_⟩
      exact ⟨rfl, rfl, rfl⟩
    ·
      have rest : ∀ v : Int64, v = (if ye < 0 ∨ I 48 (4 * i) = ye then mwL I du he i else 0) → Wm mX7_weights (TM (d + 2) 0 0 false shA.length (fun sh' w I' J' R' => sh' = shA ∧ R' = RA ∧ ∃ x : Int64, w = some (.long x) ∧ (x = mwsJ I du he ye n ∧ I' = I ∧ J' = J))) 0 0 shA 46 [some (.ref 44), some (.int du), some (.int he), some (.int ye), some (.long (sJ (fun i => if ye < 0 ∨ I 48 (4 * i) = ye then mwL I du he i else 0) i)), none, some (.int (nI i))] [.long v, .long (sJ (fun i => if ye < 0 ∨ I 48 (4 * i) = ye then mwL I du he i else 0) i)] I J RA := by
        intro v hv
        subst hv
        refine q_ladd dX7_weights_46 (rfl : 46 + 1 = 47) ?_
        refine q_lstore dX7_weights_47 (rfl : 47 + 2 = 49) (by decide) ?_
        first | refine q_iinc1 dX7_weights_49 (rfl : 49 + 3 = 52) rfl (by decide) ?_ | refine q_iinc dX7_weights_49 (rfl : 49 + 3 = 52) rfl rfl (by decide) ?_
        refine q_goto (q := 6) dX7_weights_52 (by decide) ?_
        exact ih h
      have yes : (ye < 0 ∨ I 48 (4 * i) = ye) → Wm mX7_weights (TM (d + 2) 0 0 false shA.length (fun sh' w I' J' R' => sh' = shA ∧ R' = RA ∧ ∃ x : Int64, w = some (.long x) ∧ (x = mwsJ I du he ye n ∧ I' = I ∧ J' = J))) 0 0 shA 34 [some (.ref 44), some (.int du), some (.int he), some (.int ye), some (.long (sJ (fun i => if ye < 0 ∨ I 48 (4 * i) = ye then mwL I du he i else 0) i)), none, some (.int (nI i))] [.long (sJ (fun i => if ye < 0 ∨ I 48 (4 * i) = ye then mwL I du he i else 0) i)] I J RA := by
        intro hy
        refine q_aload_n dX7_weights_34 (rfl : 34 + 1 = 35) rfl ?_
        refine q_iload dX7_weights_35 (rfl : 35 + 2 = 37) rfl ?_
        refine q_iload_n dX7_weights_37 (rfl : 37 + 1 = 38) rfl ?_
        refine q_iload_n dX7_weights_38 (rfl : 38 + 1 = 39) rfl ?_
        refine q_callVGp (S_weight (d := d) h12 h) dX7_weights_39 (rfl : 39 + 3 = 42) lX7_168 vX7_weight (by first | rfl | assumption) rfl rfl (Nat.le_of_ble_eq_true rfl) TM_room TM_cs ?_
        refine q_goto (q := 46) dX7_weights_42 (by decide) ?_
        exact rest _ (by rw [if_pos hy])
      refine q_lload dX7_weights_17 (rfl : 17 + 2 = 19) rfl ?_
      refine q_iload_n dX7_weights_19 (rfl : 19 + 1 = 20) rfl ?_
      refine q_if_lt (q := 34) dX7_weights_20 (by decide) (rfl : 20 + 3 = 23) (fun q1 => ?_) (fun q1 => ?_)
      ·
        exact yes (Or.inl q1)
      ·
        refine q_aload_n dX7_weights_23 (rfl : 23 + 1 = 24) rfl ?_
        refine q_iload dX7_weights_24 (rfl : 24 + 2 = 26) rfl ?_
        refine q_iconst (v := nI 0) dX7_weights_26 (rfl : 26 + 1 = 27) (by decide) ?_
        refine q_callVIp (S_of (d := d + 1) (i := i) (w := 0) (by omega)) dX7_weights_27 (rfl : 27 + 3 = 30) lX7_123 vX7_of (by first | rfl | assumption) rfl rfl (Nat.le_of_ble_eq_true rfl) TM_room TM_cs ?_
        rw [show 4 * i + 0 = 4 * i from rfl]
        refine q_iload_n dX7_weights_30 (rfl : 30 + 1 = 31) rfl ?_
        refine q_icmp_ne (q := 45) dX7_weights_31 (by decide) (rfl : 31 + 3 = 34) (fun q2 => ?_) (fun q2 => ?_)
        ·
          refine q_lconst (v := 0) dX7_weights_45 (rfl : 45 + 1 = 46) (by decide) ?_
          exact rest _ (by rw [if_neg (fun z => z.elim q1 q2)])
        ·
          exact yes (Or.inr q2)
  refine Mt.of (L := [some (.ref 44), some (.int du), some (.int he), some (.int ye), none, none, none]) (by decide +kernel) (Nat.le_of_ble_eq_true rfl) rfl ?_
  refine q_lconst (v := 0) dX7_weights_0 (rfl : 0 + 1 = 1) (by decide) ?_
  refine q_lstore dX7_weights_1 (rfl : 1 + 2 = 3) (by decide) ?_
  refine q_iconst (v := nI 0) dX7_weights_3 (rfl : 3 + 1 = 4) (by decide) ?_
  refine q_istore dX7_weights_4 (rfl : 4 + 2 = 6) (by decide) ?_
  exact loop 0 (by omega)
theorem L_lowest {T : Tg} {I : HI} {J : HJ} {a b : Nat} (ha : a < 2 ^ 63) (hb : b < 2 ^ 63)
    (K : Wm mX7_lowest T 0 0 shA 31 [some (.ref 44), some (.long (lN a)), none, some (.long (lN b)), none, some (.long (lN (Nat.gcd a b))), none, none, none, none, none] [] I J RA) :
    ∀ (k y x : Nat), y ≤ k → x < 2 ^ 63 → y < 2 ^ 63 → Nat.gcd x y = Nat.gcd a b → Wm mX7_lowest T 0 0 shA 6 [some (.ref 44), some (.long (lN a)), none, some (.long (lN b)), none, some (.long (lN x)), none, some (.long (lN y)), none, none, none] [] I J RA := by
  intro k
  induction k with
  | zero =>
    intro y x hk hx hy hg
    obtain rfl : y = 0 := by omega
    refine q_lload dX7_lowest_6 (rfl : 6 + 2 = 8) rfl ?_
    refine q_lconst (v := 0) dX7_lowest_8 (rfl : 8 + 1 = 9) (by decide) ?_
    refine q_lcmp dX7_lowest_9 (rfl : 9 + 1 = 10) ?_
    refine q_if_eq (q := 31) dX7_lowest_10 (by decide) (rfl : 10 + 3 = 13) (fun h => ?_) (fun h => ?_)
    ·
      rw [Nat.gcd_zero_right] at hg
      rw [hg]
      refine q_forget (L' := [some (.ref 44), some (.long (lN a)), none, some (.long (lN b)), none, some (.long (lN (Nat.gcd a b))), none, none, none, none, none]) (by repeat (first | exact trivial | refine And.intro rfl ?_)) ?_
      exact K
    ·
      exact absurd (lgc_eq.mpr rfl) h
  | succ k ih =>
    intro y x hk hx hy hg
    refine q_lload dX7_lowest_6 (rfl : 6 + 2 = 8) rfl ?_
    refine q_lconst (v := 0) dX7_lowest_8 (rfl : 8 + 1 = 9) (by decide) ?_
    refine q_lcmp dX7_lowest_9 (rfl : 9 + 1 = 10) ?_
    refine q_if_eq (q := 31) dX7_lowest_10 (by decide) (rfl : 10 + 3 = 13) (fun h => ?_) (fun h => ?_)
    ·
      have h0 : lN y = lN 0 := lgc_eq.mp h
      obtain rfl : y = 0 := (pk_lEQ hy (by omega)).mp h0
      rw [Nat.gcd_zero_right] at hg
      rw [hg]
      refine q_forget (L' := [some (.ref 44), some (.long (lN a)), none, some (.long (lN b)), none, some (.long (lN (Nat.gcd a b))), none, none, none, none, none]) (by repeat (first | exact trivial | refine And.intro rfl ?_)) ?_
      exact K
    ·
      have h0 : 0 < y := by
        rcases Nat.eq_zero_or_pos y with z | z
        · subst z
          exact absurd (lgc_eq.mpr rfl) h
        · exact z
      have hne : ¬ lN y = 0 := fun z => by
        have := (pk_lEQ (a := y) (b := 0) hy (by omega)).mp z
        omega
      refine q_lload dX7_lowest_13 (rfl : 13 + 2 = 15) rfl ?_
      refine q_lload dX7_lowest_15 (rfl : 15 + 2 = 17) rfl ?_
      refine q_lrem dX7_lowest_17 (rfl : 17 + 1 = 18) (by first | assumption | decide) ?_
      refine q_lstore dX7_lowest_18 (rfl : 18 + 2 = 20) (by decide) ?_
      refine q_lload dX7_lowest_20 (rfl : 20 + 2 = 22) rfl ?_
      refine q_lstore dX7_lowest_22 (rfl : 22 + 2 = 24) (by decide) ?_
      refine q_lload dX7_lowest_24 (rfl : 24 + 2 = 26) rfl ?_
      refine q_lstore dX7_lowest_26 (rfl : 26 + 2 = 28) (by decide) ?_
      refine q_goto (q := 6) dX7_lowest_28 (by decide) ?_
      rw [pk_lRem hx h0 hy]
      have hm : x % y < y := Nat.mod_lt x h0
      refine q_forget (L' := [some (.ref 44), some (.long (lN a)), none, some (.long (lN b)), none, some (.long (lN y)), none, some (.long (lN (x % y))), none, none, none]) (by repeat (first | exact trivial | refine And.intro rfl ?_)) ?_
      refine ih (x % y) y (by omega) hy (by omega) ?_
      rw [← hg, Nat.gcd_comm x y, Nat.gcd_rec y x, Nat.gcd_comm]
theorem S_lowest {d a b : Nat} {I : HI} {J : HJ} (ha : a < 2 ^ 63) (hb : b < 2 ^ 63) (hb0 : 0 < b) : MV mX7_lowest d [.ref 44, .long (lN a), .long (lN b)] shA I J RA (fun I' J' => I' = I ∧ J' = wr (wr J 44 22 (lN (a / Nat.gcd a b))) 44 23 (lN (b / Nat.gcd a b))) := by
  have hg0 : 0 < Nat.gcd a b := Nat.gcd_pos_of_pos_right a hb0
  have hgb : Nat.gcd a b ≤ b := Nat.gcd_le_right a hb0
  have hg63 : Nat.gcd a b < 2 ^ 63 := by omega
  have hne : ¬ lN (Nat.gcd a b) = 0 := fun z => by
    have := (pk_lEQ (a := Nat.gcd a b) (b := 0) hg63 (by omega)).mp z
    omega
  refine Mt.of (L := [some (.ref 44), some (.long (lN a)), none, some (.long (lN b)), none, none, none, none, none, none, none]) (by decide +kernel) (Nat.le_of_ble_eq_true rfl) rfl ?_
  refine q_lload_n dX7_lowest_0 (rfl : 0 + 1 = 1) rfl ?_
  refine q_lstore dX7_lowest_1 (rfl : 1 + 2 = 3) (by decide) ?_
  refine q_lload_n dX7_lowest_3 (rfl : 3 + 1 = 4) rfl ?_
  refine q_lstore dX7_lowest_4 (rfl : 4 + 2 = 6) (by decide) ?_
  refine L_lowest ha hb ?_ b b a (Nat.le_refl _) ha hb rfl
  refine q_aload_n dX7_lowest_31 (rfl : 31 + 1 = 32) rfl ?_
  refine q_lload_n dX7_lowest_32 (rfl : 32 + 1 = 33) rfl ?_
  refine q_lload dX7_lowest_33 (rfl : 33 + 2 = 35) rfl ?_
  refine q_ldiv dX7_lowest_35 (rfl : 35 + 1 = 36) (by first | assumption | decide) ?_
  refine q_putJ dX7_lowest_36 (rfl : 36 + 3 = 39) pX7_172 (by first | rfl | assumption) ?_
  refine q_aload_n dX7_lowest_39 (rfl : 39 + 1 = 40) rfl ?_
  refine q_lload_n dX7_lowest_40 (rfl : 40 + 1 = 41) rfl ?_
  refine q_lload dX7_lowest_41 (rfl : 41 + 2 = 43) rfl ?_
  refine q_ldiv dX7_lowest_43 (rfl : 43 + 1 = 44) (by first | assumption | decide) ?_
  refine q_putJ dX7_lowest_44 (rfl : 44 + 3 = 47) pX7_176 (by first | rfl | assumption) ?_
  rw [pk_lDiv ha hg0 hg63, pk_lDiv hb hg0 hg63]
  refine q_vret rfl dX7_lowest_47 ⟨rfl, rfl, rfl, ?_⟩
  exact ⟨rfl, rfl⟩
theorem S_modds_bad {d : Nat} {I : HI} {J : HJ} {du he y p : Int32} (h : odOk du he y p = false) : MIp mX7_odds (d + 2) [.ref 44, .int du, .int he, .int y, .int p] shA I J RA (-1) := by
  refine Mt.of (L := [some (.ref 44), some (.int du), some (.int he), some (.int y), some (.int p), none, none]) (by decide +kernel) (Nat.le_of_ble_eq_true rfl) rfl ?_
  refine q_iload_n dX7_odds_0 (rfl : 0 + 1 = 1) rfl ?_
  refine q_iload_n dX7_odds_1 (rfl : 1 + 1 = 2) rfl ?_
  refine q_callSIp (S_misPiece (d := d)) dX7_odds_2 (rfl : 2 + 3 = 5) lX7_179 vX7_isPiece rfl rfl (Nat.le_of_ble_eq_true rfl) TM_room TM_cs ?_
  refine q_if_eq_b (q := 26) dX7_odds_5 (by decide) (rfl : 5 + 3 = 8) (fun h1 => ?_) (fun h1 => ?_)
  ·
    refine q_iconst (v := -1) dX7_odds_26 (rfl : 26 + 1 = 27) (by decide) ?_
    refine q_iret rfl dX7_odds_27 ⟨rfl, rfl, _, rfl, ?_⟩
    exact ⟨rfl, rfl, rfl⟩
  ·
    refine q_iload_n dX7_odds_8 (rfl : 8 + 1 = 9) rfl ?_
    refine q_callSIp (S_misYear (d := d)) dX7_odds_9 (rfl : 9 + 3 = 12) lX7_182 vX7_isYear rfl rfl (Nat.le_of_ble_eq_true rfl) TM_room TM_cs ?_
    refine q_if_eq_b (q := 26) dX7_odds_12 (by decide) (rfl : 12 + 3 = 15) (fun h2 => ?_) (fun h2 => ?_)
    ·
      refine q_iconst (v := -1) dX7_odds_26 (rfl : 26 + 1 = 27) (by decide) ?_
      refine q_iret rfl dX7_odds_27 ⟨rfl, rfl, _, rfl, ?_⟩
      exact ⟨rfl, rfl, rfl⟩
    ·
      refine q_iload dX7_odds_15 (rfl : 15 + 2 = 17) rfl ?_
      refine q_i2l dX7_odds_17 (rfl : 17 + 1 = 18) ?_
      refine q_lconst (v := 0) dX7_odds_18 (rfl : 18 + 1 = 19) (by decide) ?_
      refine q_lconst (v := 1) dX7_odds_19 (rfl : 19 + 1 = 20) (by decide) ?_
      refine q_callSIp (S_inI (x := p) (a := nI 0) (b := nI 1) rfl (by decide) (by decide)) dX7_odds_20 (rfl : 20 + 3 = 23) lX7_77 vX7_in rfl rfl (Nat.le_of_ble_eq_true rfl) TM_room TM_cs ?_
      refine q_if_ne_b (q := 28) dX7_odds_23 (by decide) (rfl : 23 + 3 = 26) (fun h3 => ?_) (fun h3 => ?_)
      · unfold odOk at h
        rw [h1, h2, h3] at h
        cases h
      ·
        refine q_iconst (v := -1) dX7_odds_26 (rfl : 26 + 1 = 27) (by decide) ?_
        refine q_iret rfl dX7_odds_27 ⟨rfl, rfl, _, rfl, ?_⟩
        exact ⟨rfl, rfl, rfl⟩
def modV (al ow : Nat) (p : Int32) : Int32 := if al = 0 then -4 else (lN ((if p = 0 then ow else al) / Nat.gcd ow al)).toInt32
theorem S_modds {d n al ow : Nat} {I : HI} {J : HJ} {du he y p : Int32} (h : odOk du he y p = true) (hn : I 50 0 = nI n) (h12 : n ≤ 12) (hal : mwsJ I du he (-1) n = lN al) (how : mwsJ I du he y n = lN ow) (ha63 : al < 2 ^ 63) (ho63 : ow < 2 ^ 63) : MI mX7_odds (d + 3) [.ref 44, .int du, .int he, .int y, .int p] shA I J RA (fun x I' J' => x = modV al ow p ∧ I' = I ∧ ∀ a b, ¬ (a = 44 ∧ (b = 22 ∨ b = 23)) → J' a b = J a b) := by
  unfold odOk at h
  simp only [Bool.and_eq_true] at h
  obtain ⟨⟨⟨h1a, h1b⟩, h2⟩, h3⟩ := h
  refine Mt.of (L := [some (.ref 44), some (.int du), some (.int he), some (.int y), some (.int p), none, none]) (by decide +kernel) (Nat.le_of_ble_eq_true rfl) rfl ?_
  refine q_iload_n dX7_odds_0 (rfl : 0 + 1 = 1) rfl ?_
  refine q_iload_n dX7_odds_1 (rfl : 1 + 1 = 2) rfl ?_
  refine q_callSIp (S_misPiece (d := d + 1)) dX7_odds_2 (rfl : 2 + 3 = 5) lX7_179 vX7_isPiece rfl rfl (Nat.le_of_ble_eq_true rfl) TM_room TM_cs ?_
  refine q_if_eq_b (q := 26) dX7_odds_5 (by decide) (rfl : 5 + 3 = 8) (fun g1 => ?_) (fun g1 => ?_)
  · rw [h1a, h1b] at g1
    cases g1
  ·
    refine q_iload_n dX7_odds_8 (rfl : 8 + 1 = 9) rfl ?_
    refine q_callSIp (S_misYear (d := d + 1)) dX7_odds_9 (rfl : 9 + 3 = 12) lX7_182 vX7_isYear rfl rfl (Nat.le_of_ble_eq_true rfl) TM_room TM_cs ?_
    refine q_if_eq_b (q := 26) dX7_odds_12 (by decide) (rfl : 12 + 3 = 15) (fun g2 => ?_) (fun g2 => ?_)
    · rw [h2] at g2
      cases g2
    ·
      refine q_iload dX7_odds_15 (rfl : 15 + 2 = 17) rfl ?_
      refine q_i2l dX7_odds_17 (rfl : 17 + 1 = 18) ?_
      refine q_lconst (v := 0) dX7_odds_18 (rfl : 18 + 1 = 19) (by decide) ?_
      refine q_lconst (v := 1) dX7_odds_19 (rfl : 19 + 1 = 20) (by decide) ?_
      refine q_callSIp (S_inI (x := p) (a := nI 0) (b := nI 1) rfl (by decide) (by decide)) dX7_odds_20 (rfl : 20 + 3 = 23) lX7_77 vX7_in rfl rfl (Nat.le_of_ble_eq_true rfl) TM_room TM_cs ?_
      refine q_if_ne_b (q := 28) dX7_odds_23 (by decide) (rfl : 23 + 3 = 26) (fun g3 => ?_) (fun g3 => ?_)
      ·
        refine q_aload_n dX7_odds_28 (rfl : 28 + 1 = 29) rfl ?_
        refine q_iload_n dX7_odds_29 (rfl : 29 + 1 = 30) rfl ?_
        refine q_iload_n dX7_odds_30 (rfl : 30 + 1 = 31) rfl ?_
        refine q_iconst (v := -1) dX7_odds_31 (rfl : 31 + 1 = 32) (by decide) ?_
        refine q_callVGp (S_weights (d := d) hn h12) dX7_odds_32 (rfl : 32 + 3 = 35) lX7_185 vX7_weights (by first | rfl | assumption) rfl rfl (Nat.le_of_ble_eq_true rfl) TM_room TM_cs ?_
        rw [hal]
        refine q_lstore dX7_odds_35 (rfl : 35 + 2 = 37) (by decide) ?_
        refine q_lload dX7_odds_37 (rfl : 37 + 2 = 39) rfl ?_
        refine q_lconst (v := 0) dX7_odds_39 (rfl : 39 + 1 = 40) (by decide) ?_
        refine q_lcmp dX7_odds_40 (rfl : 40 + 1 = 41) ?_
        refine q_if_ne (q := 47) dX7_odds_41 (by decide) (rfl : 41 + 3 = 44) (fun q => ?_) (fun q => ?_)
        ·
          have h0 : 0 < al := by
            rcases Nat.eq_zero_or_pos al with z | z
            · subst z
              exact absurd (lgc_eq.mpr rfl) q
            · exact z
          refine q_aload_n dX7_odds_47 (rfl : 47 + 1 = 48) rfl ?_
          refine q_aload_n dX7_odds_48 (rfl : 48 + 1 = 49) rfl ?_
          refine q_iload_n dX7_odds_49 (rfl : 49 + 1 = 50) rfl ?_
          refine q_iload_n dX7_odds_50 (rfl : 50 + 1 = 51) rfl ?_
          refine q_iload_n dX7_odds_51 (rfl : 51 + 1 = 52) rfl ?_
          refine q_callVGp (S_weights (d := d) hn h12) dX7_odds_52 (rfl : 52 + 3 = 55) lX7_185 vX7_weights (by first | rfl | assumption) rfl rfl (Nat.le_of_ble_eq_true rfl) TM_room TM_cs ?_
          rw [how]
          refine q_lload dX7_odds_55 (rfl : 55 + 2 = 57) rfl ?_
          refine q_callVV (S_lowest (d := d + 2) ho63 ha63 h0) dX7_odds_57 (rfl : 57 + 3 = 60) lX7_188 vX7_lowest (by first | rfl | assumption) rfl rfl (Nat.le_of_ble_eq_true rfl) TM_room TM_cs ?_
          intro I1 J1 hp
          obtain ⟨rfl, rfl⟩ := hp
          refine q_iload dX7_odds_60 (rfl : 60 + 2 = 62) rfl ?_
          refine q_if_ne (q := 72) dX7_odds_62 (by decide) (rfl : 62 + 3 = 65) (fun qp => ?_) (fun qp => ?_)
          ·
            refine q_aload_n dX7_odds_72 (rfl : 72 + 1 = 73) rfl ?_
            refine q_getJ dX7_odds_73 (rfl : 73 + 3 = 76) fX7_176 (by first | rfl | assumption) ?_
            refine q_l2i dX7_odds_76 (rfl : 76 + 1 = 77) ?_
            refine q_iret rfl dX7_odds_77 ⟨rfl, rfl, _, rfl, ?_⟩
            refine ⟨?_, rfl, fun a b z => ?_⟩
            · unfold modV
              rw [if_neg (by omega), if_neg qp, wr_hit]
            · unfold wr
              by_cases ea : a = 44
              · have e1 : ¬ b = 22 := fun w => z ⟨ea, Or.inl w⟩
                have e2 : ¬ b = 23 := fun w => z ⟨ea, Or.inr w⟩
                simp [ea, e1, e2]
              · simp [ea]
          ·
            refine q_aload_n dX7_odds_65 (rfl : 65 + 1 = 66) rfl ?_
            refine q_getJ dX7_odds_66 (rfl : 66 + 3 = 69) fX7_172 (by first | rfl | assumption) ?_
            refine q_goto (q := 76) dX7_odds_69 (by decide) ?_
            refine q_l2i dX7_odds_76 (rfl : 76 + 1 = 77) ?_
            refine q_iret rfl dX7_odds_77 ⟨rfl, rfl, _, rfl, ?_⟩
            refine ⟨?_, rfl, fun a b z => ?_⟩
            · unfold modV
              rw [if_neg (by omega), if_pos qp, wr_nk (by omega), wr_hit]
            · unfold wr
              by_cases ea : a = 44
              · have e1 : ¬ b = 22 := fun w => z ⟨ea, Or.inl w⟩
                have e2 : ¬ b = 23 := fun w => z ⟨ea, Or.inr w⟩
                simp [ea, e1, e2]
              · simp [ea]
        ·
          obtain rfl : al = 0 := (pk_lEQ (a := al) (b := 0) ha63 (by omega)).mp (lgc_eq.mp q)
          refine q_bipush (v := -4) dX7_odds_44 (rfl : 44 + 2 = 46) (by decide) ?_
          refine q_iret rfl dX7_odds_46 ⟨rfl, rfl, _, rfl, ?_⟩
          exact ⟨rfl, rfl, fun a b z => rfl⟩
      ·
        rw [h3] at g3
        cases g3
theorem S_mlikeliest_bad {d : Nat} {I : HI} {J : HJ} {du he : Int32} (h : (inr du (nI 0) (nI 9) && inr he (nI 1) (nI 9)) = false) : MIp mX7_likeliest (d + 2) [.ref 44, .int du, .int he] shA I J RA (-1) := by
  refine Mt.of (L := [some (.ref 44), some (.int du), some (.int he), none, none, none, none, none, none]) (by decide +kernel) (Nat.le_of_ble_eq_true rfl) rfl ?_
  refine q_iload_n dX7_likeliest_0 (rfl : 0 + 1 = 1) rfl ?_
  refine q_iload_n dX7_likeliest_1 (rfl : 1 + 1 = 2) rfl ?_
  refine q_callSIp (S_misPiece (d := d)) dX7_likeliest_2 (rfl : 2 + 3 = 5) lX7_179 vX7_isPiece rfl rfl (Nat.le_of_ble_eq_true rfl) TM_room TM_cs ?_
  refine q_if_ne_b (q := 10) dX7_likeliest_5 (by decide) (rfl : 5 + 3 = 8) (fun h1 => ?_) (fun h1 => ?_)
  · rw [h] at h1
    cases h1
  ·
    refine q_iconst (v := -1) dX7_likeliest_8 (rfl : 8 + 1 = 9) (by decide) ?_
    refine q_iret rfl dX7_likeliest_9 ⟨rfl, rfl, _, rfl, ?_⟩
    exact ⟨rfl, rfl, rfl⟩
def mlkS (v : Nat → Int64) (y : Nat) : Int32 × Int64 := match y with
  | 0 => (-4, 0)
  | y + 1 => if (mlkS v y).2 < v y then (nI y, v y) else mlkS v y
theorem lgc_le {x y : Int64} : lg_cmp x y ≤ 0 ↔ ¬ y < x := by
  rw [← Int32.not_lt, ← lgc_gt]
theorem S_mlikeliest {d n : Nat} {I : HI} {J : HJ} {du he : Int32} (h : (inr du (nI 0) (nI 9) && inr he (nI 1) (nI 9)) = true) (hn : I 50 0 = nI n) (h12 : n ≤ 12) : MIp mX7_likeliest (d + 3) [.ref 44, .int du, .int he] shA I J RA (mlkS (fun y => mwsJ I du he (nI y) n) 100).1 := by
  have loop : ∀ (y : Nat), y ≤ 100 → Wm mX7_likeliest (TM (d + 3) 0 0 false shA.length (fun sh' w I' J' R' => sh' = shA ∧ R' = RA ∧ ∃ x : Int32, w = some (.int x) ∧ (x = (mlkS (fun y => mwsJ I du he (nI y) n) 100).1 ∧ I' = I ∧ J' = J))) 0 0 shA 19 [some (.ref 44), some (.int du), some (.int he), some (.int (mlkS (fun y => mwsJ I du he (nI y) n) y).1), some (.long (mlkS (fun y => mwsJ I du he (nI y) n) y).2), none, some (.int (nI y)), none, none] [] I J RA := by
    refine loopN (fun y hy ih => ?_)
    refine q_iload dX7_likeliest_19 (rfl : 19 + 2 = 21) rfl ?_
    refine q_bipush (v := nI 100) dX7_likeliest_21 (rfl : 21 + 2 = 23) (by decide) ?_
    refine q_icmp_ge_n (q := 74) (by omega) (by omega) dX7_likeliest_23 (by decide) (rfl : 23 + 3 = 26) (fun h1 => ?_) (fun h1 => ?_)
    ·
      obtain rfl : y = 100 := by omega
      refine q_iload_n dX7_likeliest_74 (rfl : 74 + 1 = 75) rfl ?_
      refine q_iret rfl dX7_likeliest_75 ⟨rfl, rfl, _, rfl, ?_⟩
      exact ⟨rfl, rfl, rfl⟩
    ·
      refine q_aload_n dX7_likeliest_26 (rfl : 26 + 1 = 27) rfl ?_
      refine q_iload_n dX7_likeliest_27 (rfl : 27 + 1 = 28) rfl ?_
      refine q_iload_n dX7_likeliest_28 (rfl : 28 + 1 = 29) rfl ?_
      refine q_iload dX7_likeliest_29 (rfl : 29 + 2 = 31) rfl ?_
      refine q_callVGp (S_weights (d := d) hn h12) dX7_likeliest_31 (rfl : 31 + 3 = 34) lX7_185 vX7_weights (by first | rfl | assumption) rfl rfl (Nat.le_of_ble_eq_true rfl) TM_room TM_cs ?_
      have un : mlkS (fun y => mwsJ I du he (nI y) n) (y + 1) = (if (mlkS (fun y => mwsJ I du he (nI y) n) y).2 < mwsJ I du he (nI y) n then (nI y, mwsJ I du he (nI y) n) else mlkS (fun y => mwsJ I du he (nI y) n) y) := rfl
      have key := ih h1
      rw [un] at key
      refine q_lstore dX7_likeliest_34 (rfl : 34 + 2 = 36) (by decide) ?_
      refine q_lload dX7_likeliest_36 (rfl : 36 + 2 = 38) rfl ?_
      refine q_lload dX7_likeliest_38 (rfl : 38 + 2 = 40) rfl ?_
      refine q_lcmp dX7_likeliest_40 (rfl : 40 + 1 = 41) ?_
      refine q_if_le (q := 49) dX7_likeliest_41 (by decide) (rfl : 41 + 3 = 44) (fun q => ?_) (fun q => ?_)
      ·
        have q' := lgc_le.mp q
        rw [if_neg q'] at key
        refine q_iload_n dX7_likeliest_49 (rfl : 49 + 1 = 50) rfl ?_
        refine q_istore_n dX7_likeliest_50 (rfl : 50 + 1 = 51) (by decide) ?_
        refine q_lload dX7_likeliest_51 (rfl : 51 + 2 = 53) rfl ?_
        refine q_lload dX7_likeliest_53 (rfl : 53 + 2 = 55) rfl ?_
        refine q_lcmp dX7_likeliest_55 (rfl : 55 + 1 = 56) ?_
        refine q_if_le (q := 64) dX7_likeliest_56 (by decide) (rfl : 56 + 3 = 59) (fun q2 => ?_) (fun q2 => ?_)
        ·
          refine q_lload dX7_likeliest_64 (rfl : 64 + 2 = 66) rfl ?_
          refine q_lstore dX7_likeliest_66 (rfl : 66 + 2 = 68) (by decide) ?_
          first | refine q_iinc1 dX7_likeliest_68 (rfl : 68 + 3 = 71) rfl (by decide) ?_ | refine q_iinc dX7_likeliest_68 (rfl : 68 + 3 = 71) rfl rfl (by decide) ?_
          refine q_goto (q := 19) dX7_likeliest_71 (by decide) ?_
          refine q_forget (L' := [some (.ref 44), some (.int du), some (.int he), some (.int (mlkS (fun y => mwsJ I du he (nI y) n) y).1), some (.long (mlkS (fun y => mwsJ I du he (nI y) n) y).2), none, some (.int (nI (y + 1))), none, none]) (by repeat (first | exact trivial | refine And.intro rfl ?_)) ?_
          exact key
        ·
          exact absurd q q2
      ·
        have q' : (mlkS (fun y => mwsJ I du he (nI y) n) y).2 < mwsJ I du he (nI y) n := Decidable.byContradiction (fun z => q (lgc_le.mpr z))
        rw [if_pos q'] at key
        refine q_iload dX7_likeliest_44 (rfl : 44 + 2 = 46) rfl ?_
        refine q_goto (q := 50) dX7_likeliest_46 (by decide) ?_
        refine q_istore_n dX7_likeliest_50 (rfl : 50 + 1 = 51) (by decide) ?_
        refine q_lload dX7_likeliest_51 (rfl : 51 + 2 = 53) rfl ?_
        refine q_lload dX7_likeliest_53 (rfl : 53 + 2 = 55) rfl ?_
        refine q_lcmp dX7_likeliest_55 (rfl : 55 + 1 = 56) ?_
        refine q_if_le (q := 64) dX7_likeliest_56 (by decide) (rfl : 56 + 3 = 59) (fun q2 => ?_) (fun q2 => ?_)
        ·
          exact absurd q2 q
        ·
          refine q_lload dX7_likeliest_59 (rfl : 59 + 2 = 61) rfl ?_
          refine q_goto (q := 66) dX7_likeliest_61 (by decide) ?_
          refine q_lstore dX7_likeliest_66 (rfl : 66 + 2 = 68) (by decide) ?_
          first | refine q_iinc1 dX7_likeliest_68 (rfl : 68 + 3 = 71) rfl (by decide) ?_ | refine q_iinc dX7_likeliest_68 (rfl : 68 + 3 = 71) rfl rfl (by decide) ?_
          refine q_goto (q := 19) dX7_likeliest_71 (by decide) ?_
          refine q_forget (L' := [some (.ref 44), some (.int du), some (.int he), some (.int (nI y)), some (.long (mwsJ I du he (nI y) n)), none, some (.int (nI (y + 1))), none, none]) (by repeat (first | exact trivial | refine And.intro rfl ?_)) ?_
          exact key
  refine Mt.of (L := [some (.ref 44), some (.int du), some (.int he), none, none, none, none, none, none]) (by decide +kernel) (Nat.le_of_ble_eq_true rfl) rfl ?_
  refine q_iload_n dX7_likeliest_0 (rfl : 0 + 1 = 1) rfl ?_
  refine q_iload_n dX7_likeliest_1 (rfl : 1 + 1 = 2) rfl ?_
  refine q_callSIp (S_misPiece (d := d + 1)) dX7_likeliest_2 (rfl : 2 + 3 = 5) lX7_179 vX7_isPiece rfl rfl (Nat.le_of_ble_eq_true rfl) TM_room TM_cs ?_
  refine q_if_ne_b (q := 10) dX7_likeliest_5 (by decide) (rfl : 5 + 3 = 8) (fun h1 => ?_) (fun h1 => ?_)
  ·
    refine q_bipush (v := -4) dX7_likeliest_10 (rfl : 10 + 2 = 12) (by decide) ?_
    refine q_istore_n dX7_likeliest_12 (rfl : 12 + 1 = 13) (by decide) ?_
    refine q_lconst (v := 0) dX7_likeliest_13 (rfl : 13 + 1 = 14) (by decide) ?_
    refine q_lstore dX7_likeliest_14 (rfl : 14 + 2 = 16) (by decide) ?_
    refine q_iconst (v := nI 0) dX7_likeliest_16 (rfl : 16 + 1 = 17) (by decide) ?_
    refine q_istore dX7_likeliest_17 (rfl : 17 + 2 = 19) (by decide) ?_
    exact loop 0 (by omega)
  ·
    rw [h] at h1
    cases h1
theorem S_mmark_bad {d : Nat} {I : HI} {J : HJ} {x : Int32} (h : inr x (nI 0) (nI 9) = false) : MIp mX7_mark (d + 1) [.ref 44, .int x] shA I J RA (-1) := by
  refine Mt.of (L := [some (.ref 44), some (.int x)]) (by decide +kernel) (Nat.le_of_ble_eq_true rfl) rfl ?_
  refine q_iload_n dX7_mark_0 (rfl : 0 + 1 = 1) rfl ?_
  refine q_i2l dX7_mark_1 (rfl : 1 + 1 = 2) ?_
  refine q_lconst (v := 0) dX7_mark_2 (rfl : 2 + 1 = 3) (by decide) ?_
  refine q_ldc2 dX7_mark_3 (rfl : 3 + 3 = 6) kX7_161 ?_
  refine q_callSIp (S_inI (x := x) (a := nI 0) (b := nI 9) rfl (by decide) (by decide)) dX7_mark_6 (rfl : 6 + 3 = 9) lX7_77 vX7_in rfl rfl (Nat.le_of_ble_eq_true rfl) TM_room TM_cs ?_
  refine q_if_ne_b (q := 14) dX7_mark_9 (by decide) (rfl : 9 + 3 = 12) (fun h2 => ?_) (fun h2 => ?_)
  · rw [h] at h2
    cases h2
  ·
    refine q_iconst (v := -1) dX7_mark_12 (rfl : 12 + 1 = 13) (by decide) ?_
    refine q_iret rfl dX7_mark_13 ⟨rfl, rfl, _, rfl, ?_⟩
    exact ⟨rfl, rfl, rfl⟩
theorem S_mmark {d k : Nat} {I : HI} {J : HJ} {x : Int32} (h : inr x (nI 0) (nI 9) = true) (hk : I 44 14 = nI k) (h14 : k ≤ 14) : MI mX7_mark (d + 1) [.ref 44, .int x] shA I J RA (fun y I' J' => y = (if k < 14 then nI (k + 1) else -3) ∧ I' = (if k < 14 then wr (wr I 56 k x) 44 14 (nI (k + 1)) else I) ∧ J' = J) := by
  refine Mt.of (L := [some (.ref 44), some (.int x)]) (by decide +kernel) (Nat.le_of_ble_eq_true rfl) rfl ?_
  refine q_iload_n dX7_mark_0 (rfl : 0 + 1 = 1) rfl ?_
  refine q_i2l dX7_mark_1 (rfl : 1 + 1 = 2) ?_
  refine q_lconst (v := 0) dX7_mark_2 (rfl : 2 + 1 = 3) (by decide) ?_
  refine q_ldc2 dX7_mark_3 (rfl : 3 + 3 = 6) kX7_161 ?_
  refine q_callSIp (S_inI (x := x) (a := nI 0) (b := nI 9) rfl (by decide) (by decide)) dX7_mark_6 (rfl : 6 + 3 = 9) lX7_77 vX7_in rfl rfl (Nat.le_of_ble_eq_true rfl) TM_room TM_cs ?_
  refine q_if_ne_b (q := 14) dX7_mark_9 (by decide) (rfl : 9 + 3 = 12) (fun h2 => ?_) (fun h2 => ?_)
  ·
    refine q_aload_n dX7_mark_14 (rfl : 14 + 1 = 15) rfl ?_
    refine q_getI dX7_mark_15 (rfl : 15 + 3 = 18) fX7_110 (by first | rfl | assumption) ?_
    try simp (disch := omega) only [wr_hit, wr_p, wr_k, nI_add, pk_mul, nI_1, nI_s1, pk_sub, Nat.add_sub_cancel, hk]
    refine q_bipush (v := nI 14) dX7_mark_18 (rfl : 18 + 2 = 20) (by decide) ?_
    refine q_icmp_ne_n (q := 26) (by omega) (by omega) dX7_mark_20 (by decide) (rfl : 20 + 3 = 23) (fun h3 => ?_) (fun h3 => ?_)
    ·
      have hlt : k < 14 := by omega
      refine q_aload_n dX7_mark_26 (rfl : 26 + 1 = 27) rfl ?_
      refine q_getR dX7_mark_27 (rfl : 27 + 3 = 30) fX7_45 (by first | rfl | assumption) (by first | rfl | assumption) ?_
      refine q_aload_n dX7_mark_30 (rfl : 30 + 1 = 31) rfl ?_
      refine q_getI dX7_mark_31 (rfl : 31 + 3 = 34) fX7_110 (by first | rfl | assumption) ?_
      try simp (disch := omega) only [wr_hit, wr_p, wr_k, nI_add, pk_mul, nI_1, nI_s1, pk_sub, Nat.add_sub_cancel, hk]
      refine q_iload_n dX7_mark_34 (rfl : 34 + 1 = 35) rfl ?_
      refine q_iast dX7_mark_35 (rfl : 35 + 1 = 36) (by first | rfl | assumption) (by first | assumption | omega) (by decide) ?_
      refine q_aload_n dX7_mark_36 (rfl : 36 + 1 = 37) rfl ?_
      refine q_dup dX7_mark_37 (rfl : 37 + 1 = 38) rfl ?_
      refine q_getI dX7_mark_38 (rfl : 38 + 3 = 41) fX7_110 (by first | rfl | assumption) ?_
      try simp (disch := omega) only [wr_hit, wr_p, wr_k, nI_add, pk_mul, nI_1, nI_s1, pk_sub, Nat.add_sub_cancel, hk]
      refine q_iconst (v := nI 1) dX7_mark_41 (rfl : 41 + 1 = 42) (by decide) ?_
      refine q_iadd dX7_mark_42 (rfl : 42 + 1 = 43) ?_
      try simp (disch := omega) only [wr_hit, wr_p, wr_k, nI_add, pk_mul, nI_1, nI_s1, pk_sub, Nat.add_sub_cancel, hk]
      refine q_putI dX7_mark_43 (rfl : 43 + 3 = 46) pX7_110 (by first | rfl | assumption) ?_
      refine q_aload_n dX7_mark_46 (rfl : 46 + 1 = 47) rfl ?_
      refine q_getI dX7_mark_47 (rfl : 47 + 3 = 50) fX7_110 (by first | rfl | assumption) ?_
      try simp (disch := omega) only [wr_hit, wr_p, wr_k, nI_add, pk_mul, nI_1, nI_s1, pk_sub, Nat.add_sub_cancel, hk]
      refine q_iret rfl dX7_mark_50 ⟨rfl, rfl, _, rfl, ?_⟩
      rw [if_pos hlt, if_pos hlt]
      exact ⟨rfl, rfl, rfl⟩
    ·
      refine q_bipush (v := -3) dX7_mark_23 (rfl : 23 + 2 = 25) (by decide) ?_
      refine q_iret rfl dX7_mark_25 ⟨rfl, rfl, _, rfl, ?_⟩
      rw [if_neg (by omega), if_neg (by omega)]
      exact ⟨rfl, rfl, rfl⟩
  ·
    rw [h] at h2
    cases h2
theorem S_mnoMarks {d : Nat} {I : HI} {J : HJ} : MI mX7_noMarks d [.ref 44] shA I J RA (fun x I' J' => x = I 44 14 ∧ I' = wr I 44 14 (nI 0) ∧ J' = J) := by
  refine Mt.of (L := [some (.ref 44), none]) (by decide +kernel) (Nat.le_of_ble_eq_true rfl) rfl ?_
  refine q_aload_n dX7_noMarks_0 (rfl : 0 + 1 = 1) rfl ?_
  refine q_getI dX7_noMarks_1 (rfl : 1 + 3 = 4) fX7_110 (by first | rfl | assumption) ?_
  refine q_istore_n dX7_noMarks_4 (rfl : 4 + 1 = 5) (by decide) ?_
  refine q_aload_n dX7_noMarks_5 (rfl : 5 + 1 = 6) rfl ?_
  refine q_iconst (v := nI 0) dX7_noMarks_6 (rfl : 6 + 1 = 7) (by decide) ?_
  refine q_putI dX7_noMarks_7 (rfl : 7 + 3 = 10) pX7_110 (by first | rfl | assumption) ?_
  refine q_iload_n dX7_noMarks_10 (rfl : 10 + 1 = 11) rfl ?_
  refine q_iret rfl dX7_noMarks_11 ⟨rfl, rfl, _, rfl, ?_⟩
  exact ⟨rfl, rfl, rfl⟩
