/-! call by call: fault: what was told, on either side -/
def DR (X Y : HI) (n : Nat) : Prop := n ≤ 12 ∧ X 10 5 = nI n ∧ Y 47 1 = nI n ∧ (Y 46 5 = X 10 0 ∧ inr (X 10 0) (nI 1) (nI 999) = true) ∧ (Y 46 6 = X 10 1 ∧ inr (X 10 1) (nI 1) (nI 99) = true) ∧ (Y 46 7 = X 10 2 ∧ inr (X 10 2) (nI 1) (nI 50) = true) ∧ (Y 46 8 = X 10 3 ∧ inr (X 10 3) (nI 0) (nI 4) = true) ∧ (Y 46 9 = X 10 4 ∧ inr (X 10 4) (nI 0) (nI 9) = true) ∧
  (∀ i, i < n → (Y 48 (48 + 4 * i) = X 11 i ∧ inr (X 11 i) (nI 0) (nI 99) = true) ∧ (Y 48 (48 + 4 * i + 1) = X 12 i ∧ inr (X 12 i) (nI 1) (nI 20) = true) ∧ (Y 48 (48 + 4 * i + 2) = X 13 i ∧ inr (X 13 i) (nI 1) (nI 9) = true) ∧ (Y 48 (48 + 4 * i + 3) = X 14 i ∧ inr (X 14 i) (nI 0) (nI 9) = true)) ∧
  (∀ i j, i < j → j < n → X 11 i ≤ X 11 j) ∧ (∀ y, y < 100 → Y 49 (100 + y) = X 15 y ∧ inr (X 15 y) (nI 0) (nI 99) = true)
theorem DR.cg {X X' Y : HI} {n : Nat} (h : DR X Y n) (hs : SX X X') : DR X' Y n := by
  have r : ∀ a, 10 ≤ a → X' a = X a := fun a ha => by
    funext b
    exact hs a b (by omega)
  unfold DR at h ⊢
  rw [r 10 (by omega), r 11 (by omega), r 12 (by omega), r 13 (by omega), r 14 (by omega), r 15 (by omega)]
  exact h
theorem DR.cgY {X Y Y' : HI} {n : Nat} (h : DR X Y n) (hs : Eqx Y Y') : DR X Y' n := by
  have r : ∀ a, a ≠ 63 → a ≠ 44 → Y' a = Y a := fun a h1 h2 => hs.row h1 h2
  unfold DR at h ⊢
  rw [r 46 (by omega) (by omega), r 47 (by omega) (by omega), r 48 (by omega) (by omega), r 49 (by omega) (by omega)]
  exact h
theorem DR.start (I I2 : HI) : DR (forgetT I 10) (begH I2) 0 := by
  refine ⟨by omega, ?_, ?_, ⟨?_, ?_⟩, ⟨?_, ?_⟩, ⟨?_, ?_⟩, ⟨?_, ?_⟩, ⟨?_, ?_⟩, fun i hi => by omega, fun i j _ hj => by omega, fun y hy => ?_⟩
  all_goals try (simp [forgetT, fillH, begH, cosH, wr]; done)
  all_goals try (simp [forgetT, fillH, begH, cosH, wr]; decide)
  have e1 : begH I2 49 (100 + y) = nI 10 := by
    unfold begH cosH
    rw [if_pos ⟨rfl, by omega, by omega⟩]
  have e2 : forgetT I 10 15 y = nI 10 := by
    unfold forgetT fillH
    rw [if_pos ⟨rfl, hy⟩]
  rw [e1, e2]
  exact ⟨rfl, by decide⟩
theorem least_eq {X Y : HI} {n : Nat} {y : Int32} (h : DR X Y n) : inr y (leastF Y n) (nI 99) = (inr y (nI 0) (nI 99) && (decide (n = 0) || decide (X 11 (n - 1) ≤ y))) := by
  obtain ⟨h12, h1, h2, -, -, -, -, -, h8, -, -⟩ := h
  rcases Nat.eq_zero_or_pos n with z | z
  · subst z
    have e : leastF Y 0 = nI 0 := rfl
    rw [e]
    simp
  · have e : leastF Y n = X 11 (n - 1) := by
      unfold leastF
      rw [if_neg (by omega), ← (h8 (n - 1) (by omega)).1.1]
      congr 1
      omega
    have h0 : nI 0 ≤ X 11 (n - 1) := by
      have := (h8 (n - 1) (by omega)).1.2
      unfold inr at this
      rw [Bool.and_eq_true, decide_eq_true_eq, decide_eq_true_eq] at this
      exact this.1
    rw [e, decide_eq_false (show ¬ n = 0 by omega), Bool.false_or]
    unfold inr
    rw [Bool.eq_iff_iff]
    simp only [Bool.and_eq_true, decide_eq_true_eq]
    exact ⟨fun z => ⟨⟨Int32.le_trans h0 z.1, z.2⟩, z.1⟩, fun z => ⟨z.2, z.1.2⟩⟩
theorem and_perm (a b c d e f : Bool) : (((a && b && c && d) && e) && f) = ((((a && f) && b && c && d) && e)) := by
  cases a <;> cases b <;> cases c <;> cases d <;> cases e <;> cases f <;> rfl
theorem clamp_in {w : Int32} (h : inr w (nI 0) (nI 99) = true) : w.toNatClampNeg < 100 := by
  obtain ⟨j, hj, rfl⟩ := inr_nI (by decide) h
  rw [nI_clamp (by omega)]
  omega
theorem DR.one {X Y : HI} {n : Nat} {l v : Int32} (h : DR X Y n) (hl : l = nI 116 ∨ l = nI 115 ∨ l = nI 118) (hv : setOneB l v = true) : DR (wr X 10 (setOneK l) v) (wr Y 46 (if l = nI 116 then 7 else if l = nI 115 then 8 else 9) v) n := by
  obtain ⟨h12, h1, h2, h3, h4, h5, h6, h7, h8, h9, h10⟩ := h
  rcases hl with rfl | rfl | rfl
  · have k1 : setOneK (nI 116) = 2 := by decide
    have hv' : inr v (nI 1) (nI 50) = true := by
      have e : setOneB (nI 116) v = ((true && inr v (nI 1) (nI 50)) || (false && inr v (nI 0) (nI 4)) || (false && inr v (nI 0) (nI 9))) := rfl
      rw [e] at hv
      simpa using hv
    rw [k1, if_pos rfl]
    refine ⟨h12, ?_, ?_, ?_, ?_, ?_, ?_, ?_, ?_, ?_, ?_⟩
    · rw [wr_nk (by omega)]; exact h1
    · rw [wr_ne (by omega)]; exact h2
    · rw [wr_nk (by omega), wr_nk (by omega)]; exact h3
    · rw [wr_nk (by omega), wr_nk (by omega)]; exact h4
    · rw [wr_hit, wr_hit]; exact ⟨rfl, hv'⟩
    · rw [wr_nk (by omega), wr_nk (by omega)]; exact h6
    · rw [wr_nk (by omega), wr_nk (by omega)]; exact h7
    · rw [wr_ne (by omega), wr_ne (by omega), wr_ne (by omega), wr_ne (by omega), wr_ne (by omega)]; exact h8
    · rw [wr_ne (by omega)]; exact h9
    · rw [wr_ne (by omega), wr_ne (by omega)]; exact h10
  · have k1 : setOneK (nI 115) = 3 := by decide
    have hv' : inr v (nI 0) (nI 4) = true := by
      have e : setOneB (nI 115) v = ((false && inr v (nI 1) (nI 50)) || (true && inr v (nI 0) (nI 4)) || (false && inr v (nI 0) (nI 9))) := rfl
      rw [e] at hv
      simpa using hv
    rw [k1, if_neg (by decide), if_pos rfl]
    refine ⟨h12, ?_, ?_, ?_, ?_, ?_, ?_, ?_, ?_, ?_, ?_⟩
    · rw [wr_nk (by omega)]; exact h1
    · rw [wr_ne (by omega)]; exact h2
    · rw [wr_nk (by omega), wr_nk (by omega)]; exact h3
    · rw [wr_nk (by omega), wr_nk (by omega)]; exact h4
    · rw [wr_nk (by omega), wr_nk (by omega)]; exact h5
    · rw [wr_hit, wr_hit]; exact ⟨rfl, hv'⟩
    · rw [wr_nk (by omega), wr_nk (by omega)]; exact h7
    · rw [wr_ne (by omega), wr_ne (by omega), wr_ne (by omega), wr_ne (by omega), wr_ne (by omega)]; exact h8
    · rw [wr_ne (by omega)]; exact h9
    · rw [wr_ne (by omega), wr_ne (by omega)]; exact h10
  · have k1 : setOneK (nI 118) = 4 := by decide
    have hv' : inr v (nI 0) (nI 9) = true := by
      have e : setOneB (nI 118) v = ((false && inr v (nI 1) (nI 50)) || (false && inr v (nI 0) (nI 4)) || (true && inr v (nI 0) (nI 9))) := rfl
      rw [e] at hv
      simpa using hv
    rw [k1, if_neg (by decide), if_neg (by decide)]
    refine ⟨h12, ?_, ?_, ?_, ?_, ?_, ?_, ?_, ?_, ?_, ?_⟩
    · rw [wr_nk (by omega)]; exact h1
    · rw [wr_ne (by omega)]; exact h2
    · rw [wr_nk (by omega), wr_nk (by omega)]; exact h3
    · rw [wr_nk (by omega), wr_nk (by omega)]; exact h4
    · rw [wr_nk (by omega), wr_nk (by omega)]; exact h5
    · rw [wr_nk (by omega), wr_nk (by omega)]; exact h6
    · rw [wr_hit, wr_hit]; exact ⟨rfl, hv'⟩
    · rw [wr_ne (by omega), wr_ne (by omega), wr_ne (by omega), wr_ne (by omega), wr_ne (by omega)]; exact h8
    · rw [wr_ne (by omega)]; exact h9
    · rw [wr_ne (by omega), wr_ne (by omega)]; exact h10
theorem DR.barn {X Y : HI} {n : Nat} {v w : Int32} (h : DR X Y n) (hv : setBarnB v w = true) : DR (setBarnH X 10 v w) (wr (wr Y 46 5 v) 46 6 w) n := by
  obtain ⟨h12, h1, h2, h3, h4, h5, h6, h7, h8, h9, h10⟩ := h
  unfold setBarnB at hv
  rw [Bool.and_eq_true] at hv
  unfold setBarnH
  refine ⟨h12, ?_, ?_, ?_, ?_, ?_, ?_, ?_, ?_, ?_, ?_⟩
  · rw [wr_nk (by omega), wr_nk (by omega)]; exact h1
  · rw [wr_ne (by omega), wr_ne (by omega)]; exact h2
  · rw [wr_nk (by omega), wr_hit, wr_nk (by omega), wr_hit]; exact ⟨rfl, hv.1⟩
  · rw [wr_hit, wr_hit]; exact ⟨rfl, hv.2⟩
  · rw [wr_nk (by omega), wr_nk (by omega), wr_nk (by omega), wr_nk (by omega)]; exact h5
  · rw [wr_nk (by omega), wr_nk (by omega), wr_nk (by omega), wr_nk (by omega)]; exact h6
  · rw [wr_nk (by omega), wr_nk (by omega), wr_nk (by omega), wr_nk (by omega)]; exact h7
  · simp only [wr_ne (show (48 : Nat) ≠ 46 by omega), wr_ne (show (11 : Nat) ≠ 10 by omega), wr_ne (show (12 : Nat) ≠ 10 by omega), wr_ne (show (13 : Nat) ≠ 10 by omega), wr_ne (show (14 : Nat) ≠ 10 by omega)]
    exact h8
  · simp only [wr_ne (show (11 : Nat) ≠ 10 by omega)]
    exact h9
  · simp only [wr_ne (show (49 : Nat) ≠ 46 by omega), wr_ne (show (15 : Nat) ≠ 10 by omega)]
    exact h10
theorem DR.cost {X Y : HI} {n : Nat} {v w : Int32} (h : DR X Y n) (hv : setCostB v w = true) : DR (wr X 15 v.toNatClampNeg w) (wr Y 49 (100 + v.toNatClampNeg) w) n := by
  obtain ⟨h12, h1, h2, h3, h4, h5, h6, h7, h8, h9, h10⟩ := h
  unfold setCostB at hv
  rw [Bool.and_eq_true] at hv
  have q := clamp_in hv.1
  refine ⟨h12, ?_, ?_, ?_, ?_, ?_, ?_, ?_, ?_, ?_, fun y hy => ?_⟩
  · rw [wr_ne (by omega)]; exact h1
  · rw [wr_ne (by omega)]; exact h2
  · rw [wr_ne (by omega), wr_ne (by omega)]; exact h3
  · rw [wr_ne (by omega), wr_ne (by omega)]; exact h4
  · rw [wr_ne (by omega), wr_ne (by omega)]; exact h5
  · rw [wr_ne (by omega), wr_ne (by omega)]; exact h6
  · rw [wr_ne (by omega), wr_ne (by omega)]; exact h7
  · simp only [wr_ne (show (48 : Nat) ≠ 49 by omega), wr_ne (show (11 : Nat) ≠ 15 by omega), wr_ne (show (12 : Nat) ≠ 15 by omega), wr_ne (show (13 : Nat) ≠ 15 by omega), wr_ne (show (14 : Nat) ≠ 15 by omega)]
    exact h8
  · simp only [wr_ne (show (11 : Nat) ≠ 15 by omega)]
    exact h9
  · by_cases e : y = v.toNatClampNeg
    · subst e
      rw [wr_hit, wr_hit]
      exact ⟨rfl, hv.2⟩
    · rw [wr_nk (by omega), wr_nk e]
      exact h10 y hy
theorem DR.fall {X Y : HI} {n : Nat} {g : Nat → Int32} (h : DR X Y n) (hv : addFallB X 10 n (g 0) (g 1) (g 2) (g 3) = true) : DR (addFallH X 10 n (g 0) (g 1) (g 2) (g 3)) (wr (mfH Y n g 4) 47 1 (nI (n + 1))) (n + 1) := by
  obtain ⟨h12, h1, h2, h3, h4, h5, h6, h7, h8, h9, h10⟩ := h
  unfold addFallB at hv
  simp only [Bool.and_eq_true, Bool.or_eq_true, decide_eq_true_eq] at hv
  obtain ⟨⟨⟨⟨⟨v1, v2⟩, v3⟩, v4⟩, v5⟩, v6⟩ := hv
  have y0 : ∀ a b, a ≠ 47 → ¬ (a = 48 ∧ 48 + 4 * n ≤ b) → (wr (mfH Y n g 4) 47 1 (nI (n + 1))) a b = Y a b := fun a b q1 q2 => by
    rw [wr_ne q1]
    unfold mfH
    rw [if_neg (by omega)]
  have y1 : ∀ k, k < 4 → (wr (mfH Y n g 4) 47 1 (nI (n + 1))) 48 (48 + 4 * n + k) = g k := fun k hk => by
    rw [wr_ne (by omega)]
    unfold mfH
    rw [if_pos ⟨rfl, by omega, by omega⟩, show 48 + 4 * n + k - (48 + 4 * n) = k by omega]
  have x0 : ∀ a b, ¬ (11 ≤ a ∧ a < 15 ∧ b = n) → ¬ (a = 10 ∧ b = 5) → addFallH X 10 n (g 0) (g 1) (g 2) (g 3) a b = X a b := fun a b q1 q2 => by
    unfold addFallH
    rw [wr_out (by omega), wr_out (by omega), wr_out (by omega), wr_out (by omega), wr_out (by omega)]
  have x1 : addFallH X 10 n (g 0) (g 1) (g 2) (g 3) 11 n = g 0 := by
    unfold addFallH
    rw [wr_ne (by omega), wr_ne (by omega), wr_ne (by omega), wr_ne (by omega)]
    exact wr_hit
  have x2 : addFallH X 10 n (g 0) (g 1) (g 2) (g 3) 12 n = g 1 := by
    unfold addFallH
    rw [wr_ne (by omega), wr_ne (by omega), wr_ne (by omega)]
    exact wr_hit
  have x3 : addFallH X 10 n (g 0) (g 1) (g 2) (g 3) 13 n = g 2 := by
    unfold addFallH
    rw [wr_ne (by omega), wr_ne (by omega)]
    exact wr_hit
  have x4 : addFallH X 10 n (g 0) (g 1) (g 2) (g 3) 14 n = g 3 := by
    unfold addFallH
    rw [wr_ne (by omega)]
    exact wr_hit
  have x5 : addFallH X 10 n (g 0) (g 1) (g 2) (g 3) 10 5 = nI (n + 1) := by
    unfold addFallH
    exact wr_hit
  have y2 : (wr (mfH Y n g 4) 47 1 (nI (n + 1))) 47 1 = nI (n + 1) := wr_hit
  generalize hY' : wr (mfH Y n g 4) 47 1 (nI (n + 1)) = Y' at y0 y1 y2 ⊢
  generalize hX' : addFallH X 10 n (g 0) (g 1) (g 2) (g 3) = X' at x0 x1 x2 x3 x4 x5 ⊢
  refine ⟨by omega, x5, y2, ?_, ?_, ?_, ?_, ?_, fun i hi => ?_, fun i j hij hj => ?_, fun y hy => ?_⟩
  · rw [y0 46 5 (by omega) (by omega), x0 10 0 (by omega) (by omega)]; exact h3
  · rw [y0 46 6 (by omega) (by omega), x0 10 1 (by omega) (by omega)]; exact h4
  · rw [y0 46 7 (by omega) (by omega), x0 10 2 (by omega) (by omega)]; exact h5
  · rw [y0 46 8 (by omega) (by omega), x0 10 3 (by omega) (by omega)]; exact h6
  · rw [y0 46 9 (by omega) (by omega), x0 10 4 (by omega) (by omega)]; exact h7
  · by_cases e : i = n
    · subst e
      have z0 := y1 0 (by omega)
      rw [Nat.add_zero] at z0
      rw [z0, y1 1 (by omega), y1 2 (by omega), y1 3 (by omega), x1, x2, x3, x4]
      exact ⟨⟨rfl, v1⟩, ⟨rfl, v2⟩, ⟨rfl, v3⟩, ⟨rfl, v4⟩⟩
    · rw [y0 48 _ (by omega) (by omega), y0 48 _ (by omega) (by omega), y0 48 _ (by omega) (by omega), y0 48 _ (by omega) (by omega), x0 11 i (by omega) (by omega), x0 12 i (by omega) (by omega), x0 13 i (by omega) (by omega), x0 14 i (by omega) (by omega)]
      exact h8 i (by omega)
  · rw [x0 11 i (by omega) (by omega)]
    by_cases e : j = n
    · subst e
      rw [x1]
      have hle : X 11 (j - 1) ≤ g 0 := by
        rcases v6 with w | w
        · omega
        · exact w
      by_cases e2 : i = j - 1
      · rw [e2]
        exact hle
      · exact Int32.le_trans (h9 i (j - 1) (by omega) (by omega)) hle
    · rw [x0 11 j (by omega) (by omega)]
      exact h9 i j hij (by omega)
  · rw [y0 49 _ (by omega) (by omega), x0 15 y (by omega) (by omega)]
    exact h10 y hy
theorem DR.take {X Y : HI} {n : Nat} {l : Int32} {g : Nat → Int32} (h : DR X Y n) (h0 : partsF l ≠ 0) (hg : ∀ j, j < partsF l → X 3 j = g j) : takeB X n l (partsF l) = goodB Y n l g ∧ (goodB Y n l g = true → DR (takeH X n l) (goodH Y n l g) (if l = nI 102 then n + 1 else n)) := by
  by_cases h98 : l = nI 98
  · subst h98
    have hp : partsF (nI 98) = 2 := by decide
    rw [hp] at hg ⊢
    have e1 : takeB X n (nI 98) 2 = setBarnB (X 3 0) (X 3 1) := by unfold takeB; rw [if_pos rfl]; rfl
    have e2 : goodB Y n (nI 98) g = setBarnB (g 0) (g 1) := by unfold goodB; rw [if_pos rfl]; rfl
    have e3 : takeH X n (nI 98) = setBarnH X 10 (X 3 0) (X 3 1) := if_pos rfl
    have e4 : goodH Y n (nI 98) g = wr (wr Y 46 5 (g 0)) 46 6 (g 1) := if_pos rfl
    rw [e1, e2, e3, e4, hg 0 (by omega), hg 1 (by omega), if_neg (by decide)]
    exact ⟨rfl, fun z => h.barn z⟩
  · by_cases h102 : l = nI 102
    · subst h102
      have hp : partsF (nI 102) = 4 := by decide
      rw [hp] at hg ⊢
      have e1 : takeB X n (nI 102) 4 = addFallB X 10 n (X 3 0) (X 3 1) (X 3 2) (X 3 3) := by unfold takeB; rw [if_neg (by decide), if_pos rfl]; rfl
      have e2 : goodB Y n (nI 102) g = addFallB X 10 n (g 0) (g 1) (g 2) (g 3) := by
        unfold goodB addFallB
        rw [if_neg (by decide), if_pos rfl, least_eq h]
        exact (and_perm _ _ _ _ _ _).symm
      have e3 : takeH X n (nI 102) = addFallH X 10 n (X 3 0) (X 3 1) (X 3 2) (X 3 3) := by unfold takeH; rw [if_neg (by decide), if_pos rfl]
      have e4 : goodH Y n (nI 102) g = wr (mfH Y n g 4) 47 1 (nI (n + 1)) := by unfold goodH; rw [if_neg (by decide), if_pos rfl]
      rw [e1, e2, e3, e4, hg 0 (by omega), hg 1 (by omega), hg 2 (by omega), hg 3 (by omega), if_pos rfl]
      exact ⟨rfl, fun z => h.fall z⟩
    · by_cases h112 : l = nI 112
      · subst h112
        have hp : partsF (nI 112) = 2 := by decide
        rw [hp] at hg ⊢
        have e1 : takeB X n (nI 112) 2 = setCostB (X 3 0) (X 3 1) := by unfold takeB; rw [if_neg (by decide), if_neg (by decide), if_pos rfl]; rfl
        have e2 : goodB Y n (nI 112) g = setCostB (g 0) (g 1) := by unfold goodB; rw [if_neg (by decide), if_neg (by decide), if_pos rfl]; rfl
        have e3 : takeH X n (nI 112) = wr X 15 (X 3 0).toNatClampNeg (X 3 1) := by unfold takeH; rw [if_neg (by decide), if_neg (by decide), if_pos rfl]
        have e4 : goodH Y n (nI 112) g = wr Y 49 (100 + (g 0).toNatClampNeg) (g 1) := by unfold goodH; rw [if_neg (by decide), if_neg (by decide), if_pos rfl]
        rw [e1, e2, e3, e4, hg 0 (by omega), hg 1 (by omega), if_neg (by decide)]
        exact ⟨rfl, fun z => h.cost z⟩
      · have hl : l = nI 116 ∨ l = nI 115 ∨ l = nI 118 := by
          by_cases q1 : l = nI 116
          · exact Or.inl q1
          · by_cases q2 : l = nI 115
            · exact Or.inr (Or.inl q2)
            · by_cases q3 : l = nI 118
              · exact Or.inr (Or.inr q3)
              · exfalso
                apply h0
                unfold partsF
                rw [if_neg h102, if_neg (fun z => z.elim h98 h112), if_neg (fun z => z.elim q1 (fun z => z.elim q2 q3))]
        have hp : partsF l = 1 := by rcases hl with rfl | rfl | rfl <;> decide
        rw [hp] at hg ⊢
        have e1 : takeB X n l 1 = setOneB l (X 3 0) := by
          unfold takeB
          rw [if_neg h98, if_neg h102, if_neg h112, if_pos (by rcases hl with z | z | z; exact Or.inr (Or.inl z); exact Or.inl z; exact Or.inr (Or.inr z))]
          rfl
        have e2 : goodB Y n l g = setOneB l (g 0) := by
          unfold goodB
          rw [if_neg h98, if_neg h102, if_neg h112]
          rcases hl with rfl | rfl | rfl
          · have e : setOneB (nI 116) (g 0) = ((true && inr (g 0) (nI 1) (nI 50)) || (false && inr (g 0) (nI 0) (nI 4)) || (false && inr (g 0) (nI 0) (nI 9))) := rfl
            rw [e, if_pos rfl]
            simp
          · have e : setOneB (nI 115) (g 0) = ((false && inr (g 0) (nI 1) (nI 50)) || (true && inr (g 0) (nI 0) (nI 4)) || (false && inr (g 0) (nI 0) (nI 9))) := rfl
            rw [e, if_neg (by decide), if_pos rfl]
            simp
          · have e : setOneB (nI 118) (g 0) = ((false && inr (g 0) (nI 1) (nI 50)) || (false && inr (g 0) (nI 0) (nI 4)) || (true && inr (g 0) (nI 0) (nI 9))) := rfl
            rw [e, if_neg (by decide), if_neg (by decide)]
            simp
        have e3 : takeH X n l = wr X 10 (setOneK l) (X 3 0) := by unfold takeH; rw [if_neg h98, if_neg h102, if_neg h112]
        have e4 : goodH Y n l g = wr Y 46 (if l = nI 116 then 7 else if l = nI 115 then 8 else 9) (g 0) := by unfold goodH; rw [if_neg h98, if_neg h102, if_neg h112]
        rw [e1, e2, e3, e4, hg 0 (by omega), if_neg h102]
        exact ⟨rfl, fun z => h.one hl z⟩
theorem scan_run {f : Nat → Int32} {len : Nat} (h400 : len ≤ 400) : ∀ (k p n c g : Nat) (X Y : HI), len - p ≤ k → p ≤ len → DR X Y n → (scanC f len (len - p) X p p c g n).1 = (runM f len k p n Y).1 ∧ ((runM f len k p n Y).1 = -4 → DR (scanC f len (len - p) X p p c g n).2 (runM f len k p n Y).2.1 (runM f len k p n Y).2.2) := by
  have at_end : ∀ (p n c g : Nat) (X : HI), p = len → scanC f len (len - p) X p p c g n = (-4, X) := fun p n c g X e => by
    rw [show len - p = 0 by omega]
    show ((if p = len then (-4 : Int32) else nI p), X) = _
    rw [if_pos e]
  intro k
  induction k with
  | zero =>
    intro p n c g X Y hk hp hD
    rw [at_end p n c g X (by omega)]
    exact ⟨rfl, fun _ => hD⟩
  | succ k ih =>
    intro p n c g X Y hk hp hD
    by_cases hlt : p < len
    · have si := scan_item (f := f) (len := len) (p := p) (c := c) (g := g) (n := n) (X := X) hlt
      cases e : itemF f len p with
      | none =>
        rw [e] at si
        have si' : (scanC f len (len - p) X p p c g n).1 = nI p := si
        have e2 : runM f len (k + 1) p n Y = (nI p, Y, n) := by
          unfold runM
          rw [if_pos hlt, e]
        rw [e2]
        exact ⟨si', fun z => absurd z (nI_nm4 (by omega))⟩
      | some r =>
        rw [e] at si
        obtain ⟨s0, X', s1, s2, s3⟩ := si
        have iq := itemF_q (q := r.1) (acc := r.2) e
        have hD' := hD.cg s1
        obtain ⟨t1, t2⟩ := hD'.take (l := f p) (g := fun j => nI (r.2 j)) s0 s2
        by_cases hg : goodB Y n (f p) (fun j => nI (r.2 j)) = true
        · have e2 : runM f len (k + 1) p n Y = runM f len k r.1 (if f p = nI 102 then n + 1 else n) (goodH Y n (f p) (fun j => nI (r.2 j))) := by
            show (if p < len then _ else _) = _
            rw [if_pos hlt, e]
            exact if_pos hg
          rw [e2, s3, if_pos (t1.trans hg)]
          exact ih r.1 _ _ _ _ _ (by omega) (by omega) (t2 hg)
        · have e2 : runM f len (k + 1) p n Y = (nI p, Y, n) := by
            show (if p < len then _ else _) = _
            rw [if_pos hlt, e]
            exact if_neg hg
          rw [e2, s3, if_neg (by rw [t1]; exact hg)]
          exact ⟨rfl, fun z => absurd z (nI_nm4 (by omega))⟩
    · have e2 : runM f len (k + 1) p n Y = (-4, Y, n) := by
        unfold runM
        rw [if_neg hlt]
      rw [e2, at_end p n c g X (by omega)]
      exact ⟨rfl, fun _ => hD⟩
theorem Z_fault {I : HI} {J : HJ} (hr : Rel I J) : Both mX6_fault mX7_fault [] I J := by
  obtain ⟨len, t1, t2, t3, t4⟩ := hr.choose_spec.choose_spec.choose_spec.1
  refine ⟨_, S_fault (d := 1) t2 t1, fun x I1 J1 hp => ?_⟩
  obtain ⟨e1, e3⟩ := hp
  have x1 : x = (scanC (I 2) len len (forgetT I 10) 0 0 0 0 0).1 := congrArg Prod.fst e1
  have x2 : I1 = (scanC (I 2) len len (forgetT I 10) 0 0 0 0 0).2 := congrArg Prod.snd e1
  have hq : ∀ a b, ¬ sco a b → I1 a b = I a b := fun a b z => by
    rw [x2, scanC_q _ _ _ _ _ _ _ a b z]
    unfold forgetT fillH
    have z2 : ¬ (10 ≤ a ∧ a < 16) := fun w => z (Or.inr (Or.inr w))
    rw [if_neg (by omega), wr_ne (by omega), wr_ne (by omega), wr_ne (by omega), wr_ne (by omega), wr_ne (by omega), wr_ne (by omega)]
  have q1 : Qt I I1 := fun a b z => hq a b (fun w => z (by
    rcases w with w | w | w
    · exact Or.inl w
    · exact Or.inr (Or.inl w)
    · exact Or.inr (Or.inr (Or.inl w))))
  refine ⟨_, S_mfault (d := 3) (len := len) (by rw [hq 44 0 (by unfold sco; omega)]; exact t3) t1, fun y I2 J2 hp2 => ?_⟩
  obtain ⟨f1, f2, f3, f4⟩ := hp2
  have e45 : I1 45 = I 45 := by
    funext b
    exact hq 45 b (by unfold sco; omega)
  have hD := DR.start I I1
  have key := (scan_run (f := I 2) t1 len 0 0 0 0 (forgetT I 10) (begH I1) (by omega) (by omega) hD).1
  rw [Nat.sub_zero, runM_cg (g := I 45) t4] at key
  rw [f1, f3, x1, e45, key, e3]
  exact ⟨rfl, hr.qt (q1.tr f2.qt) (fun b => rfl)⟩
