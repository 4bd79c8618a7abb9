/-! call by call: the likeliest year -/
def BestP (T : Nat → Nat) (S : Nat → Prop) (b : Int32) (m : Nat) : Prop := (∀ y, S y → T y ≤ m) ∧ ((m = 0 ∧ b = -4) ∨ (0 < m ∧ ∃ y, S y ∧ T y = m ∧ b = nI y ∧ ∀ y', S y' → T y' = m → y ≤ y'))
theorem BestP.step {T : Nat → Nat} {S S' : Nat → Prop} {b : Int32} {m y : Nat} (h : BestP T S b m) (hS : ∀ z, S' z ↔ S z ∨ z = y) (hle : ∀ z, S z → z ≤ y) : BestP T S' (if m < T y then nI y else b) (if m < T y then T y else m) := by
  obtain ⟨h1, h2⟩ := h
  by_cases hlt : m < T y
  · rw [if_pos hlt, if_pos hlt]
    refine ⟨fun z hz => ?_, Or.inr ⟨by omega, y, (hS y).mpr (Or.inr rfl), rfl, rfl, fun z hz e => ?_⟩⟩
    · rcases (hS z).mp hz with q | q
      · have := h1 z q
        omega
      · rw [q]
        exact Nat.le_refl _
    · rcases (hS z).mp hz with q | q
      · have := h1 z q
        omega
      · omega
  · rw [if_neg hlt, if_neg hlt]
    refine ⟨fun z hz => ?_, ?_⟩
    · rcases (hS z).mp hz with q | q
      · exact h1 z q
      · rw [q]
        omega
    · rcases h2 with q | ⟨q1, w, q2, q3, q4, q5⟩
      · exact Or.inl q
      · refine Or.inr ⟨q1, w, (hS w).mpr (Or.inl q2), q3, q4, fun z hz e => ?_⟩
        rcases (hS z).mp hz with q | q
        · exact q5 z q e
        · rw [q]
          exact hle w q2
theorem BestP.same {T : Nat → Nat} {S S' : Nat → Prop} {b b' : Int32} {m m' : Nat} (h : BestP T S b m) (h' : BestP T S' b' m') (e1 : ∀ z, S z → 0 < T z → S' z) (e2 : ∀ z, S' z → 0 < T z → S z) : b = b' := by
  obtain ⟨h1, h2⟩ := h
  obtain ⟨g1, g2⟩ := h'
  rcases h2 with ⟨q1, q2⟩ | ⟨q1, w, q2, q3, q4, q5⟩
  · rcases g2 with ⟨r1, r2⟩ | ⟨r1, v, r2, r3, r4, r5⟩
    · rw [q2, r2]
    · have := h1 v (e2 v r2 (by omega))
      omega
  · rcases g2 with ⟨r1, r2⟩ | ⟨r1, v, r2, r3, r4, r5⟩
    · have := g1 w (e1 w q2 (by omega))
      omega
    · have a1 := h1 v (e2 v r2 (by omega))
      have a2 := g1 w (e1 w q2 (by omega))
      have em : m = m' := by omega
      have b1 := q5 v (e2 v r2 (by omega)) (by omega)
      have b2 := r5 w (e1 w q2 (by omega)) (by omega)
      rw [q4, r4, show w = v by omega]
theorem lk_best {T yr : Nat → Nat} {wy y : Nat → Int32} {n : Nat} (hT : ∀ z, T z < 2 ^ 31) (hw : ∀ i, i < n → wy i = nI (T (yr i))) (hy : ∀ i, i < n → y i = nI (yr i)) (hs : ∀ i j, i < j → j < n → yr i ≤ yr j) :
    ∀ (k i m : Nat) (b : Int32) (S : Nat → Prop), i + k = n → m < 2 ^ 31 → BestP T S b m → (∀ z, S z ↔ ∃ j, j < i ∧ yr j = z) → ∃ (m' : Nat) (S' : Nat → Prop), BestP T S' (lkL wy y k i b (nI m)) m' ∧ (∀ z, S' z ↔ ∃ j, j < n ∧ yr j = z) := by
  intro k
  induction k with
  | zero =>
    intro i m b S hk hm h hS
    obtain rfl : n = i := by omega
    exact ⟨m, S, h, hS⟩
  | succ k ih =>
    intro i m b S hk hm h hS
    have hi : i < n := by omega
    have hst : BestP T (fun z => S z ∨ z = yr i) (if m < T (yr i) then nI (yr i) else b) (if m < T (yr i) then T (yr i) else m) := h.step (fun z => Iff.rfl) (fun z hz => by
      obtain ⟨j, hj, rfl⟩ := (hS z).mp hz
      exact hs j i hj hi)
    have e : lkL wy y (k + 1) i b (nI m) = lkL wy y k (i + 1) (if m < T (yr i) then nI (yr i) else b) (nI (if m < T (yr i) then T (yr i) else m)) := by
      show (if nI m < wy i then lkL wy y k (i + 1) (y i) (wy i) else lkL wy y k (i + 1) b (nI m)) = _
      rw [hw i hi, hy i hi]
      by_cases q : m < T (yr i)
      · rw [if_pos ((nI_ltI hm (hT _)).mpr q), if_pos q, if_pos q]
      · rw [if_neg (fun z => q ((nI_ltI hm (hT _)).mp z)), if_neg q, if_neg q]
    rw [e]
    refine ih (i + 1) _ _ _ (by omega) ?_ hst (fun z => ?_)
    · split
      · exact hT _
      · exact hm
    · rw [hS z]
      constructor
      · rintro (⟨j, hj, rfl⟩ | rfl)
        · exact ⟨j, by omega, rfl⟩
        · exact ⟨i, by omega, rfl⟩
      · rintro ⟨j, hj, rfl⟩
        by_cases e2 : j = i
        · subst e2
          exact Or.inr rfl
        · exact Or.inl ⟨j, by omega, rfl⟩
theorem mlk_best {T : Nat → Nat} {v : Nat → Int64} (hT : ∀ z, T z < 2 ^ 31) (hv : ∀ y, y < 100 → v y = lN (T y)) : ∀ y, y ≤ 100 → ∃ m, m < 2 ^ 31 ∧ (mlkS v y).2 = lN m ∧ BestP T (fun z => z < y) (mlkS v y).1 m := by
  intro y
  induction y with
  | zero =>
    intro _
    exact ⟨0, by omega, rfl, fun z hz => absurd hz (Nat.not_lt_zero z), Or.inl ⟨rfl, rfl⟩⟩
  | succ y ih =>
    intro hy
    obtain ⟨m, m1, m2, m3⟩ := ih (by omega)
    have hst := m3.step (S' := fun z => z < y + 1) (y := y) (fun z => by omega) (fun z hz => Nat.le_of_lt hz)
    have e : mlkS v (y + 1) = (if m < T y then (nI y, lN (T y)) else mlkS v y) := by
      show (if (mlkS v y).2 < v y then (nI y, v y) else mlkS v y) = _
      rw [m2, hv y (by omega)]
      by_cases q : m < T y
      · rw [if_pos ((lN_lt m1 (hT y)).mpr q), if_pos q]
      · rw [if_neg (fun z => q ((lN_lt m1 (hT y)).mp z)), if_neg q]
    rw [e]
    refine ⟨if m < T y then T y else m, ?_, ?_, ?_⟩
    · split
      · exact hT _
      · exact m1
    · by_cases q : m < T y
      · rw [if_pos q, if_pos q]
      · rw [if_neg q, if_neg q, m2]
    · by_cases q : m < T y
      · rw [if_pos q] at hst ⊢
        rw [if_pos q] at hst ⊢
        exact hst
      · rw [if_neg q] at hst ⊢
        rw [if_neg q] at hst ⊢
        exact hst
theorem Z_likeliest {I : HI} {J : HJ} (hr : Rel I J) (du he : Int32) : Both mX6_likeliest mX7_likeliest [.int du, .int he] I J := by
  obtain ⟨nf, nk, yr, -, hl, hb, -⟩ := id hr
  obtain ⟨n, g, b1, b3, b4, hg⟩ := wt_eq hl hb du he
  obtain ⟨a1, a2, a3, a4, a5, a6, -⟩ := id hl
  have n12 : n ≤ 12 := Nat.le_trans b1 a2
  cases hok : (inr du (nI 0) (nI 9) && inr he (nI 1) (nI 9)) with
  | false => exact Both.pure hr (S_likeliest_bad (d := 5) hok) (S_mlikeliest_bad (d := 5) hok)
  | true =>
    have hb31 : ∀ z, sN (fun i => if yr i = z then g i else 0) n ≤ n * 18000 := fun z => sN_le (fun i hi => by
      show (if yr i = z then g i else 0) ≤ 18000
      split
      · exact (hg i hi).1
      · omega)
    obtain ⟨T, hTd⟩ : ∃ T : Nat → Nat, T = fun z => sN (fun i => if yr i = z then g i else 0) n := ⟨_, rfl⟩
    have hT : ∀ z, T z < 2 ^ 31 := fun z => by
      rw [hTd]
      have := hb31 z
      show sN (fun i => if yr i = z then g i else 0) n < 2 ^ 31
      omega
    have hw : ∀ i, i < n → sI (wyI (I 17) (I 5) (I 8) (I 7) (I 4 3) du he (I 5 i)) n = nI (T (yr i)) := fun i hi => by
      rw [hTd]
      refine sI_N (fun k hk => ?_)
      unfold wyI
      rw [(a5 k (by omega)).1, (a5 i (by omega)).1]
      by_cases q : yr k = yr i
      · rw [if_pos q, q, if_pos rfl, (hg k hk).2.1]
      · rw [if_neg q, if_neg (fun z => q ((nI_eq (by have := (a5 k (by omega)).2.2; omega) (by have := (a5 i (by omega)).2.2; omega)).mp z))]
        rfl
    have hv : ∀ y, y < 100 → mwsJ I du he (nI y) n = lN (T y) := fun y hy => by
      rw [hTd]
      refine sJ_N (fun k hk => ?_)
      show (if nI y < 0 ∨ I 48 (4 * k) = nI y then mwL I du he k else 0) = lN (if yr k = y then g k else 0)
      rw [(a5 k (by omega)).2.1]
      by_cases q : yr k = y
      · rw [if_pos (Or.inr (by rw [q])), if_pos q, (hg k hk).2.2]
      · rw [if_neg (fun z => z.elim (nI_pos (by omega)) (fun w => q ((nI_eq (by have := (a5 k (by omega)).2.2; omega) (by omega)).mp w))), if_neg q]
        rfl
    obtain ⟨m', S', c1, c2⟩ := lk_best (T := T) (yr := yr) (wy := fun i => sI (wyI (I 17) (I 5) (I 8) (I 7) (I 4 3) du he (I 5 i)) n) (y := I 5) (n := n) hT hw (fun i hi => (a5 i (by omega)).1) (fun i j hij hj => a6 i j hij (by omega)) n 0 0 (-4) (fun _ => False) (by omega) (by omega) ⟨fun z hz => hz.elim, Or.inl ⟨rfl, rfl⟩⟩ (fun z => ⟨fun h => h.elim, fun ⟨j, hj, _⟩ => absurd hj (Nat.not_lt_zero j)⟩)
    obtain ⟨m, m1, m2, m3⟩ := mlk_best (T := T) (v := fun y => mwsJ I du he (nI y) n) hT hv 100 (Nat.le_refl _)
    have pos : ∀ z, 0 < T z → ∃ j, j < n ∧ yr j = z := fun z hz => by
      rcases Classical.em (∃ j, j < n ∧ yr j = z) with q | q
      · exact q
      · have h0 : T z = 0 := by
          rw [hTd]
          have := sN_cg (f := fun i => if yr i = z then g i else 0) (g := fun _ => 0) n (fun i hi => if_neg (fun w => q ⟨i, hi, w⟩))
          show sN (fun i => if yr i = z then g i else 0) n = 0
          rw [this]
          have h1 := sN_le (g := fun _ => 0) (n := n) (b := 0) (fun i hi => Nat.le_refl 0)
          omega
        omega
    have ev := c1.same m3 (fun z hz hz2 => by
      obtain ⟨j, hj, rfl⟩ := (c2 z).mp hz
      exact (a5 j (by omega)).2.2) (fun z hz hz2 => (c2 z).mpr (pos z hz2))
    have h2 := S_mlikeliest (d := 4) (J := J) hok b4 n12
    rw [← ev] at h2
    exact Both.pure hr (S_likeliest (d := 5) hok b3 n12) h2
