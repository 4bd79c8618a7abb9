/-! call by call: the likeliest year -/
def BestP (T : Nat → Nat) (S : Nat → Prop) (b : Int32) (m : Nat) : Prop := (∀ y, S y → T y ≤ m) ∧ ((m = 0 ∧ b = -4) ∨ (0 < m ∧ ∃ y, S y ∧ T y = m ∧ b = nI y ∧ ∀ y', S y' → T y' = m → y ≤ y'))
theorem BestP.step {T : Nat → Nat} {S S' : Nat → Prop} {b : Int32} {m y : Nat} (h : BestP T S b m) (hS : ∀ z, S' z ↔ S z ∨ z = y) (hle : ∀ z, S z → z ≤ y) : BestP T S' (if m < T y then nI y else b) (if m < T y then T y else m) := by
  obtain ⟨h1, h2⟩ := h
  by_cases hlt : m < T y
  · rw [if_pos hlt, if_pos hlt]
    refine ⟨fun z hz => ?_, Or.inr ⟨by omega, y, (hS y).mpr (Or.inr rfl), rfl, rfl, fun z hz e => ?_⟩⟩
    · rcases (hS z).mp hz with q | q
      · have := h1 z q
        omega
      · rw [q]
        exact Nat.le_refl _
    · rcases (hS z).mp hz with q | q
      · have := h1 z q
        omega
      · omega
  · rw [if_neg hlt, if_neg hlt]
    refine ⟨fun z hz => ?_, ?_⟩
    · rcases (hS z).mp hz with q | q
      · exact h1 z q
      · rw [q]
        omega
    · rcases h2 with q | ⟨q1, w, q2, q3, q4, q5⟩
      · exact Or.inl q
      · refine Or.inr ⟨q1, w, (hS w).mpr (Or.inl q2), q3, q4, fun z hz e => ?_⟩
        rcases (hS z).mp hz with q | q
        · exact q5 z q e
        · rw [q]
          exact hle w q2
theorem BestP.same {T : Nat → Nat} {S S' : Nat → Prop} {b b' : Int32} {m m' : Nat} (h : BestP T S b m) (h' : BestP T S' b' m') (e1 : ∀ z, S z → 0 < T z → S' z) (e2 : ∀ z, S' z → 0 < T z → S z) : b = b' := by
  obtain ⟨h1, h2⟩ := h
  obtain ⟨g1, g2⟩ := h'
  rcases h2 with ⟨q1, q2⟩ | ⟨q1, w, q2, q3, q4, q5⟩
  · rcases g2 with ⟨r1, r2⟩ | ⟨r1, v, r2, r3, r4, r5⟩
    · rw [q2, r2]
    · have := h1 v (e2 v r2 (by omega))
      omega
  · rcases g2 with ⟨r1, r2⟩ | ⟨r1, v, r2, r3, r4, r5⟩
    · have := g1 w (e1 w q2 (by omega))
      omega
    · have a1 := h1 v (e2 v r2 (by omega))
      have a2 := g1 w (e1 w q2 (by omega))
      have em : m = m' := by omega
      have b1 := q5 v (e2 v r2 (by omega)) (by omega)
      have b2 := r5 w (e1 w q2 (by omega)) (by omega)
      rw [q4, r4, show w = v by omega]
