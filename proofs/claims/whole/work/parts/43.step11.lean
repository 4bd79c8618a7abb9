/-! call by call: the nearest year -/
def dsN (Y z : Nat) : Nat := if z ≤ Y then Y - z else z - Y
def NeP (Y : Nat) (Q S : Nat → Prop) (b : Int32) (m : Nat) : Prop := (∀ z, S z → Q z → m ≤ dsN Y z) ∧ ((m = 100 ∧ b = -4) ∨ (m < 100 ∧ ∃ z, S z ∧ Q z ∧ dsN Y z = m ∧ b = nI z ∧ ∀ z', S z' → Q z' → dsN Y z' = m → z ≤ z'))
theorem NeP.model {tf : Nat → Int32} {Y m : Nat} {q b : Int32} {S : Nat → Prop} (hY : Y < 100) (h : NeP Y (fun z => q ≤ tf z) S b m) (hS : ∀ z, S z → z < 100) (hall : ∀ z, z < 100 → q ≤ tf z → S z) :
    ∀ (k d : Nat), d + k = 100 → (∀ z, z < 100 → q ≤ tf z → d ≤ dsN Y z) → mneL tf Y q k d = b := by
  obtain ⟨h1, h2⟩ := h
  intro k
  induction k with
  | zero =>
    intro d hd hno
    rcases h2 with ⟨q1, q2⟩ | ⟨q1, z, q2, q3, q4, q5, q6⟩
    · rw [q2]
      rfl
    · have := hno z (hS z q2) q3
      omega
  | succ k ih =>
    intro d hd hno
    show (if d ≤ Y ∧ q ≤ tf (Y - d) then nI (Y - d) else if Y + d < 100 ∧ q ≤ tf (Y + d) then nI (Y + d) else mneL tf Y q k (d + 1)) = b
    by_cases c1 : d ≤ Y ∧ q ≤ tf (Y - d)
    · rw [if_pos c1]
      have s1 := hall (Y - d) (by omega) c1.2
      have e1 : dsN Y (Y - d) = d := by
        unfold dsN
        rw [if_pos (by omega)]
        omega
      have m1 := h1 _ s1 c1.2
      rcases h2 with ⟨q1, q2⟩ | ⟨q1, z, q2, q3, q4, q5, q6⟩
      · omega
      · have d1 := hno z (hS z q2) q3
        have l1 := q6 _ s1 c1.2 (by omega)
        have e2 : z = Y - d := by
          unfold dsN at q4 d1
          split at q4 <;> split at d1 <;> omega
        rw [q5, e2]
    · rw [if_neg c1]
      by_cases c2 : Y + d < 100 ∧ q ≤ tf (Y + d)
      · rw [if_pos c2]
        have s1 := hall (Y + d) c2.1 c2.2
        have e1 : dsN Y (Y + d) = d := by
          unfold dsN
          split <;> omega
        have m1 := h1 _ s1 c2.2
        rcases h2 with ⟨q1, q2⟩ | ⟨q1, z, q2, q3, q4, q5, q6⟩
        · omega
        · have d1 := hno z (hS z q2) q3
          have e2 : z = Y + d := by
            have hzd : dsN Y z = d := by omega
            unfold dsN at hzd
            split at hzd
            · exfalso
              apply c1
              refine ⟨by omega, ?_⟩
              rw [show Y - d = z by omega]
              exact q3
            · omega
          rw [q5, e2]
      · rw [if_neg c2]
        refine ih (d + 1) (by omega) (fun z hz hq => ?_)
        have d1 := hno z hz hq
        rcases Nat.lt_or_ge d (dsN Y z) with w | w
        · exact w
        · exfalso
          have hzd : dsN Y z = d := by omega
          unfold dsN at hzd
          split at hzd
          · apply c1
            refine ⟨by omega, ?_⟩
            rw [show Y - d = z by omega]
            exact hq
          · apply c2
            refine ⟨by omega, ?_⟩
            rw [show Y + d = z by omega]
            exact hq
