/-! weights, as either side counts them -/
theorem wt_eq {I : HI} {J : HJ} {nf : Nat} {yr : Nat → Nat} (hl : LaidR I nf yr) (hb : BarnR I J nf 16 0) (du he : Int32) : ∃ (n : Nat) (g : Nat → Nat), n ≤ nf ∧ I 16 0 = nI n ∧ I 50 0 = nI n ∧ ∀ i, i < n → g i ≤ 18000 ∧ wI (I 17) (I 8) (I 7) (I 4 3) du he i = nI (g i) ∧ mwL I du he i = lN (g i) := by
  obtain ⟨n, ns, b1, b2, b3, b4, b5, b6, b7, b8⟩ := bar_t hb
  obtain ⟨a1, a2, a3, a4, a5, a6, a7, a8, a9, a10, a11, a12, a13, a14, ⟨s, s1, s2⟩, -⟩ := id hl
  have key : ∀ i, i < n → ∃ g : Nat, g ≤ 18000 ∧ wI (I 17) (I 8) (I 7) (I 4 3) du he i = nI g ∧ mwL I du he i = lN g := fun i hi => by
    obtain ⟨t, t1, t2⟩ := (b8 i hi).2.2
    have e8 := (a9 i (by omega)).1
    have e7 := (a8 i (by omega)).1
    have u : ∃ u : Nat, u ≤ 10 ∧ (if du = I 8 i then nI 10 - nI s else nI s) = nI u := by
      by_cases h : du = I 8 i
      · rw [if_pos h, pk_sub (by omega)]
        exact ⟨10 - s, by omega, rfl⟩
      · rw [if_neg h]
        exact ⟨s, by omega, rfl⟩
    have v : ∃ v : Nat, v ≤ 9 ∧ (if he = I 7 i then nI 9 else nI 1) = nI v := by
      by_cases h : he = I 7 i
      · rw [if_pos h]
        exact ⟨9, by omega, rfl⟩
      · rw [if_neg h]
        exact ⟨1, by omega, rfl⟩
    obtain ⟨u, u1, u2⟩ := u
    obtain ⟨v, v1, v2⟩ := v
    have p1 : t * u ≤ 200 * 10 := Nat.mul_le_mul t1 u1
    have p2 : t * u * v ≤ 2000 * 9 := Nat.mul_le_mul p1 v1
    refine ⟨t * u * v, p2, ?_, ?_⟩
    · unfold wI
      rw [s2, u2, v2, t2, pk_mul, pk_mul]
    · unfold mwL
      rw [e8, e7, a11 3 (by omega), s2, u2, v2, (b8 i hi).1, t2, nI_l (by omega), nI_l (by omega), nI_l (by omega), lN_mul, lN_mul]
  refine ⟨n, fun i => if h : i < n then (key i h).choose else 0, b1, b3, b4, fun i hi => ?_⟩
  have e : (fun i => if h : i < n then (key i h).choose else 0) i = (key i hi).choose := by
    show (if h : i < n then (key i h).choose else 0) = _
    rw [dif_pos hi]
  rw [e]
  exact (key i hi).choose_spec
