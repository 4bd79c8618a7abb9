/-! call by call: a sale undone, the rent -/
theorem outN_s {l q : Nat → Nat} {i ns : Nat} : outN l q i (ns + 1) = outN l q i ns + (if l ns = i then q ns else 0) := rfl
theorem Z_undo {I : HI} {J : HJ} (hr : Rel I J) : Both mX6_undo mX7_undo [] I J := by
  obtain ⟨nf, nk, yr, -, hl, hb, -⟩ := id hr
  have nf12 := hl.2.1
  obtain ⟨n, ns, t, l, q, b1, b2, b3, b4, b5, b6, b7, b8, b9⟩ := hb
  rcases Nat.eq_zero_or_pos ns with z | z
  · subst z
    exact Both.pure hr (S_undo0 (d := 6) b6) (S_mundo0 (d := 7) b7)
  · obtain ⟨k, rfl⟩ : ∃ k, ns = k + 1 := ⟨ns - 1, by omega⟩
    have s9 := b9 k (by omega)
    rw [Nat.mul_zero, Nat.zero_add, Nat.zero_add, Nat.zero_add] at s9
    obtain ⟨s1, s2, s3, s4, s5, s6⟩ := s9
    have hb8 := b8 (l k) s1
    rw [Nat.mul_zero, Nat.zero_add] at hb8
    obtain ⟨t1, t2, t3, t4⟩ := hb8
    rw [outN_s, if_pos rfl] at t4
    refine ⟨_, S_undo (d := 6) b6 (by omega) s2 (by omega), fun x I1 J1 hp => ?_⟩
    obtain ⟨e1, e2, e3⟩ := hp
    have r1 : ∀ a, a ≠ 16 → a ≠ 17 → I1 a = I a := fun a h1 h2 => by
      rw [e2]
      unfold undoH
      rw [wr_ne h1, wr_ne h2, wr_ne h1]
    refine ⟨_, S_mundo (d := 7) (k := k) (j := l k) (by rw [r1 54 (by omega) (by omega)]; exact b7) (by omega) (by rw [r1 55 (by omega) (by omega)]; exact s3) (by omega), fun y I2 J2 hp2 => ?_⟩
    obtain ⟨f1, f2, f3⟩ := hp2
    rw [r1 55 (by omega) (by omega)] at f1 f2 f3
    rw [r1 51 (by omega) (by omega)] at f2
    have ro : ∀ a, a ≠ 16 → a ≠ 17 → a ≠ 51 → a ≠ 54 → I2 a = I a := fun a h1 h2 h3 h4 => by
      rw [f2, wr_ne h3, wr_ne h4, r1 a h1 h2]
    have g54 : ∀ b, I2 54 b = if b = 0 then nI k else I 54 b := fun b => by
      rw [f2, wr_ne (by omega)]
      unfold wr
      rw [if_pos rfl, r1 54 (by omega) (by omega)]
    have g51 : ∀ b, I2 51 b = if b = l k then I 51 (l k) + I 55 (3 * k + 1) else I 51 b := fun b => by
      rw [f2]
      unfold wr
      simp [r1 51 (by omega) (by omega)]
    have g17 : ∀ b, I2 17 b = if b = l k then I 17 (l k) + I 20 k else I 17 b := fun b => by
      rw [f2, wr_ne (by omega), wr_ne (by omega), e2]
      unfold undoH wr
      simp
    have g16 : ∀ b, I2 16 b = if b = 3 then I 16 3 - I 21 k else if b = 4 then nI k else I 16 b := fun b => by
      rw [f2, wr_ne (by omega), wr_ne (by omega), e2]
      unfold undoH wr
      simp
    rw [f1, f3, e1, e3, s5, s4]
    refine ⟨rfl, hr.bar (fun a b h => ?_) (fun b hb => by rw [wr_nk hb]) (fun nf' yr' hl' hb' => ?_)⟩
    · unfold barP at h
      by_cases q1 : a = 51
      · subst q1
        rw [g51, if_neg (by omega)]
      · by_cases q2 : a = 54
        · subst q2
          rw [g54, if_neg (by omega)]
        · rw [ro a (by omega) (by omega) q1 q2]
    · have enf : nf' = nf := (nI_eq (by have := hl'.2.1; omega) (by omega)).mp (hl'.2.2.1.symm.trans hl.2.2.1)
      subst enf
      refine ⟨n, k, fun i => if i = l k then t i + q k else t i, l, q, b1, by omega, ?_, ?_, ?_, ?_, ?_, fun i hi => ?_, fun s hs => ?_⟩
      · rw [g16, if_neg (by omega), if_neg (by omega), b3]
      · rw [ro 50 (by omega) (by omega) (by omega) (by omega), b4]
      · rw [g16, if_pos rfl, wr_hit, Int64.toInt32_sub, Int32.toInt32_toInt64, b5, s6]
      · rw [g16, if_neg (by omega), if_pos rfl]
      · rw [g54, if_pos rfl]
      · obtain ⟨d1, d2, d3, d4⟩ := b8 i hi
        rw [outN_s] at d4
        rw [Nat.mul_zero, Nat.zero_add] at d2 d3 ⊢
        rw [g17, g51, ro 52 (by omega) (by omega) (by omega) (by omega), ro (16 + 2) (by omega) (by omega) (by omega) (by omega)]
        show (if i = l k then I 17 (l k) + I 20 k else I 17 i) = nI (if i = l k then t i + q k else t i) ∧ (if i = l k then I 51 (l k) + I 55 (3 * k + 1) else I 51 i) = nI (if i = l k then t i + q k else t i) ∧ _ ∧ (if i = l k then t i + q k else t i) + outN l q i k ≤ 200
        by_cases ei : i = l k
        · subst ei
          rw [if_pos rfl, if_pos rfl, if_pos rfl, s5, t2, ← nI_add]
          rw [if_pos rfl] at d4
          refine ⟨?_, rfl, d3, by omega⟩
          rw [← t1, ← s4]
        · rw [if_neg ei, if_neg ei, if_neg ei]
          exact ⟨d1, d2, d3, by omega⟩
      · have d := b9 s (by omega)
        rw [ro (16 + 3) (by omega) (by omega) (by omega) (by omega), ro (16 + 4) (by omega) (by omega) (by omega) (by omega), ro (16 + 5) (by omega) (by omega) (by omega) (by omega), ro 55 (by omega) (by omega) (by omega) (by omega)]
        exact d
