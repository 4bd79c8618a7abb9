/-! call by call: a sale undone, the rent -/
theorem outN_s {l q : Nat → Nat} {i ns : Nat} : outN l q i (ns + 1) = outN l q i ns + (if l ns = i then q ns else 0) := rfl
theorem Z_undo {I : HI} {J : HJ} (hr : Rel I J) : Both mX6_undo mX7_undo [] I J := by
  obtain ⟨nf, nk, yr, -, hl, hb, -⟩ := id hr
  have nf12 := hl.2.1
  obtain ⟨n, ns, t, l, q, b1, b2, b3, b4, b5, b6, b7, b8, b9⟩ := hb
  rcases Nat.eq_zero_or_pos ns with z | z
  · subst z
    exact Both.pure hr (S_undo0 (d := 6) b6) (S_mundo0 (d := 7) b7)
  · obtain ⟨k, rfl⟩ : ∃ k, ns = k + 1 := ⟨ns - 1, by omega⟩
    have s9 := b9 k (by omega)
    rw [Nat.mul_zero, Nat.zero_add, Nat.zero_add, Nat.zero_add] at s9
    obtain ⟨s1, s2, s3, s4, s5, s6⟩ := s9
    have hb8 := b8 (l k) s1
    rw [Nat.mul_zero, Nat.zero_add] at hb8
    obtain ⟨t1, t2, t3, t4⟩ := hb8
    rw [outN_s, if_pos rfl] at t4
    refine ⟨_, S_undo (d := 6) b6 (by omega) s2 (by omega), fun x I1 J1 hp => ?_⟩
    obtain ⟨e1, e2, e3⟩ := hp
    have r1 : ∀ a, a ≠ 16 → a ≠ 17 → I1 a = I a := fun a h1 h2 => by
      rw [e2]
      unfold undoH
      rw [wr_ne h1, wr_ne h2, wr_ne h1]
    refine ⟨_, S_mundo (d := 7) (k := k) (j := l k) (by rw [r1 54 (by omega) (by omega)]; exact b7) (by omega) (by rw [r1 55 (by omega) (by omega)]; exact s3) (by omega), fun y I2 J2 hp2 => ?_⟩
    obtain ⟨f1, f2, f3⟩ := hp2
    rw [r1 55 (by omega) (by omega)] at f1 f2 f3
    rw [r1 51 (by omega) (by omega)] at f2
    have ro : ∀ a, a ≠ 16 → a ≠ 17 → a ≠ 51 → a ≠ 54 → I2 a = I a := fun a h1 h2 h3 h4 => by
      rw [f2, wr_ne h3, wr_ne h4, r1 a h1 h2]
    have g54 : ∀ b, I2 54 b = if b = 0 then nI k else I 54 b := fun b => by
      rw [f2, wr_ne (by omega)]
      unfold wr
      rw [if_pos rfl, r1 54 (by omega) (by omega)]
    have g51 : ∀ b, I2 51 b = if b = l k then I 51 (l k) + I 55 (3 * k + 1) else I 51 b := fun b => by
      rw [f2]
      unfold wr
      simp [r1 51 (by omega) (by omega)]
    have g17 : ∀ b, I2 17 b = if b = l k then I 17 (l k) + I 20 k else I 17 b := fun b => by
      rw [f2, wr_ne (by omega), wr_ne (by omega), e2]
      unfold undoH wr
      simp
    have g16 : ∀ b, I2 16 b = if b = 3 then I 16 3 - I 21 k else if b = 4 then nI k else I 16 b := fun b => by
      rw [f2, wr_ne (by omega), wr_ne (by omega), e2]
      unfold undoH wr
      simp
    rw [f1, f3, e1, e3, s5, s4]
    refine ⟨rfl, hr.bar (fun a b h => ?_) (fun b hb => by rw [wr_nk hb]) (fun nf' yr' hl' hb' => ?_)⟩
    · unfold barP at h
      by_cases q1 : a = 51
      · subst q1
        rw [g51, if_neg (by omega)]
      · by_cases q2 : a = 54
        · subst q2
          rw [g54, if_neg (by omega)]
        · rw [ro a (by omega) (by omega) q1 q2]
    · have enf : nf' = nf := (nI_eq (by have := hl'.2.1; omega) (by omega)).mp (hl'.2.2.1.symm.trans hl.2.2.1)
      subst enf
      refine ⟨n, k, fun i => if i = l k then t i + q k else t i, l, q, b1, by omega, ?_, ?_, ?_, ?_, ?_, fun i hi => ?_, fun s hs => ?_⟩
      · rw [g16, if_neg (by omega), if_neg (by omega), b3]
      · rw [ro 50 (by omega) (by omega) (by omega) (by omega), b4]
      · rw [g16, if_pos rfl, wr_hit, Int64.toInt32_sub, Int32.toInt32_toInt64, b5, s6]
      · rw [g16, if_neg (by omega), if_pos rfl]
      · rw [g54, if_pos rfl]
      · obtain ⟨d1, d2, d3, d4⟩ := b8 i hi
        rw [outN_s] at d4
        rw [Nat.mul_zero, Nat.zero_add] at d2 d3 ⊢
        rw [g17, g51, ro 52 (by omega) (by omega) (by omega) (by omega), ro (16 + 2) (by omega) (by omega) (by omega) (by omega)]
        show (if i = l k then I 17 (l k) + I 20 k else I 17 i) = nI (if i = l k then t i + q k else t i) ∧ (if i = l k then I 51 (l k) + I 55 (3 * k + 1) else I 51 i) = nI (if i = l k then t i + q k else t i) ∧ _ ∧ (if i = l k then t i + q k else t i) + outN l q i k ≤ 200
        by_cases ei : i = l k
        · subst ei
          rw [if_pos rfl, if_pos rfl, if_pos rfl, s5, t2, ← nI_add]
          rw [if_pos rfl] at d4
          refine ⟨?_, rfl, d3, by omega⟩
          rw [← t1, ← s4]
        · rw [if_neg ei, if_neg ei, if_neg ei]
          exact ⟨d1, d2, d3, by omega⟩
      · have d := b9 s (by omega)
        rw [ro (16 + 3) (by omega) (by omega) (by omega) (by omega), ro (16 + 4) (by omega) (by omega) (by omega) (by omega), ro (16 + 5) (by omega) (by omega) (by omega) (by omega), ro 55 (by omega) (by omega) (by omega) (by omega)]
        exact d
def BothG (mc mm : MD) (as : List Value) (I : HI) (J : HJ) : Prop := ∃ Po, MG mc 7 (.ref 0 :: as) shA I J RA Po ∧ ∀ x I1 J1, Po x I1 J1 → ∃ Po2, MG mm 7 (.ref 44 :: as) shA I1 J1 RA Po2 ∧ ∀ y I2 J2, Po2 y I2 J2 → y = x ∧ Rel I2 J2
theorem BothG.pure {mc mm : MD} {as : List Value} {I : HI} {J : HJ} {x : Int64} (hr : Rel I J) (h1 : MGp mc 7 (.ref 0 :: as) shA I J RA x) (h2 : MGp mm 7 (.ref 44 :: as) shA I J RA x) : BothG mc mm as I J := by
  refine ⟨_, h1, fun x' I1 J1 hp => ?_⟩
  obtain ⟨e1, e2, e3⟩ := hp
  rw [e2, e3]
  refine ⟨_, h2, fun y I2 J2 hp2 => ?_⟩
  obtain ⟨f1, f2, f3⟩ := hp2
  rw [f1, f2, f3, e1]
  exact ⟨rfl, hr⟩
theorem Z_rent {I : HI} {J : HJ} (hr : Rel I J) (w : Int32) : BothG mX6_rent mX7_rent [.int w] I J := by
  obtain ⟨nf, nk, yr, -, hl, hb, -⟩ := id hr
  obtain ⟨n, ns, b1, b2, b3, b4, b5, b6, b7, b8⟩ := bar_t hb
  obtain ⟨a1, a2, a3, a4, a5, a6, a7, a8, a9, a10, -⟩ := id hl
  have n12 : n ≤ 12 := Nat.le_trans b1 a2
  have e9 : (999999 : Int32) = nI 999999 := by decide
  cases hw : inr w (nI 1) (nI 999999) with
  | false => exact BothG.pure hr (S_rent_bad (d := 6) (by rw [e9]; exact hw)) (S_mrent_bad (d := 6) hw)
  | true =>
    have h2 := S_mrent (d := 5) (J := J) (yr := yr) hw b4 n12 (fun i hi => ⟨(a5 i (by omega)).2.1, (a5 i (by omega)).2.2⟩)
    rw [sJ_cg (f := fun i => (I 51 i).toInt64 * (I 49 (yr i)).toInt64) (g := fun i => (I 17 i * I 9 (yr i)).toInt64) (n := n) (fun i hi => by
      obtain ⟨t, t1, t2⟩ := (b8 i hi).2.2
      obtain ⟨c0, c, c1, c2⟩ := a10 (yr i) (a5 i (by omega)).2.2
      have htc : t * c ≤ 200 * 99 := Nat.mul_le_mul t1 c1
      show (I 51 i).toInt64 * (I 49 (yr i)).toInt64 = (I 17 i * I 9 (yr i)).toInt64
      rw [(b8 i hi).1, c0, t2, c2, pk_mul, nI_l (by omega), nI_l (by omega), nI_l (by omega), lN_mul])] at h2
    exact BothG.pure hr (S_rent (d := 6) (by rw [e9]; exact hw) b3 n12 (fun i hi => ⟨(a5 i (by omega)).1, (a5 i (by omega)).2.2⟩)) h2
theorem cp_out {X : HI} {t o a b : Nat} (h : ¬ (t ≤ a ∧ a < t + 6)) : cpH X t o a b = X a b := by
  unfold cpH cp2
  rw [if_neg (by omega)]
  unfold cp1
  rw [if_neg (by omega), wr_ne (by omega), wr_ne (by omega), wr_ne (by omega)]
theorem cp_0 {X : HI} {t o : Nat} (h : ¬ (t ≤ o ∧ o < t + 6)) : cpH X t o t 0 = X o 0 ∧ cpH X t o t 3 = X o 3 ∧ cpH X t o t 4 = X o 4 := by
  unfold cpH cp2 cp1 wr
  simp
theorem cp_12 {X : HI} {t o k : Nat} (hk : k < 12) (h : t + 6 ≤ o ∨ o + 6 ≤ t) : cpH X t o (t + 1) k = X (o + 1) k ∧ cpH X t o (t + 2) k = X (o + 2) k := by
  unfold cpH cp2
  rw [if_neg (by omega), if_neg (by omega)]
  unfold cp1
  rw [if_pos ⟨Or.inl rfl, hk⟩, if_pos ⟨Or.inr rfl, hk⟩, show t + 1 - t = 1 by omega, show t + 2 - t = 2 by omega, wr_ne (by omega), wr_ne (by omega), wr_ne (by omega), wr_ne (by omega), wr_ne (by omega), wr_ne (by omega)]
  exact ⟨rfl, rfl⟩
theorem cp_8 {X : HI} {t o k : Nat} (hk : k < 8) (h : t + 6 ≤ o ∨ o + 6 ≤ t) : cpH X t o (t + 3) k = X (o + 3) k ∧ cpH X t o (t + 4) k = X (o + 4) k ∧ cpH X t o (t + 5) k = X (o + 5) k := by
  unfold cpH cp2
  rw [if_pos ⟨Or.inl rfl, hk⟩, if_pos ⟨Or.inr (Or.inl rfl), hk⟩, if_pos ⟨Or.inr (Or.inr rfl), hk⟩, show t + 3 - t = 3 by omega, show t + 4 - t = 4 by omega, show t + 5 - t = 5 by omega]
  unfold cp1
  rw [if_neg (by omega), if_neg (by omega), if_neg (by omega), wr_ne (by omega), wr_ne (by omega), wr_ne (by omega), wr_ne (by omega), wr_ne (by omega), wr_ne (by omega), wr_ne (by omega), wr_ne (by omega), wr_ne (by omega)]
  exact ⟨rfl, rfl, rfl⟩
theorem BarnR.mv {I I' : HI} {J J' : HJ} {nf p b p' b' : Nat} (h : BarnR I J nf p b) (hnf : nf ≤ 12) (h0 : I' p' 0 = I p 0) (h3 : I' p' 3 = I p 3) (h4 : I' p' 4 = I p 4) (h12 : ∀ k, k < 12 → I' (p' + 1) k = I (p + 1) k ∧ I' (p' + 2) k = I (p + 2) k) (h8 : ∀ k, k < 8 → I' (p' + 3) k = I (p + 3) k ∧ I' (p' + 4) k = I (p + 4) k ∧ I' (p' + 5) k = I (p + 5) k) (h50 : I' 50 b' = I 50 b) (h51 : ∀ i, i < 12 → I' 51 (12 * b' + i) = I 51 (12 * b + i)) (h52 : ∀ i, i < 12 → I' 52 (12 * b' + i) = I 52 (12 * b + i)) (h54 : I' 54 b' = I 54 b) (h55 : ∀ k, k < 24 → I' 55 (24 * b' + k) = I 55 (24 * b + k)) (hJ : J' 53 b' = J 53 b) : BarnR I' J' nf p' b' := by
  obtain ⟨n, ns, t, l, q, a1, a2, a3, a4, a5, a6, a7, a8, a9⟩ := h
  refine ⟨n, ns, t, l, q, a1, a2, h0.trans a3, h50.trans a4, ?_, h4.trans a6, h54.trans a7, fun i hi => ?_, fun s hs => ?_⟩
  · rw [h3, hJ]; exact a5
  · rw [(h12 i (by omega)).1, (h12 i (by omega)).2, h51 i (by omega), h52 i (by omega)]; exact a8 i hi
  · rw [(h8 s (by omega)).1, (h8 s (by omega)).2.1, (h8 s (by omega)).2.2, h55 (3 * s) (by omega), h55 (3 * s + 1) (by omega), h55 (3 * s + 2) (by omega)]; exact a9 s hs
theorem mz_50 {I : HI} {a b c : Nat} : mcpZ I a b 50 c = if c = b then I 50 a else I 50 c := by
  unfold mcpZ mcpH
  rw [if_neg (by omega), if_neg (by omega), wr_ne (by omega)]
  unfold wr
  simp
theorem mz_54 {I : HI} {a b c : Nat} : mcpZ I a b 54 c = if c = b then I 54 a else I 54 c := by
  unfold mcpZ mcpH
  rw [if_neg (by omega), if_neg (by omega)]
  unfold wr
  simp
theorem mz_5x {I : HI} {a b p k : Nat} (hp : p = 51 ∨ p = 52) (hk : k < 12) : mcpZ I a b p (12 * b + k) = I p (12 * a + k) := by
  unfold mcpZ mcpH
  rw [if_neg (by omega), if_pos ⟨hp, by omega, by omega, by omega⟩, wr_ne (by omega), wr_ne (by omega), show 12 * b + k - 12 * b = k by omega]
theorem mz_5o {I : HI} {a b p c : Nat} (hp : p = 51 ∨ p = 52) (hk : ¬ (12 * b ≤ c ∧ c < 12 * b + 12)) : mcpZ I a b p c = I p c := by
  unfold mcpZ mcpH
  rw [if_neg (by omega), if_neg (fun z => hk ⟨z.2.1, z.2.2.2⟩), wr_ne (by omega), wr_ne (by omega)]
theorem mz_55 {I : HI} {a b k : Nat} (hk : k < 24) : mcpZ I a b 55 (24 * b + k) = I 55 (24 * a + k) := by
  unfold mcpZ mcpH
  rw [if_pos ⟨rfl, by omega, by omega⟩, wr_ne (by omega), wr_ne (by omega), show 24 * b + k - 24 * b = k by omega]
theorem mz_55o {I : HI} {a b c : Nat} (hk : ¬ (24 * b ≤ c ∧ c < 24 * b + 24)) : mcpZ I a b 55 c = I 55 c := by
  unfold mcpZ mcpH
  rw [if_neg (fun z => hk z.2), if_neg (by omega), wr_ne (by omega), wr_ne (by omega)]
theorem mz_o {I : HI} {a b p c : Nat} (h : ¬ (50 ≤ p ∧ p < 56) ∨ p = 53) : mcpZ I a b p c = I p c := by
  unfold mcpZ mcpH
  rw [if_neg (by omega), if_neg (by omega), wr_ne (by omega), wr_ne (by omega)]
