/-! call by call: a fall comes in, a thaw -/
theorem outN_0 {l q : Nat → Nat} {i : Nat} : ∀ ns : Nat, (∀ s, s < ns → l s ≠ i) → outN l q i ns = 0 := by
  intro ns
  induction ns with
  | zero => intro _; rfl
  | succ ns ih =>
    intro h
    have := ih (fun s hs => h s (by omega))
    unfold outN at this ⊢
    unfold sN
    rw [this, if_neg (h ns (by omega))]
theorem Z_fall {I : HI} {J : HJ} (hr : Rel I J) : Both mX6_fall mX7_fall [] I J := by
  obtain ⟨nf, nk, yr, -, hl, hb, -⟩ := id hr
  obtain ⟨n, ns, b1, b2, b3, b4, b5, b6, b7, b8⟩ := bar_t hb
  have hfb := fits_bears hl
  obtain ⟨a1, a2, a3, a4, a5, a6, a7, a8, a9, a10, -⟩ := id hl
  by_cases hlt : n < nf
  · have eB : mfallB I n = fallB I n := by
      unfold mfallB fallB
      rw [hfb, (a7 n hlt).1, (a8 n hlt).1, sI_cg (f := I 51) (g := I 17) (n := n) (fun i hi => (b8 i hi).1), sI_cg (f := fun j => I 51 j * I 48 (4 * j + 2)) (g := fun j => I 17 j * I 7 j) (n := n) (fun i hi => by
        show I 51 i * I 48 (4 * i + 2) = I 17 i * I 7 i
        rw [(b8 i hi).1, (a8 i (by omega)).1])]
    refine ⟨_, S_fall (d := 5) a3 a2 b3 hlt, fun x I1 J1 hp => ?_⟩
    obtain ⟨e1, e2, e3⟩ := hp
    cases hB : fallB I n with
    | false =>
      rw [hB] at e1 e2
      have e2' : I1 = I := e2
      rw [e2', e3]
      refine ⟨_, S_mfall (d := 5) a4 a2 b4 hlt, fun y I2 J2 hp2 => ?_⟩
      obtain ⟨f1, f2, f3⟩ := hp2
      rw [eB, hB] at f1 f2
      have f2' : I2 = I := f2
      rw [f1, f2', f3, e1]
      exact ⟨rfl, hr⟩
    | true =>
      rw [hB] at e1 e2
      have e2' : I1 = fallH I n := e2
      have r1 : ∀ a, a ≠ 16 → a ≠ 17 → a ≠ 18 → I1 a = I a := fun a h1 h2 h3 => by
        rw [e2']
        unfold fallH
        rw [wr_ne h1, wr_ne h3, wr_ne h2]
      have eB1 : mfallB I1 n = true := by
        rw [← hB, ← eB]
        unfold mfallB fitsB
        rw [r1 51 (by omega) (by omega) (by omega), r1 48 (by omega) (by omega) (by omega), r1 46 (by omega) (by omega) (by omega)]
      refine ⟨_, S_mfall (d := 5) (n := n) (nf := nf) (by rw [r1 47 (by omega) (by omega) (by omega)]; exact a4) a2 (by rw [r1 50 (by omega) (by omega) (by omega)]; exact b4) hlt, fun y I2 J2 hp2 => ?_⟩
      obtain ⟨f1, f2, f3⟩ := hp2
      rw [eB1] at f1 f2
      have f2' : I2 = mfallH I1 n := f2
      rw [f1, f3, e1, e3]
      have r2 : ∀ a, a ≠ 50 → a ≠ 51 → a ≠ 52 → I2 a = I1 a := fun a h1 h2 h3 => by
        rw [f2']
        unfold mfallH
        rw [wr_ne h1, wr_ne h3, wr_ne h2]
      have r50 : ∀ b, b ≠ 0 → I2 50 b = I 50 b := fun b h1 => by
        rw [f2']
        unfold mfallH
        rw [wr_nk h1, wr_ne (by omega), wr_ne (by omega), r1 50 (by omega) (by omega) (by omega)]
      have r51 : ∀ b, b ≠ n → I2 51 b = I 51 b := fun b h1 => by
        rw [f2']
        unfold mfallH
        rw [wr_ne (by omega), wr_ne (by omega), wr_nk h1, r1 51 (by omega) (by omega) (by omega)]
      have r52 : ∀ b, b ≠ n → I2 52 b = I 52 b := fun b h1 => by
        rw [f2']
        unfold mfallH
        rw [wr_ne (by omega), wr_nk h1, wr_ne (by omega), r1 52 (by omega) (by omega) (by omega)]
      have g50 : I2 50 0 = nI (n + 1) := by rw [f2']; exact wr_hit
      have g51 : I2 51 n = nI 10 * I 48 (4 * n + 1) := by
        rw [f2']
        unfold mfallH
        rw [wr_ne (by omega), wr_ne (by omega), wr_hit, r1 48 (by omega) (by omega) (by omega)]
      have g52 : I2 52 n = I 48 (4 * n + 3) := by
        rw [f2']
        unfold mfallH
        rw [wr_ne (by omega), wr_hit, r1 48 (by omega) (by omega) (by omega)]
      have h16 : I2 16 0 = nI (n + 1) := by rw [r2 16 (by omega) (by omega) (by omega), e2']; exact wr_hit
      have h16o : ∀ b, b ≠ 0 → I2 16 b = I 16 b := fun b h1 => by
        rw [r2 16 (by omega) (by omega) (by omega), e2']
        unfold fallH
        rw [wr_nk h1, wr_ne (by omega), wr_ne (by omega)]
      have h17 : I2 17 n = nI 10 * I 6 n := by
        rw [r2 17 (by omega) (by omega) (by omega), e2']
        unfold fallH
        rw [wr_ne (by omega), wr_ne (by omega), wr_hit]
      have h17o : ∀ b, b ≠ n → I2 17 b = I 17 b := fun b h1 => by
        rw [r2 17 (by omega) (by omega) (by omega), e2']
        unfold fallH
        rw [wr_ne (by omega), wr_ne (by omega), wr_nk h1]
      have h18 : I2 18 n = I 8 n := by
        rw [r2 18 (by omega) (by omega) (by omega), e2']
        unfold fallH
        rw [wr_ne (by omega), wr_hit]
      have h18o : ∀ b, b ≠ n → I2 18 b = I 18 b := fun b h1 => by
        rw [r2 18 (by omega) (by omega) (by omega), e2']
        unfold fallH
        rw [wr_ne (by omega), wr_nk h1, wr_ne (by omega)]
      have ro : ∀ a, a ≠ 16 → a ≠ 17 → a ≠ 18 → a ≠ 50 → a ≠ 51 → a ≠ 52 → I2 a = I a := fun a h1 h2 h3 h4 h5 h6 => (r2 a h4 h5 h6).trans (r1 a h1 h2 h3)
      refine ⟨rfl, hr.bar (fun a b h => ?_) (fun b hb => rfl) (fun nf' yr' hl' hb' => ?_)⟩
      · unfold barP at h
        by_cases q1 : a = 50
        · subst q1; exact r50 b (by omega)
        · by_cases q2 : a = 51
          · subst q2; exact r51 b (by omega)
          · by_cases q3 : a = 52
            · subst q3; exact r52 b (by omega)
            · rw [ro a (by omega) (by omega) (by omega) q1 q2 q3]
      · obtain ⟨n', ns', t, l, q, c1, c2, c3, c4, c5, c6, c7, c8, c9⟩ := hb'
        have en : n' = n := (nI_eq (by have := hl'.2.1; omega) (by omega)).mp (c3.symm.trans b3)
        subst en
        have enf : nf' = nf := (nI_eq (by have := hl'.2.1; omega) (by omega)).mp (hl'.2.2.1.symm.trans a3)
        subst enf
        obtain ⟨x6, x61, x62, x63⟩ := (a7 n' hlt).2
        refine ⟨n' + 1, ns', fun i => if i = n' then 10 * x6 else t i, l, q, hlt, c2, h16, g50, by rw [h16o 3 (by omega), c5], by rw [h16o 4 (by omega), c6], by rw [ro 54 (by omega) (by omega) (by omega) (by omega) (by omega) (by omega), c7], fun i hi => ?_, fun s hs => ?_⟩
        · rw [Nat.mul_zero, Nat.zero_add]
          by_cases ei : i = n'
          · subst ei
            show I2 17 i = nI (if i = i then 10 * x6 else t i) ∧ I2 51 i = nI (if i = i then 10 * x6 else t i) ∧ I2 52 i = I2 18 i ∧ (if i = i then 10 * x6 else t i) + outN l q i ns' ≤ 200
            rw [if_pos rfl, h17, g51, g52, h18, (a7 i hlt).1, (a9 i hlt).1, x63, pk_mul, outN_0 ns' (fun s hs => by have := (c9 s hs).1; omega)]
            exact ⟨rfl, rfl, rfl, by omega⟩
          · have hi' : i < n' := by omega
            obtain ⟨d1, d2, d3, d4⟩ := c8 i hi'
            rw [Nat.mul_zero, Nat.zero_add] at d2 d3
            show I2 17 i = nI (if i = n' then 10 * x6 else t i) ∧ I2 51 i = nI (if i = n' then 10 * x6 else t i) ∧ I2 52 i = I2 18 i ∧ (if i = n' then 10 * x6 else t i) + outN l q i ns' ≤ 200
            rw [if_neg ei, h17o i ei, r51 i ei, r52 i ei, h18o i ei]
            exact ⟨d1, d2, d3, d4⟩
        · have d := c9 s hs
          rw [ro (16 + 3) (by omega) (by omega) (by omega) (by omega) (by omega) (by omega), ro (16 + 4) (by omega) (by omega) (by omega) (by omega) (by omega) (by omega), ro (16 + 5) (by omega) (by omega) (by omega) (by omega) (by omega) (by omega), ro 55 (by omega) (by omega) (by omega) (by omega) (by omega) (by omega)]
          exact ⟨by omega, d.2⟩
  · have en : n = nf := by omega
    subst en
    exact Both.pure hr (S_fall_no (d := 5) a3 a2 b3) (S_mfall_no (d := 5) a4 a2 b4)
theorem less_m {t m : Int32} : (if t < m then t else m) = mnI t m := by
  unfold mnI
  by_cases h : t < m
  · rw [if_pos h, if_neg (Int32.not_lt.mpr (Int32.le_of_lt h))]
  · rw [if_neg h]
    by_cases h2 : m < t
    · rw [if_pos h2]
    · rw [if_neg h2]
      exact Int32.le_antisymm (Int32.not_lt.mp h) (Int32.not_lt.mp h2)
theorem Z_thaw {I : HI} {J : HJ} (hr : Rel I J) (x : Int32) : Both mX6_thaw mX7_thaw [.int x] I J := by
  obtain ⟨nf, nk, yr, -, hl, hb, -⟩ := id hr
  obtain ⟨n, ns, b1, b2, b3, b4, b5, b6, b7, b8⟩ := bar_t hb
  obtain ⟨a1, a2, a3, a4, a5, a6, a7, a8, a9, a10, a11, a12, a13, ⟨th, th1, th2, th3⟩, -⟩ := id hl
  have n12 : n ≤ 12 := Nat.le_trans b1 a2
  cases hx : inr x (nI 0) (nI 2) with
  | false => exact Both.pure hr (S_thaw_bad (d := 6) hx) (S_mthaw_bad (d := 6) hx)
  | true =>
    refine ⟨_, S_thaw (d := 4) b3 n12 hx, fun v I1 J1 hp => ?_⟩
    obtain ⟨e1, e2, e3⟩ := hp
    have r1 : ∀ a, a ≠ 17 → I1 a = I a := fun a h => by
      rw [e2]
      funext b
      unfold meltH
      rw [if_neg (fun z => h z.1)]
    have eL : ∀ i, i < n → mlessI (I1 51) n x (I1 46 2) i = lessI (I 17) n x (I 4 2) i := fun i hi => by
      unfold mlessI lessI
      rw [r1 51 (by omega), r1 46 (by omega), a11 2 (by omega), (b8 i hi).1, less_m]
    refine ⟨_, S_mthaw (d := 6) (n := n) (by rw [r1 50 (by omega)]; exact b4) n12 hx, fun y I2 J2 hp2 => ?_⟩
    obtain ⟨f1, f2, f3⟩ := hp2
    have r2 : ∀ a, a ≠ 51 → I2 a = I1 a := fun a h => by
      rw [f2]
      exact mmeltH_o _ _ _ _ _ _ h
    have g17 : ∀ b, I2 17 b = (if b < n then I 17 b - lessI (I 17) n x (I 4 2) b else I 17 b) := fun b => by
      rw [r2 17 (by omega), e2]
      unfold meltH
      simp
    have g51 : ∀ b, I2 51 b = (if b < n then I 51 b - lessI (I 17) n x (I 4 2) b else I 51 b) := fun b => by
      rw [f2]
      unfold mmeltH
      by_cases hb2 : b < n
      · rw [if_pos ⟨rfl, hb2⟩, if_pos hb2, eL b hb2, r1 51 (by omega)]
      · rw [if_neg (fun z => hb2 z.2), if_neg hb2, r1 51 (by omega)]
    have ro : ∀ a, a ≠ 17 → a ≠ 51 → I2 a = I a := fun a h1 h2 => (r2 a h2).trans (r1 a h1)
    rw [f1, f3, e1, e3]
    refine ⟨sI_cg eL, hr.bar (fun a b h => ?_) (fun b hb => rfl) (fun nf' yr' hl' hb' => ?_)⟩
    · unfold barP at h
      by_cases q1 : a = 51
      · subst q1
        rw [g51, if_neg (by omega)]
      · rw [ro a (by omega) q1]
    · obtain ⟨n', ns', t, l, q, c1, c2, c3, c4, c5, c6, c7, c8, c9⟩ := hb'
      have en : n' = n := (nI_eq (by have := hl'.2.1; omega) (by omega)).mp (c3.symm.trans b3)
      subst en
      have key : ∀ i, i < n' → ∃ u : Nat, u ≤ t i ∧ I 17 i - lessI (I 17) n' x (I 4 2) i = nI u := fun i hi => by
        have d1 : I 17 i = nI (t i) := (c8 i hi).1
        have d4 := (c8 i hi).2.2.2
        unfold lessI
        by_cases q1 : nI (3 * i / n') = x
        · rw [if_pos q1]
          unfold mnI
          rw [d1, th3]
          by_cases q2 : nI th < nI (t i)
          · have q3 : th < t i := (nI_ltI (by omega) (by omega)).mp q2
            rw [if_pos q2, pk_sub (by omega)]
            exact ⟨t i - th, by omega, rfl⟩
          · rw [if_neg q2, pk_sub (Nat.le_refl _)]
            exact ⟨t i - t i, by omega, rfl⟩
        · rw [if_neg q1, d1, Int32.sub_zero]
          exact ⟨t i, Nat.le_refl _, rfl⟩
      refine ⟨n', ns', fun i => (I 17 i - lessI (I 17) n' x (I 4 2) i).toNatClampNeg, l, q, c1, c2, ?_, ?_, ?_, ?_, ?_, fun i hi => ?_, fun s hs => ?_⟩
      · rw [ro 16 (by omega) (by omega), c3]
      · rw [ro 50 (by omega) (by omega), c4]
      · rw [ro 16 (by omega) (by omega), c5]
      · rw [ro 16 (by omega) (by omega), c6]
      · rw [ro 54 (by omega) (by omega), c7]
      · obtain ⟨u, hu, eu⟩ := key i hi
        obtain ⟨d1, d2, d3, d4⟩ := c8 i hi
        rw [Nat.mul_zero, Nat.zero_add] at d2 d3 ⊢
        have ew : (fun i => (I 17 i - lessI (I 17) n' x (I 4 2) i).toNatClampNeg) i = u := by
          show (I 17 i - lessI (I 17) n' x (I 4 2) i).toNatClampNeg = u
          rw [eu, nI_clamp (show u < 2 ^ 31 by omega)]
        rw [ew, g17, g51, if_pos hi, if_pos hi, d2, ← d1, eu, ro 52 (by omega) (by omega), ro (16 + 2) (by omega) (by omega)]
        exact ⟨rfl, rfl, d3, by omega⟩
      · have d := c9 s hs
        rw [ro (16 + 3) (by omega) (by omega), ro (16 + 4) (by omega) (by omega), ro (16 + 5) (by omega) (by omega), ro 55 (by omega) (by omega)]
        exact d
