/-! call by call: the carts -/
theorem mv_eq {ld ld2 : Nat → Int32} {W n : Nat} (hW : W ≤ 9990) (h1 : ∀ i, i < n → ld2 i = ld i ∧ ∃ L : Nat, L ≤ 1800 ∧ ld i = nI L) : ∀ (k i g : Nat) (on has : Int32), i + k = n → (g = 0 ∧ on = nI 0 ∧ has = nI W) ∨ (0 < g ∧ ∃ h : Nat, h ≤ W ∧ on = nI h ∧ has = nI h) → mmvF ld2 (nI W) k i g has = mvL ld (nI W) k i g on := by
  intro k
  induction k with
  | zero =>
    intro i g on has hk hinv
    show (if g = 0 then nI 0 else nI (2 * g) - nI 1) = mvEnd g
    unfold mvEnd
    by_cases hg : g = 0
    · simp [hg]
    · simp only [hg, if_false]
      rw [pk_mul]
  | succ k ih =>
    intro i g on has hk hinv
    obtain ⟨e0, L, hL, eL⟩ := h1 i (by omega)
    show (if nI W < ld2 i then -4 else mmvF ld2 (nI W) k (i + 1) (if nI W < has + ld2 i ∧ 0 < ld2 i then g + 1 else g) (if nI W < has + ld2 i then ld2 i else has + ld2 i)) = (if nI W < ld i then -4 else if 0 < ld i ∧ (g = 0 ∨ nI W < on + ld i) then mvL ld (nI W) k (i + 1) (g + 1) (nI 0 + ld i) else mvL ld (nI W) k (i + 1) g (on + ld i))
    rw [e0, eL]
    have c0 : (0 : Int32) < nI L ↔ 0 < L := by
      rw [← nI_0]
      exact nI_ltI (by omega) (by omega)
    by_cases hbig : nI W < nI L
    · rw [if_pos hbig, if_pos hbig]
    · rw [if_neg hbig, if_neg hbig]
      have hLW : L ≤ W := by
        rcases Nat.lt_or_ge W L with z | z
        · exact absurd ((nI_ltI (by omega) (by omega)).mpr z) hbig
        · exact z
      rcases hinv with ⟨rfl, rfl, rfl⟩ | ⟨hg, h, hh, rfl, rfl⟩
      · have c1 : nI W < nI W + nI L ↔ 0 < L := by
          rw [nI_add, nI_ltI (by omega) (by omega)]
          omega
        by_cases hL0 : 0 < L
        · rw [if_pos ⟨c1.mpr hL0, c0.mpr hL0⟩, if_pos (c1.mpr hL0), if_pos ⟨c0.mpr hL0, Or.inl rfl⟩]
          refine ih (i + 1) _ _ _ (by omega) (Or.inr ⟨by omega, L, hLW, ?_, rfl⟩)
          rw [nI_add, Nat.zero_add]
        · rw [if_neg (fun z => hL0 (c0.mp z.2)), if_neg (fun z => hL0 (c1.mp z)), if_neg (fun z => hL0 (c0.mp z.1))]
          have : L = 0 := by omega
          subst this
          refine ih (i + 1) _ _ _ (by omega) (Or.inl ⟨rfl, ?_, ?_⟩)
          · rw [nI_add]
          · rw [nI_add, Nat.add_zero]
      · have c1 : nI W < nI h + nI L ↔ W < h + L := by
          rw [nI_add, nI_ltI (by omega) (by omega)]
        by_cases hq : W < h + L
        · have hL0 : 0 < L := by omega
          rw [if_pos ⟨c1.mpr hq, c0.mpr hL0⟩, if_pos (c1.mpr hq), if_pos ⟨c0.mpr hL0, Or.inr (c1.mpr hq)⟩]
          refine ih (i + 1) _ _ _ (by omega) (Or.inr ⟨by omega, L, hLW, ?_, rfl⟩)
          rw [nI_add, Nat.zero_add]
        · rw [if_neg (fun z => hq (c1.mp z.1)), if_neg (fun z => hq (c1.mp z)), if_neg (fun z => z.2.elim (fun w => by omega) (fun w => hq (c1.mp w)))]
          refine ih (i + 1) _ _ _ (by omega) (Or.inr ⟨hg, h + L, by omega, ?_, ?_⟩)
          · rw [nI_add]
          · rw [nI_add]
theorem Z_moved {I : HI} {J : HJ} (hr : Rel I J) (w : Int32) : Both mX6_moved mX7_moved [.int w] I J := by
  obtain ⟨nf, nk, yr, -, hl, hb, -⟩ := id hr
  obtain ⟨n, ns, b1, b2, b3, b4, b5, b6, b7, b8⟩ := bar_t hb
  obtain ⟨a1, a2, a3, a4, a5, a6, a7, a8, a9, a10, -⟩ := id hl
  have n12 : n ≤ 12 := Nat.le_trans b1 a2
  cases hw : inr w (nI 10) (nI 9990) with
  | false => exact Both.pure hr (S_moved_bad (d := 6) hw) (S_mmoved_bad (d := 6) hw)
  | true =>
    obtain ⟨W, w1, w2, rfl⟩ := inr_nI2 (by decide) hw (by decide)
    have h2 := S_mmoved (d := 6) (J := J) hw b4 n12
    rw [mv_eq (ld := fun i => I 17 i * I 7 i) (n := n) w2 (fun i hi => by
      obtain ⟨t, t1, t2⟩ := (b8 i hi).2.2
      obtain ⟨c0, c, c1, c2, c3⟩ := a8 i (by omega)
      have htc : t * c ≤ 200 * 9 := Nat.mul_le_mul t1 c2
      refine ⟨?_, t * c, htc, ?_⟩
      · show I 51 i * I 48 (4 * i + 2) = I 17 i * I 7 i
        rw [(b8 i hi).1, c0]
      · show I 17 i * I 7 i = nI (t * c)
        rw [t2, c3, pk_mul]) n 0 0 (nI 0) (nI W) (by omega) (Or.inl ⟨rfl, rfl, rfl⟩)] at h2
    exact Both.pure hr (S_moved (d := 6) hw b3 n12) h2
