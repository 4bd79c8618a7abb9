/-! call by call: class and reference answer alike, the plain ones -/
theorem in0_of {i : Int32} {n : Nat} (hn : n ≤ 400) (h : inr i (nI 0) (nI n - nI 1) = true) : ∃ j, j < n ∧ i = nI j := by
  rcases Nat.eq_zero_or_pos n with z | z
  · subst z
    unfold inr at h
    rw [Bool.and_eq_true, decide_eq_true_eq, decide_eq_true_eq] at h
    exact absurd (Int32.le_trans h.1 h.2) (by decide)
  · rw [pk_sub z] at h
    obtain ⟨j, hj, e⟩ := inr_nI (by omega) h
    exact ⟨j, by omega, e⟩
theorem inr_no {w : Int32} {k : Nat} (hk : k < 2 ^ 31) (h : inr w (nI 0) (nI k) = false) : w.toInt < 0 ∨ (k : Int) < w.toInt := by
  rcases Decidable.em (w.toInt < 0 ∨ (k : Int) < w.toInt) with z | z
  · exact z
  · have h1 : nI 0 ≤ w := by
      rw [Int32.le_iff_toInt_le, nI_toInt (by omega)]
      omega
    have h2 : w ≤ nI k := by
      rw [Int32.le_iff_toInt_le, nI_toInt hk]
      omega
    have : inr w (nI 0) (nI k) = true := by
      unfold inr
      rw [Bool.and_eq_true, decide_eq_true_eq, decide_eq_true_eq]
      exact ⟨h1, h2⟩
    rw [this] at h
    cases h
theorem Z_falls {I : HI} {J : HJ} (hr : Rel I J) (i w : Int32) : Both mX6_falls mX7_falls [.int i, .int w] I J := by
  obtain ⟨nf, nk, yr, -, hl, -⟩ := id hr
  obtain ⟨a1, a2, a3, a4, a5, a6, a7, a8, a9, a10, -⟩ := hl
  cases hi : inr i (nI 0) (nI nf - nI 1) with
  | false => exact Both.pure hr (S_falls_bad (d := 6) a3 hi) (S_mfalls_bad (d := 6) a4 hi)
  | true =>
    obtain ⟨j, hj, rfl⟩ := in0_of (by omega) hi
    cases hw : inr w (nI 0) (nI 4) with
    | false => exact Both.pure hr (S_falls_w (d := 6) a3 a2 hj (inr_no (by decide) hw)) (S_mfalls_w (d := 6) a4 a2 hj hw)
    | true =>
      obtain ⟨k, hk, rfl⟩ := inr_nI (by decide) hw
      have e : (if k < 4 then I 48 (4 * j + k) else I 49 (yr j)) = fallsV I j (yr j) k := by
        rcases (show k = 0 ∨ k = 1 ∨ k = 2 ∨ k = 3 ∨ k = 4 by omega) with rfl | rfl | rfl | rfl | rfl
        · exact (a5 j hj).2.1.trans (a5 j hj).1.symm
        · exact (a7 j hj).1
        · exact (a8 j hj).1
        · exact (a9 j hj).1
        · exact (a10 (yr j) (a5 j hj).2.2).1
      have h2 := S_mfalls (d := 5) (J := J) a4 a2 hj (a5 j hj).2.1 (a5 j hj).2.2 hk
      rw [e] at h2
      exact Both.pure hr (S_falls (d := 6) a3 a2 hj (a5 j hj).1 (a5 j hj).2.2 hk) h2
theorem Z_layer {I : HI} {J : HJ} (hr : Rel I J) (i w : Int32) : Both mX6_layer mX7_layer [.int i, .int w] I J := by
  obtain ⟨nf, nk, yr, -, hl, hb, -⟩ := id hr
  obtain ⟨n, ns, t, l, q, b1, b2, b3, b4, b5, b6, b7, b8, b9⟩ := hb
  have n12 : n ≤ 12 := Nat.le_trans b1 hl.2.1
  cases hi : inr i (nI 0) (nI n - nI 1) with
  | false => exact Both.pure hr (S_layer_bad (d := 5) b3 hi) (S_mlayer_bad (d := 5) b4 hi)
  | true =>
    obtain ⟨j, hj, rfl⟩ := in0_of (by omega) hi
    cases hw : inr w (nI 0) (nI 2) with
    | false => exact Both.pure hr (S_layer_w (d := 5) b3 n12 hj (inr_no (by decide) hw)) (S_mlayer_w (d := 5) b4 n12 hj hw)
    | true =>
      obtain ⟨k, hk, rfl⟩ := inr_nI (by decide) hw
      have b8' := b8 j hj
      rw [Nat.mul_zero, Nat.zero_add] at b8'
      have e : mlayerV I n j k = layerV I n j k := by
        rcases (show k = 0 ∨ k = 1 ∨ k = 2 by omega) with rfl | rfl | rfl
        · exact b8'.2.1.trans b8'.1.symm
        · exact b8'.2.2.1
        · rfl
      have h2 := S_mlayer (d := 5) (J := J) b4 n12 hj hk
      rw [e] at h2
      exact Both.pure hr (S_layer (d := 5) b3 n12 hj hk) h2
/-- what the relation says of sums over the layers -/
theorem bar_t {I : HI} {J : HJ} {nf : Nat} (hb : BarnR I J nf 16 0) : ∃ n ns : Nat, n ≤ nf ∧ ns ≤ 8 ∧ I 16 0 = nI n ∧ I 50 0 = nI n ∧ I 16 3 = (J 53 0).toInt32 ∧ I 16 4 = nI ns ∧ I 54 0 = nI ns ∧ (∀ i, i < n → I 51 i = I 17 i ∧ I 52 i = I 18 i ∧ ∃ t : Nat, t ≤ 200 ∧ I 17 i = nI t) := by
  obtain ⟨n, ns, t, l, q, b1, b2, b3, b4, b5, b6, b7, b8, b9⟩ := hb
  refine ⟨n, ns, b1, b2, b3, b4, b5, b6, b7, fun i hi => ?_⟩
  have h := b8 i hi
  rw [Nat.mul_zero, Nat.zero_add] at h
  exact ⟨h.2.1.trans h.1.symm, h.2.2.1, t i, by omega, h.1⟩
theorem fits_bears {I : HI} {nf : Nat} {yr : Nat → Nat} (hl : LaidR I nf yr) : fitsB I = bearsB I := by
  obtain ⟨a1, a2, a3, a4, a5, a6, a7, a8, a9, a10, a11, -⟩ := hl
  funext a b
  unfold fitsB bearsB
  rw [a11 0 (by omega), a11 1 (by omega)]
theorem mfo_ftc {inch heavy inch2 heavy2 : Nat → Int32} {be : Int32 → Int32 → Bool} {nf : Nat} (h1 : ∀ i, i < nf → inch i = inch2 i) (h2 : ∀ i, i < nf → heavy i = heavy2 i) : ∀ (k i : Nat) (hi lo : Int32), i + k = nf → mfo inch heavy be k i hi lo = fOut (ftc inch2 heavy2 (fun _ => nI 0) be k i hi lo) nf := by
  intro k
  induction k with
  | zero =>
    intro i hi lo h
    unfold mfo ftc fOut
    rw [if_pos (by omega)]
  | succ k ih =>
    intro i hi lo h
    unfold mfo ftc
    rw [h1 i (by omega), h2 i (by omega), show inch2 i + nI 0 = inch2 i from Int32.add_zero _]
    split
    · exact ih _ _ _ (by omega)
    · unfold fOut
      rw [if_neg (by omega)]
theorem Z_firstOut {I : HI} {J : HJ} (hr : Rel I J) : Both mX6_firstOut mX7_firstOut [] I J := by
  obtain ⟨nf, nk, yr, -, hl, hb, -⟩ := id hr
  obtain ⟨n, ns, b1, b2, b3, b4, b5, b6, b7, b8⟩ := bar_t hb
  have hfb := fits_bears hl
  obtain ⟨a1, a2, a3, a4, a5, a6, a7, a8, a9, a10, -⟩ := hl
  have h2 := S_mfirstOut (d := 5) (J := J) a4 a2 b4 b1
  rw [mfo_ftc (inch2 := I 6) (heavy2 := I 7) (fun i hi => (a7 i hi).1) (fun i hi => (a8 i hi).1) (nf - n) n _ _ (by omega), hfb, sI_cg (f := I 51) (g := I 17) (n := n) (fun i hi => (b8 i hi).1), sI_cg (f := fun j => I 51 j * I 48 (4 * j + 2)) (g := fun j => I 17 j * I 7 j) (n := n) (fun i hi => by
    show I 51 i * I 48 (4 * i + 2) = I 17 i * I 7 i
    rw [(b8 i hi).1, (a8 i (by omega)).1])] at h2
  exact Both.pure hr (S_firstOut (d := 4) a3 a2 b3 b1) h2
theorem Z_count {I : HI} {J : HJ} (hr : Rel I J) (w : Int32) : Both mX6_count mX7_count [.int w] I J := by
  obtain ⟨nf, nk, yr, ht, hl, hb, hm, k1, k2, k3, -⟩ := id hr
  obtain ⟨n, ns, b1, b2, b3, b4, b5, b6, b7, b8⟩ := bar_t hb
  obtain ⟨a1, a2, a3, a4, a5, a6, a7, a8, -⟩ := hl
  obtain ⟨len, t1, t2, t3, -⟩ := ht
  obtain ⟨nm, m1, m2, m3, -⟩ := hm
  cases hw : inr w (nI 0) (nI 8) with
  | false => exact Both.pure hr (S_count_bad (d := 6) (inr_no (by decide) hw)) (S_mcount_bad (d := 6) (inr_no (by decide) hw))
  | true =>
    obtain ⟨k, hk, rfl⟩ := inr_nI (by decide) hw
    have e : mcountV I J n k = countV I n k := by
      rcases (show k = 0 ∨ k = 1 ∨ k = 2 ∨ k = 3 ∨ k = 4 ∨ k = 5 ∨ k = 6 ∨ k = 7 ∨ k = 8 by omega) with rfl | rfl | rfl | rfl | rfl | rfl | rfl | rfl | rfl
      · exact a4.trans a3.symm
      · exact b4.trans b3.symm
      · exact sI_cg (fun i hi => (b8 i hi).1)
      · refine sI_cg (fun i hi => ?_)
        show I 51 i * I 48 (4 * i + 2) = I 17 i * I 7 i
        rw [(b8 i hi).1, (a8 i (by omega)).1]
      · exact b5.symm
      · exact b7.trans b6.symm
      · exact m3.trans m2.symm
      · exact k3.trans k2.symm
      · exact t3.trans t2.symm
    have h2 := S_mcount (d := 5) (J := J) b4 (Nat.le_trans b1 a2) hk
    rw [e] at h2
    exact Both.pure hr (S_count (d := 6) b3 (Nat.le_trans b1 a2) hk) h2
theorem Z_wish {I : HI} {J : HJ} (hr : Rel I J) (y : Int32) : Both mX6_wish mX7_wish [.int y] I J := by
  obtain ⟨nf, nk, yr, -, hl, hb, -⟩ := id hr
  obtain ⟨n, ns, b1, b2, b3, b4, b5, b6, b7, b8⟩ := bar_t hb
  obtain ⟨a1, a2, a3, a4, a5, a6, a7, a8, -⟩ := hl
  cases hy : inr y (nI 0) (nI 99) with
  | false => exact Both.pure hr (S_wish_bad (d := 5) hy) (S_mwish_bad (d := 5) hy)
  | true =>
    have h2 := S_mwish (d := 5) (J := J) hy b4 (Nat.le_trans b1 a2)
    rw [sI_cg (f := mtyI I y) (g := tyI (I 17) (I 5) y) (n := n) (fun i hi => by
      unfold mtyI tyI
      rw [(b8 i hi).1, (a5 i (by omega)).1, (a5 i (by omega)).2.1])] at h2
    exact Both.pure hr (S_wish (d := 5) hy b3 (Nat.le_trans b1 a2)) h2
theorem ftc_cg {inch heavy more inch2 heavy2 : Nat → Int32} {be : Int32 → Int32 → Bool} {nf : Nat} (h1 : ∀ i, i < nf → inch i = inch2 i) (h2 : ∀ i, i < nf → heavy i = heavy2 i) : ∀ (k i : Nat) (hi lo : Int32), i + k = nf → ftc inch heavy more be k i hi lo = ftc inch2 heavy2 more be k i hi lo := by
  intro k
  induction k with
  | zero => intro i hi lo h; rfl
  | succ k ih =>
    intro i hi lo h
    unfold ftc
    rw [h1 i (by omega), h2 i (by omega)]
    split
    · exact ih _ _ _ (by omega)
    · rfl
theorem mwint_w {I : HI} {nf v : Nat} {yr : Nat → Nat} {z : Int32} (hl : LaidR I nf yr) : mwint I nf v z = wint I nf v z := by
  have hfb := fits_bears hl
  obtain ⟨a1, a2, a3, a4, a5, a6, a7, a8, -⟩ := hl
  unfold mwint wint
  rw [hfb]
  exact ftc_cg (fun i hi => (a7 i hi).1) (fun i hi => (a8 i hi).1) nf 0 _ _ (Nat.zero_add nf)
theorem Z_winter {I : HI} {J : HJ} (hr : Rel I J) (z : Int32) : Both mX6_winter mX7_winter [.int z] I J := by
  obtain ⟨nf, nk, yr, -, hl, -⟩ := id hr
  have hw := @mwint_w I nf
  obtain ⟨a1, a2, a3, a4, a5, a6, a7, a8, a9, a10, a11, a12, a13, a14, a15, v, v9, hv⟩ := id hl
  cases hz : inr z (nI 0) (nI 9999) with
  | false => exact Both.pure hr (S_winter_bad (d := 5) hz) (S_mwinter_bad (d := 5) hz)
  | true =>
    obtain ⟨j, hj, rfl⟩ := inr_nI (by decide) hz
    have h2 := S_mwinter (d := 5) (J := J) hz a4 a2 ((a11 4 (by omega)).trans hv) v9
    rw [mwint_w hl] at h2
    exact Both.pure hr (S_winter (d := 4) hj a3 a2 hv v9) h2
theorem Z_ten {I : HI} {J : HJ} (hr : Rel I J) (z : Int32) : Both mX6_ten mX7_ten [.int z] I J := by
  obtain ⟨nf, nk, yr, -, hl, -⟩ := id hr
  obtain ⟨a1, a2, a3, a4, a5, a6, a7, a8, a9, a10, a11, a12, a13, a14, a15, v, v9, hv⟩ := id hl
  cases hz : inr z (nI 0) (nI 9999) with
  | false => exact Both.pure hr (S_ten_bad (d := 5) hz) (S_mten_bad (d := 5) hz)
  | true =>
    obtain ⟨j, hj, rfl⟩ := inr_nI (by decide) hz
    have h2 := S_mten (d := 5) (J := J) hj a4 a2 ((a11 4 (by omega)).trans hv) v9
    rw [show (fun q => mwint I nf v (nI q)) = (fun q => wint I nf v (nI q)) from funext (fun q => mwint_w hl)] at h2
    exact Both.pure hr (S_ten (d := 4) hj a3 a2 hv v9) h2
