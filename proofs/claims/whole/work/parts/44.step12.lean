/-! call by call: far -/
theorem eR_0 (mk ow : Nat → Int32) (b : Nat) : eR mk ow 0 b = b := rfl
theorem eR_b0 (mk ow : Nat → Int32) (a : Nat) : eR mk ow a 0 = a := by
  cases a with
  | zero => rfl
  | succ a => rfl
theorem eR_min (mk ow : Nat → Int32) (a b : Nat) : eR mk ow (a + 1) (b + 1) = min (eR mk ow a b + (if mk a = ow b then 0 else 1)) (1 + min (eR mk ow (a + 1) b) (eR mk ow a (b + 1))) := by
  have un : eR mk ow (a + 1) (b + 1) = (if eR mk ow (a + 1) b + 1 < (if eR mk ow a (b + 1) + 1 < eR mk ow a b + (if mk a = ow b then 0 else 1) then eR mk ow a (b + 1) + 1 else eR mk ow a b + (if mk a = ow b then 0 else 1)) then eR mk ow (a + 1) b + 1
    else if eR mk ow a (b + 1) + 1 < eR mk ow a b + (if mk a = ow b then 0 else 1) then eR mk ow a (b + 1) + 1 else eR mk ow a b + (if mk a = ow b then 0 else 1)) := rfl
  rw [un]
  generalize eR mk ow a b + (if mk a = ow b then 0 else 1) = x
  generalize eR mk ow (a + 1) b = y
  generalize eR mk ow a (b + 1) = z
  by_cases h1 : z + 1 < x
  · rw [if_pos h1]
    by_cases h2 : y + 1 < z + 1
    · rw [if_pos h2]
      omega
    · rw [if_neg h2]
      omega
  · rw [if_neg h1]
    by_cases h2 : y + 1 < x
    · rw [if_pos h2]
      omega
    · rw [if_neg h2]
      omega
theorem mnI_N {x y : Nat} (hx : x < 2 ^ 31) (hy : y < 2 ^ 31) : mnI (nI x) (nI y) = nI (min x y) := by
  unfold mnI
  by_cases h : y < x
  · rw [if_pos ((nI_ltI hy hx).mpr h)]
    congr 1
    omega
  · rw [if_neg (fun z => h ((nI_ltI hy hx).mp z))]
    congr 1
    omega
theorem edR_N {du : Nat → Int32} {s : Int32} {pr : Nat → Int32} {mk ow : Nat → Int32} {nm b : Nat} (hb : b ≤ 12) (hnm : nm ≤ 14) (hp : ∀ a, a ≤ nm → pr a = nI (eR mk ow a b)) (hd : ∀ a, a < nm → du a = mk a) (hs : s = ow b) : ∀ a, a ≤ nm → edR du s pr a = nI (eR mk ow a (b + 1)) := by
  intro a
  induction a with
  | zero =>
    intro _
    show pr 0 + nI 1 = _
    rw [hp 0 (by omega), nI_add]
    rfl
  | succ a ih =>
    intro h
    show mnI (pr a + (if du a = s then nI 0 else nI 1)) (nI 1 + mnI (pr (a + 1)) (edR du s pr a)) = _
    have q1 := eR_le mk ow a b
    have q2 := eR_le mk ow (a + 1) b
    have q3 := eR_le mk ow a (b + 1)
    rw [ih (by omega), hp a (by omega), hp (a + 1) h, hd a (by omega), hs, mnI_N (by omega) (by omega), nI_add, eR_min]
    have e : (if mk a = ow b then nI 0 else nI 1) = nI (if mk a = ow b then 0 else 1) := by
      split <;> rfl
    rw [e, nI_add]
    have q4 : (if mk a = ow b then 0 else 1) ≤ 1 := by
      split <;> omega
    rw [mnI_N (by omega) (by omega)]
theorem shS_cg {t t' : Nat → Int32} : ∀ i, (∀ j, j < i → t j = t' j) → shS t i = shS t' i := by
  intro i
  induction i with
  | zero => intro _; rfl
  | succ i ih =>
    intro h
    unfold shS
    rw [ih (fun j hj => h j (by omega)), h i (by omega)]
theorem shS_mono (t : Nat → Int32) : ∀ k i, (shS t i).1 ≤ (shS t (i + k)).1 ∧ ∀ j, j < (shS t i).1 → (shS t (i + k)).2 j = (shS t i).2 j := by
  intro k
  induction k with
  | zero => intro i; exact ⟨Nat.le_refl _, fun j _ => rfl⟩
  | succ k ih =>
    intro i
    obtain ⟨h1, h2⟩ := ih i
    by_cases ht : 0 < t (i + k)
    · have e : shS t (i + (k + 1)) = ((shS t (i + k)).1 + 1, fun j => if j = (shS t (i + k)).1 then i + k else (shS t (i + k)).2 j) := if_pos ht
      rw [e]
      refine ⟨Nat.le_succ_of_le h1, fun j hj => ?_⟩
      show (if j = (shS t (i + k)).1 then i + k else (shS t (i + k)).2 j) = _
      rw [if_neg (by omega)]
      exact h2 j hj
    · have e : shS t (i + (k + 1)) = shS t (i + k) := if_neg ht
      rw [e]
      exact ⟨h1, h2⟩
theorem shS_here {t : Nat → Int32} {i n : Nat} (h : i < n) (ht : 0 < t i) : (shS t (i + 1)).1 = (shS t i).1 + 1 ∧ (shS t n).2 (shS t i).1 = i ∧ (shS t i).1 < (shS t n).1 := by
  have e : shS t (i + 1) = ((shS t i).1 + 1, fun j => if j = (shS t i).1 then i else (shS t i).2 j) := if_pos ht
  have m := shS_mono t (n - (i + 1)) (i + 1)
  rw [show i + 1 + (n - (i + 1)) = n by omega, e] at m
  refine ⟨by rw [e], ?_, ?_⟩
  · have := m.2 (shS t i).1 (show (shS t i).1 < (shS t i).1 + 1 by omega)
    rw [this]
    exact if_pos rfl
  · have h1 : (shS t i).1 + 1 ≤ (shS t n).1 := m.1
    omega
theorem chX_N {I : HI} {nm n : Nat} {mk ow : Nat → Int32} (hnm : nm ≤ 14) (hn : n ≤ 12) (hd : ∀ a, a < nm → I 35 a = mk a) (how : ∀ i, i < n → 0 < I 17 i → ow (shS (I 17) i).1 = I 18 i) : ∀ i, i ≤ n → ∀ a, a ≤ nm → chX I nm i 36 a = nI (eR mk ow a (shS (I 17) i).1) := by
  intro i
  induction i with
  | zero =>
    intro _ a ha
    show setN I 36 nI (nm + 1) 36 a = nI (eR mk ow a 0)
    unfold setN
    rw [if_pos ⟨rfl, by omega⟩, eR_b0]
  | succ i ih =>
    intro hi a ha
    by_cases ht : 0 < I 17 i
    · have e : chX I nm (i + 1) = edX (chX I nm i) nm (I 18 i) := if_pos ht
      have hb := shS_le (I 17) i
      rw [e, (shS_here (n := i + 1) (by omega) ht).1]
      unfold edX setN
      rw [if_pos ⟨rfl, by omega⟩, chX_row (by omega)]
      exact edR_N (by omega) hnm (fun a' ha' => ih (by omega) a' ha') hd (how i (by omega) ht).symm a ha
    · have e : chX I nm (i + 1) = chX I nm i := if_neg ht
      have e2 : shS (I 17) (i + 1) = shS (I 17) i := if_neg ht
      rw [e, e2]
      exact ih (by omega) a ha
theorem far_eq {I : HI} {J : HJ} {nf nm : Nat} (hnf : nf ≤ 12) (hnm : nm ≤ 14) (hb : BarnR I J nf 16 0) (hm : ∀ i, i < nm → I 35 i = I 56 i) : ∃ n : Nat, n ≤ nf ∧ I 16 0 = nI n ∧ I 50 0 = nI n ∧ shS (I 17) n = shS (I 51) n ∧ (∀ i, i < n → 0 < I 17 i → I 52 ((shS (I 51) n).2 (shS (I 17) i).1) = I 18 i) ∧ chX I nm n 36 nm = nI (eR (I 56) (fun j => I 52 ((shS (I 51) n).2 j)) nm (shS (I 51) n).1) := by
  obtain ⟨n, ns, b1, b2, b3, b4, b5, b6, b7, b8⟩ := bar_t hb
  have es : shS (I 17) n = shS (I 51) n := shS_cg n (fun j hj => (b8 j hj).1.symm)
  have how : ∀ i, i < n → 0 < I 17 i → I 52 ((shS (I 51) n).2 (shS (I 17) i).1) = I 18 i := fun i hi ht => by
    rw [← es, (shS_here hi ht).2.1, (b8 i hi).2.1]
  refine ⟨n, b1, b3, b4, es, how, ?_⟩
  rw [chX_N (mk := I 56) (ow := fun j => I 52 ((shS (I 51) n).2 j)) hnm (by omega : n ≤ 12) hm how n (Nat.le_refl _) nm (Nat.le_refl _), es]
theorem Z_far {I : HI} {J : HJ} (hr : Rel I J) : Both mX6_far mX7_far [] I J := by
  obtain ⟨nf, nk, yr, -, hl, hb, hm, -⟩ := id hr
  obtain ⟨nm, m1, m2, m3, m4⟩ := hm
  obtain ⟨n, n1, n2, n3, n4, n5, n6⟩ := far_eq (hl.2.1) m1 hb m4
  have n12 : n ≤ 12 := Nat.le_trans n1 hl.2.1
  refine ⟨_, S_far (d := 4) m2 m1 n2 n12, fun x I1 J1 hp => ?_⟩
  obtain ⟨e1, e2, e3⟩ := hp
  have r1 : ∀ a, 37 ≤ a → I1 a = I a := fun a h => e2 a (Or.inr h)
  refine ⟨_, S_mfar (d := 6) (m := nm) (n := n) (by rw [r1 50 (by omega)]; exact n3) n12 (by rw [r1 44 (by omega)]; exact m3) m1, fun y I2 J2 hp2 => ?_⟩
  obtain ⟨f1, f2, f3⟩ := hp2
  rw [r1 51 (by omega), r1 52 (by omega), r1 56 (by omega)] at f1
  rw [f1, f3, e1, e3, n6]
  exact ⟨rfl, hr.qt ((e2.qt (fun a h1 h2 => by omega)).tr (f2.qt (fun a h1 h2 => by omega))) (fun b => rfl)⟩
/-! call by call: odd -/
theorem fu_eq {t du s mk ow : Nat → Int32} {nm n P : Nat} (hd : ∀ a, a < nm → du a = mk a) (how : ∀ i, i < n → 0 < t i → ow (shS t i).1 = s i) : ∀ k i, i + k = n → (shS t i).1 ≤ min nm (shS t n).1 → pfN mk ow (min nm (shS t n).1 - (shS t i).1) (shS t i).1 = P → fuL du t s nm n k i (shS t i).1 = (if P < (shS t n).1 then nI ((shS t n).2 P) else nI n) := by
  intro k
  induction k with
  | zero =>
    intro i hi hle hP
    obtain rfl : n = i := by omega
    have e0 : min nm (shS t n).1 - (shS t n).1 = 0 := by omega
    rw [e0] at hP
    have hP' : (shS t n).1 = P := hP
    rw [if_neg (by omega)]
    rfl
  | succ k ih =>
    intro i hi hle hP
    by_cases ht : 0 < t i
    · obtain ⟨g1, g2, g3⟩ := shS_here (n := n) (by omega) ht
      have ho := how i (by omega) ht
      by_cases hc : (shS t i).1 < nm ∧ du (shS t i).1 = s i
      · have un : fuL du t s nm n (k + 1) i (shS t i).1 = fuL du t s nm n k (i + 1) ((shS t i).1 + 1) := by
          simp only [fuL, if_pos ht, if_pos hc]
        have e1 : min nm (shS t n).1 - (shS t i).1 = (min nm (shS t n).1 - ((shS t i).1 + 1)) + 1 := by omega
        rw [e1] at hP
        have un2 : pfN mk ow (min nm (shS t n).1 - ((shS t i).1 + 1) + 1) (shS t i).1 = pfN mk ow (min nm (shS t n).1 - ((shS t i).1 + 1)) ((shS t i).1 + 1) := if_pos (by rw [← hd _ hc.1, ho]; exact hc.2)
        rw [un2] at hP
        rw [un, ← g1]
        rw [← g1] at hP
        exact ih (i + 1) (by omega) (by omega) hP
      · have un : fuL du t s nm n (k + 1) i (shS t i).1 = nI i := by
          simp only [fuL, if_pos ht, if_neg hc]
        have eP : P = (shS t i).1 := by
          by_cases hl : (shS t i).1 < nm
          · have e1 : min nm (shS t n).1 - (shS t i).1 = (min nm (shS t n).1 - ((shS t i).1 + 1)) + 1 := by omega
            rw [e1] at hP
            have un2 : pfN mk ow (min nm (shS t n).1 - ((shS t i).1 + 1) + 1) (shS t i).1 = (shS t i).1 := if_neg (fun z => hc ⟨hl, by rw [hd _ hl, ← ho]; exact z⟩)
            exact hP.symm.trans un2
          · have e1 : min nm (shS t n).1 - (shS t i).1 = 0 := by omega
            rw [e1] at hP
            exact hP.symm
        rw [un, eP, if_pos g3, g2]
    · have un : fuL du t s nm n (k + 1) i (shS t i).1 = fuL du t s nm n k (i + 1) (shS t i).1 := by
        simp only [fuL, if_neg ht]
      have e2 : shS t (i + 1) = shS t i := if_neg ht
      rw [un, ← e2]
      exact ih (i + 1) (by omega) (by rw [e2]; exact hle) (by rw [e2]; exact hP)
theorem Z_odd {I : HI} {J : HJ} (hr : Rel I J) : Both mX6_odd mX7_odd [] I J := by
  obtain ⟨nf, nk, yr, -, hl, hb, hm, -⟩ := id hr
  obtain ⟨nm, m1, m2, m3, m4⟩ := hm
  obtain ⟨n, n1, n2, n3, n4, n5, n6⟩ := far_eq (hl.2.1) m1 hb m4
  have n12 : n ≤ 12 := Nat.le_trans n1 hl.2.1
  have hbnd := shS_le (I 51) n
  have hel := eR_le (I 56) (fun j => I 52 ((shS (I 51) n).2 j)) nm (shS (I 51) n).1
  refine ⟨_, S_odd (d := 4) m2 m1 n2 n12, fun x I1 J1 hp => ?_⟩
  obtain ⟨e1, e2, e3⟩ := hp
  have r1 : ∀ a, 37 ≤ a → I1 a = I a := fun a h => e2 a (Or.inr h)
  refine ⟨_, S_modd (d := 5) (m := nm) (n := n) (by rw [r1 50 (by omega)]; exact n3) n12 (by rw [r1 44 (by omega)]; exact m3) m1, fun y I2 J2 hp2 => ?_⟩
  obtain ⟨f1, f2, f3⟩ := hp2
  have ev : moddX I1 nm n = (if chX I nm n 36 nm = 0 then -4 else fuL (I 35) (I 17) (I 18) nm n n 0 0) := by
    unfold moddX
    rw [r1 51 (by omega), r1 52 (by omega), r1 56 (by omega), n6]
    by_cases z : eR (I 56) (fun j => I 52 ((shS (I 51) n).2 j)) nm (shS (I 51) n).1 = 0
    · rw [if_pos z, if_pos (by rw [z]; rfl)]
    · rw [if_neg z, if_neg (nI_ne0 (by omega) (by omega))]
      have h := fu_eq (t := I 17) (du := I 35) (s := I 18) (mk := I 56) (ow := fun j => I 52 ((shS (I 51) n).2 j)) (nm := nm) (n := n) (P := pfN (I 56) (fun j => I 52 ((shS (I 51) n).2 j)) (min nm (shS (I 51) n).1) 0) m4 n5 n 0 (by omega) (Nat.zero_le _) (by rw [n4]; rfl)
      rw [n4] at h
      exact h.symm
  rw [f1, f3, e1, e3, ev]
  exact ⟨rfl, hr.qt ((e2.qt (fun a h1 h2 => by omega)).tr (f2.qt (fun a h1 h2 => by omega))) (fun b => rfl)⟩
