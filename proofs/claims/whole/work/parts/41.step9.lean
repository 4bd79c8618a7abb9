/-! weights, as either side counts them -/
theorem wt_eq {I : HI} {J : HJ} {nf : Nat} {yr : Nat → Nat} (hl : LaidR I nf yr) (hb : BarnR I J nf 16 0) (du he : Int32) : ∃ (n : Nat) (g : Nat → Nat), n ≤ nf ∧ I 16 0 = nI n ∧ I 50 0 = nI n ∧ ∀ i, i < n → g i ≤ 18000 ∧ wI (I 17) (I 8) (I 7) (I 4 3) du he i = nI (g i) ∧ mwL I du he i = lN (g i) := by
  obtain ⟨n, ns, b1, b2, b3, b4, b5, b6, b7, b8⟩ := bar_t hb
  obtain ⟨a1, a2, a3, a4, a5, a6, a7, a8, a9, a10, a11, a12, a13, a14, ⟨s, s1, s2⟩, -⟩ := id hl
  have key : ∀ i, i < n → ∃ g : Nat, g ≤ 18000 ∧ wI (I 17) (I 8) (I 7) (I 4 3) du he i = nI g ∧ mwL I du he i = lN g := fun i hi => by
    obtain ⟨t, t1, t2⟩ := (b8 i hi).2.2
    have e8 := (a9 i (by omega)).1
    have e7 := (a8 i (by omega)).1
    have u : ∃ u : Nat, u ≤ 10 ∧ (if du = I 8 i then nI 10 - nI s else nI s) = nI u := by
      by_cases h : du = I 8 i
      · rw [if_pos h, pk_sub (by omega)]
        exact ⟨10 - s, by omega, rfl⟩
      · rw [if_neg h]
        exact ⟨s, by omega, rfl⟩
    have v : ∃ v : Nat, v ≤ 9 ∧ (if he = I 7 i then nI 9 else nI 1) = nI v := by
      by_cases h : he = I 7 i
      · rw [if_pos h]
        exact ⟨9, by omega, rfl⟩
      · rw [if_neg h]
        exact ⟨1, by omega, rfl⟩
    obtain ⟨u, u1, u2⟩ := u
    obtain ⟨v, v1, v2⟩ := v
    have p1 : t * u ≤ 200 * 10 := Nat.mul_le_mul t1 u1
    have p2 : t * u * v ≤ 2000 * 9 := Nat.mul_le_mul p1 v1
    refine ⟨t * u * v, p2, ?_, ?_⟩
    · unfold wI
      rw [s2, u2, v2, t2, pk_mul, pk_mul]
    · unfold mwL
      rw [e8, e7, a11 3 (by omega), s2, u2, v2, (b8 i hi).1, t2, nI_l (by omega), nI_l (by omega), nI_l (by omega), lN_mul, lN_mul]
  refine ⟨n, fun i => if h : i < n then (key i h).choose else 0, b1, b3, b4, fun i hi => ?_⟩
  have e : (fun i => if h : i < n then (key i h).choose else 0) i = (key i hi).choose := by
    show (if h : i < n then (key i h).choose else 0) = _
    rw [dif_pos hi]
  rw [e]
  exact (key i hi).choose_spec
theorem cd_step {k a b : Nat} (ha : a < 2 ^ 31) (hb : b < 2 ^ 31) (h0 : 0 < b) : cdI (k + 1) (nI a) (nI b) = cdI k (nI b) (nI (a % b)) := by
  show (if nI b = 0 then nI a else cdI k (nI b) (nI a - nI a / nI b * nI b)) = _
  rw [if_neg (nI_ne0 h0 hb), pk_rem ha h0 hb]
theorem cd_zero {k a : Nat} : cdI k (nI a) (nI 0) = nI a := by
  cases k with
  | zero => rfl
  | succ k =>
    show (if nI 0 = 0 then nI a else cdI k (nI 0) (nI a - nI a / nI 0 * nI 0)) = _
    rw [if_pos nI_0]
theorem cd_gcd : ∀ (m a b : Nat), a < 2 ^ 31 → b < 2 ^ 31 → b < 2 ^ m → cdI (2 * m + 1) (nI a) (nI b) = nI (Nat.gcd a b) := by
  intro m
  induction m with
  | zero =>
    intro a b ha hb h
    obtain rfl : b = 0 := by omega
    rw [cd_zero, Nat.gcd_zero_right]
  | succ m ih =>
    intro a b ha hb h
    rcases Nat.eq_zero_or_pos b with z | z
    · subst z
      rw [cd_zero, Nat.gcd_zero_right]
    · have hr : a % b < b := Nat.mod_lt a z
      have e1 : Nat.gcd a b = Nat.gcd b (a % b) := by rw [Nat.gcd_comm a b, Nat.gcd_rec b a, Nat.gcd_comm]
      rw [show 2 * (m + 1) + 1 = (2 * m + 1) + 1 + 1 by omega, cd_step ha hb z, e1]
      generalize hrr : a % b = r at hr
      rcases Nat.eq_zero_or_pos r with z2 | z2
      · subst z2
        rw [cd_zero, Nat.gcd_zero_right]
      · rw [cd_step hb (by omega) z2]
        have h2 : b % r < r := Nat.mod_lt b z2
        have h3 : b % r + r ≤ b := by
          have h4 := Nat.div_add_mod b r
          have h5 : 1 ≤ b / r := Nat.div_pos (by omega) z2
          have h6 : r * 1 ≤ r * (b / r) := Nat.mul_le_mul_left r h5
          omega
        have h7 : b % r < 2 ^ m := by
          rw [Nat.pow_succ] at h
          omega
        rw [ih r (b % r) (by omega) (by omega) h7]
        have e2 : Nat.gcd b r = Nat.gcd r (b % r) := by rw [Nat.gcd_comm b r, Nat.gcd_rec r b, Nat.gcd_comm]
        rw [e2]
theorem cd_64 {a b : Nat} (ha : a < 2 ^ 31) (hb : b < 2 ^ 31) : cdI 64 (nI a) (nI b) = nI (Nat.gcd a b) := by
  rcases Nat.eq_zero_or_pos b with z | z
  · subst z
    rw [cd_zero, Nat.gcd_zero_right]
  · have hr : a % b < b := Nat.mod_lt a z
    rw [cd_step ha hb z, show (63 : Nat) = 2 * 31 + 1 from rfl, cd_gcd 31 b (a % b) hb (by omega) (by omega), Nat.gcd_comm a b, Nat.gcd_rec b a, Nat.gcd_comm]
