/-! weights, as either side counts them -/
theorem wt_eq {I : HI} {J : HJ} {nf : Nat} {yr : Nat → Nat} (hl : LaidR I nf yr) (hb : BarnR I J nf 16 0) (du he : Int32) : ∃ (n : Nat) (g : Nat → Nat), n ≤ nf ∧ I 16 0 = nI n ∧ I 50 0 = nI n ∧ ∀ i, i < n → g i ≤ 18000 ∧ wI (I 17) (I 8) (I 7) (I 4 3) du he i = nI (g i) ∧ mwL I du he i = lN (g i) := by
  obtain ⟨n, ns, b1, b2, b3, b4, b5, b6, b7, b8⟩ := bar_t hb
  obtain ⟨a1, a2, a3, a4, a5, a6, a7, a8, a9, a10, a11, a12, a13, a14, ⟨s, s1, s2⟩, -⟩ := id hl
  have key : ∀ i, i < n → ∃ g : Nat, g ≤ 18000 ∧ wI (I 17) (I 8) (I 7) (I 4 3) du he i = nI g ∧ mwL I du he i = lN g := fun i hi => by
    obtain ⟨t, t1, t2⟩ := (b8 i hi).2.2
    have e8 := (a9 i (by omega)).1
    have e7 := (a8 i (by omega)).1
    have u : ∃ u : Nat, u ≤ 10 ∧ (if du = I 8 i then nI 10 - nI s else nI s) = nI u := by
      by_cases h : du = I 8 i
      · rw [if_pos h, pk_sub (by omega)]
        exact ⟨10 - s, by omega, rfl⟩
      · rw [if_neg h]
        exact ⟨s, by omega, rfl⟩
    have v : ∃ v : Nat, v ≤ 9 ∧ (if he = I 7 i then nI 9 else nI 1) = nI v := by
      by_cases h : he = I 7 i
      · rw [if_pos h]
        exact ⟨9, by omega, rfl⟩
      · rw [if_neg h]
        exact ⟨1, by omega, rfl⟩
    obtain ⟨u, u1, u2⟩ := u
    obtain ⟨v, v1, v2⟩ := v
    have p1 : t * u ≤ 200 * 10 := Nat.mul_le_mul t1 u1
    have p2 : t * u * v ≤ 2000 * 9 := Nat.mul_le_mul p1 v1
    refine ⟨t * u * v, p2, ?_, ?_⟩
    · unfold wI
      rw [s2, u2, v2, t2, pk_mul, pk_mul]
    · unfold mwL
      rw [e8, e7, a11 3 (by omega), s2, u2, v2, (b8 i hi).1, t2, nI_l (by omega), nI_l (by omega), nI_l (by omega), lN_mul, lN_mul]
  refine ⟨n, fun i => if h : i < n then (key i h).choose else 0, b1, b3, b4, fun i hi => ?_⟩
  have e : (fun i => if h : i < n then (key i h).choose else 0) i = (key i hi).choose := by
    show (if h : i < n then (key i h).choose else 0) = _
    rw [dif_pos hi]
  rw [e]
  exact (key i hi).choose_spec
theorem cd_step {k a b : Nat} (ha : a < 2 ^ 31) (hb : b < 2 ^ 31) (h0 : 0 < b) : cdI (k + 1) (nI a) (nI b) = cdI k (nI b) (nI (a % b)) := by
  show (if nI b = 0 then nI a else cdI k (nI b) (nI a - nI a / nI b * nI b)) = _
  rw [if_neg (nI_ne0 h0 hb), pk_rem ha h0 hb]
theorem cd_zero {k a : Nat} : cdI k (nI a) (nI 0) = nI a := by
  cases k with
  | zero => rfl
  | succ k =>
    show (if nI 0 = 0 then nI a else cdI k (nI 0) (nI a - nI a / nI 0 * nI 0)) = _
    rw [if_pos nI_0]
theorem cd_gcd : ∀ (m a b : Nat), a < 2 ^ 31 → b < 2 ^ 31 → b < 2 ^ m → cdI (2 * m + 1) (nI a) (nI b) = nI (Nat.gcd a b) := by
  intro m
  induction m with
  | zero =>
    intro a b ha hb h
    obtain rfl : b = 0 := by omega
    rw [cd_zero, Nat.gcd_zero_right]
  | succ m ih =>
    intro a b ha hb h
    rcases Nat.eq_zero_or_pos b with z | z
    · subst z
      rw [cd_zero, Nat.gcd_zero_right]
    · have hr : a % b < b := Nat.mod_lt a z
      have e1 : Nat.gcd a b = Nat.gcd b (a % b) := by rw [Nat.gcd_comm a b, Nat.gcd_rec b a, Nat.gcd_comm]
      rw [show 2 * (m + 1) + 1 = (2 * m + 1) + 1 + 1 by omega, cd_step ha hb z, e1]
      generalize hrr : a % b = r at hr
      rcases Nat.eq_zero_or_pos r with z2 | z2
      · subst z2
        rw [cd_zero, Nat.gcd_zero_right]
      · rw [cd_step hb (by omega) z2]
        have h2 : b % r < r := Nat.mod_lt b z2
        have h3 : b % r + r ≤ b := by
          have h4 := Nat.div_add_mod b r
          have h5 : 1 ≤ b / r := Nat.div_pos (by omega) z2
          have h6 : r * 1 ≤ r * (b / r) := Nat.mul_le_mul_left r h5
          omega
        have h7 : b % r < 2 ^ m := by
          rw [Nat.pow_succ] at h
          omega
        rw [ih r (b % r) (by omega) (by omega) h7]
        have e2 : Nat.gcd b r = Nat.gcd r (b % r) := by rw [Nat.gcd_comm b r, Nat.gcd_rec r b, Nat.gcd_comm]
        rw [e2]
theorem cd_64 {a b : Nat} (ha : a < 2 ^ 31) (hb : b < 2 ^ 31) : cdI 64 (nI a) (nI b) = nI (Nat.gcd a b) := by
  rcases Nat.eq_zero_or_pos b with z | z
  · subst z
    rw [cd_zero, Nat.gcd_zero_right]
  · have hr : a % b < b := Nat.mod_lt a z
    rw [cd_step ha hb z, show (63 : Nat) = 2 * 31 + 1 from rfl, cd_gcd 31 b (a % b) hb (by omega) (by omega), Nat.gcd_comm a b, Nat.gcd_rec b a, Nat.gcd_comm]
theorem sJ_N {f : Nat → Int64} {g : Nat → Nat} {n : Nat} (h : ∀ i, i < n → f i = lN (g i)) : sJ f n = lN (sN g n) := by
  induction n with
  | zero => rfl
  | succ n ih =>
    unfold sJ sN
    rw [ih (fun i hi => h i (by omega)), h n (by omega), lN_add]
theorem mx1_N {G : Nat} (h : 0 < G) (h2 : G < 2 ^ 31) : mx1 (nI G) = nI G := by
  unfold mx1
  by_cases h3 : 1 < G
  · rw [if_pos ((nI_ltI (by omega) h2).mpr h3)]
  · rw [if_neg (fun z => h3 ((nI_ltI (by omega) h2).mp z)), show G = 1 by omega]
theorem Z_odds {I : HI} {J : HJ} (hr : Rel I J) (du he y p : Int32) : Both mX6_odds mX7_odds [.int du, .int he, .int y, .int p] I J := by
  obtain ⟨nf, nk, yr, -, hl, hb, -⟩ := id hr
  obtain ⟨n, g, b1, b3, b4, hg⟩ := wt_eq hl hb du he
  obtain ⟨a1, a2, a3, a4, a5, -⟩ := id hl
  have n12 : n ≤ 12 := Nat.le_trans b1 a2
  cases hok : odOk du he y p with
  | false => exact Both.pure hr (S_odds_bad (d := 5) hok) (S_modds_bad (d := 5) hok)
  | true =>
    have hy0 : ¬ y < 0 := by
      unfold odOk at hok
      simp only [Bool.and_eq_true] at hok
      obtain ⟨yy, yy1, rfl⟩ := inr_nI (by decide) hok.1.2
      exact nI_pos (by omega)
    have eA : sI (wI (I 17) (I 8) (I 7) (I 4 3) du he) n = nI (sN g n) := sI_N (fun i hi => (hg i hi).2.1)
    have eO : sI (wyI (I 17) (I 5) (I 8) (I 7) (I 4 3) du he y) n = nI (sN (fun i => if I 5 i = y then g i else 0) n) := sI_N (fun i hi => by
      unfold wyI
      by_cases q : I 5 i = y
      · rw [if_pos q, if_pos q, (hg i hi).2.1]
      · rw [if_neg q, if_neg q]
        rfl)
    have fA : mwsJ I du he (-1) n = lN (sN g n) := sJ_N (fun i hi => by
      show (if (-1 : Int32) < 0 ∨ I 48 (4 * i) = -1 then mwL I du he i else 0) = lN (g i)
      rw [if_pos (Or.inl (by decide)), (hg i hi).2.2])
    have fO : mwsJ I du he y n = lN (sN (fun i => if I 5 i = y then g i else 0) n) := sJ_N (fun i hi => by
      show (if y < 0 ∨ I 48 (4 * i) = y then mwL I du he i else 0) = lN (if I 5 i = y then g i else 0)
      rw [(a5 i (by omega)).2.1, ← (a5 i (by omega)).1]
      by_cases q : I 5 i = y
      · rw [if_pos (Or.inr q), if_pos q, (hg i hi).2.2]
      · rw [if_neg (fun z => z.elim hy0 q), if_neg q]
        rfl)
    have hA : sN g n ≤ n * 18000 := sN_le (fun i hi => (hg i hi).1)
    have hO : sN (fun i => if I 5 i = y then g i else 0) n ≤ n * 18000 := sN_le (fun i hi => by
      show (if I 5 i = y then g i else 0) ≤ 18000
      split
      · exact (hg i hi).1
      · omega)
    generalize sN g n = al at eA fA hA
    generalize sN (fun i => if I 5 i = y then g i else 0) n = ow at eO fO hO
    have h1 := S_odds (d := 5) (J := J) hok b3 n12
    rw [eA, eO] at h1
    have ev : oddsV (nI al) (nI ow) p = modV al ow p := by
      unfold oddsV modV
      rcases Nat.eq_zero_or_pos al with z | z
      · subst z
        rw [if_pos nI_0, if_pos rfl]
      · rw [if_neg (nI_ne0 z (by omega)), if_neg (show ¬ al = 0 by omega), cd_64 (by omega) (by omega), Nat.gcd_comm al ow]
        have hg0 : 0 < Nat.gcd ow al := Nat.gcd_pos_of_pos_right ow z
        have hgl : Nat.gcd ow al ≤ al := Nat.gcd_le_right ow z
        rw [mx1_N hg0 (by omega), lN_i]
        by_cases q : p = 0
        · rw [if_pos q, if_pos q, pk_div (by omega) hg0 (by omega)]
        · rw [if_neg q, if_neg q, pk_div (by omega) hg0 (by omega)]
    rw [ev] at h1
    refine ⟨_, h1, fun x I1 J1 hp => ?_⟩
    obtain ⟨e1, e2, e3⟩ := hp
    rw [e2, e3]
    refine ⟨_, S_modds (d := 4) hok b4 n12 fA fO (by omega) (by omega), fun v I2 J2 hp2 => ?_⟩
    obtain ⟨f1, f2, f3⟩ := hp2
    rw [f1, f2, e1]
    exact ⟨rfl, hr.qt Qt.rf (fun b => f3 53 b (by omega))⟩
