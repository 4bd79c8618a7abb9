/-! call by call: letGo: the class goes from set to set, the reference counts each anew -/
theorem sN_upd {f g : Nat → Nat} {i : Nat} : ∀ n, i < n → (∀ j, j < n → j ≠ i → g j = f j) → sN g n + f i = sN f n + g i := by
  intro n
  induction n with
  | zero => intro h; omega
  | succ n ih =>
    intro hi h
    unfold sN
    by_cases e : i = n
    · subst e
      rw [sN_cg (f := g) (g := f) i (fun j hj => h j (by omega) (by omega))]
      omega
    · have := ih (by omega) (fun j hj hne => h j (by omega) hne)
      rw [h n (by omega) (by omega)]
      omega
def cN (t yr : Nat → Nat) (n : Nat) (kp : Nat → Bool) (y : Nat) : Nat := sN (fun j => if kp j = true ∧ 0 < t j ∧ yr j = y then 1 else 0) n
def yN (t yr : Nat → Nat) (n : Nat) (kp : Nat → Bool) : Nat := sN (fun y => if 0 < cN t yr n kp y then 1 else 0) 100
def hiN (t : Nat → Nat) (n : Nat) (kp : Nat → Bool) : Nat := sN (fun j => if kp j = true then t j else 0) n
def loN (t h : Nat → Nat) (n : Nat) (kp : Nat → Bool) : Nat := sN (fun j => if kp j = true then t j * h j else 0) n
theorem cN_le {t yr : Nat → Nat} {n : Nat} {kp : Nat → Bool} {y : Nat} : cN t yr n kp y ≤ n := by
  have := sN_le (g := fun j => if kp j = true ∧ 0 < t j ∧ yr j = y then 1 else 0) (n := n) (b := 1) (fun j hj => by
    show (if kp j = true ∧ 0 < t j ∧ yr j = y then 1 else 0) ≤ 1
    split <;> omega)
  unfold cN
  omega
theorem yN_le {t yr : Nat → Nat} {n : Nat} {kp : Nat → Bool} : yN t yr n kp ≤ 100 := by
  have := sN_le (g := fun y => if 0 < cN t yr n kp y then 1 else 0) (n := 100) (b := 1) (fun j hj => by
    show (if 0 < cN t yr n kp j then 1 else 0) ≤ 1
    split <;> omega)
  unfold yN
  omega
/-- layer i comes to a set without it -/
def Adds (n i : Nat) (kp kq : Nat → Bool) : Prop := i < n ∧ kp i = false ∧ kq i = true ∧ ∀ j, j < n → j ≠ i → kq j = kp j
theorem cN_add {t yr : Nat → Nat} {n i : Nat} {kp kq : Nat → Bool} (h : Adds n i kp kq) (y : Nat) : cN t yr n kq y = cN t yr n kp y + (if 0 < t i ∧ yr i = y then 1 else 0) := by
  obtain ⟨hi, h1, h2, h3⟩ := h
  have := sN_upd (f := fun j => if kp j = true ∧ 0 < t j ∧ yr j = y then 1 else 0) (g := fun j => if kq j = true ∧ 0 < t j ∧ yr j = y then 1 else 0) (i := i) n hi (fun j hj hne => by
    show (if kq j = true ∧ 0 < t j ∧ yr j = y then 1 else 0) = (if kp j = true ∧ 0 < t j ∧ yr j = y then 1 else 0)
    rw [h3 j hj hne])
  have e1 : (if kp i = true ∧ 0 < t i ∧ yr i = y then 1 else 0) = 0 := by
    rw [if_neg (fun z => by rw [h1] at z; cases z.1)]
  have e2 : (if kq i = true ∧ 0 < t i ∧ yr i = y then 1 else 0) = (if 0 < t i ∧ yr i = y then 1 else 0) := by
    rw [h2]
    simp
  rw [e1, e2] at this
  exact this
theorem hiN_add {t : Nat → Nat} {n i : Nat} {kp kq : Nat → Bool} (h : Adds n i kp kq) : hiN t n kq = hiN t n kp + t i := by
  obtain ⟨hi, h1, h2, h3⟩ := h
  have := sN_upd (f := fun j => if kp j = true then t j else 0) (g := fun j => if kq j = true then t j else 0) (i := i) n hi (fun j hj hne => by
    show (if kq j = true then t j else 0) = (if kp j = true then t j else 0)
    rw [h3 j hj hne])
  have e1 : (if kp i = true then t i else 0) = 0 := by
    rw [h1]
    rfl
  have e2 : (if kq i = true then t i else 0) = t i := by
    rw [h2]
    rfl
  rw [e1, e2] at this
  exact this
theorem loN_add {t h : Nat → Nat} {n i : Nat} {kp kq : Nat → Bool} (ha : Adds n i kp kq) : loN t h n kq = loN t h n kp + t i * h i := by
  obtain ⟨hi, h1, h2, h3⟩ := ha
  have := sN_upd (f := fun j => if kp j = true then t j * h j else 0) (g := fun j => if kq j = true then t j * h j else 0) (i := i) n hi (fun j hj hne => by
    show (if kq j = true then t j * h j else 0) = (if kp j = true then t j * h j else 0)
    rw [h3 j hj hne])
  have e1 : (if kp i = true then t i * h i else 0) = 0 := by
    rw [h1]
    rfl
  have e2 : (if kq i = true then t i * h i else 0) = t i * h i := by
    rw [h2]
    rfl
  rw [e1, e2] at this
  exact this
theorem yN_add {t yr : Nat → Nat} {n i : Nat} {kp kq : Nat → Bool} (h : Adds n i kp kq) (ht : 0 < t i) (hy : yr i < 100) : yN t yr n kq = yN t yr n kp + (if cN t yr n kp (yr i) = 0 then 1 else 0) := by
  have := sN_upd (f := fun y => if 0 < cN t yr n kp y then 1 else 0) (g := fun y => if 0 < cN t yr n kq y then 1 else 0) (i := yr i) 100 hy (fun y hj hne => by
    show (if 0 < cN t yr n kq y then 1 else 0) = (if 0 < cN t yr n kp y then 1 else 0)
    rw [cN_add h y, if_neg (show ¬ (0 < t i ∧ yr i = y) from fun z => hne z.2.symm), Nat.add_zero])
  have e2 : (if 0 < cN t yr n kq (yr i) then 1 else 0) = 1 := by
    rw [cN_add h (yr i), if_pos (show 0 < t i ∧ yr i = yr i from ⟨ht, rfl⟩), if_pos (by omega)]
  rw [e2] at this
  have e1 : (if 0 < cN t yr n kp (yr i) then 1 else 0) + (if cN t yr n kp (yr i) = 0 then 1 else 0) = 1 := by
    rcases Nat.eq_zero_or_pos (cN t yr n kp (yr i)) with z | z
    · rw [z]
      rfl
    · rw [if_pos z, if_neg (by omega)]
  unfold yN
  omega
theorem yN_add0 {t yr : Nat → Nat} {n i : Nat} {kp kq : Nat → Bool} (h : Adds n i kp kq) (ht : t i = 0) : yN t yr n kq = yN t yr n kp := by
  unfold yN
  refine sN_cg 100 (fun y _ => ?_)
  show (if 0 < cN t yr n kq y then 1 else 0) = (if 0 < cN t yr n kp y then 1 else 0)
  rw [cN_add h y, if_neg (show ¬ (0 < t i ∧ yr i = y) from fun z => by omega), Nat.add_zero]
def LgSt (t h yr : Nat → Nat) (n : Nat) (kp : Nat → Bool) (st : LSt) : Prop := st.1 = nI (hiN t n kp) ∧ st.2.1 = nI (loN t h n kp) ∧ st.2.2.1 = nI (yN t yr n kp) ∧ ∀ y, y < 100 → st.2.2.2 y = nI (cN t yr n kp y)
theorem LgSt.cg {t h yr : Nat → Nat} {n : Nat} {kp kq : Nat → Bool} {st : LSt} (hs : LgSt t h yr n kp st) (he : ∀ j, j < n → kq j = kp j) : LgSt t h yr n kq st := by
  have ec : ∀ y, cN t yr n kq y = cN t yr n kp y := fun y => sN_cg n (fun j hj => by
    show (if kq j = true ∧ 0 < t j ∧ yr j = y then 1 else 0) = (if kp j = true ∧ 0 < t j ∧ yr j = y then 1 else 0)
    rw [he j hj])
  have e1 : hiN t n kq = hiN t n kp := sN_cg n (fun j hj => by
    show (if kq j = true then t j else 0) = (if kp j = true then t j else 0)
    rw [he j hj])
  have e2 : loN t h n kq = loN t h n kp := sN_cg n (fun j hj => by
    show (if kq j = true then t j * h j else 0) = (if kp j = true then t j * h j else 0)
    rw [he j hj])
  have e3 : yN t yr n kq = yN t yr n kp := sN_cg 100 (fun y _ => by
    show (if 0 < cN t yr n kq y then 1 else 0) = (if 0 < cN t yr n kp y then 1 else 0)
    rw [ec])
  unfold LgSt
  rw [e1, e2, e3]
  exact ⟨hs.1, hs.2.1, hs.2.2.1, fun y hy => by rw [ec]; exact hs.2.2.2 y hy⟩
theorem nI_gt0 {t : Nat} (ht : t < 2 ^ 31) : (0 < nI t) ↔ 0 < t := nI_ltI (a := 0) (by decide) ht
theorem LgSt.pb {t h yr : Nat → Nat} {n i : Nat} {kp kq : Nat → Bool} {st : LSt} (hn : n ≤ 12) (ht : t i < 2 ^ 31) (hy : yr i < 100) (ha : Adds n i kp kq) (hs : LgSt t h yr n kp st) : LgSt t h yr n kq (pbS (nI (t i)) (nI (h i)) (yr i) st) := by
  obtain ⟨s1, s2, s3, s4⟩ := hs
  unfold pbS LgSt
  rw [hiN_add ha, loN_add ha]
  by_cases hp : 0 < t i
  · rw [if_pos ((nI_gt0 ht).mpr hp), yN_add ha hp hy]
    have cl := cN_le (t := t) (yr := yr) (n := n) (kp := kp) (y := yr i)
    refine ⟨?_, ?_, ?_, fun y hy' => ?_⟩
    · show st.1 + nI (t i) = _
      rw [s1, nI_add]
    · show st.2.1 + nI (t i) * nI (h i) = _
      rw [s2, pk_mul, nI_add]
    · show st.2.2.1 + (if st.2.2.2 (yr i) = 0 then nI 1 else nI 0) = _
      rw [s3, s4 _ hy]
      by_cases z : cN t yr n kp (yr i) = 0
      · rw [z, if_pos nI_0, if_pos rfl, nI_add]
      · rw [if_neg (nI_ne0 (by omega) (by omega)), if_neg z, nI_add]
    · show upd st.2.2.2 (yr i) (st.2.2.2 (yr i) + nI 1) y = _
      rw [cN_add ha y]
      unfold upd
      by_cases e : y = yr i
      · rw [if_pos e, e, if_pos ⟨hp, rfl⟩, s4 _ hy, nI_add]
      · rw [if_neg e, if_neg (fun z => e z.2.symm), s4 _ hy', Nat.add_zero]
  · have h0 : t i = 0 := by omega
    rw [if_neg (fun z => hp ((nI_gt0 ht).mp z)), yN_add0 ha h0, h0, Nat.zero_mul, Nat.add_zero, Nat.add_zero]
    refine ⟨s1, s2, s3, fun y hy' => ?_⟩
    rw [cN_add ha y, if_neg (fun z => by omega), Nat.add_zero]
    exact s4 y hy'
theorem LgSt.to {t h yr : Nat → Nat} {n i : Nat} {kp kq : Nat → Bool} {st : LSt} (hn : n ≤ 12) (ht : t i < 2 ^ 31) (hy : yr i < 100) (ha : Adds n i kp kq) (hs : LgSt t h yr n kq st) : LgSt t h yr n kp (toS (nI (t i)) (nI (h i)) (yr i) st) := by
  obtain ⟨s1, s2, s3, s4⟩ := hs
  rw [hiN_add ha] at s1
  rw [loN_add ha] at s2
  unfold toS LgSt
  by_cases hp : 0 < t i
  · rw [if_pos ((nI_gt0 ht).mpr hp)]
    rw [yN_add ha hp hy] at s3
    have cl := cN_le (t := t) (yr := yr) (n := n) (kp := kp) (y := yr i)
    have e4 : st.2.2.2 (yr i) - nI 1 = nI (cN t yr n kp (yr i)) := by
      rw [s4 _ hy, cN_add ha, if_pos ⟨hp, rfl⟩, pk_sub (by omega), Nat.add_sub_cancel]
    refine ⟨?_, ?_, ?_, fun y hy' => ?_⟩
    · show st.1 - nI (t i) = _
      rw [s1, pk_sub (by omega), Nat.add_sub_cancel]
    · show st.2.1 - nI (t i) * nI (h i) = _
      rw [s2, pk_mul, pk_sub (by omega), Nat.add_sub_cancel]
    · show st.2.2.1 - (if st.2.2.2 (yr i) - nI 1 = 0 then nI 1 else nI 0) = _
      rw [s3, e4]
      by_cases z : cN t yr n kp (yr i) = 0
      · rw [z, if_pos nI_0, if_pos rfl, pk_sub (by omega), Nat.add_sub_cancel]
      · rw [if_neg (nI_ne0 (by omega) (by omega)), if_neg z, pk_sub (by omega)]
        rw [Nat.sub_zero, Nat.add_zero]
    · show upd st.2.2.2 (yr i) (st.2.2.2 (yr i) - nI 1) y = _
      unfold upd
      by_cases e : y = yr i
      · rw [if_pos e, e, e4]
      · rw [if_neg e, s4 _ hy', cN_add ha, if_neg (fun z => e z.2.symm), Nat.add_zero]
  · have h0 : t i = 0 := by omega
    rw [h0] at s1 s2
    rw [Nat.zero_mul] at s2
    rw [yN_add0 ha h0] at s3
    rw [if_neg (fun z => hp ((nI_gt0 ht).mp z))]
    refine ⟨s1, s2, s3, fun y hy' => ?_⟩
    rw [s4 y hy', cN_add ha y, if_neg (fun z => by omega), Nat.add_zero]
/-- the layers that stay where set s goes -/
def kS (s : Nat) : Nat → Bool := fun j => decide (s / 2 ^ j % 2 = 0)
theorem low_bits {s i : Nat} (h : s % 2 ^ i + 1 = 2 ^ i) (h0 : s / 2 ^ i % 2 = 0) : (∀ j, j < i → (s + 1) / 2 ^ j % 2 = 0) ∧ (s + 1) / 2 ^ i % 2 = 1 ∧ ∀ j, i < j → (s + 1) / 2 ^ j = s / 2 ^ j := by
  have hp : 0 < 2 ^ i := Nat.pow_pos (by omega)
  have e1 := Nat.div_add_mod s (2 ^ i)
  generalize hq : s / 2 ^ i = q at *
  have e2 : s + 1 = 2 ^ i * (q + 1) := by
    rw [Nat.mul_add]
    omega
  have e3 : (s + 1) / 2 ^ i = q + 1 := by rw [e2, Nat.mul_div_cancel_left _ hp]
  refine ⟨fun j hj => ?_, by omega, fun j hj => ?_⟩
  · obtain ⟨d, rfl⟩ : ∃ d, i = j + 1 + d := ⟨i - j - 1, by omega⟩
    rw [e2, Nat.pow_add, Nat.pow_add, Nat.mul_assoc, Nat.mul_assoc, Nat.mul_div_cancel_left _ (Nat.pow_pos (by omega)), Nat.pow_one, Nat.mul_mod_right]
  · obtain ⟨d, rfl⟩ : ∃ d, j = i + 1 + d := ⟨j - i - 1, by omega⟩
    rw [Nat.pow_add, Nat.pow_add, ← Nat.div_div_eq_div_mul, ← Nat.div_div_eq_div_mul, ← Nat.div_div_eq_div_mul, ← Nat.div_div_eq_div_mul, e3, hq, Nat.pow_one, show (q + 1) / 2 = q / 2 by omega]
theorem go_st {t h yr : Nat → Nat} {T H : Nat → Int32} {n s : Nat} (hn : n ≤ 12) (hs : s + 1 < 2 ^ n) (hT : ∀ i, i < n → T i = nI (t i) ∧ H i = nI (h i) ∧ t i < 2 ^ 31 ∧ yr i < 100) : ∀ (k i : Nat) (st : LSt), i + k = n → s % 2 ^ i + 1 = 2 ^ i → LgSt t h yr n (fun j => decide (j < i) || kS s j) st → LgSt t h yr n (kS (s + 1)) (goS T H yr s k i st) := by
  intro k
  induction k with
  | zero =>
    intro i st hi hm hst
    obtain rfl : n = i := by omega
    rw [Nat.mod_eq_of_lt (by omega)] at hm
    omega
  | succ k ih =>
    intro i st hi hm hst
    obtain ⟨q1, q2, q3, q4⟩ := hT i (by omega)
    by_cases hb : s / 2 ^ i % 2 = 0
    · have e : goS T H yr s (k + 1) i st = toS (T i) (H i) (yr i) st := if_pos hb
      obtain ⟨l1, l2, l3⟩ := low_bits hm hb
      rw [e, q1, q2]
      refine LgSt.to (kq := fun j => decide (j < i) || kS s j) hn q3 q4 ⟨by omega, ?_, ?_, fun j hj hne => ?_⟩ hst
      · exact decide_eq_false (by omega)
      · show (decide (i < i) || kS s i) = true
        unfold kS
        rw [decide_eq_true hb, Bool.or_true]
      · show (decide (j < i) || kS s j) = kS (s + 1) j
        unfold kS
        rcases Nat.lt_or_ge j i with z | z
        · rw [decide_eq_true z, l1 j z]
          rfl
        · rw [decide_eq_false (by omega), l3 j (by omega), Bool.false_or]
    · have e : goS T H yr s (k + 1) i st = goS T H yr s k (i + 1) (pbS (T i) (H i) (yr i) st) := if_neg hb
      rw [e, q1, q2]
      refine ih (i + 1) _ (by omega) ?_ (LgSt.pb hn q3 q4 ⟨by omega, ?_, ?_, fun j hj hne => ?_⟩ hst)
      · rw [Nat.mod_pow_succ, show s / 2 ^ i % 2 = 1 by omega, Nat.mul_one, Nat.pow_succ]
        omega
      · show (decide (i < i) || kS s i) = false
        unfold kS
        rw [decide_eq_false hb, decide_eq_false (Nat.lt_irrefl i)]
        rfl
      · show (decide (i < i + 1) || kS s i) = true
        rw [decide_eq_true (Nat.lt_succ_self i)]
        rfl
      · show (decide (j < i + 1) || kS s j) = (decide (j < i) || kS s j)
        rw [show decide (j < i + 1) = decide (j < i) from decide_eq_decide.mpr (by omega)]
theorem swa_st {t h yr : Nat → Nat} {T H : Nat → Int32} {n : Nat} {st0 : LSt} (hn : n ≤ 12) (hT : ∀ i, i < n → T i = nI (t i) ∧ H i = nI (h i) ∧ t i < 2 ^ 31 ∧ yr i < 100) (h0 : LgSt t h yr n (fun _ => false) st0) : ∀ i, i ≤ n → LgSt t h yr n (fun j => decide (j < i)) (swaS T H yr st0 i) := by
  intro i
  induction i with
  | zero =>
    intro _
    exact h0.cg (fun j hj => decide_eq_false (Nat.not_lt_zero j))
  | succ i ih =>
    intro hi
    obtain ⟨q1, q2, q3, q4⟩ := hT i (by omega)
    show LgSt t h yr n (fun j => decide (j < i + 1)) (pbS (T i) (H i) (yr i) (swaS T H yr st0 i))
    rw [q1, q2]
    refine LgSt.pb hn q3 q4 ⟨by omega, decide_eq_false (Nat.lt_irrefl i), decide_eq_true (Nat.lt_succ_self i), fun j hj hne => ?_⟩ (ih (by omega))
    exact decide_eq_decide.mpr (by omega)
theorem sN_z {f : Nat → Nat} : ∀ n, (∀ j, j < n → f j = 0) → sN f n = 0 := by
  intro n
  induction n with
  | zero => intro _; rfl
  | succ n ih =>
    intro h
    unfold sN
    rw [ih (fun j hj => h j (by omega)), h n (by omega)]
theorem sw0_st {t h yr : Nat → Nat} {n : Nat} {X : HI} : LgSt t h yr n (fun _ => false) (sw0 X) := by
  have e4 : ∀ y, cN t yr n (fun _ => false) y = 0 := fun y => sN_z n (fun j _ => rfl)
  have e1 : hiN t n (fun _ => false) = 0 := sN_z n (fun j _ => rfl)
  have e2 : loN t h n (fun _ => false) = 0 := sN_z n (fun j _ => rfl)
  have e3 : yN t yr n (fun _ => false) = 0 := sN_z 100 (fun y _ => by
    show (if 0 < cN t yr n (fun _ => false) y then 1 else 0) = 0
    rw [e4]
    rfl)
  unfold LgSt
  rw [e1, e2, e3]
  refine ⟨rfl, rfl, rfl, fun y hy => ?_⟩
  rw [e4]
  show fillH X 43 100 (nI 0) 43 y = nI 0
  unfold fillH
  rw [if_pos ⟨rfl, hy⟩]
/-- years of rising layers: as many as the runs -/
theorem yr_runs {t yr : Nat → Nat} {T Y : Nat → Int32} {n s : Nat} (hT : ∀ i, i < n → T i = nI (t i) ∧ Y i = nI (yr i) ∧ t i < 2 ^ 31 ∧ yr i < 100) (hs : ∀ i j, i < j → j < n → yr i ≤ yr j) : ∀ i, i ≤ n →
    (yrS T Y s i).1 = yN t yr n (fun j => decide (j < i) && kS s j) ∧ (((∀ y, cN t yr n (fun j => decide (j < i) && kS s j) y = 0) ∧ (yrS T Y s i).2 = -1) ∨ ∃ z, z < 100 ∧ (yrS T Y s i).2 = nI z ∧ 0 < cN t yr n (fun j => decide (j < i) && kS s j) z ∧ (∃ j, j < i ∧ yr j = z) ∧ ∀ y, 0 < cN t yr n (fun j => decide (j < i) && kS s j) y → y ≤ z) := by
  intro i
  induction i with
  | zero =>
    intro _
    have e4 : ∀ y, cN t yr n (fun j => decide (j < 0) && kS s j) y = 0 := fun y => sN_z n (fun j _ => by
      show (if (decide (j < 0) && kS s j) = true ∧ 0 < t j ∧ yr j = y then 1 else 0) = 0
      rw [decide_eq_false (Nat.not_lt_zero j)]
      rfl)
    have e3 : yN t yr n (fun j => decide (j < 0) && kS s j) = 0 := sN_z 100 (fun y _ => by
      show (if 0 < cN t yr n (fun j => decide (j < 0) && kS s j) y then 1 else 0) = 0
      rw [e4]
      rfl)
    rw [e3]
    exact ⟨rfl, Or.inl ⟨e4, rfl⟩⟩
  | succ i ih =>
    intro hi
    obtain ⟨i1, i2⟩ := ih (by omega)
    obtain ⟨q1, q2, q3, q4⟩ := hT i (by omega)
    by_cases hk : s / 2 ^ i % 2 = 0
    · have ha : Adds n i (fun j => decide (j < i) && kS s j) (fun j => decide (j < i + 1) && kS s j) := by
        refine ⟨by omega, ?_, ?_, fun j hj hne => ?_⟩
        · show (decide (i < i) && kS s i) = false
          rw [decide_eq_false (Nat.lt_irrefl i)]
          rfl
        · show (decide (i < i + 1) && kS s i) = true
          unfold kS
          rw [decide_eq_true (Nat.lt_succ_self i), decide_eq_true hk]
          rfl
        · show (decide (j < i + 1) && kS s j) = (decide (j < i) && kS s j)
          rw [show decide (j < i + 1) = decide (j < i) from decide_eq_decide.mpr (by omega)]
      by_cases ht : 0 < t i
      · have e : yrS T Y s (i + 1) = (if Y i = (yrS T Y s i).2 then (yrS T Y s i).1 else (yrS T Y s i).1 + 1, Y i) := if_pos ⟨hk, by rw [q1]; exact (nI_gt0 q3).mpr ht⟩
        rw [e, yN_add ha ht q4, q2]
        have cz : cN t yr n (fun j => decide (j < i + 1) && kS s j) (yr i) = cN t yr n (fun j => decide (j < i) && kS s j) (yr i) + 1 := by rw [cN_add ha, if_pos ⟨ht, rfl⟩]
        refine ⟨?_, Or.inr ⟨yr i, q4, rfl, by omega, ⟨i, by omega, rfl⟩, fun y hy => ?_⟩⟩
        · show (if nI (yr i) = (yrS T Y s i).2 then (yrS T Y s i).1 else (yrS T Y s i).1 + 1) = _
          rcases i2 with ⟨w1, w2⟩ | ⟨z, w1, w2, w3, w4, w5⟩
          · rw [w2, if_neg (fun v => absurd (nI_pos (show yr i < 2 ^ 31 by omega)) (by rw [v]; decide)), w1, if_pos rfl, i1]
          · obtain ⟨j, j1, j2⟩ := w4
            have hle := hs j i j1 (by omega)
            by_cases ez : yr i = z
            · rw [w2, ez, if_pos rfl, if_neg (by omega), i1, Nat.add_zero]
            · rw [w2, if_neg (fun v => ez ((nI_eq (by omega) (by omega)).mp v)), i1]
              rw [if_pos]
              rcases Nat.eq_zero_or_pos (cN t yr n (fun j => decide (j < i) && kS s j) (yr i)) with v | v
              · exact v
              · have := w5 _ v
                omega
        · rw [cN_add ha] at hy
          by_cases ey : yr i = y
          · omega
          · rw [if_neg (fun v => ey v.2), Nat.add_zero] at hy
            rcases i2 with ⟨w1, w2⟩ | ⟨z, w1, w2, w3, w4, w5⟩
            · rw [w1] at hy
              omega
            · obtain ⟨j, j1, j2⟩ := w4
              have hle := hs j i j1 (by omega)
              have := w5 _ hy
              omega
      · have e : yrS T Y s (i + 1) = yrS T Y s i := if_neg (fun z => ht ((nI_gt0 q3).mp (by rw [← q1]; exact z.2)))
        have ec : ∀ y, cN t yr n (fun j => decide (j < i + 1) && kS s j) y = cN t yr n (fun j => decide (j < i) && kS s j) y := fun y => by
          rw [cN_add ha, if_neg (fun z => ht z.1), Nat.add_zero]
        rw [e, yN_add0 ha (by omega)]
        simp only [ec]
        refine ⟨i1, ?_⟩
        rcases i2 with w | ⟨z, w1, w2, w3, ⟨j, j1, j2⟩, w5⟩
        · exact Or.inl w
        · exact Or.inr ⟨z, w1, w2, w3, ⟨j, by omega, j2⟩, w5⟩
    · have e : yrS T Y s (i + 1) = yrS T Y s i := if_neg (fun z => hk z.1)
      have ek : ∀ j, (decide (j < i + 1) && kS s j) = (decide (j < i) && kS s j) := fun j => by
        by_cases ej : j = i
        · subst ej
          have : kS s j = false := decide_eq_false hk
          rw [this, Bool.and_false, Bool.and_false]
        · rw [show decide (j < i + 1) = decide (j < i) from decide_eq_decide.mpr (by omega)]
      rw [e, show (fun j => decide (j < i + 1) && kS s j) = (fun j => decide (j < i) && kS s j) from funext ek]
      refine ⟨i1, ?_⟩
      rcases i2 with w | ⟨z, w1, w2, w3, ⟨j, j1, j2⟩, w5⟩
      · exact Or.inl w
      · exact Or.inr ⟨z, w1, w2, w3, ⟨j, by omega, j2⟩, w5⟩
def bestR (b b' : Int32 × Int32 × Int32) : Prop := b = b' ∨ (b = (nI 0, -1, -1) ∧ b' = (-1, -1, -1))
theorem lg_ml {T H : Nat → Int32} {yr : Nat → Nat} {n : Nat} {mh ml : Int32} {hi lo : Nat → Int32} {ys : Nat → Nat} {P : Nat → LSt → Prop} (hP : ∀ s st, s < 2 ^ n → P s st → st.1 = hi s ∧ st.2.1 = lo s ∧ st.2.2.1 = nI (ys s)) (hgo : ∀ s st, s + 1 < 2 ^ n → P s st → P (s + 1) (goS T H yr s n 0 st)) : ∀ (k s : Nat) (st : LSt) (b : Int32 × Int32 × Int32), s + k = 2 ^ n → (s < 2 ^ n → P s st) → bestR b (mlS hi lo ys mh ml s) → bestR (lgS T H yr n mh ml k s st b).2 (mlS hi lo ys mh ml (2 ^ n)) := by
  intro k
  induction k with
  | zero =>
    intro s st b hk hp hb
    obtain rfl : s = 2 ^ n := by omega
    exact hb
  | succ k ih =>
    intro s st b hk hp hb
    have hlt : s < 2 ^ n := by omega
    obtain ⟨p1, p2, p3⟩ := hP s st hlt (hp hlt)
    have e : lgS T H yr n mh ml (k + 1) s st b = lgS T H yr n mh ml k (s + 1) (goS T H yr s n 0 st) (if (st.1 ≤ mh ∧ st.2.1 ≤ ml) ∧ (b.2.1 < st.2.2.1 ∨ (st.2.2.1 = b.2.1 ∧ b.2.2 < st.1)) then (nI s, st.2.2.1, st.1) else b) := rfl
    have e2 : mlS hi lo ys mh ml (s + 1) = (if hi s ≤ mh ∧ lo s ≤ ml ∧ ((mlS hi lo ys mh ml s).2.1 < nI (ys s) ∨ (nI (ys s) = (mlS hi lo ys mh ml s).2.1 ∧ (mlS hi lo ys mh ml s).2.2 < hi s)) then (nI s, nI (ys s), hi s) else mlS hi lo ys mh ml s) := rfl
    rw [e]
    refine ih (s + 1) _ _ (by omega) (fun z => hgo s st z (hp hlt)) ?_
    have eb : b.2 = (mlS hi lo ys mh ml s).2 := by
      rcases hb with z | z
      · rw [z]
      · rw [z.1, z.2]
    rw [e2, p1, p2, p3, eb]
    by_cases c : hi s ≤ mh ∧ lo s ≤ ml ∧ ((mlS hi lo ys mh ml s).2.1 < nI (ys s) ∨ (nI (ys s) = (mlS hi lo ys mh ml s).2.1 ∧ (mlS hi lo ys mh ml s).2.2 < hi s))
    · rw [if_pos c, if_pos ⟨⟨c.1, c.2.1⟩, c.2.2⟩]
      exact Or.inl rfl
    · rw [if_neg c, if_neg (fun z => c ⟨z.1.1, z.1.2, z.2⟩)]
      exact hb
theorem m1_lt {j : Nat} (h : j < 2 ^ 31) : (-1 : Int32) < nI j := by
  rw [Int32.lt_iff_toInt_lt, nI_toInt h]
  show (-1 : Int) < (j : Int)
  omega
theorem ml_some {hi lo : Nat → Int32} {ys : Nat → Nat} {mh ml : Int32} {c : Nat} (h1 : hi c ≤ mh) (h2 : lo c ≤ ml) (h3 : ys c < 2 ^ 31) : mlS hi lo ys mh ml (c + 1) ≠ (-1, -1, -1) := by
  intro z
  have e2 : mlS hi lo ys mh ml (c + 1) = (if hi c ≤ mh ∧ lo c ≤ ml ∧ ((mlS hi lo ys mh ml c).2.1 < nI (ys c) ∨ (nI (ys c) = (mlS hi lo ys mh ml c).2.1 ∧ (mlS hi lo ys mh ml c).2.2 < hi c)) then (nI c, nI (ys c), hi c) else mlS hi lo ys mh ml c) := rfl
  rw [e2] at z
  by_cases q : hi c ≤ mh ∧ lo c ≤ ml ∧ ((mlS hi lo ys mh ml c).2.1 < nI (ys c) ∨ (nI (ys c) = (mlS hi lo ys mh ml c).2.1 ∧ (mlS hi lo ys mh ml c).2.2 < hi c))
  · rw [if_pos q] at z
    have z2 : nI (ys c) = -1 := congrArg (fun v => v.2.1) z
    have := m1_lt h3
    rw [z2] at this
    exact absurd this (by decide)
  · rw [if_neg q] at z
    apply q
    rw [z]
    exact ⟨h1, h2, Or.inl (m1_lt h3)⟩
theorem all_bits {n i : Nat} (h : i < n) : (2 ^ n - 1) / 2 ^ i % 2 = 1 := by
  have := Nat.testBit_two_pow_sub_one n i
  rw [Nat.testBit_eq_decide_div_mod_eq, decide_eq_true h, decide_eq_true_eq] at this
  exact this
theorem Z_letGo {I : HI} {J : HJ} (hr : Rel I J) (l w x : Int32) : Both mX6_letGo mX7_letGo [.int l, .int w, .int x] I J := by
  obtain ⟨nf, nk, yr, -, hl, hb, -⟩ := id hr
  obtain ⟨n, ns, b1, b2, b3, b4, b5, b6, b7, b8⟩ := bar_t hb
  obtain ⟨a1, a2, a3, a4, a5, a6, a7, a8, -⟩ := id hl
  have n12 : n ≤ 12 := Nat.le_trans b1 a2
  cases h : lgOk l w x with
  | false => exact Both.pure hr (S_letGo_bad (d := 6) h) (S_mletGo_bad (d := 6) h)
  | true =>
    refine ⟨_, S_letGo (d := 4) (yr := yr) h b3 n12 (fun i hi => ⟨(a5 i (by omega)).1, (a5 i (by omega)).2.2⟩), fun v I1 J1 hp => ?_⟩
    obtain ⟨e1, e2, e3⟩ := hp
    have r1 : ∀ a, 44 ≤ a → I1 a = I a := fun a h => e2 a (Or.inr h)
    refine ⟨_, S_mletGo (d := 5) (n := n) h (by rw [r1 50 (by omega)]; exact b4) n12, fun y I2 J2 hp2 => ?_⟩
    obtain ⟨f1, f2, f3⟩ := hp2
    have em : mletS I1 n l w (2 ^ n) = mletS I n l w (2 ^ n) := by
      unfold mletS
      rw [r1 51 (by omega), r1 48 (by omega)]
    have ev : letS I n yr l w = mletS I n l w (2 ^ n) := by
      obtain ⟨t, ht⟩ : ∃ t : Nat → Nat, ∀ i, i < n → t i ≤ 200 ∧ I 17 i = nI (t i) ∧ I 51 i = nI (t i) :=
        ⟨fun i => (I 17 i).toNatClampNeg, fun i hi => by
          obtain ⟨c1, c2, u, c3, c4⟩ := b8 i hi
          show (I 17 i).toNatClampNeg ≤ 200 ∧ I 17 i = nI (I 17 i).toNatClampNeg ∧ I 51 i = nI (I 17 i).toNatClampNeg
          rw [c1, c4, nI_clamp (by omega)]
          exact ⟨c3, rfl, rfl⟩⟩
      obtain ⟨hh, hhh⟩ : ∃ g : Nat → Nat, ∀ i, i < n → I 7 i = nI (g i) ∧ I 48 (4 * i + 2) = nI (g i) :=
        ⟨fun i => (I 7 i).toNatClampNeg, fun i hi => by
          obtain ⟨c1, u, c2, c3, c4⟩ := a8 i (by omega)
          show I 7 i = nI (I 7 i).toNatClampNeg ∧ I 48 (4 * i + 2) = nI (I 7 i).toNatClampNeg
          rw [c1, c4, nI_clamp (by omega)]
          exact ⟨rfl, rfl⟩⟩
      have hT : ∀ i, i < n → I 17 i = nI (t i) ∧ I 7 i = nI (hh i) ∧ t i < 2 ^ 31 ∧ yr i < 100 := fun i hi => ⟨(ht i hi).2.1, (hhh i hi).1, by have := (ht i hi).1; omega, (a5 i (by omega)).2.2⟩
      have hT2 : ∀ i, i < n → I 51 i = nI (t i) ∧ (fun i => I 48 (4 * i)) i = nI (yr i) ∧ t i < 2 ^ 31 ∧ yr i < 100 := fun i hi => ⟨(ht i hi).2.2, (a5 i (by omega)).2.1, by have := (ht i hi).1; omega, (a5 i (by omega)).2.2⟩
      have bt : ∀ s i, i < n → bitT (I 51) s i = nI (if kS s i = true then t i else 0) := fun s i hi => by
        unfold bitT kS
        by_cases z : s / 2 ^ i % 2 = 1
        · rw [if_pos z, decide_eq_false (by omega)]
          rfl
        · rw [if_neg z, decide_eq_true (by omega), (ht i hi).2.2]
          rfl
      have hhi : ∀ s, sI (bitT (I 51) s) n = nI (hiN t n (kS s)) := fun s => sI_N (fun i hi => bt s i hi)
      have hlo : ∀ s, sI (fun i => bitT (I 51) s i * I 48 (4 * i + 2)) n = nI (loN t hh n (kS s)) := fun s => sI_N (fun i hi => by
        show bitT (I 51) s i * I 48 (4 * i + 2) = nI (if kS s i = true then t i * hh i else 0)
        rw [bt s i hi, (hhh i hi).2, pk_mul]
        congr 1
        split
        · rfl
        · exact Nat.zero_mul _)
      have hys : ∀ s, (yrS (I 51) (fun i => I 48 (4 * i)) s n).1 = yN t yr n (kS s) := fun s => by
        rw [(yr_runs hT2 (fun i j hij hj => a6 i j hij (by omega)) n (Nat.le_refl n)).1]
        refine sN_cg 100 (fun y _ => ?_)
        have ec : cN t yr n (fun j => decide (j < n) && kS s j) y = cN t yr n (kS s) y := sN_cg n (fun j hj => by
          show (if (decide (j < n) && kS s j) = true ∧ 0 < t j ∧ yr j = y then 1 else 0) = (if kS s j = true ∧ 0 < t j ∧ yr j = y then 1 else 0)
          rw [decide_eq_true hj, Bool.true_and])
        show (if 0 < cN t yr n (fun j => decide (j < n) && kS s j) y then 1 else 0) = (if 0 < cN t yr n (kS s) y then 1 else 0)
        rw [ec]
      have st0 : LgSt t hh yr n (kS 0) (swaS (I 17) (I 7) yr (sw0 I) n) := (swa_st n12 hT sw0_st n (Nat.le_refl n)).cg (fun j hj => by
        show kS 0 j = decide (j < n)
        unfold kS
        rw [decide_eq_true hj, Nat.zero_div]
        rfl)
      have key := lg_ml (T := I 17) (H := I 7) (yr := yr) (n := n) (mh := nI 10 * w) (ml := nI 10 * l) (hi := fun s => sI (bitT (I 51) s) n) (lo := fun s => sI (fun i => bitT (I 51) s i * I 48 (4 * i + 2)) n) (ys := fun s => (yrS (I 51) (fun i => I 48 (4 * i)) s n).1) (P := fun s st => LgSt t hh yr n (kS s) st) (fun s st _ hp => by
        show st.1 = sI (bitT (I 51) s) n ∧ st.2.1 = sI (fun i => bitT (I 51) s i * I 48 (4 * i + 2)) n ∧ st.2.2.1 = nI (yrS (I 51) (fun i => I 48 (4 * i)) s n).1
        rw [hhi, hlo, hys]
        exact ⟨hp.1, hp.2.1, hp.2.2.1⟩) (fun s st hs hp => go_st n12 hs hT n 0 st (Nat.zero_add n) (by rw [Nat.pow_zero, Nat.mod_one]) (hp.cg (fun j hj => by
        show (decide (j < 0) || kS s j) = kS s j
        rw [decide_eq_false (Nat.not_lt_zero j), Bool.false_or]))) (2 ^ n) 0 _ (nI 0, -1, -1) (Nat.zero_add _) (fun _ => st0) (Or.inr ⟨rfl, rfl⟩)
      rcases key with z | ⟨z1, z2⟩
      · exact z
      · exfalso
        unfold lgOk at h
        simp only [Bool.and_eq_true] at h
        obtain ⟨⟨h1, h2⟩, h3⟩ := h
        obtain ⟨l', l1, l2, rfl⟩ := inr_nI2 (by decide) h1 (by decide)
        obtain ⟨w', w1, w2, rfl⟩ := inr_nI2 (by decide) h2 (by decide)
        have hp : 0 < 2 ^ n := Nat.pow_pos (by omega)
        have kz : ∀ i, i < n → kS (2 ^ n - 1) i = false := fun i hi => by
          unfold kS
          rw [all_bits hi]
          rfl
        have q1 : hiN t n (kS (2 ^ n - 1)) = 0 := sN_z n (fun i hi => by
          show (if kS (2 ^ n - 1) i = true then t i else 0) = 0
          rw [kz i hi]
          rfl)
        have q2 : loN t hh n (kS (2 ^ n - 1)) = 0 := sN_z n (fun i hi => by
          show (if kS (2 ^ n - 1) i = true then t i * hh i else 0) = 0
          rw [kz i hi]
          rfl)
        refine ml_some (hi := fun s => sI (bitT (I 51) s) n) (lo := fun s => sI (fun i => bitT (I 51) s i * I 48 (4 * i + 2)) n) (ys := fun s => (yrS (I 51) (fun i => I 48 (4 * i)) s n).1) (mh := nI 10 * nI w') (ml := nI 10 * nI l') (c := 2 ^ n - 1) ?_ ?_ ?_ (by rw [show 2 ^ n - 1 + 1 = 2 ^ n by omega]; exact z2)
        · show sI (bitT (I 51) (2 ^ n - 1)) n ≤ nI 10 * nI w'
          rw [hhi, q1, pk_mul]
          exact (nI_leI (by omega) (by omega)).mpr (Nat.zero_le _)
        · show sI (fun i => bitT (I 51) (2 ^ n - 1) i * I 48 (4 * i + 2)) n ≤ nI 10 * nI l'
          rw [hlo, q2, pk_mul]
          exact (nI_leI (by omega) (by omega)).mpr (Nat.zero_le _)
        · show (yrS (I 51) (fun i => I 48 (4 * i)) (2 ^ n - 1) n).1 < 2 ^ 31
          rw [hys]
          have := yN_le (t := t) (yr := yr) (n := n) (kp := kS (2 ^ n - 1))
          omega
    rw [f1, f2, f3, e1, e3, em, ev]
    exact ⟨rfl, hr.qt (e2.qt (fun a h1 h2 => by omega)) (fun b => rfl)⟩
