/-! call by call: a sale -/
theorem sN_shift (f : Nat → Nat) : ∀ n, sN (fun s => f (s + 1)) n + f 0 = sN f (n + 1) := by
  intro n
  induction n with
  | zero =>
    show 0 + f 0 = 0 + f 0
    rfl
  | succ n ih =>
    show sN (fun s => f (s + 1)) n + f (n + 1) + f 0 = sN f (n + 1) + f (n + 1)
    omega
theorem sN_cg {f g : Nat → Nat} : ∀ n, (∀ i, i < n → f i = g i) → sN f n = sN g n := by
  intro n
  induction n with
  | zero => intro _; rfl
  | succ n ih =>
    intro h
    unfold sN
    rw [ih (fun i hi => h i (by omega)), h n (by omega)]
/-- a sale put at place m behind m sales -/
theorem outN_put {l q : Nat → Nat} {m j a i : Nat} : outN (fun s => if s = m then j else l s) (fun s => if s = m then a else q s) i (m + 1) = outN l q i m + (if j = i then a else 0) := by
  rw [outN_s]
  show outN _ _ i m + (if (if m = m then j else l m) = i then (if m = m then a else q m) else 0) = _
  rw [if_pos rfl, if_pos rfl]
  congr 1
  unfold outN
  refine sN_cg m (fun s hs => ?_)
  show (if (if s = m then j else l s) = i then (if s = m then a else q s) else 0) = (if l s = i then q s else 0)
  rw [if_neg (show ¬ s = m by omega), if_neg (show ¬ s = m by omega)]
theorem outN_drop {l q : Nat → Nat} {i n : Nat} : outN (fun s => l (s + 1)) (fun s => q (s + 1)) i n ≤ outN l q i (n + 1) := by
  have h := sN_shift (fun s => if l s = i then q s else 0) n
  show sN (fun s => if l (s + 1) = i then q (s + 1) else 0) n ≤ sN (fun s => if l s = i then q s else 0) (n + 1)
  rw [← h]
  exact Nat.le_add_right _ _
/-- the barn after q tenths of layer j are sold, the sale put at place m (m sales stand there: L, Q, P) -/
theorem BarnR.sale {I I' : HI} {J J' : HJ} {nf n m j a : Nat} {t L Q : Nat → Nat} {paid : Int32} (h1 : n ≤ nf) (hm : m < 8) (hj : j < n) (ha : a ≤ t j)
    (hn : I 16 0 = nI n) (hn2 : I 50 0 = nI n) (hc : I 16 3 = (J 53 0).toInt32)
    (ht : ∀ i, i < n → I 17 i = nI (t i) ∧ I 51 i = nI (t i) ∧ I 52 i = I 18 i ∧ t i + outN L Q i m ≤ 200)
    (hs : ∀ s, s < m → L s < n ∧ I' 19 s = nI (L s) ∧ I' 55 (3 * s) = nI (L s) ∧ I' 20 s = nI (Q s) ∧ I' 55 (3 * s + 1) = nI (Q s) ∧ I' 55 (3 * s + 2) = I' 21 s)
    (g0 : I' 16 0 = I 16 0) (g50 : I' 50 0 = I 50 0) (g3 : I' 16 3 = I 16 3 + paid) (gJ : J' 53 0 = J 53 0 + paid.toInt64) (g4 : I' 16 4 = nI (m + 1)) (g54 : I' 54 0 = nI (m + 1))
    (g17 : ∀ b, b < n → I' 17 b = if b = j then I 17 j - nI a else I 17 b) (g51 : ∀ b, b < n → I' 51 b = if b = j then I 51 j - nI a else I 51 b) (g18 : ∀ b, b < n → I' 18 b = I 18 b) (g52 : ∀ b, b < n → I' 52 b = I 52 b)
    (p1 : I' 19 m = nI j) (p2 : I' 55 (3 * m) = nI j) (p3 : I' 20 m = nI a) (p4 : I' 55 (3 * m + 1) = nI a) (p5 : I' 55 (3 * m + 2) = I' 21 m) : BarnR I' J' nf 16 0 := by
  refine ⟨n, m + 1, fun i => if i = j then t j - a else t i, fun s => if s = m then j else L s, fun s => if s = m then a else Q s, h1, by omega, g0.trans hn, g50.trans hn2, ?_, g4, g54, fun i hi => ?_, fun s hs' => ?_⟩
  · rw [g3, gJ, Int64.toInt32_add, Int32.toInt32_toInt64, hc]
  · obtain ⟨d1, d2, d3, d4⟩ := ht i hi
    rw [outN_put, Nat.mul_zero, Nat.zero_add, g52 i hi, show (16 + 2 : Nat) = 18 from rfl, show (16 + 1 : Nat) = 17 from rfl, g18 i hi, g17 i hi, g51 i hi]
    show (if i = j then I 17 j - nI a else I 17 i) = nI (if i = j then t j - a else t i) ∧ (if i = j then I 51 j - nI a else I 51 i) = nI (if i = j then t j - a else t i) ∧ I 52 i = I 18 i ∧ (if i = j then t j - a else t i) + (outN L Q i m + (if j = i then a else 0)) ≤ 200
    by_cases e : i = j
    · subst e
      rw [if_pos rfl, if_pos rfl, if_pos rfl, if_pos rfl, d1, d2, pk_sub ha]
      exact ⟨rfl, rfl, d3, by omega⟩
    · rw [if_neg e, if_neg e, if_neg e, if_neg (fun z => e z.symm)]
      exact ⟨d1, d2, d3, by omega⟩
  · rw [Nat.mul_zero, Nat.zero_add, Nat.zero_add, Nat.zero_add, show (16 + 3 : Nat) = 19 from rfl, show (16 + 4 : Nat) = 20 from rfl, show (16 + 5 : Nat) = 21 from rfl]
    show (if s = m then j else L s) < n ∧ I' 19 s = nI (if s = m then j else L s) ∧ I' 55 (3 * s) = nI (if s = m then j else L s) ∧ I' 20 s = nI (if s = m then a else Q s) ∧ I' 55 (3 * s + 1) = nI (if s = m then a else Q s) ∧ I' 55 (3 * s + 2) = I' 21 s
    by_cases e : s = m
    · subst e
      rw [if_pos rfl, if_pos rfl]
      exact ⟨hj, p1, p2, p3, p4, p5⟩
    · rw [if_neg e, if_neg e]
      exact hs s (by omega)
