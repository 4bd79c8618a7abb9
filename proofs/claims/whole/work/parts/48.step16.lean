/-! call by call: doors: the class weighs counts of doors, the reference all rows of doors -/
/-- digit d of code c of k digits; how often e is among the first d; the code of z doors 0, then r doors 1, then doors 2 -/
def dgN (k c d : Nat) : Nat := c / 3 ^ (k - 1 - d) % 3
def ctN (k c e d : Nat) : Nat := sN (fun d' => if dgN k c d' = e then 1 else 0) d
def srt (k z r : Nat) : Nat := (3 ^ (k - z) - 3 ^ (k - z - r)) / 2 + (3 ^ (k - z - r) - 1)
set_option maxRecDepth 100000 in
theorem cod_A : ∀ k, k < 7 → ∀ c, c < 3 ^ k → ctN k c 2 k = k - ctN k c 0 k - ctN k c 1 k ∧ ctN k c 0 k + ctN k c 1 k ≤ k ∧ srt k (ctN k c 0 k) (ctN k c 1 k) ≤ c := by decide +kernel
def allN (n : Nat) (p : Nat → Bool) : Bool := match n with
  | 0 => true
  | n + 1 => p n && allN n p
theorem allN_at {p : Nat → Bool} : ∀ n, allN n p = true → ∀ k, k < n → p k = true := by
  intro n
  induction n with
  | zero => intro _ k hk; omega
  | succ n ih =>
    intro h k hk
    have h' : (p n && allN n p) = true := h
    rw [Bool.and_eq_true] at h'
    by_cases e : k = n
    · rw [e]
      exact h'.1
    · exact ih h'.2 k (by omega)
def okB (k z r : Nat) : Bool := decide (z + r ≤ k → srt k z r < 3 ^ k ∧ ctN k (srt k z r) 0 k = z ∧ ctN k (srt k z r) 1 k = r) && allN k (fun j => decide (z + r ≤ k → dgN k (srt k z r) j = (if j < z then 0 else if j < z + r then 1 else 2)))
def okC (k z r z' r' : Nat) : Bool := decide (z + r ≤ k → z' + r' ≤ k → (z' < z ∨ (z' = z ∧ r' < r)) → srt k z r < srt k z' r')
set_option maxRecDepth 100000 in
theorem all_B : allN 7 (fun k => allN 7 (fun z => allN 7 (fun r => okB k z r))) = true := by decide +kernel
set_option maxRecDepth 100000 in
theorem all_C : allN 7 (fun k => allN 7 (fun z => allN 7 (fun r => allN 7 (fun z' => allN 7 (fun r' => okC k z r z' r'))))) = true := by decide +kernel
theorem cod_B : ∀ k, k < 7 → ∀ z, z < 7 → ∀ r, r < 7 → z + r ≤ k → srt k z r < 3 ^ k ∧ ctN k (srt k z r) 0 k = z ∧ ctN k (srt k z r) 1 k = r ∧ ∀ j, j < k → dgN k (srt k z r) j = (if j < z then 0 else if j < z + r then 1 else 2) := by
  intro k hk z hz r hr h
  have h1 := allN_at 7 (allN_at 7 (allN_at 7 all_B k hk) z hz) r hr
  have h2 : okB k z r = true := h1
  unfold okB at h2
  rw [Bool.and_eq_true, decide_eq_true_eq] at h2
  obtain ⟨q1, q2, q3⟩ := h2.1 h
  refine ⟨q1, q2, q3, fun j hj => ?_⟩
  have h3 := allN_at k h2.2 j hj
  rw [decide_eq_true_eq] at h3
  exact h3 h
theorem cod_C : ∀ k, k < 7 → ∀ z, z < 7 → ∀ r, r < 7 → z + r ≤ k → ∀ z', z' < 7 → ∀ r', r' < 7 → z' + r' ≤ k → (z' < z ∨ (z' = z ∧ r' < r)) → srt k z r < srt k z' r' := by
  intro k hk z hz r hr h z' hz' r' hr' h' hh
  have h1 := allN_at 7 (allN_at 7 (allN_at 7 (allN_at 7 (allN_at 7 all_C k hk) z hz) r hr) z' hz') r' hr'
  have h2 : okC k z r z' r' = true := h1
  unfold okC at h2
  rw [decide_eq_true_eq] at h2
  exact h2 h h' hh
/-- what layers of door e lose by m thaws -/
def GN (t c : Nat → Nat) (th n e m : Nat) : Nat := sN (fun i => if 3 * i / n = e then min (t i) (m * th) * c i else 0) n
theorem GN_le {t c : Nat → Nat} {th n e m : Nat} (ht : ∀ i, i < n → t i ≤ 200 ∧ c i ≤ 99) (h12 : n ≤ 12) : GN t c th n e m ≤ 237600 := by
  have := sN_le (g := fun i => if 3 * i / n = e then min (t i) (m * th) * c i else 0) (n := n) (b := 19800) (fun i hi => by
    show (if 3 * i / n = e then min (t i) (m * th) * c i else 0) ≤ 19800
    split
    · have h1 : min (t i) (m * th) ≤ 200 := Nat.le_trans (Nat.min_le_left _ _) (ht i hi).1
      exact Nat.mul_le_mul h1 (ht i hi).2
    · omega)
  have h2 : n * 19800 ≤ 12 * 19800 := Nat.mul_le_mul_right _ h12
  unfold GN
  omega
theorem sN_add3 {f a b c : Nat → Nat} : ∀ n, (∀ i, i < n → f i = a i + b i + c i) → sN f n = sN a n + sN b n + sN c n := by
  intro n
  induction n with
  | zero => intro _; rfl
  | succ n ih =>
    intro h
    unfold sN
    rw [ih (fun i hi => h i (by omega)), h n (by omega)]
    omega
theorem LB_N {T C : Nat → Int32} {t c : Nat → Nat} {th n e m : Nat} (h : ∀ i, i < n → T i = nI (t i) ∧ C i = nI (c i) ∧ t i ≤ 200) (hm : m ≤ 6) (hth : th ≤ 50) : LB T C (nI th) n e m n = nI (GN t c th n e m) := by
  have hb : m * th ≤ 300 := Nat.mul_le_mul hm hth
  refine sI_N (fun i hi => ?_)
  show (if 3 * i / n = e then mnI (T i) (nI m * nI th) * C i else 0) = nI (if 3 * i / n = e then min (t i) (m * th) * c i else 0)
  obtain ⟨h1, h2, h3⟩ := h i hi
  by_cases z : 3 * i / n = e
  · rw [if_pos z, if_pos z, h1, h2, pk_mul, mnI_N (by omega) (by omega), pk_mul]
  · rw [if_neg z, if_neg z]
    rfl
theorem lb_N {k c0 th t c e : Nat} (hth : th ≤ 50) (ht : t ≤ 200) (he : e < 3) : ∀ d, d ≤ 6 → lbI (nI th) (nI c) (nI e) (rowF k c0) (nI t) d = (nI (t - min t (ctN k c0 e d * th)), nI (min t (ctN k c0 e d * th) * c)) := by
  intro d
  induction d with
  | zero =>
    intro _
    have e0 : ctN k c0 e 0 = 0 := rfl
    rw [e0, Nat.zero_mul, Nat.min_zero, Nat.zero_mul, Nat.sub_zero]
    rfl
  | succ d ih =>
    intro hd
    have un : lbI (nI th) (nI c) (nI e) (rowF k c0) (nI t) (d + 1) = ((lbI (nI th) (nI c) (nI e) (rowF k c0) (nI t) d).1 - (if rowF k c0 d = nI e then (if (lbI (nI th) (nI c) (nI e) (rowF k c0) (nI t) d).1 < nI th then (lbI (nI th) (nI c) (nI e) (rowF k c0) (nI t) d).1 else nI th) else 0), (lbI (nI th) (nI c) (nI e) (rowF k c0) (nI t) d).2 + (if rowF k c0 d = nI e then (if (lbI (nI th) (nI c) (nI e) (rowF k c0) (nI t) d).1 < nI th then (lbI (nI th) (nI c) (nI e) (rowF k c0) (nI t) d).1 else nI th) else 0) * nI c) := rfl
    rw [un, ih (by omega)]
    have hdg : dgN k c0 d < 3 := Nat.mod_lt _ (by omega)
    have er : rowF k c0 d = nI (dgN k c0 d) := rfl
    have ec : ctN k c0 e (d + 1) = ctN k c0 e d + (if dgN k c0 d = e then 1 else 0) := rfl
    rw [er, ec]
    by_cases z : dgN k c0 d = e
    · rw [if_pos z, if_pos (show nI (dgN k c0 d) = nI e by rw [z])]
      have e1 : (if nI (t - min t (ctN k c0 e d * th)) < nI th then nI (t - min t (ctN k c0 e d * th)) else nI th) = nI (min (t - min t (ctN k c0 e d * th)) th) := by
        by_cases w : t - min t (ctN k c0 e d * th) < th
        · rw [if_pos ((nI_ltI (by omega) (by omega)).mpr w)]
          congr 1
          omega
        · rw [if_neg (fun v => w ((nI_ltI (by omega) (by omega)).mp v))]
          congr 1
          omega
      show (nI (t - min t (ctN k c0 e d * th)) - (if nI (t - min t (ctN k c0 e d * th)) < nI th then nI (t - min t (ctN k c0 e d * th)) else nI th), nI (min t (ctN k c0 e d * th) * c) + (if nI (t - min t (ctN k c0 e d * th)) < nI th then nI (t - min t (ctN k c0 e d * th)) else nI th) * nI c) = _
      rw [e1, pk_mul, nI_add, pk_sub (Nat.min_le_left _ _), ← Nat.add_mul, Nat.add_mul (ctN k c0 e d) 1 th, Nat.one_mul]
      rw [show t - min t (ctN k c0 e d * th) - min (t - min t (ctN k c0 e d * th)) th = t - min t (ctN k c0 e d * th + th) by omega, show min t (ctN k c0 e d * th) + min (t - min t (ctN k c0 e d * th)) th = min t (ctN k c0 e d * th + th) by omega]
    · rw [if_neg z, if_neg (fun v => z ((nI_eq (by omega) (by omega)).mp v)), Nat.add_zero, Int32.sub_zero, Int32.zero_mul, Int32.add_zero]
theorem lost_N {T C : Nat → Int32} {t c : Nat → Nat} {th n k c0 : Nat} (h : ∀ i, i < n → T i = nI (t i) ∧ C i = nI (c i) ∧ t i ≤ 200) (hk : k ≤ 6) (hth : th ≤ 50) : ∀ i, i ≤ n → lostF (nI th) T C n k (rowF k c0) i = nI (sN (fun i => min (t i) (ctN k c0 (3 * i / n) k * th) * c i) i) := by
  intro i
  induction i with
  | zero => intro _; rfl
  | succ i ih =>
    intro hi
    obtain ⟨h1, h2, h3⟩ := h i (by omega)
    show lostF (nI th) T C n k (rowF k c0) i + (lbI (nI th) (C i) (nI (3 * i / n)) (rowF k c0) (T i) k).2 = nI (sN (fun i => min (t i) (ctN k c0 (3 * i / n) k * th) * c i) i + min (t i) (ctN k c0 (3 * i / n) k * th) * c i)
    rw [ih (by omega), h1, h2, lb_N hth h3 (door3 (by omega)) k hk, nI_add]
def FN (t c : Nat → Nat) (th n k z r : Nat) : Nat := GN t c th n 0 z + GN t c th n 1 r + GN t c th n 2 (k - z - r)
theorem lost_F {T C : Nat → Int32} {t c : Nat → Nat} {th n k c0 : Nat} (h : ∀ i, i < n → T i = nI (t i) ∧ C i = nI (c i) ∧ t i ≤ 200) (hk : k ≤ 6) (hth : th ≤ 50) (hc : c0 < 3 ^ k) : lostF (nI th) T C n k (rowF k c0) n = nI (FN t c th n k (ctN k c0 0 k) (ctN k c0 1 k)) := by
  rw [lost_N h hk hth n (Nat.le_refl n)]
  congr 1
  unfold FN
  rw [← (cod_A k (by omega) c0 hc).1]
  refine sN_add3 n (fun i hi => ?_)
  have hd := door3 hi
  show min (t i) (ctN k c0 (3 * i / n) k * th) * c i = (if 3 * i / n = 0 then min (t i) (ctN k c0 0 k * th) * c i else 0) + (if 3 * i / n = 1 then min (t i) (ctN k c0 1 k * th) * c i else 0) + (if 3 * i / n = 2 then min (t i) (ctN k c0 2 k * th) * c i else 0)
  rcases (show ∀ q, q < 3 → q = 0 ∨ q = 1 ∨ q = 2 by omega) _ hd with z | z | z
  · rw [z]; simp
  · rw [z]; simp
  · rw [z]; simp
/-- the best of the pairs seen so far, the first of equal ones -/
def DB (F : Nat → Nat → Nat) (S : Nat → Nat → Prop) (s : Int32 × Int32 × Int32) : Prop := (∀ z r, ¬ S z r) ∨ ∃ z r, S z r ∧ s = (nI (F z r), nI z, nI r) ∧ ∀ z' r', S z' r' → F z r ≤ F z' r' ∧ (F z r = F z' r' → z' < z ∨ (z' = z ∧ r' ≤ r))
theorem DB.cg {F : Nat → Nat → Nat} {S S' : Nat → Nat → Prop} {s : Int32 × Int32 × Int32} (h : DB F S s) (he : ∀ z r, S z r ↔ S' z r) : DB F S' s := by
  have : S = S' := by
    funext z r
    exact propext (he z r)
  rw [← this]
  exact h
theorem ch_in {V : Nat → Nat → Int32} {F : Nat → Nat → Nat} {k z : Nat} (hz : z ≤ k) (hF : ∀ z r, z + r ≤ k → V 0 z + V 1 r + V 2 (k - z - r) = nI (F z r) ∧ F z r < 2147483647) : ∀ (r : Nat) (s : Int32 × Int32 × Int32), r ≤ k - z + 1 → DB F (fun z' r' => z' + r' ≤ k ∧ (z < z' ∨ (z' = z ∧ r ≤ r'))) s → DB F (fun z' r' => z' + r' ≤ k ∧ z ≤ z') (chIn V k z r s) := by
  intro r
  induction r with
  | zero =>
    intro s hr hD
    exact hD.cg (fun z' r' => by omega)
  | succ r ih =>
    intro s hr hD
    obtain ⟨f1, f2⟩ := hF z r (by omega)
    have un : chIn V k z (r + 1) s = chIn V k z r (if z = k ∨ V 0 z + V 1 r + V 2 (k - z - r) < s.1 then (V 0 z + V 1 r + V 2 (k - z - r), nI z, nI r) else s) := rfl
    rw [un, f1]
    refine ih _ (by omega) ?_
    rcases hD with d1 | ⟨zb, rb, d1, d2, d3⟩
    · have hzk : z = k := by
        rcases Nat.lt_or_ge z k with v | v
        · exact absurd ⟨by omega, Or.inl v⟩ (d1 k 0)
        · omega
      rw [if_pos (Or.inl hzk)]
      refine Or.inr ⟨z, r, ⟨by omega, Or.inr ⟨rfl, Nat.le_refl r⟩⟩, rfl, fun z' r' hS => ?_⟩
      have hno := d1 z' r'
      obtain ⟨e1, e2⟩ : z' = z ∧ r' = r := by
        constructor
        · rcases hS.2 with w | w
          · exact absurd ⟨hS.1, Or.inl w⟩ hno
          · exact w.1
        · rcases hS.2 with w | w
          · exact absurd ⟨hS.1, Or.inl w⟩ hno
          · rcases Nat.lt_or_ge r r' with v | v
            · exact absurd ⟨hS.1, Or.inr ⟨w.1, v⟩⟩ hno
            · omega
      subst e1
      subst e2
      exact ⟨Nat.le_refl _, fun _ => Or.inr ⟨rfl, Nat.le_refl _⟩⟩
    · have fb : F zb rb < 2147483647 := (hF zb rb d1.1).2
      have hzk : ¬ z = k := fun w => by
        have d11 : zb + rb ≤ k := d1.1
        have d12 : z < zb ∨ (zb = z ∧ r + 1 ≤ rb) := d1.2
        omega
      by_cases hlt : F z r < F zb rb
      · rw [if_pos (Or.inr (by rw [d2]; exact (nI_ltI (by omega) (by omega)).mpr hlt))]
        refine Or.inr ⟨z, r, ⟨by omega, Or.inr ⟨rfl, Nat.le_refl r⟩⟩, rfl, fun z' r' hS => ?_⟩
        by_cases hS' : z < z' ∨ (z' = z ∧ r + 1 ≤ r')
        · have := (d3 z' r' ⟨hS.1, hS'⟩).1
          exact ⟨by omega, fun w => by omega⟩
        · obtain ⟨rfl, rfl⟩ : z' = z ∧ r' = r := by omega
          exact ⟨Nat.le_refl _, fun _ => Or.inr ⟨rfl, Nat.le_refl _⟩⟩
      · rw [if_neg (by rw [d2]; exact fun w => w.elim hzk (fun w => hlt ((nI_ltI (by omega) (by omega)).mp w)))]
        refine Or.inr ⟨zb, rb, ⟨d1.1, by omega⟩, d2, fun z' r' hS => ?_⟩
        by_cases hS' : z < z' ∨ (z' = z ∧ r + 1 ≤ r')
        · exact d3 z' r' ⟨hS.1, hS'⟩
        · obtain ⟨rfl, rfl⟩ : z' = z ∧ r' = r := by omega
          refine ⟨by omega, fun _ => ?_⟩
          rcases d1.2 with w | w
          · exact Or.inl w
          · exact Or.inr ⟨w.1.symm, by omega⟩
theorem ch_out {V : Nat → Nat → Int32} {F : Nat → Nat → Nat} {k : Nat} (hF : ∀ z r, z + r ≤ k → V 0 z + V 1 r + V 2 (k - z - r) = nI (F z r) ∧ F z r < 2147483647) : ∀ (q : Nat) (s : Int32 × Int32 × Int32), q ≤ k + 1 → DB F (fun z' r' => z' + r' ≤ k ∧ q ≤ z') s → DB F (fun z' r' => z' + r' ≤ k) (chOut V k q s) := by
  intro q
  induction q with
  | zero =>
    intro s hq hD
    exact hD.cg (fun z' r' => by omega)
  | succ q ih =>
    intro s hq hD
    have un : chOut V k (q + 1) s = chOut V k q (chIn V k q (k - q + 1) s) := rfl
    rw [un]
    exact ih _ (by omega) (ch_in (by omega) hF (k - q + 1) s (Nat.le_refl _) (hD.cg (fun z' r' => by omega)))
theorem dm_first {v : Nat → Int32} {w : Nat → Nat} {N : Nat} (h : ∀ c, c < N → v c = nI (w c) ∧ w c < 2 ^ 31) : ∀ c, c ≤ N → 0 < c → ∃ b, b < c ∧ dmS v c = (nI (w b), b) ∧ ∀ d, d < c → w b ≤ w d ∧ (w b = w d → b ≤ d) := by
  intro c
  induction c with
  | zero => intro _ h0; omega
  | succ c ih =>
    intro hc _
    obtain ⟨v1, v2⟩ := h c (by omega)
    have un : dmS v (c + 1) = (if (dmS v c).1 < 0 ∨ v c < (dmS v c).1 then (v c, c) else dmS v c) := rfl
    rw [un]
    rcases Nat.eq_zero_or_pos c with z | z
    · subst z
      have h0 : (dmS v 0).1 < 0 := show (-1 : Int32) < 0 by decide
      rw [if_pos (Or.inl h0), v1]
      refine ⟨0, by omega, rfl, fun d hd => ?_⟩
      obtain rfl : d = 0 := by omega
      exact ⟨Nat.le_refl _, fun _ => Nat.le_refl _⟩
    · obtain ⟨b, b1, b2, b3⟩ := ih (by omega) z
      have wb := (h b (by omega)).2
      rw [b2, v1]
      by_cases hlt : w c < w b
      · rw [if_pos (Or.inr ((nI_ltI v2 wb).mpr hlt))]
        refine ⟨c, by omega, rfl, fun d hd => ?_⟩
        by_cases e : d = c
        · subst e
          exact ⟨Nat.le_refl _, fun _ => Nat.le_refl _⟩
        · have := (b3 d (by omega)).1
          exact ⟨by omega, fun x => by omega⟩
      · rw [if_neg (fun x => by
          rcases x with x | x
          · exact absurd x (nI_pos wb)
          · exact hlt ((nI_ltI v2 wb).mp x))]
        refine ⟨b, by omega, rfl, fun d hd => ?_⟩
        by_cases e : d = c
        · subst e
          exact ⟨by omega, fun _ => by omega⟩
        · exact b3 d (by omega)
theorem Z_doors {I : HI} {J : HJ} (hr : Rel I J) (k i : Int32) : Both mX6_doors mX7_doors [.int k, .int i] I J := by
  obtain ⟨nf, nk, yr, -, hl, hb, -⟩ := id hr
  obtain ⟨n, ns, b1, b2, b3, b4, b5, b6, b7, b8⟩ := bar_t hb
  obtain ⟨a1, a2, a3, a4, a5, a6, a7, a8, a9, a10, a11, a12, a13, ⟨th, th1, th2, th3⟩, -⟩ := id hl
  have n12 : n ≤ 12 := Nat.le_trans b1 a2
  cases hk : inr k (nI 1) (nI 6) with
  | false => exact Both.pure hr (S_doors_bad1 (d := 6) hk) (S_mdoors_bad1 (d := 6) hk)
  | true =>
    obtain ⟨k, k1, k6, rfl⟩ := inr_nI2 (by decide) hk (by decide)
    cases hi : inr i (-1) (nI k - nI 1) with
    | false => exact Both.pure hr (S_doors_bad2 (d := 6) k1 k6 hi) (S_mdoors_bad2 (d := 6) k1 k6 hi)
    | true =>
      have hi' : i = -1 ∨ ∃ j, j < k ∧ i = nI j := by
        rw [pk_sub k1] at hi
        unfold inr at hi
        rw [Bool.and_eq_true, decide_eq_true_eq, decide_eq_true_eq] at hi
        by_cases h0 : i < 0
        · left
          have h1 := Int32.le_iff_toInt_le.mp hi.1
          have h2 := Int32.lt_iff_toInt_lt.mp h0
          have h3 : (-1 : Int32).toInt = -1 := by decide
          have h4 : (0 : Int32).toInt = 0 := by decide
          exact Int32.toInt_inj.mp (by omega)
        · right
          obtain ⟨j, hj, e⟩ := nI_of2 (n := k - 1) (nI_toInt (by omega)) h0 hi.2
          exact ⟨j, by omega, e⟩
      obtain ⟨t, ht⟩ : ∃ t : Nat → Nat, ∀ i, i < n → t i ≤ 200 ∧ I 17 i = nI (t i) ∧ I 51 i = nI (t i) :=
        ⟨fun i => (I 17 i).toNatClampNeg, fun i hi => by
          obtain ⟨c1, c2, u, c3, c4⟩ := b8 i hi
          show (I 17 i).toNatClampNeg ≤ 200 ∧ I 17 i = nI (I 17 i).toNatClampNeg ∧ I 51 i = nI (I 17 i).toNatClampNeg
          rw [c1, c4, nI_clamp (by omega)]
          exact ⟨c3, rfl, rfl⟩⟩
      obtain ⟨c, hc⟩ : ∃ c : Nat → Nat, ∀ i, i < n → c i ≤ 99 ∧ I 9 (yr i) = nI (c i) ∧ I 49 (yr i) = nI (c i) :=
        ⟨fun i => (I 9 (yr i)).toNatClampNeg, fun i hi => by
          obtain ⟨c1, u, c3, c4⟩ := a10 (yr i) (a5 i (by omega)).2.2
          show (I 9 (yr i)).toNatClampNeg ≤ 99 ∧ I 9 (yr i) = nI (I 9 (yr i)).toNatClampNeg ∧ I 49 (yr i) = nI (I 9 (yr i)).toNatClampNeg
          rw [c1, c4, nI_clamp (by omega)]
          exact ⟨c3, rfl, rfl⟩⟩
      have yc : ∀ i, i < n → I 5 i = nI (yr i) ∧ yr i < 100 := fun i hi => ⟨(a5 i (by omega)).1, (a5 i (by omega)).2.2⟩
      have gle : ∀ e m, GN t c th n e m ≤ 237600 := fun e m => GN_le (fun i hi => ⟨(ht i hi).1, (hc i hi).1⟩) n12
      have hF : ∀ z r, z + r ≤ k → (fun e t => wgP (LB (I 17) (fun i => I 9 (yr i)) (I 4 2) n) n (k + 1) 0 I (39 + e) t) 0 z + (fun e t => wgP (LB (I 17) (fun i => I 9 (yr i)) (I 4 2) n) n (k + 1) 0 I (39 + e) t) 1 r + (fun e t => wgP (LB (I 17) (fun i => I 9 (yr i)) (I 4 2) n) n (k + 1) 0 I (39 + e) t) 2 (k - z - r) = nI (FN t c th n k z r) ∧ FN t c th n k z r < 2147483647 := fun z r hzr => by
        have ev : ∀ e m, e < 3 → m ≤ k → wgP (LB (I 17) (fun i => I 9 (yr i)) (I 4 2) n) n (k + 1) 0 I (39 + e) m = nI (GN t c th n e m) := fun e m he hm => by
          unfold wgP
          rw [if_pos ⟨by omega, by omega, by omega⟩, show 39 + e - 39 = e by omega, th3]
          exact LB_N (fun i hi => ⟨(ht i hi).2.1, (hc i hi).2.1, (ht i hi).1⟩) (by omega) th2
        have g0 := gle 0 z
        have g1 := gle 1 r
        have g2 := gle 2 (k - z - r)
        refine ⟨?_, by unfold FN; omega⟩
        show wgP (LB (I 17) (fun i => I 9 (yr i)) (I 4 2) n) n (k + 1) 0 I (39 + 0) z + wgP (LB (I 17) (fun i => I 9 (yr i)) (I 4 2) n) n (k + 1) 0 I (39 + 1) r + wgP (LB (I 17) (fun i => I 9 (yr i)) (I 4 2) n) n (k + 1) 0 I (39 + 2) (k - z - r) = _
        rw [ev 0 z (by omega) (by omega), ev 1 r (by omega) (by omega), ev 2 _ (by omega) (by omega), nI_add, nI_add]
        rfl
      have hv : ∀ c0, c0 < 3 ^ k → (fun c => lostF (I 46 2) (I 51) (fun i => I 49 (yr i)) n k (rowF k c) n) c0 = nI (FN t c th n k (ctN k c0 0 k) (ctN k c0 1 k)) ∧ FN t c th n k (ctN k c0 0 k) (ctN k c0 1 k) < 2 ^ 31 := fun c0 h0 => by
        refine ⟨?_, ?_⟩
        · show lostF (I 46 2) (I 51) (fun i => I 49 (yr i)) n k (rowF k c0) n = _
          rw [a11 2 (by omega), th3]
          exact lost_F (fun i hi => ⟨(ht i hi).2.2, (hc i hi).2.2, (ht i hi).1⟩) k6 th2 h0
        · have g0 := gle 0 (ctN k c0 0 k)
          have g1 := gle 1 (ctN k c0 1 k)
          have g2 := gle 2 (k - ctN k c0 0 k - ctN k c0 1 k)
          unfold FN
          omega
      have dm := dm_first hv
      obtain ⟨b, d1, d2, d3⟩ := dm (3 ^ k) (Nat.le_refl _) (Nat.pow_pos (by omega))
      have cls := ch_out (V := fun e t => wgP (LB (I 17) (fun i => I 9 (yr i)) (I 4 2) n) n (k + 1) 0 I (39 + e) t) (F := fun z r => FN t c th n k z r) (k := k) hF (k + 1) (I 37 1, I 37 2, I 37 3) (Nat.le_refl _) (Or.inl (fun z r hz => by
        have hz1 : z + r ≤ k ∧ k + 1 ≤ z := hz
        omega))
      rcases cls with c1 | ⟨z, r, c1, c2, c3⟩
      · exact absurd (show 0 + 0 ≤ k by omega) (c1 0 0)
      · have c1' : z + r ≤ k := c1
        obtain ⟨A1, A2, A3⟩ := cod_A k (by omega) b d1
        obtain ⟨B1, B2, B3, B4⟩ := cod_B k (by omega) z (by omega) r (by omega) c1'
        have m1 : FN t c th n k z r ≤ FN t c th n k (ctN k b 0 k) (ctN k b 1 k) ∧ (FN t c th n k z r = FN t c th n k (ctN k b 0 k) (ctN k b 1 k) → ctN k b 0 k < z ∨ (ctN k b 0 k = z ∧ ctN k b 1 k ≤ r)) := c3 (ctN k b 0 k) (ctN k b 1 k) A2
        have m2 := d3 (srt k z r) B1
        rw [B2, B3] at m2
        have meq : FN t c th n k z r = FN t c th n k (ctN k b 0 k) (ctN k b 1 k) := by omega
        have m3 := m1.2 meq
        have m4 := m2.2 meq.symm
        have hzr : ctN k b 0 k = z ∧ ctN k b 1 k = r := by
          by_cases hh : ctN k b 0 k < z ∨ (ctN k b 0 k = z ∧ ctN k b 1 k < r)
          · have := cod_C k (by omega) z (by omega) r (by omega) c1' (ctN k b 0 k) (by omega) (ctN k b 1 k) (by omega) A2 hh
            omega
          · omega
        have hbs : b = srt k z r := by
          rw [hzr.1, hzr.2] at A3
          omega
        have ecl : doorsS I n k yr = (nI (FN t c th n k z r), nI z, nI r) := c2
        have erf : mdoorsS I n k yr (3 ^ k) = (nI (FN t c th n k z r), b) := by
          rw [meq]
          exact d2
        have hnn : ∀ c', c' ≤ 3 ^ k → 0 < c' → ¬ (mdoorsS I n k yr c').1 < 0 := fun c' h1 h2 => by
          obtain ⟨b', e1, e2, -⟩ := dm c' h1 h2
          have e3 : mdoorsS I n k yr c' = (nI (FN t c th n k (ctN k b' 0 k) (ctN k b' 1 k)), b') := e2
          rw [e3]
          exact nI_pos (hv b' (by omega)).2
        have rfr : ∀ I1, Off 37 42 I I1 → MI mX7_doors 7 (.ref 44 :: [.int (nI k), .int i]) shA I1 J RA (fun x I' J' => (i = -1 → x = nI (FN t c th n k z r)) ∧ (∀ j, j < k → i = nI j → x = doorAtI z r j) ∧ Off 57 60 I1 I' ∧ J' = J) := fun I1 e2 => by
          have r1 : ∀ a, 44 ≤ a → I1 a = I a := fun a h => e2 a (Or.inr (by omega))
          have em : ∀ c', mdoorsS I1 n k yr c' = mdoorsS I n k yr c' := fun c' => by
            unfold mdoorsS
            rw [r1 46 (by omega), r1 51 (by omega), r1 49 (by omega)]
          have h2 := S_mdoors (dd := 4) (J := J) (I := I1) (i := i) (yr := yr) (n := n) k1 k6 hi' (by rw [r1 50 (by omega)]; exact b4) n12 (fun i hi => by rw [r1 48 (by omega)]; exact ⟨(a5 i (by omega)).2.1, (a5 i (by omega)).2.2⟩) (fun c' q1 q2 => by rw [em]; exact hnn c' q1 q2)
          rw [em, erf] at h2
          have er : ∀ j, j < k → rowF k b j = doorAtI z r j := fun j hj => by
            show nI (dgN k b j) = doorAtI z r j
            rw [hbs, B4 j hj]
            unfold doorAtI
            split
            · rfl
            · split <;> rfl
          have e3 : (fun (x : Int32) (I' : HI) (J' : HJ) => (i = -1 → x = (nI (FN t c th n k z r), b).1) ∧ (∀ j, j < k → i = nI j → x = rowF k (nI (FN t c th n k z r), b).2 j) ∧ Off 57 60 I1 I' ∧ J' = J) = (fun x I' J' => (i = -1 → x = nI (FN t c th n k z r)) ∧ (∀ j, j < k → i = nI j → x = doorAtI z r j) ∧ Off 57 60 I1 I' ∧ J' = J) := by
            funext x I' J'
            apply propext
            constructor
            · intro w
              exact ⟨w.1, fun j hj e => by rw [← er j hj]; exact w.2.1 j hj e, w.2.2⟩
            · intro w
              exact ⟨w.1, fun j hj e => by rw [show rowF k (nI (FN t c th n k z r), b).2 j = rowF k b j from rfl, er j hj]; exact w.2.1 j hj e, w.2.2⟩
          rw [e3] at h2
          exact h2
        rcases hi' with e | ⟨j, hj, e⟩
        · subst e
          refine ⟨_, S_doors_m1 (d := 3) (yr := yr) k1 k6 b3 n12 yc, fun x I1 J1 hp => ?_⟩
          obtain ⟨e1, e2, e3⟩ := hp
          rw [e3]
          refine ⟨_, rfr I1 e2, fun y I2 J2 hp2 => ?_⟩
          obtain ⟨f1, -, f3, f4⟩ := hp2
          rw [f1 rfl, f4, e1, ecl]
          exact ⟨rfl, hr.qt ((e2.qt (fun a h1 h2 => by omega)).tr (f3.qt (fun a h1 h2 => by omega))) (fun b => rfl)⟩
        · subst e
          refine ⟨_, S_doors (d := 3) (yr := yr) k1 k6 hj b3 n12 yc ecl (by omega) (by omega), fun x I1 J1 hp => ?_⟩
          obtain ⟨e1, e2, e3⟩ := hp
          rw [e3]
          refine ⟨_, rfr I1 e2, fun y I2 J2 hp2 => ?_⟩
          obtain ⟨-, f2, f3, f4⟩ := hp2
          rw [f2 j hj rfl, f4, e1]
          exact ⟨rfl, hr.qt ((e2.qt (fun a h1 h2 => by omega)).tr (f3.qt (fun a h1 h2 => by omega))) (fun b => rfl)⟩
