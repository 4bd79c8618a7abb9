/-! call by call: fault: a text as either side tells it -/
/-- what the telling may change of the class's places -/
def sco (a b : Nat) : Prop := (a = 1 ∧ 3 ≤ b) ∨ a = 3 ∨ (10 ≤ a ∧ a < 16)
theorem startH_q {X : HI} {a b : Nat} (h : ¬ sco a b) : startH X a b = X a b := startH_o (fun z => h (Or.inl ⟨z.1, by omega⟩))
theorem figH_q {X : HI} {g : Nat} {x : Int32} {a b : Nat} (h : ¬ sco a b) : figH X g x a b = X a b := figH_o (fun z => h (Or.inl ⟨z.1, by omega⟩))
theorem endH_q {X : HI} {c : Nat} {a b : Nat} (h : ¬ sco a b) : endH X c a b = X a b := endH_o (fun z => h (Or.inl ⟨z.1, by omega⟩)) (fun z => h (Or.inr (Or.inl z)))
theorem takeH_q {X : HI} {n : Nat} {l : Int32} {a b : Nat} (h : ¬ sco a b) : takeH X n l a b = X a b := by
  have ha : ¬ (10 ≤ a ∧ a < 16) := fun z => h (Or.inr (Or.inr z))
  unfold takeH setBarnH addFallH
  split
  · rw [wr_ne (by omega), wr_ne (by omega)]
  · split
    · rw [wr_ne (by omega), wr_ne (by omega), wr_ne (by omega), wr_ne (by omega), wr_ne (by omega)]
    · split
      · rw [wr_ne (by omega)]
      · rw [wr_ne (by omega)]
theorem scanC_q {f : Nat → Int32} {len : Nat} : ∀ (k : Nat) (X : HI) (p start c g n a b : Nat), ¬ sco a b → (scanC f len k X p start c g n).2 a b = X a b := by
  intro k
  induction k with
  | zero => intro X p start c g n a b h; rfl
  | succ k ih =>
    intro X p start c g n a b h
    unfold scanC
    repeat' split
    all_goals first | rfl | exact endH_q h | (rw [ih _ _ _ _ _ _ a b h]; first | exact startH_q h | exact figH_q h | exact endH_q h | (rw [takeH_q h]; exact endH_q h))
theorem numF_cg {f g : Nat → Int32} {len : Nat} (h : ∀ i, i < len → f i = g i) : ∀ (k p v c : Nat), p + k ≤ len → numF f k p v c = numF g k p v c := by
  intro k
  induction k with
  | zero => intro p v c _; rfl
  | succ k ih =>
    intro p v c hp
    have e := h p (by omega)
    have d : dgV f p = dgV g p := by unfold dgV; rw [e]
    unfold numF
    rw [e, d, ih _ _ _ (by omega)]
theorem numsF_cg {f g : Nat → Int32} {len : Nat} (h : ∀ i, i < len → f i = g i) : ∀ (m c p : Nat) (acc : Nat → Nat), p ≤ len → numsF f len m c p acc = numsF g len m c p acc := by
  intro m
  induction m with
  | zero => intro c p acc _; rfl
  | succ m ih =>
    intro c p acc hp
    unfold numsF
    by_cases hc : c = 0 ∨ (p < len ∧ f p = nI 44)
    · have hc' : c = 0 ∨ (p < len ∧ g p = nI 44) := by
        rcases hc with z | z
        · exact Or.inl z
        · exact Or.inr ⟨z.1, by rw [← h p z.1]; exact z.2⟩
      have hpn : (if c = 0 then p else p + 1) ≤ len := by
        split
        · exact hp
        · rcases hc with z | z <;> omega
      rw [if_pos hc, if_pos hc']
      generalize (if c = 0 then p else p + 1) = pn at hpn
      have e := numF_cg h (len - pn) pn 0 0 (by omega)
      rw [e]
      have hq := numF_p (f := g) (len - pn) pn 0 0
      split
      · exact ih _ _ _ (by omega)
      · rfl
    · have hc' : ¬ (c = 0 ∨ (p < len ∧ g p = nI 44)) := fun z => hc (by
        rcases z with z | z
        · exact Or.inl z
        · exact Or.inr ⟨z.1, by rw [h p z.1]; exact z.2⟩)
      rw [if_neg hc, if_neg hc']
theorem itemF_cg {f g : Nat → Int32} {len p : Nat} (h : ∀ i, i < len → f i = g i) (hp : p < len) : itemF f len p = itemF g len p := by
  unfold itemF
  rw [h p hp]
  split
  · rfl
  · rw [numsF_cg h _ 0 (p + 1) _ (by omega)]
    cases e : numsF g len (partsF (g p)) 0 (p + 1) (fun _ => 0) with
    | none => rfl
    | some r =>
      show (if r.1 < len ∧ f r.1 = nI 59 then some (r.1 + 1, r.2) else none) = (if r.1 < len ∧ g r.1 = nI 59 then some (r.1 + 1, r.2) else none)
      by_cases hr : r.1 < len
      · rw [h r.1 hr]
      · rw [if_neg (fun z => hr z.1), if_neg (fun z => hr z.1)]
theorem runM_cg {f g : Nat → Int32} {len : Nat} (h : ∀ i, i < len → f i = g i) : ∀ (k p n : Nat) (Y : HI), runM f len k p n Y = runM g len k p n Y := by
  intro k
  induction k with
  | zero => intro p n Y; rfl
  | succ k ih =>
    intro p n Y
    unfold runM
    by_cases hp : p < len
    · rw [if_pos hp, if_pos hp, itemF_cg h hp, h p hp]
      cases itemF g len p with
      | none => rfl
      | some r => simp only [ih]
    · rw [if_neg hp, if_neg hp]
theorem takeB_no {X : HI} {n c : Nat} {l : Int32} (h : partsF l ≠ c) : takeB X n l c = false := by
  unfold takeB
  by_cases h98 : l = nI 98
  · subst h98
    have : partsF (nI 98) = 2 := by decide
    rw [if_pos rfl, decide_eq_false (show ¬ c = 2 by omega)]
    rfl
  · rw [if_neg h98]
    by_cases h102 : l = nI 102
    · subst h102
      have : partsF (nI 102) = 4 := by decide
      rw [if_pos rfl, decide_eq_false (show ¬ c = 4 by omega)]
      rfl
    · rw [if_neg h102]
      by_cases h112 : l = nI 112
      · subst h112
        have : partsF (nI 112) = 2 := by decide
        rw [if_pos rfl, decide_eq_false (show ¬ c = 2 by omega)]
        rfl
      · rw [if_neg h112]
        by_cases h1 : l = nI 115 ∨ l = nI 116 ∨ l = nI 118
        · have : partsF l = 1 := by rcases h1 with rfl | rfl | rfl <;> decide
          rw [if_pos h1, decide_eq_false (show ¬ c = 1 by omega)]
          rfl
        · rw [if_neg h1]
theorem scan_over {f : Nat → Int32} {len : Nat} : ∀ (k : Nat) (X : HI) (p start c g n : Nat), p + k = len → start < p → partsF (f start) ≤ c → (scanC f len k X p start c g n).1 = nI start := by
  intro k
  induction k with
  | zero =>
    intro X p start c g n hk hs hc
    show (if start = len then (-4 : Int32) else nI start) = _
    rw [if_neg (by omega)]
  | succ k ih =>
    intro X p start c g n hk hs hc
    have hno : ¬ takeB (endH X c) n (f start) (c + 1) = true := by
      rw [takeB_no (by omega)]
      simp
    unfold scanC
    rw [if_neg (show ¬ p = start by omega)]
    split
    · split
      · exact ih _ _ _ _ _ _ (by omega) (by omega) hc
      · rfl
    · split
      · split
        · split
          · simp only [if_neg hno]
          · exact ih _ _ _ _ _ _ (by omega) (by omega) (by omega)
        · rfl
      · rfl
theorem numF_g {f : Nat → Int32} : ∀ (k p v g : Nat), g ≤ (numF f k p v g).2.1 := by
  intro k
  induction k with
  | zero => intro p v g; exact Nat.le_refl g
  | succ k ih =>
    intro p v g
    unfold numF
    split
    · have := ih (p + 1) (if g < 3 then 10 * v + dgV f p else v) (g + 1)
      omega
    · exact Nat.le_refl g
theorem scan_num {f : Nat → Int32} {len start c n : Nat} : ∀ (k : Nat) (X : HI) (p v g : Nat), p + k = len → start < p → g ≤ 3 → X 1 5 = nI v →
    ((3 < (numF f k p v g).2.1) → (scanC f len k X p start c g n).1 = nI start) ∧
    ((numF f k p v g).2.1 ≤ 3 → ∃ X', (∀ a b, ¬ (a = 1 ∧ (b = 4 ∨ b = 5)) → X' a b = X a b) ∧ X' 1 5 = nI (numF f k p v g).1 ∧ scanC f len k X p start c g n = scanC f len (len - (numF f k p v g).2.2) X' (numF f k p v g).2.2 start c (numF f k p v g).2.1 n ∧ ((numF f k p v g).2.2 < len → ¬ (nI 48 ≤ f (numF f k p v g).2.2 ∧ f (numF f k p v g).2.2 ≤ nI 57))) := by
  intro k
  induction k with
  | zero =>
    intro X p v g hk hs hg hv
    have e : numF f 0 p v g = (v, g, p) := rfl
    rw [e]
    refine ⟨fun z => absurd hg (by show ¬ g ≤ 3; exact Nat.not_le.mpr z), fun _ => ⟨X, fun a b _ => rfl, hv, ?_, fun z => absurd z (by show ¬ p < len; omega)⟩⟩
    show scanC f len 0 X p start c g n = scanC f len (len - p) X p start c g n
    rw [show len - p = 0 by omega]
  | succ k ih =>
    intro X p v g hk hs hg hv
    by_cases hd : nI 48 ≤ f p ∧ f p ≤ nI 57
    · have e : numF f (k + 1) p v g = numF f k (p + 1) (if g < 3 then 10 * v + dgV f p else v) (g + 1) := if_pos hd
      have un : scanC f len (k + 1) X p start c g n = (if g < 3 then scanC f len k (figH X g (f p - nI 48)) (p + 1) start c (g + 1) n else (nI start, X)) := by
        show (if p = start then _ else _) = _
        rw [if_neg (by omega), if_pos hd]
      rw [e, un]
      by_cases h3 : g < 3
      · obtain ⟨d1, d2⟩ := dg_of hd
        have hv1 : figH X g (f p - nI 48) 1 5 = nI (10 * v + dgV f p) := by
          unfold figH
          rw [wr_hit, hv, d1, pk_sub (by omega), show 48 + dgV f p - 48 = dgV f p by omega, pk_mul, nI_add]
        rw [if_pos h3, if_pos h3]
        obtain ⟨i1, i2⟩ := ih (figH X g (f p - nI 48)) (p + 1) (10 * v + dgV f p) (g + 1) (by omega) (by omega) (by omega) hv1
        refine ⟨i1, fun z => ?_⟩
        obtain ⟨X', x1, x2, x3, x4⟩ := i2 z
        exact ⟨X', fun a b hab => (x1 a b hab).trans (figH_o hab), x2, x3, x4⟩
      · rw [if_neg h3, if_neg h3]
        refine ⟨fun _ => rfl, fun z => ?_⟩
        have := numF_g (f := f) k (p + 1) v (g + 1)
        omega
    · have e : numF f (k + 1) p v g = (v, g, p) := if_neg hd
      rw [e]
      refine ⟨fun z => absurd hg (by show ¬ g ≤ 3; exact Nat.not_le.mpr z), fun _ => ⟨X, fun a b _ => rfl, hv, ?_, fun _ => hd⟩⟩
      show scanC f len (k + 1) X p start c g n = scanC f len (len - p) X p start c g n
      rw [show len - p = k + 1 by omega]
theorem scan_e0 {f : Nat → Int32} {len start c g n q : Nat} {X : HI} (hq : q ≤ len) (hs : start < q) (hd : q < len → ¬ (nI 48 ≤ f q ∧ f q ≤ nI 57)) (h : ¬ (q < len ∧ (f q = nI 44 ∨ f q = nI 59)) ∨ g = 0) : (scanC f len (len - q) X q start c g n).1 = nI start := by
  rcases Nat.lt_or_ge q len with z | z
  · rw [show len - q = (len - (q + 1)) + 1 by omega]
    unfold scanC
    rw [if_neg (show ¬ q = start by omega), if_neg (hd z)]
    rcases h with h | h
    · rw [if_neg (fun w => h ⟨z, w⟩)]
    · split
      · rw [if_neg (fun w => w.1 h)]
      · rfl
  · rw [show len - q = 0 by omega]
    show (if start = len then (-4 : Int32) else nI start) = _
    rw [if_neg (by omega)]
theorem scan_e1 {f : Nat → Int32} {len start c g n q : Nat} {X : HI} (hq : q < len) (hs : start < q) (hd : ¬ (nI 48 ≤ f q ∧ f q ≤ nI 57)) (h : f q = nI 44) (hg : g ≠ 0) (hc : c < 4) : scanC f len (len - q) X q start c g n = scanC f len (len - (q + 1)) (endH X c) (q + 1) start (c + 1) 0 n := by
  rw [show len - q = (len - (q + 1)) + 1 by omega]
  show (if q = start then _ else _) = _
  rw [if_neg (by omega), if_neg hd, if_pos (Or.inl h), if_pos ⟨hg, hc⟩, if_neg (by rw [h]; decide)]
theorem scan_e2 {f : Nat → Int32} {len start c g n q : Nat} {X : HI} (hq : q < len) (hs : start < q) (hd : ¬ (nI 48 ≤ f q ∧ f q ≤ nI 57)) (h : f q = nI 59) (hg : g ≠ 0) (hc : c < 4) : scanC f len (len - q) X q start c g n = (if takeB (endH X c) n (f start) (c + 1) = true then scanC f len (len - (q + 1)) (takeH (endH X c) n (f start)) (q + 1) (q + 1) (c + 1) 0 (if f start = nI 102 then n + 1 else n) else (nI start, endH X c)) := by
  rw [show len - q = (len - (q + 1)) + 1 by omega]
  show (if q = start then _ else _) = _
  rw [if_neg (by omega), if_neg hd, if_pos (Or.inr h), if_pos ⟨hg, hc⟩, if_pos h]
def SX (X X' : HI) : Prop := ∀ a b, ¬ ((a = 1 ∧ 3 ≤ b) ∨ a = 3) → X' a b = X a b
def ItP (f : Nat → Int32) (len start n : Nat) (X : HI) (S : Int32 × HI) (o : Option (Nat × (Nat → Nat))) : Prop := match o with
  | none => S.1 = nI start
  | some r => if r.1 < len ∧ f r.1 = nI 59 then ∃ X', SX X X' ∧ (∀ j, j < partsF (f start) → X' 3 j = nI (r.2 j)) ∧ S = (if takeB X' n (f start) (partsF (f start)) = true then scanC f len (len - (r.1 + 1)) (takeH X' n (f start)) (r.1 + 1) (r.1 + 1) (partsF (f start)) 0 (if f start = nI 102 then n + 1 else n) else (nI start, X')) else S.1 = nI start
theorem ItP.mono {f : Nat → Int32} {len start n : Nat} {X X1 : HI} {S : Int32 × HI} {o : Option (Nat × (Nat → Nat))} (h : SX X X1) (hi : ItP f len start n X1 S o) : ItP f len start n X S o := by
  cases o with
  | none => exact hi
  | some r =>
    have hi' : (if r.1 < len ∧ f r.1 = nI 59 then ∃ X', SX X1 X' ∧ (∀ j, j < partsF (f start) → X' 3 j = nI (r.2 j)) ∧ S = (if takeB X' n (f start) (partsF (f start)) = true then scanC f len (len - (r.1 + 1)) (takeH X' n (f start)) (r.1 + 1) (r.1 + 1) (partsF (f start)) 0 (if f start = nI 102 then n + 1 else n) else (nI start, X')) else S.1 = nI start) := hi
    show (if r.1 < len ∧ f r.1 = nI 59 then ∃ X', SX X X' ∧ (∀ j, j < partsF (f start) → X' 3 j = nI (r.2 j)) ∧ S = (if takeB X' n (f start) (partsF (f start)) = true then scanC f len (len - (r.1 + 1)) (takeH X' n (f start)) (r.1 + 1) (r.1 + 1) (partsF (f start)) 0 (if f start = nI 102 then n + 1 else n) else (nI start, X')) else S.1 = nI start)
    by_cases c : r.1 < len ∧ f r.1 = nI 59
    · rw [if_pos c] at hi' ⊢
      obtain ⟨X', x1, x2, x3⟩ := hi'
      exact ⟨X', fun a b z => (x1 a b z).trans (h a b z), x2, x3⟩
    · rw [if_neg c] at hi' ⊢
      exact hi'
theorem scan_nums {f : Nat → Int32} {len start n : Nat} : ∀ (m c pn : Nat) (X : HI) (acc : Nat → Nat), partsF (f start) = c + m + 1 → start < pn → pn ≤ len → X 1 5 = nI 0 → (∀ j, j < c → X 3 j = nI (acc j)) →
    ItP f len start n X (scanC f len (len - pn) X pn start c 0 n) (if 1 ≤ (numF f (len - pn) pn 0 0).2.1 ∧ (numF f (len - pn) pn 0 0).2.1 ≤ 3 then numsF f len m (c + 1) (numF f (len - pn) pn 0 0).2.2 (updF acc c (numF f (len - pn) pn 0 0).1) else none) := by
  intro m
  induction m with
  | zero =>
    intro c pn X acc hp hs hle hv hacc
    have hpl := partsF_le (f start)
    obtain ⟨n1, n2⟩ := scan_num (f := f) (len := len) (start := start) (c := c) (n := n) (len - pn) X pn 0 0 (by omega) hs (by omega) hv
    have hq := numF_p (f := f) (len - pn) pn 0 0
    by_cases hg : 1 ≤ (numF f (len - pn) pn 0 0).2.1 ∧ (numF f (len - pn) pn 0 0).2.1 ≤ 3
    · rw [if_pos hg]
      obtain ⟨X1, x1, x2, x3, x4⟩ := n2 hg.2
      generalize numF f (len - pn) pn 0 0 = r at *
      obtain ⟨v, g, q⟩ := r
      dsimp only at *
      rw [x3]
      show (if q < len ∧ f q = nI 59 then _ else _)
      by_cases hc : q < len ∧ f q = nI 59
      · rw [if_pos hc]
        refine ⟨endH X1 c, fun a b z => ?_, fun j hj => ?_, ?_⟩
        · rw [endH_o (by omega) (by omega), x1 a b (by omega)]
        · show endH X1 c 3 j = nI (updF acc c v j)
          have he : endH X1 c 3 j = (if j = c then X1 1 5 else X1 3 j) := by
            unfold endH
            rw [wr_ne (by omega), wr_ne (by omega), wr_ne (by omega)]
            simp [wr]
          rw [he]
          unfold updF
          by_cases e : j = c
          · rw [if_pos e, if_pos e, x2]
          · rw [if_neg e, if_neg e, x1 3 j (by omega), hacc j (by omega)]
        · rw [scan_e2 hc.1 (by omega) (x4 hc.1) hc.2 (by omega) (by omega), show partsF (f start) = c + 1 by omega]
      · rw [if_neg hc]
        by_cases h44 : q < len ∧ f q = nI 44
        · rw [scan_e1 h44.1 (by omega) (x4 h44.1) h44.2 (by omega) (by omega)]
          exact scan_over _ _ _ _ _ _ _ (by omega) (by omega) (by omega)
        · exact scan_e0 (by omega) (by omega) x4 (Or.inl (fun z => by
            rcases z.2 with w | w
            · exact h44 ⟨z.1, w⟩
            · exact hc ⟨z.1, w⟩))
    · rw [if_neg hg]
      show (scanC f len (len - pn) X pn start c 0 n).1 = nI start
      by_cases h3 : (numF f (len - pn) pn 0 0).2.1 ≤ 3
      · obtain ⟨X1, x1, x2, x3, x4⟩ := n2 h3
        rw [x3]
        exact scan_e0 (by omega) (by omega) x4 (Or.inr (by omega))
      · exact n1 (by omega)
  | succ m ih =>
    intro c pn X acc hp hs hle hv hacc
    have hpl := partsF_le (f start)
    obtain ⟨n1, n2⟩ := scan_num (f := f) (len := len) (start := start) (c := c) (n := n) (len - pn) X pn 0 0 (by omega) hs (by omega) hv
    have hq := numF_p (f := f) (len - pn) pn 0 0
    by_cases hg : 1 ≤ (numF f (len - pn) pn 0 0).2.1 ∧ (numF f (len - pn) pn 0 0).2.1 ≤ 3
    · rw [if_pos hg]
      obtain ⟨X1, x1, x2, x3, x4⟩ := n2 hg.2
      generalize numF f (len - pn) pn 0 0 = r at *
      obtain ⟨v, g, q⟩ := r
      dsimp only at *
      rw [x3]
      by_cases h44 : q < len ∧ f q = nI 44
      · have un : numsF f len (m + 1) (c + 1) q (updF acc c v) = (if 1 ≤ (numF f (len - (q + 1)) (q + 1) 0 0).2.1 ∧ (numF f (len - (q + 1)) (q + 1) 0 0).2.1 ≤ 3 then numsF f len m (c + 1 + 1) (numF f (len - (q + 1)) (q + 1) 0 0).2.2 (updF (updF acc c v) (c + 1) (numF f (len - (q + 1)) (q + 1) 0 0).1) else none) := if_pos (Or.inr h44)
        rw [un, scan_e1 h44.1 (by omega) (x4 h44.1) h44.2 (by omega) (by omega)]
        refine ItP.mono (X1 := endH X1 c) (fun a b z => ?_) (ih (c + 1) (q + 1) (endH X1 c) (updF acc c v) (by omega) (by omega) (by omega) ?_ (fun j hj => ?_))
        · rw [endH_o (by omega) (by omega), x1 a b (by omega)]
        · unfold endH
          rw [wr_hit]
        · have he : endH X1 c 3 j = (if j = c then X1 1 5 else X1 3 j) := by
            unfold endH
            rw [wr_ne (by omega), wr_ne (by omega), wr_ne (by omega)]
            simp [wr]
          rw [he]
          unfold updF
          by_cases e : j = c
          · rw [if_pos e, if_pos e, x2]
          · rw [if_neg e, if_neg e, x1 3 j (by omega), hacc j (by omega)]
      · have un : numsF f len (m + 1) (c + 1) q (updF acc c v) = none := if_neg (fun z => by
          rcases z with z | z
          · omega
          · exact h44 z)
        rw [un]
        show (scanC f len (len - q) X1 q start c g n).1 = nI start
        by_cases hc : q < len ∧ f q = nI 59
        · rw [scan_e2 hc.1 (by omega) (x4 hc.1) hc.2 (by omega) (by omega), if_neg (by rw [takeB_no (by omega)]; simp)]
        · exact scan_e0 (by omega) (by omega) x4 (Or.inl (fun z => by
            rcases z.2 with w | w
            · exact h44 ⟨z.1, w⟩
            · exact hc ⟨z.1, w⟩))
    · rw [if_neg hg]
      show (scanC f len (len - pn) X pn start c 0 n).1 = nI start
      by_cases h3 : (numF f (len - pn) pn 0 0).2.1 ≤ 3
      · obtain ⟨X1, x1, x2, x3, x4⟩ := n2 h3
        rw [x3]
        exact scan_e0 (by omega) (by omega) x4 (Or.inr (by omega))
      · exact n1 (by omega)
theorem scan_item {f : Nat → Int32} {len p c g n : Nat} {X : HI} (hp : p < len) : match itemF f len p with
    | none => (scanC f len (len - p) X p p c g n).1 = nI p
    | some r => partsF (f p) ≠ 0 ∧ ∃ X', SX X X' ∧ (∀ j, j < partsF (f p) → X' 3 j = nI (r.2 j)) ∧ scanC f len (len - p) X p p c g n = (if takeB X' n (f p) (partsF (f p)) = true then scanC f len (len - r.1) (takeH X' n (f p)) r.1 r.1 (partsF (f p)) 0 (if f p = nI 102 then n + 1 else n) else (nI p, X')) := by
  have un : scanC f len (len - p) X p p c g n = scanC f len (len - (p + 1)) (startH X) (p + 1) p 0 0 n := by
    rw [show len - p = (len - (p + 1)) + 1 by omega]
    exact if_pos rfl
  rw [un]
  by_cases h0 : partsF (f p) = 0
  · have e : itemF f len p = none := if_pos h0
    rw [e]
    exact scan_over _ _ _ _ _ _ _ (by omega) (by omega) (by omega)
  · obtain ⟨m, hm⟩ : ∃ m, partsF (f p) = m + 1 := ⟨partsF (f p) - 1, by omega⟩
    have e : itemF f len p = (match numsF f len (partsF (f p)) 0 (p + 1) (fun _ => 0) with
      | none => none
      | some r => if r.1 < len ∧ f r.1 = nI 59 then some (r.1 + 1, r.2) else none) := if_neg h0
    have key := scan_nums (f := f) (len := len) (start := p) (n := n) m 0 (p + 1) (startH X) (fun _ => 0) (by omega) (by omega) (by omega) (by unfold startH; rw [wr_hit]) (fun j hj => by omega)
    have e2 : numsF f len (m + 1) 0 (p + 1) (fun _ => 0) = (if 1 ≤ (numF f (len - (p + 1)) (p + 1) 0 0).2.1 ∧ (numF f (len - (p + 1)) (p + 1) 0 0).2.1 ≤ 3 then numsF f len m (0 + 1) (numF f (len - (p + 1)) (p + 1) 0 0).2.2 (updF (fun _ => 0) 0 (numF f (len - (p + 1)) (p + 1) 0 0).1) else none) := if_pos (Or.inl rfl)
    rw [← e2] at key
    rw [e, hm]
    have key2 := key.mono (X := X) (fun a b z => startH_o (by omega))
    cases hn : numsF f len (m + 1) 0 (p + 1) (fun _ => 0) with
    | none =>
      rw [hn] at key2
      exact key2
    | some r =>
      rw [hn] at key2
      have key3 : (if r.1 < len ∧ f r.1 = nI 59 then ∃ X', SX X X' ∧ (∀ j, j < partsF (f p) → X' 3 j = nI (r.2 j)) ∧ scanC f len (len - (p + 1)) (startH X) (p + 1) p 0 0 n = (if takeB X' n (f p) (partsF (f p)) = true then scanC f len (len - (r.1 + 1)) (takeH X' n (f p)) (r.1 + 1) (r.1 + 1) (partsF (f p)) 0 (if f p = nI 102 then n + 1 else n) else (nI p, X')) else (scanC f len (len - (p + 1)) (startH X) (p + 1) p 0 0 n).1 = nI p) := key2
      by_cases hc : r.1 < len ∧ f r.1 = nI 59
      · rw [if_pos hc] at key3
        rw [hm] at key3
        simp only [if_pos hc]
        exact ⟨by omega, key3⟩
      · rw [if_neg hc] at key3
        simp only [if_neg hc]
        exact key3
