/-! call by call: the nearest year -/
def dsN (Y z : Nat) : Nat := if z ≤ Y then Y - z else z - Y
def NeP (Y : Nat) (Q S : Nat → Prop) (b : Int32) (m : Nat) : Prop := (∀ z, S z → Q z → m ≤ dsN Y z) ∧ ((m = 100 ∧ b = -4) ∨ (m < 100 ∧ ∃ z, S z ∧ Q z ∧ dsN Y z = m ∧ b = nI z ∧ ∀ z', S z' → Q z' → dsN Y z' = m → z ≤ z'))
theorem NeP.model {tf : Nat → Int32} {Y m : Nat} {q b : Int32} {S : Nat → Prop} (hY : Y < 100) (h : NeP Y (fun z => q ≤ tf z) S b m) (hS : ∀ z, S z → z < 100) (hall : ∀ z, z < 100 → q ≤ tf z → S z) :
    ∀ (k d : Nat), d + k = 100 → (∀ z, z < 100 → q ≤ tf z → d ≤ dsN Y z) → mneL tf Y q k d = b := by
  obtain ⟨h1, h2⟩ := h
  intro k
  induction k with
  | zero =>
    intro d hd hno
    rcases h2 with ⟨q1, q2⟩ | ⟨q1, z, q2, q3, q4, q5, q6⟩
    · rw [q2]
      rfl
    · have := hno z (hS z q2) q3
      omega
  | succ k ih =>
    intro d hd hno
    show (if d ≤ Y ∧ q ≤ tf (Y - d) then nI (Y - d) else if Y + d < 100 ∧ q ≤ tf (Y + d) then nI (Y + d) else mneL tf Y q k (d + 1)) = b
    by_cases c1 : d ≤ Y ∧ q ≤ tf (Y - d)
    · rw [if_pos c1]
      have s1 := hall (Y - d) (by omega) c1.2
      have e1 : dsN Y (Y - d) = d := by
        unfold dsN
        rw [if_pos (by omega)]
        omega
      have m1 := h1 _ s1 c1.2
      rcases h2 with ⟨q1, q2⟩ | ⟨q1, z, q2, q3, q4, q5, q6⟩
      · omega
      · have d1 := hno z (hS z q2) q3
        have l1 := q6 _ s1 c1.2 (by omega)
        have e2 : z = Y - d := by
          unfold dsN at q4 d1
          split at q4 <;> split at d1 <;> omega
        rw [q5, e2]
    · rw [if_neg c1]
      by_cases c2 : Y + d < 100 ∧ q ≤ tf (Y + d)
      · rw [if_pos c2]
        have s1 := hall (Y + d) c2.1 c2.2
        have e1 : dsN Y (Y + d) = d := by
          unfold dsN
          split <;> omega
        have m1 := h1 _ s1 c2.2
        rcases h2 with ⟨q1, q2⟩ | ⟨q1, z, q2, q3, q4, q5, q6⟩
        · omega
        · have d1 := hno z (hS z q2) q3
          have e2 : z = Y + d := by
            have hzd : dsN Y z = d := by omega
            unfold dsN at hzd
            split at hzd
            · exfalso
              apply c1
              refine ⟨by omega, ?_⟩
              rw [show Y - d = z by omega]
              exact q3
            · omega
          rw [q5, e2]
      · rw [if_neg c2]
        refine ih (d + 1) (by omega) (fun z hz hq => ?_)
        have d1 := hno z hz hq
        rcases Nat.lt_or_ge d (dsN Y z) with w | w
        · exact w
        · exfalso
          have hzd : dsN Y z = d := by omega
          unfold dsN at hzd
          split at hzd
          · apply c1
            refine ⟨by omega, ?_⟩
            rw [show Y - d = z by omega]
            exact hq
          · apply c2
            refine ⟨by omega, ?_⟩
            rw [show Y + d = z by omega]
            exact hq
theorem abI_N {a b : Nat} (ha : a < 100) (hb : b < 100) : abI (nI a - nI b) = nI (dsN b a) := by
  unfold abI dsN
  rcases Nat.lt_or_ge a b with h | h
  · have hn : nI a - nI b < 0 := pk_sneg (by omega) h
    rw [if_neg (Int32.not_le.mpr hn), if_pos (by omega), Int32.zero_sub, Int32.neg_sub, pk_sub (by omega)]
  · rw [pk_sub h, if_pos (nI_pos' (by omega))]
    by_cases e : a ≤ b
    · rw [if_pos e]
      congr 1
      omega
    · rw [if_neg e]
theorem ne_class {yr : Nat → Nat} {y ty tf : Nat → Int32} {q : Int32} {Y n : Nat} (hY : Y < 100) (hy : ∀ i, i < n → y i = nI (yr i) ∧ yr i < 100) (ht : ∀ i, i < n → ty i = tf (yr i)) (hs : ∀ i j, i < j → j < n → yr i ≤ yr j) :
    ∀ (k i m : Nat) (b : Int32) (S : Nat → Prop), i + k = n → m ≤ 100 → NeP Y (fun z => q ≤ tf z) S b m → (∀ z, S z ↔ ∃ j, j < i ∧ yr j = z) → ∃ (m' : Nat) (S' : Nat → Prop), NeP Y (fun z => q ≤ tf z) S' (neL ty y (nI Y) q k i b (nI m)) m' ∧ (∀ z, S' z ↔ ∃ j, j < n ∧ yr j = z) := by
  intro k
  induction k with
  | zero =>
    intro i m b S hk hm h hS
    obtain rfl : n = i := by omega
    exact ⟨m, S, h, hS⟩
  | succ k ih =>
    intro i m b S hk hm h hS
    have hi : i < n := by omega
    have y1 := hy i hi
    have hd : dsN Y (yr i) < 100 := by
      unfold dsN
      split <;> omega
    have hS' : ∀ z, (S z ∨ z = yr i) ↔ ∃ j, j < i + 1 ∧ yr j = z := fun z => by
      rw [hS z]
      constructor
      · rintro (⟨j, hj, rfl⟩ | rfl)
        · exact ⟨j, by omega, rfl⟩
        · exact ⟨i, by omega, rfl⟩
      · rintro ⟨j, hj, rfl⟩
        by_cases e2 : j = i
        · subst e2
          exact Or.inr rfl
        · exact Or.inl ⟨j, by omega, rfl⟩
    have un : neL ty y (nI Y) q (k + 1) i b (nI m) = (if abI (y i - nI Y) < nI m ∧ q ≤ ty i then neL ty y (nI Y) q k (i + 1) (y i) (abI (y i - nI Y)) else neL ty y (nI Y) q k (i + 1) b (nI m)) := rfl
    rw [y1.1, abI_N y1.2 hY, ht i hi] at un
    obtain ⟨h1, h2⟩ := h
    by_cases c : dsN Y (yr i) < m ∧ q ≤ tf (yr i)
    · rw [if_pos ⟨(nI_ltI (by omega) (by omega)).mpr c.1, c.2⟩] at un
      rw [un]
      refine ih (i + 1) (dsN Y (yr i)) (nI (yr i)) (fun z => S z ∨ z = yr i) (by omega) (by omega) ⟨fun z hz hq => ?_, Or.inr ⟨hd, yr i, Or.inr rfl, c.2, rfl, rfl, fun z hz hq e => ?_⟩⟩ hS'
      · rcases hz with hz | rfl
        · have := h1 z hz hq
          omega
        · exact Nat.le_refl _
      · rcases hz with hz | rfl
        · have := h1 z hz hq
          omega
        · exact Nat.le_refl _
    · rw [if_neg (fun z => c ⟨(nI_ltI (by omega) (by omega)).mp z.1, z.2⟩)] at un
      rw [un]
      refine ih (i + 1) m b (fun z => S z ∨ z = yr i) (by omega) hm ⟨fun z hz hq => ?_, ?_⟩ hS'
      · rcases hz with hz | rfl
        · exact h1 z hz hq
        · rcases Nat.lt_or_ge (dsN Y (yr i)) m with w | w
          · exact absurd ⟨w, hq⟩ c
          · exact w
      · rcases h2 with w | ⟨w1, z, w2, w3, w4, w5, w6⟩
        · exact Or.inl w
        · refine Or.inr ⟨w1, z, Or.inl w2, w3, w4, w5, fun z' hz' hq e => ?_⟩
          rcases hz' with hz' | rfl
          · exact w6 z' hz' hq e
          · obtain ⟨j, hj, rfl⟩ := (hS z).mp w2
            exact hs j i hj hi
theorem Z_nearest {I : HI} {J : HJ} (hr : Rel I J) (ye q : Int32) : Both mX6_nearest mX7_nearest [.int ye, .int q] I J := by
  obtain ⟨nf, nk, yr, -, hl, hb, -⟩ := id hr
  obtain ⟨n, ns, b1, b2, b3, b4, b5, b6, b7, b8⟩ := bar_t hb
  obtain ⟨a1, a2, a3, a4, a5, a6, -⟩ := id hl
  have n12 : n ≤ 12 := Nat.le_trans b1 a2
  cases hy : inr ye (nI 0) (nI 99) with
  | false => exact Both.pure hr (S_nearest_bad1 (d := 5) hy) (S_mnearest_bad1 (d := 5) hy)
  | true =>
    cases hq : inr q (nI 1) (nI 999) with
    | false => exact Both.pure hr (S_nearest_bad2 (d := 5) hq) (S_mnearest_bad2 (d := 5) hq)
    | true =>
      obtain ⟨Y, hY, rfl⟩ := inr_nI (by decide) hy
      have te : ∀ z : Int32, sI (tyI (I 17) (I 5) z) n = sI (mtyI I z) n := fun z => sI_cg (fun i hi => by
        unfold mtyI tyI
        rw [(b8 i hi).1, (a5 i (by omega)).1, (a5 i (by omega)).2.1])
      obtain ⟨m', S', c1, c2⟩ := ne_class (yr := yr) (y := I 5) (ty := fun i => sI (tyI (I 17) (I 5) (I 5 i)) n) (tf := fun z => sI (mtyI I (nI z)) n) (q := q) (Y := Y) (n := n) (by omega) (fun i hi => ⟨(a5 i (by omega)).1, (a5 i (by omega)).2.2⟩) (fun i hi => by
        show sI (tyI (I 17) (I 5) (I 5 i)) n = sI (mtyI I (nI (yr i))) n
        rw [te, (a5 i (by omega)).1]) (fun i j hij hj => a6 i j hij (by omega)) n 0 100 (-4) (fun _ => False) (by omega) (Nat.le_refl _) ⟨fun z hz => hz.elim, Or.inl ⟨rfl, rfl⟩⟩ (fun z => ⟨fun h => h.elim, fun ⟨j, hj, _⟩ => absurd hj (Nat.not_lt_zero j)⟩)
      have hq1 : ¬ q ≤ 0 := by
        obtain ⟨a, z1, z2, rfl⟩ := inr_nI2 (by decide) hq (by decide)
        exact nI_nle (by omega) (by omega)
      have ev := c1.model (by omega) (fun z hz => by
        obtain ⟨j, hj, rfl⟩ := (c2 z).mp hz
        exact (a5 j (by omega)).2.2) (fun z hz hqz => by
        refine (c2 z).mpr ?_
        rcases Classical.em (∃ j, j < n ∧ yr j = z) with w | w
        · exact w
        · exfalso
          apply hq1
          have e0 : sI (mtyI I (nI z)) n = nI (sN (fun _ => 0) n) := sI_N (fun i hi => by
            unfold mtyI
            rw [(a5 i (by omega)).2.1, if_neg (fun v => w ⟨i, hi, (nI_eq (by have := (a5 i (by omega)).2.2; omega) (by omega)).mp v⟩)]
            rfl)
          have h1 := sN_le (g := fun _ => 0) (n := n) (b := 0) (fun i hi => Nat.le_refl 0)
          have h2 : sN (fun _ => 0) n = 0 := by omega
          rw [h2] at e0
          have hqz' : q ≤ sI (mtyI I (nI z)) n := hqz
          rw [e0] at hqz'
          exact hqz') 100 0 (by omega) (fun z _ _ => Nat.zero_le _)
      have h2 := S_mnearest (dd := 5) (J := J) hY hq b4 n12
      rw [ev] at h2
      exact Both.pure hr (S_nearest (d := 5) hy hq b3 n12) h2
