/-! call by call: those that change the text, the marks, the barn -/
theorem Rel.text {I I' : HI} {J : HJ} (h : Rel I J) (hs : ∀ a b, ¬ ((a = 1 ∧ b = 1) ∨ a = 2 ∨ (a = 44 ∧ b = 0) ∨ a = 45) → I' a b = I a b) (ht : TextR I') : Rel I' J := by
  obtain ⟨nf, nk, yr, -, hl, hb, hm, a1, a2, a3, a4⟩ := h
  have r : ∀ a, a ≠ 1 → a ≠ 2 → a ≠ 44 → a ≠ 45 → I' a = I a := fun a h1 h2 h3 h4 => by
    funext b
    exact hs a b (by omega)
  have hnf : nf ≤ 12 := hl.2.1
  refine ⟨nf, nk, yr, ht, hl.cg (fun k hk => hs 4 k (by omega)) (r 5 (by omega) (by omega) (by omega) (by omega)) (r 6 (by omega) (by omega) (by omega) (by omega)) (r 7 (by omega) (by omega) (by omega) (by omega)) (r 8 (by omega) (by omega) (by omega) (by omega)) (r 9 (by omega) (by omega) (by omega) (by omega)) (fun k hk => hs 46 k (by omega)) (hs 47 0 (by omega)) (fun k hk => hs 48 k (by omega)) (fun k hk => hs 49 k (by omega)), ?_, hm.cg (hs 34 1 (by omega)) (r 35 (by omega) (by omega) (by omega) (by omega)) (hs 44 14 (by omega)) (r 56 (by omega) (by omega) (by omega) (by omega)), a1, (hs 0 6 (by omega)).trans a2, (hs 44 13 (by omega)).trans a3, fun b h1 h2 => ?_⟩
  · exact hb.cg hnf (fun a h1 h2 => r a (by omega) (by omega) (by omega) (by omega)) (hs 50 0 (by omega)) (fun i hi => hs 51 _ (by omega)) (fun i hi => hs 52 _ (by omega)) (hs 54 0 (by omega)) (fun k hk => hs 55 _ (by omega)) rfl
  · exact (a4 b h1 h2).cg hnf (fun a h1 h2 => r a (by omega) (by omega) (by omega) (by omega)) (hs 50 b (by omega)) (fun i hi => hs 51 _ (by omega)) (fun i hi => hs 52 _ (by omega)) (hs 54 b (by omega)) (fun k hk => hs 55 _ (by omega)) rfl
theorem Rel.marks {I I' : HI} {J : HJ} (h : Rel I J) (hs : ∀ a b, ¬ ((a = 34 ∧ b = 1) ∨ a = 35 ∨ (a = 44 ∧ b = 14) ∨ a = 56) → I' a b = I a b) (hm : MarksR I') : Rel I' J := by
  obtain ⟨nf, nk, yr, ht, hl, hb, -, a1, a2, a3, a4⟩ := h
  have r : ∀ a, a ≠ 34 → a ≠ 35 → a ≠ 44 → a ≠ 56 → I' a = I a := fun a h1 h2 h3 h4 => by
    funext b
    exact hs a b (by omega)
  have hnf : nf ≤ 12 := hl.2.1
  refine ⟨nf, nk, yr, ht.cg (hs 1 1 (by omega)) (r 2 (by omega) (by omega) (by omega) (by omega)) (hs 44 0 (by omega)) (r 45 (by omega) (by omega) (by omega) (by omega)), hl.cg (fun k hk => hs 4 k (by omega)) (r 5 (by omega) (by omega) (by omega) (by omega)) (r 6 (by omega) (by omega) (by omega) (by omega)) (r 7 (by omega) (by omega) (by omega) (by omega)) (r 8 (by omega) (by omega) (by omega) (by omega)) (r 9 (by omega) (by omega) (by omega) (by omega)) (fun k hk => hs 46 k (by omega)) (hs 47 0 (by omega)) (fun k hk => hs 48 k (by omega)) (fun k hk => hs 49 k (by omega)), ?_, hm, a1, (hs 0 6 (by omega)).trans a2, (hs 44 13 (by omega)).trans a3, fun b h1 h2 => ?_⟩
  · exact hb.cg hnf (fun a h1 h2 => r a (by omega) (by omega) (by omega) (by omega)) (hs 50 0 (by omega)) (fun i hi => hs 51 _ (by omega)) (fun i hi => hs 52 _ (by omega)) (hs 54 0 (by omega)) (fun k hk => hs 55 _ (by omega)) rfl
  · exact (a4 b h1 h2).cg hnf (fun a h1 h2 => r a (by omega) (by omega) (by omega) (by omega)) (hs 50 b (by omega)) (fun i hi => hs 51 _ (by omega)) (fun i hi => hs 52 _ (by omega)) (hs 54 b (by omega)) (fun k hk => hs 55 _ (by omega)) rfl
def barP (a b : Nat) : Prop := (16 ≤ a ∧ a < 22) ∨ (a = 50 ∧ b = 0) ∨ (a = 51 ∧ b < 12) ∨ (a = 52 ∧ b < 12) ∨ (a = 54 ∧ b = 0) ∨ (a = 55 ∧ b < 24)
theorem Rel.bar {I I' : HI} {J J' : HJ} (h : Rel I J) (hs : ∀ a b, ¬ barP a b → I' a b = I a b) (hJ : ∀ b, b ≠ 0 → J' 53 b = J 53 b) (hb : ∀ nf yr, LaidR I nf yr → BarnR I J nf 16 0 → BarnR I' J' nf 16 0) : Rel I' J' := by
  obtain ⟨nf, nk, yr, ht, hl, hb0, hm, a1, a2, a3, a4⟩ := h
  have r : ∀ a, (a < 16 ∨ (22 ≤ a ∧ a < 50) ∨ a = 56) → I' a = I a := fun a h1 => by
    funext b
    exact hs a b (by unfold barP; omega)
  have hnf : nf ≤ 12 := hl.2.1
  refine ⟨nf, nk, yr, ht.cg (hs 1 1 (by unfold barP; omega)) (r 2 (by omega)) (hs 44 0 (by unfold barP; omega)) (r 45 (by omega)), hl.cg (fun k hk => hs 4 k (by unfold barP; omega)) (r 5 (by omega)) (r 6 (by omega)) (r 7 (by omega)) (r 8 (by omega)) (r 9 (by omega)) (fun k hk => hs 46 k (by unfold barP; omega)) (hs 47 0 (by unfold barP; omega)) (fun k hk => hs 48 k (by unfold barP; omega)) (fun k hk => hs 49 k (by unfold barP; omega)), hb nf yr hl hb0, hm.cg (hs 34 1 (by unfold barP; omega)) (r 35 (by omega)) (hs 44 14 (by unfold barP; omega)) (r 56 (by omega)), a1, (hs 0 6 (by unfold barP; omega)).trans a2, (hs 44 13 (by unfold barP; omega)).trans a3, fun b h1 h2 => ?_⟩
  exact (a4 b h1 h2).cg hnf (fun a h1 h2 => r a (by omega)) (hs 50 b (by unfold barP; omega)) (fun i hi => hs 51 _ (by unfold barP; omega)) (fun i hi => hs 52 _ (by unfold barP; omega)) (hs 54 b (by unfold barP; omega)) (fun k hk => hs 55 _ (by unfold barP; omega)) (hJ b (by omega))
theorem wr_out {I : HI} {p k a b : Nat} {v : Int32} (h : ¬ (a = p ∧ b = k)) : wr I p k v a b = I a b := by
  unfold wr
  by_cases h1 : a = p
  · by_cases h2 : b = k
    · exact absurd ⟨h1, h2⟩ h
    · simp [h1, h2]
  · simp [h1]
theorem Z_wipe {I : HI} {J : HJ} (hr : Rel I J) : Both mX6_wipe mX7_wipe [] I J := by
  obtain ⟨len, t1, t2, t3, t4⟩ := hr.choose_spec.choose_spec.choose_spec.1
  refine ⟨_, S_wipe (d := 6), fun x I1 J1 hp => ?_⟩
  obtain ⟨e1, e2, e3⟩ := hp
  refine ⟨_, S_mwipe (d := 7), fun y I2 J2 hp2 => ?_⟩
  obtain ⟨f1, f2, f3⟩ := hp2
  subst e2
  rw [f1, f2, f3, e1, e3]
  refine ⟨?_, hr.text (fun a b h => ?_) ⟨0, by omega, ?_, ?_, fun i hi => by omega⟩⟩
  · rw [wr_ne (by omega), t3, t2]
  · rw [wr_out (by omega), wr_out (by omega)]
  · rw [wr_ne (by omega), wr_hit]
  · rw [wr_hit]
theorem Z_noMarks {I : HI} {J : HJ} (hr : Rel I J) : Both mX6_noMarks mX7_noMarks [] I J := by
  obtain ⟨nf, nk, yr, -, -, -, hm, -⟩ := id hr
  obtain ⟨nm, m1, m2, m3, m4⟩ := hm
  refine ⟨_, S_noMarks (d := 6), fun x I1 J1 hp => ?_⟩
  obtain ⟨e1, e2, e3⟩ := hp
  refine ⟨_, S_mnoMarks (d := 7), fun y I2 J2 hp2 => ?_⟩
  obtain ⟨f1, f2, f3⟩ := hp2
  subst e2
  rw [f1, f2, f3, e1, e3]
  refine ⟨?_, hr.marks (fun a b h => ?_) ⟨0, by omega, ?_, ?_, fun i hi => by omega⟩⟩
  · rw [wr_ne (by omega), m3, m2]
  · rw [wr_out (by omega), wr_out (by omega)]
  · rw [wr_ne (by omega), wr_hit]
  · rw [wr_hit]
theorem Z_mark {I : HI} {J : HJ} (hr : Rel I J) (d : Int32) : Both mX6_mark mX7_mark [.int d] I J := by
  obtain ⟨nf, nk, yr, -, -, -, hm, -⟩ := id hr
  obtain ⟨nm, m1, m2, m3, m4⟩ := hm
  cases hd : inr d (nI 0) (nI 9) with
  | false => exact Both.pure hr (S_mark_bad (d := 6) hd) (S_mmark_bad (d := 6) hd)
  | true =>
    refine ⟨_, S_mark (d := 6) hd m2 m1, fun x I1 J1 hp => ?_⟩
    obtain ⟨e1, e2, e3⟩ := hp
    by_cases hlt : nm < 14
    · rw [if_pos hlt] at e1 e2
      have hk : I1 44 14 = nI nm := by rw [e2, wr_ne (by omega), wr_ne (by omega), m3]
      refine ⟨_, S_mmark (d := 6) hd hk m1, fun y I2 J2 hp2 => ?_⟩
      obtain ⟨f1, f2, f3⟩ := hp2
      rw [if_pos hlt] at f1 f2
      subst e2
      rw [f1, f2, f3, e1, e3]
      refine ⟨rfl, hr.marks (fun a b h => ?_) ⟨nm + 1, by omega, ?_, ?_, fun i hi => ?_⟩⟩
      · rw [wr_out (by omega), wr_out (by omega), wr_out (by omega), wr_out (by omega)]
      · rw [wr_ne (by omega), wr_ne (by omega), wr_hit]
      · rw [wr_hit]
      · rw [wr_ne (show (35 : Nat) ≠ 44 by omega), wr_ne (show (35 : Nat) ≠ 56 by omega), wr_ne (show (35 : Nat) ≠ 34 by omega), wr_ne (show (56 : Nat) ≠ 44 by omega)]
        by_cases ei : i = nm
        · rw [ei, wr_hit, wr_hit]
        · rw [wr_nk ei, wr_nk ei, wr_ne (show (56 : Nat) ≠ 34 by omega), wr_ne (show (56 : Nat) ≠ 35 by omega)]
          exact m4 i (by omega)
    · rw [if_neg hlt] at e1 e2
      have hk : I1 44 14 = nI nm := by rw [e2, m3]
      refine ⟨_, S_mmark (d := 6) hd hk m1, fun y I2 J2 hp2 => ?_⟩
      obtain ⟨f1, f2, f3⟩ := hp2
      rw [if_neg hlt] at f1 f2
      rw [f1, f2, f3, e1, e3, e2]
      exact ⟨rfl, hr⟩
theorem Z_swap {I : HI} {J : HJ} (hr : Rel I J) (i w : Int32) : Both mX6_swap mX7_swap [.int i, .int w] I J := by
  obtain ⟨nf, nk, yr, -, hl, hb, -⟩ := id hr
  obtain ⟨n, ns, b1, b2, b3, b4, b5, b6, b7, b8⟩ := bar_t hb
  have n12 : n ≤ 12 := Nat.le_trans b1 hl.2.1
  cases hi : inr i (nI 0) (nI n - nI 1) with
  | false => exact Both.pure hr (S_swap_bad1 (d := 5) b3 hi) (S_mswap_bad1 (d := 5) b4 hi)
  | true =>
    obtain ⟨j, hj, rfl⟩ := in0_of (by omega) hi
    cases hw : inr w (nI 0) (nI 9) with
    | false => exact Both.pure hr (S_swap_bad2 (d := 5) b3 hw) (S_mswap_bad2 (d := 5) b4 hw)
    | true =>
      refine ⟨_, S_swap (d := 5) b3 n12 hj hw, fun x I1 J1 hp => ?_⟩
      obtain ⟨e1, e2, e3⟩ := hp
      have h50 : I1 50 0 = nI n := by rw [e2, wr_ne (by omega), b4]
      refine ⟨_, S_mswap (d := 5) h50 n12 hj hw, fun y I2 J2 hp2 => ?_⟩
      obtain ⟨f1, f2, f3⟩ := hp2
      subst e2
      rw [f1, f2, f3, e1, e3]
      refine ⟨?_, hr.bar (fun a b h => ?_) (fun b hb => rfl) (fun nf' yr' hl' hb' => ?_)⟩
      · rw [wr_ne (by omega)]
        exact (b8 j hj).2.1
      · unfold barP at h
        rw [wr_out (by omega), wr_out (by omega)]
      · obtain ⟨n', ns', t, l, q, c1, c2, c3, c4, c5, c6, c7, c8, c9⟩ := hb'
        have en : n' = n := (nI_eq (by have := hl'.2.1; omega) (by omega)).mp (c3.symm.trans b3)
        subst en
        refine ⟨n', ns', t, l, q, c1, c2, ?_, ?_, ?_, ?_, ?_, fun i hi => ?_, fun s hs => ?_⟩
        · rw [wr_ne (by omega), wr_ne (by omega), c3]
        · rw [wr_ne (by omega), wr_ne (by omega), c4]
        · rw [wr_ne (by omega), wr_ne (by omega), c5]
        · rw [wr_ne (by omega), wr_ne (by omega), c6]
        · rw [wr_ne (by omega), wr_ne (by omega), c7]
        · obtain ⟨d1, d2, d3, d4⟩ := c8 i hi
          rw [Nat.mul_zero, Nat.zero_add] at d2 d3 ⊢
          refine ⟨?_, ?_, ?_, d4⟩
          · rw [wr_ne (by omega), wr_ne (by omega), d1]
          · rw [wr_ne (by omega), wr_ne (by omega), d2]
          · rw [wr_ne (show 16 + 2 ≠ 52 by omega)]
            by_cases ei : i = j
            · rw [ei, wr_hit, wr_hit]
            · rw [wr_nk ei, wr_nk ei, wr_nk ei, d3]
        · have d := c9 s hs
          rw [wr_ne (show 16 + 3 ≠ 52 by omega), wr_ne (show 16 + 3 ≠ 18 by omega), wr_ne (show 16 + 4 ≠ 52 by omega), wr_ne (show 16 + 4 ≠ 18 by omega), wr_ne (show 16 + 5 ≠ 52 by omega), wr_ne (show 16 + 5 ≠ 18 by omega), wr_ne (show (55 : Nat) ≠ 52 by omega), wr_ne (show (55 : Nat) ≠ 18 by omega)]
          exact d
