/-! call by call: the barn kept and set up again -/
/-- the places of kept barn b -/
def kpP (c a b : Nat) : Prop := (16 + 6 * c ≤ a ∧ a < 22 + 6 * c) ∨ (a = 50 ∧ b = c) ∨ (a = 51 ∧ 12 * c ≤ b ∧ b < 12 * c + 12) ∨ (a = 52 ∧ 12 * c ≤ b ∧ b < 12 * c + 12) ∨ (a = 54 ∧ b = c) ∨ (a = 55 ∧ 24 * c ≤ b ∧ b < 24 * c + 24)
/-- block o copied to block c on both sides, the two counts of kept barns set -/
theorem copy_out {I : HI} {o c a b : Nat} (hc : c ≤ 2) (ho : o ≤ 2) (h : ¬ kpP c a b) : mcpZ (cpH I (16 + 6 * c) (16 + 6 * o)) o c a b = I a b := by
  unfold kpP at h
  have e : cpH I (16 + 6 * c) (16 + 6 * o) a b = I a b := cp_out (by omega)
  by_cases q1 : a = 50
  · subst q1
    rw [mz_50, if_neg (by omega), e]
  · by_cases q2 : a = 54
    · subst q2
      rw [mz_54, if_neg (by omega), e]
    · by_cases q3 : a = 51 ∨ a = 52
      · rw [mz_5o q3 (by omega), e]
      · by_cases q4 : a = 55
        · subst q4
          rw [mz_55o (by omega), e]
        · rw [mz_o (by omega), e]
theorem copy_in {I : HI} {J J' : HJ} {nf o c : Nat} (hnf : nf ≤ 12) (hc : c ≤ 2) (ho : o ≤ 2) (hoc : o ≠ c) (h : BarnR I J nf (16 + 6 * o) o) (hJ : J' 53 c = J 53 o) : BarnR (mcpZ (cpH I (16 + 6 * c) (16 + 6 * o)) o c) J' nf (16 + 6 * c) c := by
  have hd : 16 + 6 * c + 6 ≤ 16 + 6 * o ∨ 16 + 6 * o + 6 ≤ 16 + 6 * c := by omega
  have low : ∀ a b, a < 44 → mcpZ (cpH I (16 + 6 * c) (16 + 6 * o)) o c a b = cpH I (16 + 6 * c) (16 + 6 * o) a b := fun a b ha => mz_o (by omega)
  have high : ∀ a b, 44 ≤ a → cpH I (16 + 6 * c) (16 + 6 * o) a b = I a b := fun a b ha => cp_out (by omega)
  have c0 := cp_0 (X := I) (t := 16 + 6 * c) (o := 16 + 6 * o) (by omega)
  refine h.mv hnf ?_ ?_ ?_ (fun k hk => ?_) (fun k hk => ?_) ?_ (fun i hi => ?_) (fun i hi => ?_) ?_ (fun k hk => ?_) hJ
  · rw [low _ _ (by omega)]; exact c0.1
  · rw [low _ _ (by omega)]; exact c0.2.1
  · rw [low _ _ (by omega)]; exact c0.2.2
  · rw [low _ _ (by omega), low _ _ (by omega)]; exact cp_12 hk hd
  · rw [low _ _ (by omega), low _ _ (by omega), low _ _ (by omega)]; exact cp_8 hk hd
  · rw [mz_50, if_pos rfl, high _ _ (by omega)]
  · rw [mz_5x (Or.inl rfl) hi, high _ _ (by omega)]
  · rw [mz_5x (Or.inr rfl) hi, high _ _ (by omega)]
  · rw [mz_54, if_pos rfl, high _ _ (by omega)]
  · rw [mz_55 hk, high _ _ (by omega)]
/-- the relation after such a copy -/
theorem Rel.copy {I I' : HI} {J J' : HJ} {o c nk nk' : Nat} (h : Rel I J) (hk : I 0 6 = nI nk) (hk2 : nk ≤ 2) (hc : c ≤ 2) (ho : o ≤ nk) (hoc : o ≠ c) (hnk' : nk' ≤ 2) (h06 : I' 0 6 = nI nk') (h44 : I' 44 13 = nI nk') (hs : ∀ a b, ¬ (a = 0 ∧ b = 6) → ¬ (a = 44 ∧ b = 13) → I' a b = mcpZ (cpH I (16 + 6 * c) (16 + 6 * o)) o c a b) (hJ : ∀ b, J' 53 b = if b = c then J 53 o else J 53 b) (hkeep : ∀ b, b ≤ nk' → b ≠ c → b ≤ nk) : Rel I' J' := by
  obtain ⟨nf, nk0, yr, ht, hl, hb, hm, a1, a2, a3, a4⟩ := h
  have enk : nk0 = nk := (nI_eq (by omega) (by omega)).mp (a2.symm.trans hk)
  subst enk
  have hnf : nf ≤ 12 := hl.2.1
  have all : ∀ b, b ≤ nk0 → BarnR I J nf (16 + 6 * b) b := fun b h1 => by
    rcases Nat.eq_zero_or_pos b with z | z
    · subst z
      exact hb
    · exact a4 b z h1
  have g : ∀ a b, ¬ (a = 0 ∧ b = 6) → ¬ (a = 44 ∧ b = 13) → ¬ kpP c a b → I' a b = I a b := fun a b h1 h2 h3 => (hs a b h1 h2).trans (copy_out hc (by omega) h3)
  have r : ∀ a, (a = 2 ∨ a = 5 ∨ a = 6 ∨ a = 7 ∨ a = 8 ∨ a = 9 ∨ a = 35 ∨ a = 45 ∨ a = 56) → I' a = I a := fun a ha => by
    funext b
    exact g a b (by omega) (by omega) (by unfold kpP; omega)
  have bars : ∀ b, b ≤ nk' → BarnR I' J' nf (16 + 6 * b) b := fun b h1 => by
    by_cases e : b = c
    · subst e
      have := copy_in (J' := J') hnf hc (by omega) hoc (all o ho) (by rw [hJ, if_pos rfl])
      exact this.cg hnf (fun a h2 h3 => by funext k; exact hs a k (by omega) (by omega)) (hs 50 b (by omega) (by omega)) (fun i hi => hs 51 _ (by omega) (by omega)) (fun i hi => hs 52 _ (by omega) (by omega)) (hs 54 b (by omega) (by omega)) (fun k hk => hs 55 _ (by omega) (by omega)) rfl
    · exact (all b (hkeep b h1 e)).cg hnf (fun a h2 h3 => by funext k; exact g a k (by omega) (by omega) (by unfold kpP; omega)) (g 50 b (by omega) (by omega) (by unfold kpP; omega)) (fun i hi => g 51 _ (by omega) (by omega) (by unfold kpP; omega)) (fun i hi => g 52 _ (by omega) (by omega) (by unfold kpP; omega)) (g 54 b (by omega) (by omega) (by unfold kpP; omega)) (fun k hk => g 55 _ (by omega) (by omega) (by unfold kpP; omega)) (by rw [hJ, if_neg e])
  refine ⟨nf, nk', yr, ht.cg (g 1 1 (by omega) (by omega) (by unfold kpP; omega)) (r 2 (by omega)) (g 44 0 (by omega) (by omega) (by unfold kpP; omega)) (r 45 (by omega)), hl.cg (fun k hk => g 4 k (by omega) (by omega) (by unfold kpP; omega)) (r 5 (by omega)) (r 6 (by omega)) (r 7 (by omega)) (r 8 (by omega)) (r 9 (by omega)) (fun k hk => g 46 k (by omega) (by omega) (by unfold kpP; omega)) (g 47 0 (by omega) (by omega) (by unfold kpP; omega)) (fun k hk => g 48 k (by omega) (by omega) (by unfold kpP; omega)) (fun k hk => g 49 k (by omega) (by omega) (by unfold kpP; omega)), bars 0 (by omega), hm.cg (g 34 1 (by omega) (by omega) (by unfold kpP; omega)) (r 35 (by omega)) (g 44 14 (by omega) (by omega) (by unfold kpP; omega)) (r 56 (by omega)), hnk', h06, h44, fun b _ h2 => bars b h2⟩
/-- a single place set aside, the copies otherwise alike -/
theorem mcpZ_cg {X Y : HI} {o c a b : Nat} (h : ∀ a b, 44 < a → X a b = Y a b) (hab : X a b = Y a b) : mcpZ X o c a b = mcpZ Y o c a b := by
  unfold mcpZ mcpH wr
  simp only [h 55 _ (by omega), h 50 _ (by omega), h 54 _ (by omega)]
  by_cases q : a = 51 ∨ a = 52
  · rcases q with rfl | rfl
    · simp [h 51 _ (by omega)]
    · simp [h 52 _ (by omega)]
  · simp [q, hab]
theorem Z_keep {I : HI} {J : HJ} (hr : Rel I J) : Both mX6_keep mX7_keep [] I J := by
  obtain ⟨nf, nk, yr, -, -, -, -, k1, k2, k3, -⟩ := id hr
  by_cases hk : nk < 2
  · refine ⟨_, S_keep (d := 6) k2 hk, fun x I1 J1 hp => ?_⟩
    obtain ⟨e1, e2, e3⟩ := hp
    have r44 : I1 44 13 = nI nk := by
      rw [e2]
      unfold keepH
      rw [wr_ne (by omega), cp_out (by omega), k3]
    refine ⟨_, S_mkeep (d := 6) r44 hk, fun y I2 J2 hp2 => ?_⟩
    obtain ⟨f1, f2, f3⟩ := hp2
    rw [f1, e1]
    have e16 : 22 + 6 * nk = 16 + 6 * (nk + 1) := by omega
    refine ⟨rfl, hr.copy (o := 0) (c := nk + 1) (nk := nk) (nk' := nk + 1) k2 k1 (by omega) (by omega) (by omega) (by omega) ?_ ?_ (fun a b h1 h2 => ?_) (fun b => ?_) (fun b h1 h2 => by omega)⟩
    · rw [f2, mz_o (by omega), wr_ne (by omega), e2]
      exact wr_hit
    · rw [f2, mz_o (by omega), wr_hit]
    · rw [f2]
      refine mcpZ_cg (fun a b ha => ?_) ?_
      · rw [wr_ne (by omega), e2]
        unfold keepH
        rw [wr_ne (by omega), e16]
      · rw [wr_out h2, e2]
        unfold keepH
        rw [wr_out h1, e16]
    · rw [f3, e3]
      unfold wr
      simp
  · have e : nk = 2 := by omega
    subst e
    exact Both.pure hr (S_keep_full (d := 6) k2) (S_mkeep_full (d := 7) k3)
theorem Z_back {I : HI} {J : HJ} (hr : Rel I J) : Both mX6_back mX7_back [] I J := by
  obtain ⟨nf, nk, yr, -, -, -, -, k1, k2, k3, -⟩ := id hr
  rcases Nat.eq_zero_or_pos nk with z | z
  · subst z
    exact Both.pure hr (S_back_no (d := 6) k2) (S_mback_no (d := 7) k3)
  · obtain ⟨k, rfl⟩ : ∃ k, nk = k + 1 := ⟨nk - 1, by omega⟩
    refine ⟨_, S_back (d := 6) k2 (by omega), fun x I1 J1 hp => ?_⟩
    obtain ⟨e1, e2, e3⟩ := hp
    have r44 : I1 44 13 = nI (k + 1) := by
      rw [e2]
      unfold backH
      rw [cp_out (by omega), wr_ne (by omega), k3]
    refine ⟨_, S_mback (d := 6) r44 (by omega), fun y I2 J2 hp2 => ?_⟩
    obtain ⟨f1, f2, f3⟩ := hp2
    rw [f1, e1]
    have e16 : 22 + 6 * k = 16 + 6 * (k + 1) := by omega
    have cpw : ∀ a b, ¬ (a = 0 ∧ b = 6) → cpH (wr I 0 6 (nI k)) 16 (16 + 6 * (k + 1)) a b = cpH I (16 + 6 * 0) (16 + 6 * (k + 1)) a b := fun a b hab => by
      by_cases h1 : a = 0
      · subst h1
        rw [cp_out (by omega), cp_out (by omega), wr_out (by omega)]
      · unfold cpH cp2 cp1 wr
        simp [h1]
    refine ⟨rfl, hr.copy (o := k + 1) (c := 0) (nk := k + 1) (nk' := k) k2 k1 (by omega) (by omega) (by omega) (by omega) ?_ ?_ (fun a b h1 h2 => ?_) (fun b => ?_) (fun b h1 h2 => by omega)⟩
    · rw [f2, wr_ne (by omega), mz_o (by omega), e2]
      unfold backH
      rw [cp_out (by omega), wr_hit]
    · rw [f2, wr_hit]
    · rw [f2, wr_out h2, e2]
      unfold backH
      rw [e16]
      exact mcpZ_cg (fun a b ha => cpw a b (by omega)) (cpw a b h1)
    · rw [f3, e3]
      unfold wr
      simp
