/-! call by call: lay: the two tellings change their places -/
def piP (a : Nat) : Nat := if 4 ≤ a ∧ a < 10 then a + 6 else if 10 ≤ a ∧ a < 16 then a - 6 else a
def swI {α : Type} (I : Nat → Nat → α) : Nat → Nat → α := fun a => I (piP a)
theorem piP_o {a : Nat} (h : a < 4 ∨ 16 ≤ a) : piP a = a := by
  unfold piP
  rw [if_neg (by omega), if_neg (by omega)]
theorem swI_o {α : Type} {I : Nat → Nat → α} {a : Nat} (h : a < 4 ∨ 16 ≤ a) : swI I a = I a := by
  unfold swI
  rw [piP_o h]
theorem swI_l {α : Type} {I : Nat → Nat → α} {a : Nat} (h : 4 ≤ a ∧ a < 10) : swI I a = I (a + 6) := by
  unfold swI piP
  rw [if_pos h]
theorem scanC_n {f : Nat → Int32} {len : Nat} : ∀ (k : Nat) (X : HI) (p start c g n : Nat), n ≤ 12 → X 10 5 = nI n → ∃ n', n' ≤ 12 ∧ (scanC f len k X p start c g n).2 10 5 = nI n' := by
  intro k
  induction k with
  | zero => intro X p start c g n h12 hn; exact ⟨n, h12, hn⟩
  | succ k ih =>
    intro X p start c g n h12 hn
    have he : endH X c 10 5 = nI n := by rw [endH_o (by omega) (by omega)]; exact hn
    unfold scanC
    split
    · exact ih _ _ _ _ _ _ h12 (by rw [startH_o (by omega)]; exact hn)
    · split
      · split
        · exact ih _ _ _ _ _ _ h12 (by rw [figH_o (by omega)]; exact hn)
        · exact ⟨n, h12, hn⟩
      · split
        · split
          · split
            · split
              · rename_i ht
                exact ih _ _ _ _ _ _ (takeB_n h12 ht) (takeH_n he)
              · exact ⟨n, h12, he⟩
            · exact ih _ _ _ _ _ _ h12 he
          · exact ⟨n, h12, hn⟩
        · exact ⟨n, h12, hn⟩
theorem takZ_o {I : HI} {a b : Nat} (h : a ≠ 44 ∧ a ≠ 46 ∧ a ≠ 47 ∧ a ≠ 48 ∧ a ≠ 49 ∧ a ≠ 50 ∧ a ≠ 54) : takZ I a b = I a b := by
  unfold takZ takH
  rw [wr_ne (by omega), wr_ne (by omega), wr_ne (by omega), wr_ne (by omega), if_neg (by omega), if_neg (by omega), if_neg (by omega), wr_ne (by omega)]
theorem takZ_at {I : HI} : takZ I 44 0 = I 44 0 ∧ takZ I 44 13 = nI 0 ∧ takZ I 44 14 = nI 0 ∧ takZ I 50 0 = nI 0 ∧ takZ I 54 0 = nI 0 ∧ takZ I 47 0 = I 47 1 := by
  refine ⟨?_, ?_, ?_, ?_, ?_, ?_⟩
  · unfold takZ takH
    rw [wr_nk (by omega), wr_nk (by omega), wr_ne (by omega), wr_ne (by omega), if_neg (by omega), if_neg (by omega), if_neg (by omega), wr_ne (by omega)]
  · exact wr_hit
  · unfold takZ
    rw [wr_nk (by omega), wr_hit]
  · unfold takZ
    rw [wr_ne (by omega), wr_ne (by omega), wr_ne (by omega), wr_hit]
  · unfold takZ
    rw [wr_ne (by omega), wr_ne (by omega), wr_hit]
  · unfold takZ takH
    rw [wr_ne (by omega), wr_ne (by omega), wr_ne (by omega), wr_ne (by omega), if_neg (by omega), if_neg (by omega), if_neg (by omega), wr_hit]
theorem takZ_46 {I : HI} {b : Nat} (h : b < 5) : takZ I 46 b = I 46 (5 + b) := by
  unfold takZ takH
  rw [wr_ne (by omega), wr_ne (by omega), wr_ne (by omega), wr_ne (by omega), if_neg (by omega), if_neg (by omega), if_pos (by omega), wr_ne (by omega)]
theorem takZ_48 {I : HI} {b : Nat} (h : b < 48) : takZ I 48 b = I 48 (48 + b) := by
  unfold takZ takH
  rw [wr_ne (by omega), wr_ne (by omega), wr_ne (by omega), wr_ne (by omega), if_neg (by omega), if_pos (by omega), wr_ne (by omega)]
theorem takZ_49 {I : HI} {b : Nat} (h : b < 100) : takZ I 49 b = I 49 (100 + b) := by
  unfold takZ takH
  rw [wr_ne (by omega), wr_ne (by omega), wr_ne (by omega), wr_ne (by omega), if_pos (by omega), wr_ne (by omega)]
theorem layH_o {X : HI} {a b : Nat} (h : a ≠ 0 ∧ a ≠ 16 ∧ a ≠ 34) : layH X a b = X a b := by
  unfold layH
  rw [wr_ne (by omega), wr_ne (by omega), wr_ne (by omega), wr_ne (by omega), wr_ne (by omega)]
theorem lay_rel {X I2 : HI} {J : HJ} {n len : Nat} (h0 : 0 < n) (t1 : len ≤ 400) (hD : DR X I2 n) (hf : Fr (swI (layH X)) I2) (x1 : X 1 1 = nI len) (x2 : X 44 0 = nI len) (x3 : ∀ i, i < len → X 2 i = X 45 i) : Rel (takZ I2) (wr J 53 0 0) := by
  have lo : ∀ a b, a < 44 → ¬ (4 ≤ a ∧ a < 16) → takZ I2 a b = layH X a b := fun a b h1 h2 => by
    rw [takZ_o (by omega), hf a b (by unfold drt; omega), swI_o (by omega)]
  have mid : ∀ a b, 4 ≤ a → a < 10 → takZ I2 a b = X (a + 6) b := fun a b h1 h2 => by
    rw [takZ_o (by omega), hf a b (by unfold drt; omega), swI_l ⟨h1, h2⟩, layH_o (by omega)]
  obtain ⟨z1, z2, z3, z4, z5, z6⟩ := takZ_at (I := I2)
  obtain ⟨d0, d1, d2, d3, d4, d5, d6, d7, d8, d9, d10⟩ := hD
  have nn : ∀ {w : Int32} {a b : Nat}, b < 2 ^ 31 → a < 2 ^ 31 → inr w (nI a) (nI b) = true → ∃ x, a ≤ x ∧ x ≤ b ∧ w = nI x := fun hb ha h => inr_nI2 hb h ha
  refine ⟨n, 0, fun i => (X 11 i).toNatClampNeg, ⟨len, t1, ?_, ?_, fun i hi => ?_⟩, ⟨h0, d0, ?_, ?_, fun i hi => ?_, fun i j hij hj => ?_, fun i hi => ?_, fun i hi => ?_, fun i hi => ?_, fun y hy => ?_, fun k hk => ?_, ?_, ?_, ?_, ?_, ?_⟩, ⟨0, 0, fun _ => 0, fun _ => 0, fun _ => 0, Nat.zero_le _, by omega, ?_, z4, ?_, ?_, z5, fun i hi => by omega, fun s hs => by omega⟩, ⟨0, by omega, ?_, z3, fun i hi => by omega⟩, by omega, ?_, z2, fun b h1 h2 => by omega⟩
  · rw [lo 1 1 (by omega) (by omega), layH_o (by omega), x1]
  · rw [z1, hf 44 0 (by unfold drt; omega), swI_o (by omega), layH_o (by omega), x2]
  · rw [lo 2 i (by omega) (by omega), layH_o (by omega), takZ_o (by omega), hf 45 i (by unfold drt; omega), swI_o (by omega), layH_o (by omega), x3 i hi]
  · rw [mid 4 5 (by omega) (by omega)]; exact d1
  · rw [z6]; exact d2
  · obtain ⟨⟨c1, c2⟩, -⟩ := d8 i hi
    obtain ⟨x, -, e2, e3⟩ := nn (by decide) (by decide) c2
    have ec : (X 11 i).toNatClampNeg = x := by rw [e3, nI_clamp (by omega)]
    show takZ I2 5 i = nI (X 11 i).toNatClampNeg ∧ takZ I2 48 (4 * i) = nI (X 11 i).toNatClampNeg ∧ (X 11 i).toNatClampNeg < 100
    rw [mid 5 i (by omega) (by omega), takZ_48 (by omega), c1, ec, e3]
    exact ⟨rfl, rfl, by omega⟩
  · obtain ⟨⟨c1, c2⟩, -⟩ := d8 i (by omega)
    obtain ⟨⟨c3, c4⟩, -⟩ := d8 j hj
    obtain ⟨x, -, e2, e3⟩ := nn (by decide) (by decide) c2
    obtain ⟨x', -, e2', e3'⟩ := nn (by decide) (by decide) c4
    have h9 := d9 i j hij hj
    show (X 11 i).toNatClampNeg ≤ (X 11 j).toNatClampNeg
    rw [e3, e3'] at h9 ⊢
    rw [nI_clamp (by omega), nI_clamp (by omega)]
    exact (nI_leI (by omega) (by omega)).mp h9
  · obtain ⟨-, ⟨c1, c2⟩, -⟩ := d8 i hi
    obtain ⟨x, e1, e2, e3⟩ := nn (by decide) (by decide) c2
    rw [mid 6 i (by omega) (by omega), takZ_48 (by omega), ← Nat.add_assoc, c1]
    exact ⟨rfl, x, e1, e2, e3⟩
  · obtain ⟨-, -, ⟨c1, c2⟩, -⟩ := d8 i hi
    obtain ⟨x, e1, e2, e3⟩ := nn (by decide) (by decide) c2
    rw [mid 7 i (by omega) (by omega), takZ_48 (by omega), ← Nat.add_assoc, c1]
    exact ⟨rfl, x, e1, e2, e3⟩
  · obtain ⟨-, -, -, c1, c2⟩ := d8 i hi
    obtain ⟨x, e1, e2, e3⟩ := nn (by decide) (by decide) c2
    rw [mid 8 i (by omega) (by omega), takZ_48 (by omega), ← Nat.add_assoc, c1]
    exact ⟨rfl, x, e2, e3⟩
  · obtain ⟨c1, c2⟩ := d10 y hy
    obtain ⟨x, e1, e2, e3⟩ := nn (by decide) (by decide) c2
    rw [mid 9 y (by omega) (by omega), takZ_49 hy, c1]
    exact ⟨rfl, x, e2, e3⟩
  · rw [mid 4 k (by omega) (by omega), takZ_46 hk]
    rcases (show k = 0 ∨ k = 1 ∨ k = 2 ∨ k = 3 ∨ k = 4 by omega) with rfl | rfl | rfl | rfl | rfl
    · exact d3.1
    · exact d4.1
    · exact d5.1
    · exact d6.1
    · exact d7.1
  · rw [mid 4 0 (by omega) (by omega)]
    exact nn (by decide) (by decide) d3.2
  · rw [mid 4 1 (by omega) (by omega)]
    exact nn (by decide) (by decide) d4.2
  · rw [mid 4 2 (by omega) (by omega)]
    exact nn (by decide) (by decide) d5.2
  · rw [mid 4 3 (by omega) (by omega)]
    obtain ⟨x, e1, e2, e3⟩ := nn (by decide) (by decide) d6.2
    exact ⟨x, e2, e3⟩
  · rw [mid 4 4 (by omega) (by omega)]
    obtain ⟨x, e1, e2, e3⟩ := nn (by decide) (by decide) d7.2
    exact ⟨x, e2, e3⟩
  · rw [lo 16 0 (by omega) (by omega)]
    unfold layH
    rw [wr_ne (by omega), wr_ne (by omega), wr_nk (by omega), wr_nk (by omega), wr_hit]
  · rw [lo 16 3 (by omega) (by omega), wr_hit]
    unfold layH
    rw [wr_ne (by omega), wr_ne (by omega), wr_nk (by omega), wr_hit]
    rfl
  · rw [lo 16 4 (by omega) (by omega)]
    unfold layH
    rw [wr_ne (by omega), wr_ne (by omega), wr_hit]
  · rw [lo 34 1 (by omega) (by omega)]
    unfold layH
    rw [wr_hit]
  · rw [lo 0 6 (by omega) (by omega)]
    unfold layH
    rw [wr_ne (by omega), wr_hit]
def BothL (I : HI) (J : HJ) : Prop := Both mX6_lay mX7_lay [] I J ∨ ∃ x I1, Mt mX6_lay 7 0 0 false [.ref 0] shA I J RA (fun sh' v I' J' R' => sh' = shA ∧ R' = RL2 ∧ v = some (.int x) ∧ I' = I1 ∧ J' = J) ∧ ∃ Po2, MI mX7_lay 7 [.ref 44] shA (swI I1) (swI J) RA Po2 ∧ ∀ y I2 J2, Po2 y I2 J2 → y = x ∧ Rel I2 J2
theorem Z_lay {I : HI} {J : HJ} (hr : Rel I J) : BothL I J := by
  obtain ⟨len, t1, t2, t3, t4⟩ := hr.choose_spec.choose_spec.choose_spec.1
  have hq : ∀ a b, ¬ sco a b → (scanC (I 2) len len (forgetT I 10) 0 0 0 0 0).2 a b = I a b := fun a b z => by
    rw [scanC_q _ _ _ _ _ _ _ a b z]
    unfold forgetT fillH
    have z2 : ¬ (10 ≤ a ∧ a < 16) := fun w => z (Or.inr (Or.inr w))
    rw [if_neg (by omega), wr_ne (by omega), wr_ne (by omega), wr_ne (by omega), wr_ne (by omega), wr_ne (by omega), wr_ne (by omega)]
  obtain ⟨n, n12, hn⟩ := scanC_n (f := I 2) (len := len) len (forgetT I 10) 0 0 0 0 0 (by omega) (DR.start I I).2.1
  have key : ∀ I2 : HI, (∀ i, i < len → I 2 i = I2 45 i) → (scanC (I 2) len len (forgetT I 10) 0 0 0 0 0).1 = (runM (I2 45) len len 0 0 (begH I2)).1 ∧ ((runM (I2 45) len len 0 0 (begH I2)).1 = -4 → DR (scanC (I 2) len len (forgetT I 10) 0 0 0 0 0).2 (runM (I2 45) len len 0 0 (begH I2)).2.1 (runM (I2 45) len len 0 0 (begH I2)).2.2) := fun I2 h2 => by
    have k1 := scan_run (f := I 2) t1 len 0 0 0 0 (forgetT I 10) (begH I2) (by omega) (by omega) (DR.start I I2)
    rw [Nat.sub_zero, runM_cg (g := I2 45) h2] at k1
    exact k1
  by_cases h : (scanC (I 2) len len (forgetT I 10) 0 0 0 0 0).1 ≠ -4 ∨ n = 0
  · left
    refine ⟨_, S_lay_no (d := 1) t2 t1 hn n12 h, fun x I1 J1 hp => ?_⟩
    obtain ⟨e1, e2, e3⟩ := hp
    have q1 : Qt I I1 := fun a b z => by
      rw [e2]
      exact hq a b (fun w => z (by
        rcases w with w | w | w
        · exact Or.inl w
        · exact Or.inr (Or.inl w)
        · exact Or.inr (Or.inr (Or.inl w))))
    refine ⟨_, S_mlay (d := 2) (len := len) (by rw [e2, hq 44 0 (by unfold sco; omega)]; exact t3) t1, fun y I2 J2 hp2 => ?_⟩
    obtain ⟨k1, k2⟩ := key I1 (fun i hi => by rw [e2, hq 45 i (by unfold sco; omega)]; exact t4 i hi)
    obtain ⟨f1, f2, f3⟩ := hp2.1 (by
      by_cases z : (runM (I1 45) len len 0 0 (begH I1)).1 = -4
      · right
        have hD := k2 z
        rcases h with h | h
        · exact absurd (k1.trans z) h
        · have := hD.2.1.symm.trans hn
          exact ((nI_eq (by have := hD.1; omega) (by omega)).mp this).trans h
      · exact Or.inl z)
    rw [f1, f3, e1, e3]
    exact ⟨rfl, hr.qt (q1.tr f2.qt) (fun b => rfl)⟩
  · right
    have h4 : (scanC (I 2) len len (forgetT I 10) 0 0 0 0 0).1 = -4 := Classical.byContradiction (fun z => h (Or.inl z))
    have h0 : 0 < n := Nat.pos_of_ne_zero (fun z => h (Or.inr z))
    refine ⟨_, _, S_lay_ok (d := 1) t2 t1 hn n12 h4 h0, ?_⟩
    refine ⟨_, S_mlay (d := 2) (len := len) (by rw [swI_o (by omega), layH_o (by omega), hq 44 0 (by unfold sco; omega)]; exact t3) t1, fun y I2 J2 hp2 => ?_⟩
    obtain ⟨k1, k2⟩ := key (swI (layH (scanC (I 2) len len (forgetT I 10) 0 0 0 0 0).2)) (fun i hi => by rw [swI_o (by omega), layH_o (by omega), hq 45 i (by unfold sco; omega)]; exact t4 i hi)
    have z := k1.symm.trans h4
    have hD := k2 z
    have en : (runM (swI (layH (scanC (I 2) len len (forgetT I 10) 0 0 0 0 0).2) 45) len len 0 0 (begH (swI (layH (scanC (I 2) len len (forgetT I 10) 0 0 0 0 0).2)))).2.2 = n := (nI_eq (by have := hD.1; omega) (by omega)).mp (hD.2.1.symm.trans hn)
    obtain ⟨f1, f2, f3, I3, g1, g2, g3, g4⟩ := hp2.2 z (by omega)
    rw [en] at f1 hD
    rw [f1, f2, g4]
    exact ⟨rfl, lay_rel h0 t1 (hD.cgY g1) g3 (by rw [hq 1 1 (by unfold sco; omega)]; exact t2) (by rw [hq 44 0 (by unfold sco; omega)]; exact t3) (fun i hi => by rw [hq 2 i (by unfold sco; omega), hq 45 i (by unfold sco; omega)]; exact t4 i hi)⟩
