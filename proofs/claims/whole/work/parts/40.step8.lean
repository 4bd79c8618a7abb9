/-! call by call: a sale -/
theorem sN_shift (f : Nat → Nat) : ∀ n, sN (fun s => f (s + 1)) n + f 0 = sN f (n + 1) := by
  intro n
  induction n with
  | zero =>
    show 0 + f 0 = 0 + f 0
    rfl
  | succ n ih =>
    show sN (fun s => f (s + 1)) n + f (n + 1) + f 0 = sN f (n + 1) + f (n + 1)
    omega
theorem sN_cg {f g : Nat → Nat} : ∀ n, (∀ i, i < n → f i = g i) → sN f n = sN g n := by
  intro n
  induction n with
  | zero => intro _; rfl
  | succ n ih =>
    intro h
    unfold sN
    rw [ih (fun i hi => h i (by omega)), h n (by omega)]
/-- a sale put at place m behind m sales -/
theorem outN_put {l q : Nat → Nat} {m j a i : Nat} : outN (fun s => if s = m then j else l s) (fun s => if s = m then a else q s) i (m + 1) = outN l q i m + (if j = i then a else 0) := by
  rw [outN_s]
  show outN _ _ i m + (if (if m = m then j else l m) = i then (if m = m then a else q m) else 0) = _
  rw [if_pos rfl, if_pos rfl]
  congr 1
  unfold outN
  refine sN_cg m (fun s hs => ?_)
  show (if (if s = m then j else l s) = i then (if s = m then a else q s) else 0) = (if l s = i then q s else 0)
  rw [if_neg (show ¬ s = m by omega), if_neg (show ¬ s = m by omega)]
theorem outN_drop {l q : Nat → Nat} {i n : Nat} : outN (fun s => l (s + 1)) (fun s => q (s + 1)) i n ≤ outN l q i (n + 1) := by
  have h := sN_shift (fun s => if l s = i then q s else 0) n
  show sN (fun s => if l (s + 1) = i then q (s + 1) else 0) n ≤ sN (fun s => if l s = i then q s else 0) (n + 1)
  rw [← h]
  exact Nat.le_add_right _ _
/-- the barn after q tenths of layer j are sold, the sale put at place m (m sales stand there: L, Q, P) -/
theorem BarnR.sale {I I' : HI} {J J' : HJ} {nf n m j a : Nat} {t L Q : Nat → Nat} {paid : Int32} (h1 : n ≤ nf) (hm : m < 8) (hj : j < n) (ha : a ≤ t j)
    (hn : I 16 0 = nI n) (hn2 : I 50 0 = nI n) (hc : I 16 3 = (J 53 0).toInt32)
    (ht : ∀ i, i < n → I 17 i = nI (t i) ∧ I 51 i = nI (t i) ∧ I 52 i = I 18 i ∧ t i + outN L Q i m ≤ 200)
    (hs : ∀ s, s < m → L s < n ∧ I' 19 s = nI (L s) ∧ I' 55 (3 * s) = nI (L s) ∧ I' 20 s = nI (Q s) ∧ I' 55 (3 * s + 1) = nI (Q s) ∧ I' 55 (3 * s + 2) = I' 21 s)
    (g0 : I' 16 0 = I 16 0) (g50 : I' 50 0 = I 50 0) (g3 : I' 16 3 = I 16 3 + paid) (gJ : J' 53 0 = J 53 0 + paid.toInt64) (g4 : I' 16 4 = nI (m + 1)) (g54 : I' 54 0 = nI (m + 1))
    (g17 : ∀ b, b < n → I' 17 b = if b = j then I 17 j - nI a else I 17 b) (g51 : ∀ b, b < n → I' 51 b = if b = j then I 51 j - nI a else I 51 b) (g18 : ∀ b, b < n → I' 18 b = I 18 b) (g52 : ∀ b, b < n → I' 52 b = I 52 b)
    (p1 : I' 19 m = nI j) (p2 : I' 55 (3 * m) = nI j) (p3 : I' 20 m = nI a) (p4 : I' 55 (3 * m + 1) = nI a) (p5 : I' 55 (3 * m + 2) = I' 21 m) : BarnR I' J' nf 16 0 := by
  refine ⟨n, m + 1, fun i => if i = j then t j - a else t i, fun s => if s = m then j else L s, fun s => if s = m then a else Q s, h1, by omega, g0.trans hn, g50.trans hn2, ?_, g4, g54, fun i hi => ?_, fun s hs' => ?_⟩
  · rw [g3, gJ, Int64.toInt32_add, Int32.toInt32_toInt64, hc]
  · obtain ⟨d1, d2, d3, d4⟩ := ht i hi
    rw [outN_put, Nat.mul_zero, Nat.zero_add, g52 i hi, show (16 + 2 : Nat) = 18 from rfl, show (16 + 1 : Nat) = 17 from rfl, g18 i hi, g17 i hi, g51 i hi]
    show (if i = j then I 17 j - nI a else I 17 i) = nI (if i = j then t j - a else t i) ∧ (if i = j then I 51 j - nI a else I 51 i) = nI (if i = j then t j - a else t i) ∧ I 52 i = I 18 i ∧ (if i = j then t j - a else t i) + (outN L Q i m + (if j = i then a else 0)) ≤ 200
    by_cases e : i = j
    · subst e
      rw [if_pos rfl, if_pos rfl, if_pos rfl, if_pos rfl, d1, d2, pk_sub ha]
      exact ⟨rfl, rfl, d3, by omega⟩
    · rw [if_neg e, if_neg e, if_neg e, if_neg (fun z => e z.symm)]
      exact ⟨d1, d2, d3, by omega⟩
  · rw [Nat.mul_zero, Nat.zero_add, Nat.zero_add, Nat.zero_add, show (16 + 3 : Nat) = 19 from rfl, show (16 + 4 : Nat) = 20 from rfl, show (16 + 5 : Nat) = 21 from rfl]
    show (if s = m then j else L s) < n ∧ I' 19 s = nI (if s = m then j else L s) ∧ I' 55 (3 * s) = nI (if s = m then j else L s) ∧ I' 20 s = nI (if s = m then a else Q s) ∧ I' 55 (3 * s + 1) = nI (if s = m then a else Q s) ∧ I' 55 (3 * s + 2) = I' 21 s
    by_cases e : s = m
    · subst e
      rw [if_pos rfl, if_pos rfl]
      exact ⟨hj, p1, p2, p3, p4, p5⟩
    · rw [if_neg e, if_neg e]
      exact hs s (by omega)
theorem Z_sell {I : HI} {J : HJ} (hr : Rel I J) (i q0 : Int32) : Both mX6_sell mX7_sell [.int i, .int q0] I J := by
  obtain ⟨nf, nk, yr, -, hl, hb, -⟩ := id hr
  have nf12 := hl.2.1
  obtain ⟨a1, a2, a3, a4, a5, a6, a7, a8, a9, a10, -⟩ := id hl
  obtain ⟨n, ns, t, l, q, b1, b2, b3, b4, b5, b6, b7, b8, b9⟩ := hb
  have n12 : n ≤ 12 := Nat.le_trans b1 a2
  cases hi : inr i (nI 0) (nI n - nI 1) with
  | false => exact Both.pure hr (S_sell_bad1 (d := 5) b3 hi) (S_msell_bad1 (d := 5) b4 hi)
  | true =>
    obtain ⟨j, hj, rfl⟩ := in0_of (by omega) hi
    cases hq : inr q0 (nI 1) (nI 200) with
    | false => exact Both.pure hr (S_sell_bad2 (d := 5) b3 hq) (S_msell_bad2 (d := 5) b4 hq)
    | true =>
      obtain ⟨a, ha1, ha2, rfl⟩ := inr_nI2 (by decide) hq (by decide)
      have y5 := a5 j (by omega)
      have hy9 := (a10 (yr j) y5.2.2).1
      have b8j := b8 j hj
      rw [Nat.mul_zero, Nat.zero_add] at b8j
      obtain ⟨t1, t2, t3, t4⟩ := b8j
      have e1751 : I 51 j = I 17 j := t2.trans t1.symm
      refine ⟨_, S_sell (d := 5) b3 n12 hj hq b6 b2 y5.1 y5.2.2, fun x I1 J1 hp => ?_⟩
      obtain ⟨e1, e2, e3⟩ := hp
      by_cases hc : I 17 j < nI a
      · rw [if_pos hc] at e1 e2
        rw [e2]
        refine ⟨_, S_msell (d := 5) b4 n12 hj hq b7 b2 y5.2.1 y5.2.2, fun y I2 J2 hp2 => ?_⟩
        obtain ⟨f1, f2, f3⟩ := hp2
        rw [e1751, if_pos hc] at f1 f2 f3
        rw [f1, f2, f3, e1, e3]
        exact ⟨rfl, hr⟩
      · rw [if_neg hc] at e1 e2
        have hat : a ≤ t j := by
          rcases Nat.lt_or_ge (t j) a with z | z
          · exact absurd (show I 17 j < nI a by rw [show I 17 j = nI (t j) from t1]; exact (nI_ltI (by omega) (by omega)).mpr z) hc
          · exact z
        generalize hpd : nI a * I 9 (yr j) / nI 10 = paid at e1 e2
        have r1 : ∀ a, (a < 16 ∨ 22 ≤ a ∨ a = 18) → I1 a = I a := fun a h => by
          rw [e2]
          funext b
          unfold sellH saleH forgetH shH
          split
          · rw [wr_ne (by omega), wr_ne (by omega), wr_ne (by omega), wr_ne (by omega), wr_ne (by omega), wr_ne (by omega)]
          · rw [wr_ne (by omega), wr_ne (by omega), wr_ne (by omega), wr_ne (by omega), wr_ne (by omega), wr_ne (by omega), wr_ne (by omega), if_neg (by omega)]
        refine ⟨_, S_msell (d := 5) (n := n) (j := j) (ns := ns) (y := yr j) (by rw [r1 50 (by omega)]; exact b4) n12 hj hq (by rw [r1 54 (by omega)]; exact b7) b2 (by rw [r1 48 (by omega)]; exact y5.2.1) y5.2.2, fun y I2 J2 hp2 => ?_⟩
        obtain ⟨f1, f2, f3⟩ := hp2
        rw [r1 51 (by omega), e1751, if_neg hc, r1 49 (by omega), hy9, hpd] at f1 f2 f3
        have r2 : ∀ a, ¬ (a = 51 ∨ a = 54 ∨ a = 55) → I2 a = I1 a := fun a h => by
          rw [f2]
          funext b
          unfold msellH msaleH
          split
          · rw [wr_ne (by omega), wr_ne (by omega), wr_ne (by omega), wr_ne (by omega), wr_ne (by omega)]
          · rw [wr_ne (by omega), wr_ne (by omega), wr_ne (by omega), wr_ne (by omega), wr_ne (by omega), mshH_o _ _ _ (by omega), wr_ne (by omega)]
        have g17 : ∀ b, I2 17 b = if b = j then I 17 j - nI a else I 17 b := fun b => by
          rw [r2 17 (by omega), e2]
          unfold sellH
          by_cases h8 : ns < 8
          · rw [if_pos h8]
            simp [saleH, wr]
          · rw [if_neg h8]
            simp [saleH, forgetH, shH, wr]
        have g51 : ∀ b, I2 51 b = if b = j then I 51 j - nI a else I 51 b := fun b => by
          rw [f2]
          unfold msellH
          by_cases h8 : ns < 8
          · rw [if_pos h8]
            simp [msaleH, wr, r1 51 (by omega)]
          · rw [if_neg h8]
            simp [msaleH, mshH, wr, r1 51 (by omega)]
        rw [f1, e1]
        refine ⟨rfl, hr.bar (fun p b h => ?_) (fun b hb => by rw [f3, e3, wr_nk hb]) (fun nf' yr' hl' hb' => ?_)⟩
        · unfold barP at h
          by_cases q1 : p = 51
          · subst q1
            rw [g51, if_neg (by omega)]
          · by_cases q2 : p = 54
            · subst q2
              rw [f2]
              unfold msellH
              by_cases h8 : ns < 8
              · rw [if_pos h8]
                simp [msaleH, wr, r1 54 (by omega), show ¬ b = 0 by omega]
              · rw [if_neg h8]
                simp [msaleH, mshH, wr, r1 54 (by omega), show ¬ b = 0 by omega]
            · by_cases q3 : p = 55
              · subst q3
                rw [f2]
                unfold msellH
                by_cases h8 : ns < 8
                · rw [if_pos h8]
                  simp [msaleH, wr, r1 55 (by omega), show ¬ b = 3 * ns by omega, show ¬ b = 3 * ns + 1 by omega, show ¬ b = 3 * ns + 2 by omega]
                · rw [if_neg h8]
                  simp [msaleH, mshH, wr, r1 55 (by omega), show ¬ b = 21 by omega, show ¬ b = 22 by omega, show ¬ b = 23 by omega, show ¬ b < 21 by omega]
              · rw [r2 p (by omega), r1 p (by omega)]
        · have enf : nf' = nf := (nI_eq (by have := hl'.2.1; omega) (by omega)).mp (hl'.2.2.1.symm.trans a3)
          subst enf
          have gJ : J2 53 0 = J 53 0 + paid.toInt64 := by rw [f3, e3, wr_hit]
          have g50 : I2 50 0 = I 50 0 := by rw [r2 50 (by omega), r1 50 (by omega)]
          have g18 : ∀ b, b < n → I2 18 b = I 18 b := fun b _ => by rw [r2 18 (by omega), r1 18 (by omega)]
          have g52 : ∀ b, b < n → I2 52 b = I 52 b := fun b _ => by rw [r2 52 (by omega), r1 52 (by omega)]
          have g0 : I2 16 0 = I 16 0 := by
            rw [r2 16 (by omega), e2]
            unfold sellH
            by_cases h8 : ns < 8
            · rw [if_pos h8]
              simp [saleH, wr]
            · rw [if_neg h8]
              simp [saleH, forgetH, shH, wr]
          have g3 : I2 16 3 = I 16 3 + paid := by
            rw [r2 16 (by omega), e2]
            unfold sellH
            by_cases h8 : ns < 8
            · rw [if_pos h8]
              simp [saleH, wr]
            · rw [if_neg h8]
              simp [saleH, forgetH, shH, wr]
          by_cases h8 : ns < 8
          · have s2 : I1 = saleH I ns j (nI a) paid := by rw [e2]; exact if_pos h8
            have m2 : I2 = msaleH (wr I1 51 j (I1 51 j - nI a)) ns j (nI a) paid := by rw [f2]; exact if_pos h8
            have k55 : ∀ b, I2 55 b = if b = 3 * ns + 2 then paid else if b = 3 * ns + 1 then nI a else if b = 3 * ns then nI j else I 55 b := fun b => by
              rw [m2]
              unfold msaleH wr
              simp [r1 55 (by omega)]
            have k19 : ∀ b, I2 19 b = if b = ns then nI j else I 19 b := fun b => by
              rw [r2 19 (by omega), s2]
              unfold saleH wr
              simp
            have k20 : ∀ b, I2 20 b = if b = ns then nI a else I 20 b := fun b => by
              rw [r2 20 (by omega), s2]
              unfold saleH wr
              simp
            have k21 : ∀ b, I2 21 b = if b = ns then paid else I 21 b := fun b => by
              rw [r2 21 (by omega), s2]
              unfold saleH wr
              simp
            refine BarnR.sale (I := I) (J := J) (n := n) (m := ns) (j := j) (a := a) (t := t) (L := l) (Q := q) (paid := paid) b1 h8 hj hat b3 b4 b5 (fun i hi => ?_) (fun s hs => ?_) g0 g50 g3 gJ ?_ ?_ (fun b _ => g17 b) (fun b _ => g51 b) g18 g52 ?_ ?_ ?_ ?_ ?_
            · have d := b8 i hi
              rw [Nat.mul_zero, Nat.zero_add] at d
              exact d
            · have d := b9 s hs
              rw [Nat.mul_zero, Nat.zero_add, Nat.zero_add, Nat.zero_add] at d
              rw [k19, k20, k21, k55, k55, k55, if_neg (show ¬ s = ns by omega), if_neg (show ¬ s = ns by omega), if_neg (show ¬ s = ns by omega), if_neg (show ¬ 3 * s = 3 * ns + 2 by omega), if_neg (show ¬ 3 * s = 3 * ns + 1 by omega), if_neg (show ¬ 3 * s = 3 * ns by omega), if_neg (show ¬ 3 * s + 1 = 3 * ns + 2 by omega), if_neg (show ¬ 3 * s + 1 = 3 * ns + 1 by omega), if_neg (show ¬ 3 * s + 1 = 3 * ns by omega), if_neg (show ¬ 3 * s + 2 = 3 * ns + 2 by omega), if_neg (show ¬ 3 * s + 2 = 3 * ns + 1 by omega), if_neg (show ¬ 3 * s + 2 = 3 * ns by omega)]
              exact d
            · rw [r2 16 (by omega), s2]
              exact wr_hit
            · rw [m2]
              exact wr_hit
            · rw [k19, if_pos rfl]
            · rw [k55, if_neg (by omega), if_neg (by omega), if_pos rfl]
            · rw [k20, if_pos rfl]
            · rw [k55, if_neg (by omega), if_pos rfl]
            · rw [k55, if_pos rfl, k21, if_pos rfl]
          · have e8 : ns = 8 := by omega
            subst e8
            have s2 : I1 = saleH (forgetH I) 7 j (nI a) paid := by rw [e2]; exact if_neg h8
            have m2 : I2 = msaleH (wr (mshH (wr I1 51 j (I1 51 j - nI a)) 21) 54 0 (nI 7)) 7 j (nI a) paid := by rw [f2]; exact if_neg h8
            have k55 : ∀ b, I2 55 b = if b = 23 then paid else if b = 22 then nI a else if b = 21 then nI j else if b < 21 then I 55 (b + 3) else I 55 b := fun b => by
              rw [m2]
              unfold msaleH mshH wr
              simp [r1 55 (by omega)]
            have k19 : ∀ b, I2 19 b = if b = 7 then nI j else if b < 7 then I 19 (b + 1) else I 19 b := fun b => by
              rw [r2 19 (by omega), s2]
              unfold saleH forgetH shH wr
              simp
            have k20 : ∀ b, I2 20 b = if b = 7 then nI a else if b < 7 then I 20 (b + 1) else I 20 b := fun b => by
              rw [r2 20 (by omega), s2]
              unfold saleH forgetH shH wr
              simp
            have k21 : ∀ b, I2 21 b = if b = 7 then paid else if b < 7 then I 21 (b + 1) else I 21 b := fun b => by
              rw [r2 21 (by omega), s2]
              unfold saleH forgetH shH wr
              simp
            refine BarnR.sale (I := I) (J := J) (n := n) (m := 7) (j := j) (a := a) (t := t) (L := fun s => l (s + 1)) (Q := fun s => q (s + 1)) (paid := paid) b1 (by omega) hj hat b3 b4 b5 (fun i hi => ?_) (fun s hs => ?_) g0 g50 g3 gJ ?_ ?_ (fun b _ => g17 b) (fun b _ => g51 b) g18 g52 ?_ ?_ ?_ ?_ ?_
            · have d := b8 i hi
              rw [Nat.mul_zero, Nat.zero_add] at d
              have dr : outN (fun s => l (s + 1)) (fun s => q (s + 1)) i 7 ≤ outN l q i 8 := outN_drop
              exact ⟨d.1, d.2.1, d.2.2.1, by omega⟩
            · have d := b9 (s + 1) (by omega)
              rw [Nat.mul_zero, Nat.zero_add, Nat.zero_add, Nat.zero_add] at d
              rw [k19, k20, k21, k55, k55, k55, if_neg (show ¬ s = 7 by omega), if_neg (show ¬ s = 7 by omega), if_neg (show ¬ s = 7 by omega), if_pos hs, if_pos hs, if_pos hs, if_neg (show ¬ 3 * s = 23 by omega), if_neg (show ¬ 3 * s = 22 by omega), if_neg (show ¬ 3 * s = 21 by omega), if_pos (show 3 * s < 21 by omega), if_neg (show ¬ 3 * s + 1 = 23 by omega), if_neg (show ¬ 3 * s + 1 = 22 by omega), if_neg (show ¬ 3 * s + 1 = 21 by omega), if_pos (show 3 * s + 1 < 21 by omega), if_neg (show ¬ 3 * s + 2 = 23 by omega), if_neg (show ¬ 3 * s + 2 = 22 by omega), if_neg (show ¬ 3 * s + 2 = 21 by omega), if_pos (show 3 * s + 2 < 21 by omega)]
              rw [show 3 * s + 1 + 3 = 3 * (s + 1) + 1 by omega, show 3 * s + 2 + 3 = 3 * (s + 1) + 2 by omega, show 3 * s + 3 = 3 * (s + 1) by omega]
              exact d
            · rw [r2 16 (by omega), s2]
              exact wr_hit
            · rw [m2]
              exact wr_hit
            · rw [k19, if_pos rfl]
            · rw [k55]
              rfl
            · rw [k20, if_pos rfl]
            · rw [k55]
              rfl
            · rw [k55, k21, if_pos rfl]
              rfl
