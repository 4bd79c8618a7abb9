/-! the class's row of doors -/
theorem RA38 {e : Nat} (h : e < 3) : RA 38 e = some (39 + e) := by
  rcases (show e = 0 ∨ e = 1 ∨ e = 2 by omega) with rfl | rfl | rfl <;> rfl
theorem sh39 {e : Nat} (h : e < 3) : shA[39 + e]? = some (.inr (.int, 7)) := by
  rcases (show e = 0 ∨ e = 1 ∨ e = 2 by omega) with rfl | rfl | rfl <;> rfl
theorem door3 {i n : Nat} (h : i < n) : 3 * i / n < 3 := by
  rw [Nat.div_lt_iff_lt_mul (by omega)]
  omega
/-- what layers below m lose by t thaws of door e -/
def LB (t17 c : Nat → Int32) (th : Int32) (n e t m : Nat) : Int32 := sI (fun i => if 3 * i / n = e then mnI (t17 i) (nI t * th) * c i else 0) m
def wgH (V : Nat → Nat → Nat → Int32) (n t i : Nat) (I : HI) : HI := fun a b => if 39 ≤ a ∧ a < 42 ∧ b < t then V (a - 39) b n else if 39 ≤ a ∧ a < 42 ∧ b = t then V (a - 39) t i else I a b
def wgP (V : Nat → Nat → Nat → Int32) (n t e : Nat) (I : HI) : HI := fun a b => if 39 ≤ a ∧ a < 42 ∧ b < t then V (a - 39) b n else if 39 ≤ a ∧ a < 39 + e ∧ b = t then 0 else I a b
theorem wgP_o {V : Nat → Nat → Nat → Int32} {n t e a : Nat} {I : HI} (h : a < 39 ∨ 42 ≤ a) (he : e ≤ 3) : wgP V n t e I a = I a := by
  funext b
  unfold wgP
  rw [if_neg (by omega), if_neg (by omega)]
theorem wgH_o {V : Nat → Nat → Nat → Int32} {n t i a : Nat} {I : HI} (h : a < 39 ∨ 42 ≤ a) : wgH V n t i I a = I a := by
  funext b
  unfold wgH
  rw [if_neg (by omega), if_neg (by omega)]
theorem wgP_s {V : Nat → Nat → Nat → Int32} {n t e : Nat} {I : HI} (he : e < 3) : wr (wgP V n t e I) (39 + e) t (nI 0) = wgP V n t (e + 1) I := by
  funext a b
  unfold wr wgP
  by_cases h1 : 39 ≤ a ∧ a < 42 ∧ b < t
  · simp only [if_pos h1]
    by_cases h2 : a = 39 + e
    · rw [if_pos h2, if_neg (by omega)]
    · rw [if_neg h2]
  · simp only [if_neg h1]
    by_cases h2 : a = 39 + e
    · rw [if_pos h2]
      by_cases h3 : b = t
      · rw [if_pos h3, if_pos (by omega)]
        rfl
      · rw [if_neg h3, if_neg (by omega), if_neg (by omega)]
    · rw [if_neg h2]
      by_cases h3 : 39 ≤ a ∧ a < 39 + e ∧ b = t
      · rw [if_pos h3, if_pos (by omega)]
      · rw [if_neg h3, if_neg (by omega)]
theorem wgP_H {V : Nat → Nat → Nat → Int32} {n t : Nat} {I : HI} (hV : ∀ e t, V e t 0 = 0) : wgP V n t 3 I = wgH V n t 0 I := by
  funext a b
  unfold wgP wgH
  simp only [hV]
theorem wgH_n {V : Nat → Nat → Nat → Int32} {n t : Nat} {I : HI} : wgH V n t n I = wgP V n (t + 1) 0 I := by
  funext a b
  unfold wgP wgH
  by_cases h1 : 39 ≤ a ∧ a < 42 ∧ b < t
  · rw [if_pos h1, if_pos (by omega)]
  · rw [if_neg h1]
    by_cases h2 : 39 ≤ a ∧ a < 42 ∧ b = t
    · rw [if_pos h2, if_pos (by omega)]
      obtain ⟨-, -, rfl⟩ := h2
      rfl
    · rw [if_neg h2, if_neg (by omega), if_neg (by omega)]
theorem wgH_at {V : Nat → Nat → Nat → Int32} {n t i e : Nat} {I : HI} (he : e < 3) : wgH V n t i I (39 + e) t = V e t i := by
  unfold wgH
  rw [if_neg (by omega), if_pos (by omega), show 39 + e - 39 = e by omega]
theorem wgH_s {V : Nat → Nat → Nat → Int32} {n t i e : Nat} {I : HI} {v : Int32} (he : e < 3) (h1 : v = V e t (i + 1)) (h2 : ∀ e', e' < 3 → e' ≠ e → V e' t (i + 1) = V e' t i) : wr (wgH V n t i I) (39 + e) t v = wgH V n t (i + 1) I := by
  subst h1
  funext a b
  unfold wr wgH
  by_cases k1 : 39 ≤ a ∧ a < 42 ∧ b < t
  · simp only [if_pos k1]
    by_cases k2 : a = 39 + e
    · rw [if_pos k2, if_neg (by omega)]
    · rw [if_neg k2]
  · simp only [if_neg k1]
    by_cases k2 : a = 39 + e
    · subst k2
      rw [if_pos rfl]
      by_cases k3 : b = t
      · rw [if_pos k3, if_pos (by omega), show 39 + e - 39 = e by omega]
      · rw [if_neg k3, if_neg (by omega), if_neg (by omega)]
    · rw [if_neg k2]
      by_cases k3 : 39 ≤ a ∧ a < 42 ∧ b = t
      · rw [if_pos k3, if_pos k3, h2 (a - 39) (by omega) (by omega)]
      · rw [if_neg k3, if_neg k3]
theorem L_weigh0 {T : Tg} {X : HI} {J : HJ} {V : Nat → Nat → Nat → Int32} {n t : Nat} {k : Int32} (ht : t < 7) (K : Wm mX4_weigh T 0 0 shA 35 [some (.ref 37), some (.int k), some (.ref 16), some (.ref 4), some (.int (nI t)), none, none] [] (wgP V n t 3 X) J RA) :
    ∀ (e : Nat), e ≤ 3 → Wm mX4_weigh T 0 0 shA 12 [some (.ref 37), some (.int k), some (.ref 16), some (.ref 4), some (.int (nI t)), some (.int (nI e)), none] [] (wgP V n t e X) J RA := by
  refine loopN (fun e he ih => ?_)
  refine q_iload dX4_weigh_12 (rfl : 12 + 2 = 14) rfl ?_
  refine q_iconst (v := nI 3) dX4_weigh_14 (rfl : 14 + 1 = 15) (by decide) ?_
  refine q_icmp_ge_n (q := 35) (by omega) (by omega) dX4_weigh_15 (by decide) (rfl : 15 + 3 = 18) (fun h => ?_) (fun h => ?_)
  ·
    obtain rfl : e = 3 := by omega
    refine q_forget (L' := [some (.ref 37), some (.int k), some (.ref 16), some (.ref 4), some (.int (nI t)), none, none]) (by repeat (first | exact trivial | refine And.intro rfl ?_)) ?_
    exact K
  ·
    have hr := RA38 h
    have hs := sh39 h
    refine q_aload_n dX4_weigh_18 (rfl : 18 + 1 = 19) rfl ?_
    refine q_getR dX4_weigh_19 (rfl : 19 + 3 = 22) fX4_11 (by first | rfl | assumption) (by first | rfl | assumption) ?_
    refine q_iload dX4_weigh_22 (rfl : 22 + 2 = 24) rfl ?_
    refine q_aald dX4_weigh_24 (rfl : 24 + 1 = 25) (by first | rfl | assumption) (by first | assumption | omega) (by decide) (by first | rfl | assumption) ?_
    refine q_iload dX4_weigh_25 (rfl : 25 + 2 = 27) rfl ?_
    refine q_iconst (v := nI 0) dX4_weigh_27 (rfl : 27 + 1 = 28) (by decide) ?_
    refine q_iast dX4_weigh_28 (rfl : 28 + 1 = 29) (by first | rfl | assumption) (by first | assumption | omega) (by decide) ?_
    first | refine q_iinc1 dX4_weigh_29 (rfl : 29 + 3 = 32) rfl (by decide) ?_ | refine q_iinc dX4_weigh_29 (rfl : 29 + 3 = 32) rfl rfl (by decide) ?_
    refine q_goto (q := 12) dX4_weigh_32 (by decide) ?_
    rw [wgP_s h]
    exact ih h
theorem L_weigh1 {d n0 : Nat} {Po : PO} {I : HI} {J : HJ} {n t : Nat} {k : Int32} {yr : Nat → Nat} (ht : t < 7) (hn : I 16 0 = nI n) (h12 : n ≤ 12) (hy : ∀ i, i < n → I 5 i = nI (yr i) ∧ yr i < 100) (K : Wm mX4_weigh (TM (d + 2) 0 0 false n0 Po) 0 0 shA 98 [some (.ref 37), some (.int k), some (.ref 16), some (.ref 4), some (.int (nI t)), none, none] [] (wgH (LB (I 17) (fun i => I 9 (yr i)) (I 4 2) n) n t n I) J RA) :
    ∀ (i : Nat), i ≤ n → Wm mX4_weigh (TM (d + 2) 0 0 false n0 Po) 0 0 shA 38 [some (.ref 37), some (.int k), some (.ref 16), some (.ref 4), some (.int (nI t)), some (.int (nI i)), none] [] (wgH (LB (I 17) (fun i => I 9 (yr i)) (I 4 2) n) n t i I) J RA := by
  refine loopN (fun i hi ih => ?_)
  generalize hX : wgH (LB (I 17) (fun i => I 9 (yr i)) (I 4 2) n) n t i I = X
  have o : ∀ a, (a < 39 ∨ 42 ≤ a) → X a = I a := fun a ha => by rw [← hX]; exact wgH_o ha
  have e0 : X 16 0 = nI n := by rw [o 16 (by omega)]; exact hn
  have e1 : X 17 = I 17 := o 17 (by omega)
  have e2 : X 4 = I 4 := o 4 (by omega)
  refine q_iload dX4_weigh_38 (rfl : 38 + 2 = 40) rfl ?_
  refine q_aload_n dX4_weigh_40 (rfl : 40 + 1 = 41) rfl ?_
  refine q_getI dX4_weigh_41 (rfl : 41 + 3 = 44) fX4_30 (by first | rfl | assumption) ?_
  try simp (disch := omega) only [wr_hit, wr_p, wr_k, nI_add, pk_mul, nI_1, nI_s1, pk_sub, Nat.add_sub_cancel, e0, e1, e2]
  refine q_icmp_ge_n (q := 98) (by omega) (by omega) dX4_weigh_44 (by decide) (rfl : 44 + 3 = 47) (fun h => ?_) (fun h => ?_)
  ·
    obtain rfl : i = n := by omega
    refine q_forget (L' := [some (.ref 37), some (.int k), some (.ref 16), some (.ref 4), some (.int (nI t)), none, none]) (by repeat (first | exact trivial | refine And.intro rfl ?_)) ?_
    rw [← hX]
    exact K
  ·
    have hd := door3 h
    have hr := RA38 hd
    have hs := sh39 hd
    obtain ⟨y1, y2⟩ := hy i h
    have hc := S_costOf (d := d + 1) (I := X) (J := J) (show i < 12 by omega) (show X 5 i = nI (yr i) by rw [o 5 (by omega)]; exact y1) y2
    rw [o 9 (by omega)] at hc
    refine q_aload_n dX4_weigh_47 (rfl : 47 + 1 = 48) rfl ?_
    refine q_getR dX4_weigh_48 (rfl : 48 + 3 = 51) fX4_35 (by first | rfl | assumption) (by first | rfl | assumption) ?_
    refine q_iload dX4_weigh_51 (rfl : 51 + 2 = 53) rfl ?_
    refine q_iald dX4_weigh_53 (rfl : 53 + 1 = 54) (by first | rfl | assumption) (by first | assumption | omega) (by decide) ?_
    try simp (disch := omega) only [wr_hit, wr_p, wr_k, nI_add, pk_mul, nI_1, nI_s1, pk_sub, Nat.add_sub_cancel, e0, e1, e2]
    refine q_iload dX4_weigh_54 (rfl : 54 + 2 = 56) rfl ?_
    refine q_aload_n dX4_weigh_56 (rfl : 56 + 1 = 57) rfl ?_
    refine q_getI dX4_weigh_57 (rfl : 57 + 3 = 60) fX4_39 (by first | rfl | assumption) ?_
    try simp (disch := omega) only [wr_hit, wr_p, wr_k, nI_add, pk_mul, nI_1, nI_s1, pk_sub, Nat.add_sub_cancel, e0, e1, e2]
    refine q_imul dX4_weigh_60 (rfl : 60 + 1 = 61) ?_
    try simp (disch := omega) only [wr_hit, wr_p, wr_k, nI_add, pk_mul, nI_1, nI_s1, pk_sub, Nat.add_sub_cancel, e0, e1, e2]
    refine q_min dX4_weigh_61 (rfl : 61 + 3 = 64) lX4_44 w_min (Nat.le_of_ble_eq_true rfl) (TM_math (Nat.le_refl _) (Nat.le_refl _)) ?_
    refine q_istore dX4_weigh_64 (rfl : 64 + 2 = 66) (by decide) ?_
    refine q_aload_n dX4_weigh_66 (rfl : 66 + 1 = 67) rfl ?_
    refine q_getR dX4_weigh_67 (rfl : 67 + 3 = 70) fX4_11 (by first | rfl | assumption) (by first | rfl | assumption) ?_
    refine q_aload_n dX4_weigh_70 (rfl : 70 + 1 = 71) rfl ?_
    refine q_iload dX4_weigh_71 (rfl : 71 + 2 = 73) rfl ?_
    refine q_callVIp (S_doorOf (d := d) e0 h12 h) dX4_weigh_73 (rfl : 73 + 3 = 76) lX4_50 vX0_doorOf (by first | rfl | assumption) rfl rfl (Nat.le_of_ble_eq_true rfl) TM_room TM_cs ?_
    refine q_aald dX4_weigh_76 (rfl : 76 + 1 = 77) (by first | rfl | assumption) (by first | assumption | omega) (by decide) (by first | rfl | assumption) ?_
    refine q_iload dX4_weigh_77 (rfl : 77 + 2 = 79) rfl ?_
    refine q_dup2 dX4_weigh_79 (rfl : 79 + 1 = 80) rfl rfl ?_
    refine q_iald dX4_weigh_80 (rfl : 80 + 1 = 81) (by first | rfl | assumption) (by first | assumption | omega) (by decide) ?_
    try simp (disch := omega) only [wr_hit, wr_p, wr_k, nI_add, pk_mul, nI_1, nI_s1, pk_sub, Nat.add_sub_cancel, e0, e1, e2]
    refine q_iload dX4_weigh_81 (rfl : 81 + 2 = 83) rfl ?_
    refine q_aload_n dX4_weigh_83 (rfl : 83 + 1 = 84) rfl ?_
    refine q_iload dX4_weigh_84 (rfl : 84 + 2 = 86) rfl ?_
    rw [show X (39 + 3 * i / n) t = LB (I 17) (fun i => I 9 (yr i)) (I 4 2) n (3 * i / n) t i by rw [← hX]; exact wgH_at hd]
    refine q_callVIp hc dX4_weigh_86 (rfl : 86 + 3 = 89) lX4_54 vX5_costOf (by first | rfl | assumption) rfl rfl (Nat.le_of_ble_eq_true rfl) TM_room TM_cs ?_
    refine q_imul dX4_weigh_89 (rfl : 89 + 1 = 90) ?_
    try simp (disch := omega) only [wr_hit, wr_p, wr_k, nI_add, pk_mul, nI_1, nI_s1, pk_sub, Nat.add_sub_cancel, e0, e1, e2]
    refine q_iadd dX4_weigh_90 (rfl : 90 + 1 = 91) ?_
    try simp (disch := omega) only [wr_hit, wr_p, wr_k, nI_add, pk_mul, nI_1, nI_s1, pk_sub, Nat.add_sub_cancel, e0, e1, e2]
    refine q_iast dX4_weigh_91 (rfl : 91 + 1 = 92) (by first | rfl | assumption) (by first | assumption | omega) (by decide) ?_
    first | refine q_iinc1 dX4_weigh_92 (rfl : 92 + 3 = 95) rfl (by decide) ?_ | refine q_iinc dX4_weigh_92 (rfl : 92 + 3 = 95) rfl rfl (by decide) ?_
    refine q_goto (q := 38) dX4_weigh_95 (by decide) ?_
    rw [← hX, wgH_s hd]
    · refine q_forget (L' := [some (.ref 37), some (.int k), some (.ref 16), some (.ref 4), some (.int (nI t)), some (.int (nI (i + 1))), none]) (by repeat (first | exact trivial | refine And.intro rfl ?_)) ?_
      exact ih h
    · show _ = sI _ (i + 1)
      simp only [sI, if_true]
      rfl
    · intro e' _ hne
      show sI _ (i + 1) = sI _ i
      simp only [sI, if_neg (Ne.symm hne), Int32.add_zero]
theorem L_weigh2 {d n0 : Nat} {Po : PO} {I : HI} {J : HJ} {n k : Nat} {yr : Nat → Nat} (hk : k ≤ 6) (hn : I 16 0 = nI n) (h12 : n ≤ 12) (hy : ∀ i, i < n → I 5 i = nI (yr i) ∧ yr i < 100) (K : Wm mX4_weigh (TM (d + 2) 0 0 false n0 Po) 0 0 shA 104 [some (.ref 37), some (.int (nI k)), some (.ref 16), some (.ref 4), none, none, none] [] (wgP (LB (I 17) (fun i => I 9 (yr i)) (I 4 2) n) n (k + 1) 0 I) J RA) :
    ∀ (t : Nat), t ≤ k + 1 → Wm mX4_weigh (TM (d + 2) 0 0 false n0 Po) 0 0 shA 3 [some (.ref 37), some (.int (nI k)), some (.ref 16), some (.ref 4), some (.int (nI t)), none, none] [] (wgP (LB (I 17) (fun i => I 9 (yr i)) (I 4 2) n) n t 0 I) J RA := by
  refine loopN (fun t ht ih => ?_)
  refine q_iload dX4_weigh_3 (rfl : 3 + 2 = 5) rfl ?_
  refine q_iload_n dX4_weigh_5 (rfl : 5 + 1 = 6) rfl ?_
  refine q_icmp_gt_n (q := 104) (by omega) (by omega) dX4_weigh_6 (by decide) (rfl : 6 + 3 = 9) (fun h => ?_) (fun h => ?_)
  ·
    obtain rfl : t = k + 1 := by omega
    refine q_forget (L' := [some (.ref 37), some (.int (nI k)), some (.ref 16), some (.ref 4), none, none, none]) (by repeat (first | exact trivial | refine And.intro rfl ?_)) ?_
    exact K
  ·
    refine q_iconst (v := nI 0) dX4_weigh_9 (rfl : 9 + 1 = 10) (by decide) ?_
    refine q_istore dX4_weigh_10 (rfl : 10 + 2 = 12) (by decide) ?_
    refine L_weigh0 (by omega) ?_ 0 (by omega)
    refine q_iconst (v := nI 0) dX4_weigh_35 (rfl : 35 + 1 = 36) (by decide) ?_
    refine q_istore dX4_weigh_36 (rfl : 36 + 2 = 38) (by decide) ?_
    rw [wgP_H (fun e t => rfl)]
    refine L_weigh1 (by omega) hn h12 hy ?_ 0 (by omega)
    first | refine q_iinc1 dX4_weigh_98 (rfl : 98 + 3 = 101) rfl (by decide) ?_ | refine q_iinc dX4_weigh_98 (rfl : 98 + 3 = 101) rfl rfl (by decide) ?_
    refine q_goto (q := 3) dX4_weigh_101 (by decide) ?_
    rw [wgH_n]
    exact ih (by omega)
theorem wgP_00 {V : Nat → Nat → Nat → Int32} {n : Nat} {I : HI} : wgP V n 0 0 I = I := by
  funext a b
  unfold wgP
  rw [if_neg (by omega), if_neg (by omega)]
theorem S_weigh {d n k : Nat} {I : HI} {J : HJ} {yr : Nat → Nat} (hk : k ≤ 6) (hn : I 16 0 = nI n) (h12 : n ≤ 12) (hy : ∀ i, i < n → I 5 i = nI (yr i) ∧ yr i < 100) : MV mX4_weigh (d + 2) [.ref 37, .int (nI k), .ref 16, .ref 4] shA I J RA (fun I' J' => I' = wgP (LB (I 17) (fun i => I 9 (yr i)) (I 4 2) n) n (k + 1) 0 I ∧ J' = J) := by
  refine Mt.of (L := [some (.ref 37), some (.int (nI k)), some (.ref 16), some (.ref 4), none, none, none]) (by decide +kernel) (Nat.le_of_ble_eq_true rfl) rfl ?_
  refine q_iconst (v := nI 0) dX4_weigh_0 (rfl : 0 + 1 = 1) (by decide) ?_
  refine q_istore dX4_weigh_1 (rfl : 1 + 2 = 3) (by decide) ?_
  have key := L_weigh2 (d := d) (n0 := shA.length) (J := J) (Po := fun sh' v I' J' R' => sh' = shA ∧ R' = RA ∧ v = none ∧ (I' = wgP (LB (I 17) (fun i => I 9 (yr i)) (I 4 2) n) n (k + 1) 0 I ∧ J' = J)) hk hn h12 hy ?_ 0 (by omega)
  · rw [wgP_00] at key
    exact key
  refine q_vret rfl dX4_weigh_104 ⟨rfl, rfl, rfl, ?_⟩
  exact ⟨rfl, rfl⟩
def chIn (V : Nat → Nat → Int32) (k z r : Nat) (s : Int32 × Int32 × Int32) : Int32 × Int32 × Int32 := match r with
  | 0 => s
  | r + 1 => chIn V k z r (if z = k ∨ V 0 z + V 1 r + V 2 (k - z - r) < s.1 then (V 0 z + V 1 r + V 2 (k - z - r), nI z, nI r) else s)
def chOut (V : Nat → Nat → Int32) (k q : Nat) (s : Int32 × Int32 × Int32) : Int32 × Int32 × Int32 := match q with
  | 0 => s
  | q + 1 => chOut V k q (chIn V k q (k - q + 1) s)
def tdH (X : HI) (s : Int32 × Int32 × Int32) : HI := wr (wr (wr X 37 1 s.1) 37 2 s.2.1) 37 3 s.2.2
theorem tdH_u {X : HI} {s : Int32 × Int32 × Int32} {a b c : Int32} : wr (wr (wr (tdH X s) 37 1 a) 37 2 b) 37 3 c = tdH X (a, b, c) := by
  funext x y
  unfold tdH wr
  by_cases hx : x = 37
  · simp only [hx, if_true]
    by_cases h3 : y = 3
    · simp [h3]
    · by_cases h2 : y = 2
      · simp [h2]
      · by_cases h1 : y = 1
        · simp [h1]
        · simp [h1, h2, h3]
  · simp [hx]
theorem tdH_o {X : HI} {s : Int32 × Int32 × Int32} {a : Nat} (h : a ≠ 37) : tdH X s a = X a := by
  unfold tdH
  rw [wr_ne h, wr_ne h, wr_ne h]
theorem tdH_1 {X : HI} {s : Int32 × Int32 × Int32} : tdH X s 37 1 = s.1 := by simp [tdH, wr]
theorem L_chIn {d n0 : Nat} {Po : PO} {X : HI} {J : HJ} {k z : Nat} (hk : k ≤ 6) (hz : z ≤ k) :
    ∀ (r : Nat) (s : Int32 × Int32 × Int32), r ≤ k - z + 1 → Wm mX4_choose (TM d 0 0 false n0 Po) 0 0 shA 101 [some (.ref 37), some (.int (nI k)), some (.ref 16), some (.ref 4), some (.int (nI z)), none, none] [] (tdH X (chIn (fun e t => X (39 + e) t) k z r s)) J RA →
      Wm mX4_choose (TM d 0 0 false n0 Po) 0 0 shA 21 [some (.ref 37), some (.int (nI k)), some (.ref 16), some (.ref 4), some (.int (nI z)), some (.int (nI r - nI 1)), none] [] (tdH X s) J RA := by
  intro r
  induction r with
  | zero =>
    intro s hr K
    refine q_iload dX4_choose_21 (rfl : 21 + 2 = 23) rfl ?_
    refine q_if_lt (q := 101) dX4_choose_23 (by decide) (rfl : 23 + 3 = 26) (fun h => ?_) (fun h => ?_)
    ·
      refine q_forget (L' := [some (.ref 37), some (.int (nI k)), some (.ref 16), some (.ref 4), some (.int (nI z)), none, none]) (by repeat (first | exact trivial | refine And.intro rfl ?_)) ?_
      exact K
    ·
      exact absurd nI_m1neg h
  | succ r ih =>
    intro s hr K
    have o : ∀ a, a ≠ 37 → tdH X s a = X a := fun a ha => tdH_o ha
    have o39 := o 39 (by omega)
    have o40 := o 40 (by omega)
    have o41 := o 41 (by omega)
    have o1 : tdH X s 37 1 = s.1 := tdH_1
    rw [nI_s1]
    refine q_iload dX4_choose_21 (rfl : 21 + 2 = 23) rfl ?_
    refine q_if_lt (q := 101) dX4_choose_23 (by decide) (rfl : 23 + 3 = 26) (fun h => ?_) (fun h => ?_)
    ·
      exact absurd h (nI_pos (by omega))
    ·
      have h39 : shA[39]? = some (.inr (.int, 7)) := rfl
      have h40 : shA[40]? = some (.inr (.int, 7)) := rfl
      have h41 : shA[41]? = some (.inr (.int, 7)) := rfl
      refine q_aload_n dX4_choose_26 (rfl : 26 + 1 = 27) rfl ?_
      refine q_getR dX4_choose_27 (rfl : 27 + 3 = 30) fX4_11 (by first | rfl | assumption) (by first | rfl | assumption) ?_
      refine q_iconst (v := nI 0) dX4_choose_30 (rfl : 30 + 1 = 31) (by decide) ?_
      refine q_aald (j := 0) dX4_choose_31 (rfl : 31 + 1 = 32) (by first | rfl | assumption) (by decide) (by decide) (by first | rfl | assumption) ?_
      refine q_iload dX4_choose_32 (rfl : 32 + 2 = 34) rfl ?_
      refine q_iald dX4_choose_34 (rfl : 34 + 1 = 35) (by first | rfl | assumption) (by first | assumption | omega) (by decide) ?_
      try simp (disch := omega) only [wr_hit, wr_p, wr_k, nI_add, pk_mul, nI_1, nI_s1, pk_sub, Nat.add_sub_cancel, o39, o40, o41, o1]
      refine q_aload_n dX4_choose_35 (rfl : 35 + 1 = 36) rfl ?_
      refine q_getR dX4_choose_36 (rfl : 36 + 3 = 39) fX4_11 (by first | rfl | assumption) (by first | rfl | assumption) ?_
      refine q_iconst (v := nI 1) dX4_choose_39 (rfl : 39 + 1 = 40) (by decide) ?_
      refine q_aald (j := 1) dX4_choose_40 (rfl : 40 + 1 = 41) (by first | rfl | assumption) (by decide) (by decide) (by first | rfl | assumption) ?_
      refine q_iload dX4_choose_41 (rfl : 41 + 2 = 43) rfl ?_
      refine q_iald dX4_choose_43 (rfl : 43 + 1 = 44) (by first | rfl | assumption) (by first | assumption | omega) (by decide) ?_
      try simp (disch := omega) only [wr_hit, wr_p, wr_k, nI_add, pk_mul, nI_1, nI_s1, pk_sub, Nat.add_sub_cancel, o39, o40, o41, o1]
      refine q_iadd dX4_choose_44 (rfl : 44 + 1 = 45) ?_
      try simp (disch := omega) only [wr_hit, wr_p, wr_k, nI_add, pk_mul, nI_1, nI_s1, pk_sub, Nat.add_sub_cancel, o39, o40, o41, o1]
      refine q_aload_n dX4_choose_45 (rfl : 45 + 1 = 46) rfl ?_
      refine q_getR dX4_choose_46 (rfl : 46 + 3 = 49) fX4_11 (by first | rfl | assumption) (by first | rfl | assumption) ?_
      refine q_iconst (v := nI 2) dX4_choose_49 (rfl : 49 + 1 = 50) (by decide) ?_
      refine q_aald (j := 2) dX4_choose_50 (rfl : 50 + 1 = 51) (by first | rfl | assumption) (by decide) (by decide) (by first | rfl | assumption) ?_
      refine q_iload_n dX4_choose_51 (rfl : 51 + 1 = 52) rfl ?_
      refine q_iload dX4_choose_52 (rfl : 52 + 2 = 54) rfl ?_
      refine q_isub dX4_choose_54 (rfl : 54 + 1 = 55) ?_
      try simp (disch := omega) only [wr_hit, wr_p, wr_k, nI_add, pk_mul, nI_1, nI_s1, pk_sub, Nat.add_sub_cancel, o39, o40, o41, o1]
      refine q_iload dX4_choose_55 (rfl : 55 + 2 = 57) rfl ?_
      refine q_isub dX4_choose_57 (rfl : 57 + 1 = 58) ?_
      try simp (disch := omega) only [wr_hit, wr_p, wr_k, nI_add, pk_mul, nI_1, nI_s1, pk_sub, Nat.add_sub_cancel, o39, o40, o41, o1]
      refine q_iald dX4_choose_58 (rfl : 58 + 1 = 59) (by first | rfl | assumption) (by first | assumption | omega) (by decide) ?_
      try simp (disch := omega) only [wr_hit, wr_p, wr_k, nI_add, pk_mul, nI_1, nI_s1, pk_sub, Nat.add_sub_cancel, o39, o40, o41, o1]
      refine q_iadd dX4_choose_59 (rfl : 59 + 1 = 60) ?_
      try simp (disch := omega) only [wr_hit, wr_p, wr_k, nI_add, pk_mul, nI_1, nI_s1, pk_sub, Nat.add_sub_cancel, o39, o40, o41, o1]
      refine q_istore dX4_choose_60 (rfl : 60 + 2 = 62) (by decide) ?_
      refine q_iload dX4_choose_62 (rfl : 62 + 2 = 64) rfl ?_
      refine q_iload_n dX4_choose_64 (rfl : 64 + 1 = 65) rfl ?_
      refine q_icmp_eq_n (q := 77) (by omega) (by omega) dX4_choose_65 (by decide) (rfl : 65 + 3 = 68) (fun qz => ?_) (fun qz => ?_)
      ·
        refine q_aload_n dX4_choose_77 (rfl : 77 + 1 = 78) rfl ?_
        refine q_iload dX4_choose_78 (rfl : 78 + 2 = 80) rfl ?_
        refine q_putI dX4_choose_80 (rfl : 80 + 3 = 83) pX4_16 (by first | rfl | assumption) ?_
        refine q_aload_n dX4_choose_83 (rfl : 83 + 1 = 84) rfl ?_
        refine q_iload dX4_choose_84 (rfl : 84 + 2 = 86) rfl ?_
        refine q_putI dX4_choose_86 (rfl : 86 + 3 = 89) pX4_20 (by first | rfl | assumption) ?_
        refine q_aload_n dX4_choose_89 (rfl : 89 + 1 = 90) rfl ?_
        refine q_iload dX4_choose_90 (rfl : 90 + 2 = 92) rfl ?_
        refine q_putI dX4_choose_92 (rfl : 92 + 3 = 95) pX4_23 (by first | rfl | assumption) ?_
        refine q_iinc dX4_choose_95 (rfl : 95 + 3 = 98) rfl rfl (by decide) ?_
        refine q_goto (q := 21) dX4_choose_98 (by decide) ?_
        rw [nI_m1, tdH_u]
        have e : chIn (fun e t => X (39 + e) t) k z (r + 1) s = chIn (fun e t => X (39 + e) t) k z r (X 39 z + X 40 r + X 41 (k - z - r), nI z, nI r) := by
          show chIn _ k z r (if z = k ∨ X 39 z + X 40 r + X 41 (k - z - r) < s.1 then _ else s) = _
          rw [if_pos (Or.inl qz)]
        rw [e] at K
        refine q_forget (L' := [some (.ref 37), some (.int (nI k)), some (.ref 16), some (.ref 4), some (.int (nI z)), some (.int (nI r - nI 1)), none]) (by repeat (first | exact trivial | refine And.intro rfl ?_)) ?_
        exact ih _ (by omega) K
      ·
        refine q_iload dX4_choose_68 (rfl : 68 + 2 = 70) rfl ?_
        refine q_aload_n dX4_choose_70 (rfl : 70 + 1 = 71) rfl ?_
        refine q_getI dX4_choose_71 (rfl : 71 + 3 = 74) fX4_16 (by first | rfl | assumption) ?_
        try simp (disch := omega) only [wr_hit, wr_p, wr_k, nI_add, pk_mul, nI_1, nI_s1, pk_sub, Nat.add_sub_cancel, o39, o40, o41, o1]
        refine q_icmp_ge (q := 95) dX4_choose_74 (by decide) (rfl : 74 + 3 = 77) (fun q => ?_) (fun q => ?_)
        ·
          refine q_iinc dX4_choose_95 (rfl : 95 + 3 = 98) rfl rfl (by decide) ?_
          refine q_goto (q := 21) dX4_choose_98 (by decide) ?_
          rw [nI_m1]
          have e : chIn (fun e t => X (39 + e) t) k z (r + 1) s = chIn (fun e t => X (39 + e) t) k z r s := by
            show chIn _ k z r (if z = k ∨ X 39 z + X 40 r + X 41 (k - z - r) < s.1 then _ else s) = _
            rw [if_neg (fun w => w.elim qz (Int32.not_lt.mpr q))]
          rw [e] at K
          refine q_forget (L' := [some (.ref 37), some (.int (nI k)), some (.ref 16), some (.ref 4), some (.int (nI z)), some (.int (nI r - nI 1)), none]) (by repeat (first | exact trivial | refine And.intro rfl ?_)) ?_
          exact ih s (by omega) K
        ·
          refine q_aload_n dX4_choose_77 (rfl : 77 + 1 = 78) rfl ?_
          refine q_iload dX4_choose_78 (rfl : 78 + 2 = 80) rfl ?_
          refine q_putI dX4_choose_80 (rfl : 80 + 3 = 83) pX4_16 (by first | rfl | assumption) ?_
          refine q_aload_n dX4_choose_83 (rfl : 83 + 1 = 84) rfl ?_
          refine q_iload dX4_choose_84 (rfl : 84 + 2 = 86) rfl ?_
          refine q_putI dX4_choose_86 (rfl : 86 + 3 = 89) pX4_20 (by first | rfl | assumption) ?_
          refine q_aload_n dX4_choose_89 (rfl : 89 + 1 = 90) rfl ?_
          refine q_iload dX4_choose_90 (rfl : 90 + 2 = 92) rfl ?_
          refine q_putI dX4_choose_92 (rfl : 92 + 3 = 95) pX4_23 (by first | rfl | assumption) ?_
          refine q_iinc dX4_choose_95 (rfl : 95 + 3 = 98) rfl rfl (by decide) ?_
          refine q_goto (q := 21) dX4_choose_98 (by decide) ?_
          rw [nI_m1, tdH_u]
          have e : chIn (fun e t => X (39 + e) t) k z (r + 1) s = chIn (fun e t => X (39 + e) t) k z r (X 39 z + X 40 r + X 41 (k - z - r), nI z, nI r) := by
            show chIn _ k z r (if z = k ∨ X 39 z + X 40 r + X 41 (k - z - r) < s.1 then _ else s) = _
            rw [if_pos (Or.inr (Int32.not_le.mp q))]
          rw [e] at K
          refine q_forget (L' := [some (.ref 37), some (.int (nI k)), some (.ref 16), some (.ref 4), some (.int (nI z)), some (.int (nI r - nI 1)), none]) (by repeat (first | exact trivial | refine And.intro rfl ?_)) ?_
          exact ih _ (by omega) K
theorem L_chOut {d n0 : Nat} {Po : PO} {X : HI} {J : HJ} {k : Nat} (hk : k ≤ 6) :
    ∀ (q : Nat) (s : Int32 × Int32 × Int32), q ≤ k + 1 → Wm mX4_choose (TM d 0 0 false n0 Po) 0 0 shA 107 [some (.ref 37), some (.int (nI k)), some (.ref 16), some (.ref 4), none, none, none] [] (tdH X (chOut (fun e t => X (39 + e) t) k q s)) J RA →
      Wm mX4_choose (TM d 0 0 false n0 Po) 0 0 shA 10 [some (.ref 37), some (.int (nI k)), some (.ref 16), some (.ref 4), some (.int (nI q - nI 1)), none, none] [] (tdH X s) J RA := by
  intro q
  induction q with
  | zero =>
    intro s hr K
    refine q_iload dX4_choose_10 (rfl : 10 + 2 = 12) rfl ?_
    refine q_if_lt (q := 107) dX4_choose_12 (by decide) (rfl : 12 + 3 = 15) (fun h => ?_) (fun h => ?_)
    ·
      refine q_forget (L' := [some (.ref 37), some (.int (nI k)), some (.ref 16), some (.ref 4), none, none, none]) (by repeat (first | exact trivial | refine And.intro rfl ?_)) ?_
      exact K
    ·
      exact absurd nI_m1neg h
  | succ q ih =>
    intro s hr K
    rw [nI_s1]
    refine q_iload dX4_choose_10 (rfl : 10 + 2 = 12) rfl ?_
    refine q_if_lt (q := 107) dX4_choose_12 (by decide) (rfl : 12 + 3 = 15) (fun h => ?_) (fun h => ?_)
    ·
      exact absurd h (nI_pos (by omega))
    ·
      refine q_iload_n dX4_choose_15 (rfl : 15 + 1 = 16) rfl ?_
      refine q_iload dX4_choose_16 (rfl : 16 + 2 = 18) rfl ?_
      refine q_isub dX4_choose_18 (rfl : 18 + 1 = 19) ?_
      try simp (disch := omega) only [wr_hit, wr_p, wr_k, nI_add, pk_mul, nI_1, nI_s1, pk_sub, Nat.add_sub_cancel]
      refine q_istore dX4_choose_19 (rfl : 19 + 2 = 21) (by decide) ?_
      have e : nI (k - q) = nI (k - q + 1) - nI 1 := (nI_s1 (k - q)).symm
      rw [e]
      refine L_chIn hk (by omega) (k - q + 1) s (by omega) ?_
      refine q_iinc dX4_choose_101 (rfl : 101 + 3 = 104) rfl rfl (by decide) ?_
      refine q_goto (q := 10) dX4_choose_104 (by decide) ?_
      rw [nI_m1]
      exact ih _ (by omega) K
theorem S_choose {d n k : Nat} {I : HI} {J : HJ} {yr : Nat → Nat} (hk : k ≤ 6) (hn : I 16 0 = nI n) (h12 : n ≤ 12) (hy : ∀ i, i < n → I 5 i = nI (yr i) ∧ yr i < 100) : MV mX4_choose (d + 3) [.ref 37, .int (nI k), .ref 16, .ref 4] shA I J RA (fun I' J' => I' = tdH (wgP (LB (I 17) (fun i => I 9 (yr i)) (I 4 2) n) n (k + 1) 0 I) (chOut (fun e t => wgP (LB (I 17) (fun i => I 9 (yr i)) (I 4 2) n) n (k + 1) 0 I (39 + e) t) k (k + 1) (I 37 1, I 37 2, I 37 3)) ∧ J' = J) := by
  refine Mt.of (L := [some (.ref 37), some (.int (nI k)), some (.ref 16), some (.ref 4), none, none, none]) (by decide +kernel) (Nat.le_of_ble_eq_true rfl) rfl ?_
  refine q_aload_n dX4_choose_0 (rfl : 0 + 1 = 1) rfl ?_
  refine q_iload_n dX4_choose_1 (rfl : 1 + 1 = 2) rfl ?_
  refine q_aload_n dX4_choose_2 (rfl : 2 + 1 = 3) rfl ?_
  refine q_aload_n dX4_choose_3 (rfl : 3 + 1 = 4) rfl ?_
  refine q_callVV (S_weigh (d := d) hk hn h12 hy) dX4_choose_4 (rfl : 4 + 3 = 7) lX4_26 vX4_weigh (by first | rfl | assumption) rfl rfl (Nat.le_of_ble_eq_true rfl) TM_room TM_cs ?_
  intro I1 J1 hp
  obtain ⟨hI, rfl⟩ := hp
  refine q_iload_n dX4_choose_7 (rfl : 7 + 1 = 8) rfl ?_
  refine q_istore dX4_choose_8 (rfl : 8 + 2 = 10) (by decide) ?_
  have e2 : I1 37 = I 37 := by rw [hI]; exact wgP_o (by omega) (by omega)
  have e : tdH I1 (I 37 1, I 37 2, I 37 3) = I1 := by
    rw [← e2]
    funext a b
    unfold tdH wr
    by_cases ha : a = 37
    · subst ha
      by_cases h3 : b = 3
      · subst h3; simp
      · by_cases h2 : b = 2
        · subst h2; simp
        · by_cases h1 : b = 1
          · subst h1; simp
          · simp [h1, h2, h3]
    · simp [ha]
  rw [← nI_s1 k]
  have key := L_chOut (d := d + 3) (n0 := shA.length) (X := I1) (J := J1) (k := k) (Po := fun sh' v I' J' R' => sh' = shA ∧ R' = RA ∧ v = none ∧ (I' = tdH I1 (chOut (fun e t => I1 (39 + e) t) k (k + 1) (I 37 1, I 37 2, I 37 3)) ∧ J' = J1)) hk (k + 1) (I 37 1, I 37 2, I 37 3) (by omega) ?_
  · rw [e] at key
    rw [← hI]
    refine q_forget (L' := [some (.ref 37), some (.int (nI (k + 1) - nI 1)), some (.ref 16), some (.ref 4), some (.int (nI (k + 1) - nI 1)), none, none]) (by repeat (first | exact trivial | refine And.intro rfl ?_)) ?_
    rw [nI_s1] at key ⊢
    exact key
  refine q_vret rfl dX4_choose_107 ⟨rfl, rfl, rfl, ?_⟩
  exact ⟨rfl, rfl⟩
def doorAtI (z r j : Nat) : Int32 := if j < z then nI 0 else if j < z + r then nI 1 else nI 2
theorem S_doorAt {d z r j : Nat} {I : HI} {J : HJ} (h1 : I 37 2 = nI z) (h2 : I 37 3 = nI r) (hz : z ≤ 100) (hr : r ≤ 100) (hj : j ≤ 100) : MIp mX4_doorAt d [.ref 37, .int (nI j)] shA I J RA (doorAtI z r j) := by
  refine Mt.of (L := [some (.ref 37), some (.int (nI j))]) (by decide +kernel) (Nat.le_of_ble_eq_true rfl) rfl ?_
  refine q_iload_n dX4_doorAt_0 (rfl : 0 + 1 = 1) rfl ?_
  refine q_aload_n dX4_doorAt_1 (rfl : 1 + 1 = 2) rfl ?_
  refine q_getI dX4_doorAt_2 (rfl : 2 + 3 = 5) fX4_20 (by first | rfl | assumption) ?_
  try simp (disch := omega) only [wr_hit, wr_p, wr_k, nI_add, pk_mul, nI_1, nI_s1, pk_sub, Nat.add_sub_cancel, h1, h2]
  refine q_icmp_ge_n (q := 10) (by omega) (by omega) dX4_doorAt_5 (by decide) (rfl : 5 + 3 = 8) (fun q => ?_) (fun q => ?_)
  ·
    refine q_iload_n dX4_doorAt_10 (rfl : 10 + 1 = 11) rfl ?_
    refine q_aload_n dX4_doorAt_11 (rfl : 11 + 1 = 12) rfl ?_
    refine q_getI dX4_doorAt_12 (rfl : 12 + 3 = 15) fX4_20 (by first | rfl | assumption) ?_
    try simp (disch := omega) only [wr_hit, wr_p, wr_k, nI_add, pk_mul, nI_1, nI_s1, pk_sub, Nat.add_sub_cancel, h1, h2]
    refine q_aload_n dX4_doorAt_15 (rfl : 15 + 1 = 16) rfl ?_
    refine q_getI dX4_doorAt_16 (rfl : 16 + 3 = 19) fX4_23 (by first | rfl | assumption) ?_
    try simp (disch := omega) only [wr_hit, wr_p, wr_k, nI_add, pk_mul, nI_1, nI_s1, pk_sub, Nat.add_sub_cancel, h1, h2]
    refine q_iadd dX4_doorAt_19 (rfl : 19 + 1 = 20) ?_
    try simp (disch := omega) only [wr_hit, wr_p, wr_k, nI_add, pk_mul, nI_1, nI_s1, pk_sub, Nat.add_sub_cancel, h1, h2]
    refine q_icmp_ge_n (q := 27) (by omega) (by omega) dX4_doorAt_20 (by decide) (rfl : 20 + 3 = 23) (fun q2 => ?_) (fun q2 => ?_)
    ·
      refine q_iconst (v := nI 2) dX4_doorAt_27 (rfl : 27 + 1 = 28) (by decide) ?_
      refine q_iret rfl dX4_doorAt_28 ⟨rfl, rfl, _, rfl, ?_⟩
      exact ⟨by unfold doorAtI; rw [if_neg (by omega), if_neg (by omega)], rfl, rfl⟩
    ·
      refine q_iconst (v := nI 1) dX4_doorAt_23 (rfl : 23 + 1 = 24) (by decide) ?_
      refine q_goto (q := 28) dX4_doorAt_24 (by decide) ?_
      refine q_iret rfl dX4_doorAt_28 ⟨rfl, rfl, _, rfl, ?_⟩
      exact ⟨by unfold doorAtI; rw [if_neg (by omega), if_pos (by omega)], rfl, rfl⟩
  ·
    refine q_iconst (v := nI 0) dX4_doorAt_8 (rfl : 8 + 1 = 9) (by decide) ?_
    refine q_iret rfl dX4_doorAt_9 ⟨rfl, rfl, _, rfl, ?_⟩
    exact ⟨by unfold doorAtI; rw [if_pos (by omega)], rfl, rfl⟩
