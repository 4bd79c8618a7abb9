/-! what a TEXT tells: the class's Told at a place t, its rows behind it -/
def ToldAt (sh : List Kd) (R : HR) (t : Nat) : Prop := sh[t]? = some (.inl 5) ∧ sh[t + 1]? = some (.inr (.int, 12)) ∧ sh[t + 2]? = some (.inr (.int, 12)) ∧ sh[t + 3]? = some (.inr (.int, 12)) ∧ sh[t + 4]? = some (.inr (.int, 12)) ∧ sh[t + 5]? = some (.inr (.int, 100)) ∧ R t 6 = some (t + 1) ∧ R t 7 = some (t + 2) ∧ R t 8 = some (t + 3) ∧ R t 9 = some (t + 4) ∧ R t 10 = some (t + 5)
def fillH (I : HI) (p n : Nat) (v : Int32) : HI := fun a b => if a = p ∧ b < n then v else I a b
theorem fillH_s (I : HI) (p i : Nat) (v : Int32) : wr (fillH I p i v) p i v = fillH I p (i + 1) v := by
  funext a b
  unfold wr fillH
  by_cases h1 : a = p
  · subst h1
    by_cases hb : b = i
    · subst hb; simp
    · by_cases hl : b < i
      · simp [hb, hl, show b < i + 1 by omega]
      · simp [hb, hl, show ¬ b < i + 1 by omega]
  · simp [h1]
theorem L_fill {T : Tg} {sh : List Kd} {R : HR} {I : HI} {J : HJ} {p n : Nat} {v : Int32} (hs : sh[p]? = some (.inr (.int, n))) (hn : n < 2 ^ 31) (K : Wm mJ7_fill T 0 0 sh 20 [some (.ref p), some (.int v), some (.int (nI n)), some (.int (nI n))] [] (fillH I p n v) J R) :
    ∀ (i : Nat), i ≤ n → Wm mJ7_fill T 0 0 sh 5 [some (.ref p), some (.int v), some (.int (nI i)), some (.int (nI n))] [] (fillH I p i v) J R := by
  refine loopN (fun i hi ih => ?_)
  refine q_iload_n dJ7_fill_53178_5 (rfl : 5 + 1 = 6) rfl ?_
  refine q_iload_n dJ7_fill_53178_6 (rfl : 6 + 1 = 7) rfl ?_
  refine q_icmp_ge_n (q := 20) (by omega) (by omega) dJ7_fill_53178_7 (by decide) (rfl : 7 + 3 = 10) (fun h => ?_) (fun h => ?_)
  · obtain rfl : i = n := by omega
    exact K
  ·
    refine q_aload_n dJ7_fill_53178_10 (rfl : 10 + 1 = 11) rfl ?_
    refine q_iload_n dJ7_fill_53178_11 (rfl : 11 + 1 = 12) rfl ?_
    refine q_iload_n dJ7_fill_53178_12 (rfl : 12 + 1 = 13) rfl ?_
    refine q_iast dJ7_fill_53178_13 (rfl : 13 + 1 = 14) hs h hn ?_
    first | refine q_iinc1 dJ7_fill_53178_14 (rfl : 14 + 3 = 17) rfl (by decide) ?_ | refine q_iinc dJ7_fill_53178_14 (rfl : 14 + 3 = 17) rfl rfl (by decide) ?_
    refine q_goto (q := 5) dJ7_fill_53178_17 (by decide) ?_
    rw [fillH_s]
    exact ih h
theorem S_fill {d : Nat} {sh : List Kd} {R : HR} {I : HI} {J : HJ} {p n : Nat} {v : Int32} (hs : sh[p]? = some (.inr (.int, n))) (hn : n < 2 ^ 31) : MV mJ7_fill d [.ref p, .int v] sh I J R (fun I' J' => I' = fillH I p n v ∧ J' = J) := by
  refine Mt.of (L := [some (.ref p), some (.int v), none, none]) (by decide +kernel) (Nat.le_of_ble_eq_true rfl) rfl ?_
  refine q_iconst (v := nI 0) dJ7_fill_53178_0 (rfl : 0 + 1 = 1) (by decide) ?_
  refine q_istore_n dJ7_fill_53178_1 (rfl : 1 + 1 = 2) (by decide) ?_
  refine q_aload_n dJ7_fill_53178_2 (rfl : 2 + 1 = 3) rfl ?_
  refine q_alen dJ7_fill_53178_3 (rfl : 3 + 1 = 4) (by first | rfl | assumption) ?_
  refine q_istore_n dJ7_fill_53178_4 (rfl : 4 + 1 = 5) (by decide) ?_
  have e : fillH I p 0 v = I := by funext a b; simp [fillH]
  rw [← e]
  refine L_fill hs hn ?_ 0 (by omega)
  refine q_vret rfl dJ7_fill_53178_20 ⟨rfl, rfl, rfl, ?_⟩
  rw [e]
  exact ⟨rfl, rfl⟩
def forgetT (I : HI) (t : Nat) : HI := fillH (wr (wr (wr (wr (wr (wr I t 0 (nI 400)) t 1 (nI 60)) t 2 (nI 5)) t 3 (nI 1)) t 4 (nI 0)) t 5 (nI 0)) (t + 5) 100 (nI 10)
theorem S_forget {d : Nat} {sh : List Kd} {R : HR} {I : HI} {J : HJ} {t : Nat} (ht : ToldAt sh R t) : MV mX5_forget (d + 1) [.ref t] sh I J R (fun I' J' => I' = forgetT I t ∧ J' = J) := by
  obtain ⟨h0, h1, h2, h3, h4, h5, r6, r7, r8, r9, r10⟩ := ht
  refine Mt.of (L := [some (.ref t)]) (by decide +kernel) (Nat.le_of_ble_eq_true rfl) rfl ?_
  refine q_aload_n dX5_forget_0 (rfl : 0 + 1 = 1) rfl ?_
  refine q_sipush (v := nI 400) dX5_forget_1 (rfl : 1 + 3 = 4) (by decide) ?_
  refine q_putI dX5_forget_4 (rfl : 4 + 3 = 7) pX5_30 (by first | rfl | assumption) ?_
  refine q_aload_n dX5_forget_7 (rfl : 7 + 1 = 8) rfl ?_
  refine q_bipush (v := nI 60) dX5_forget_8 (rfl : 8 + 2 = 10) (by decide) ?_
  refine q_putI dX5_forget_10 (rfl : 10 + 3 = 13) pX5_34 (by first | rfl | assumption) ?_
  refine q_aload_n dX5_forget_13 (rfl : 13 + 1 = 14) rfl ?_
  refine q_iconst (v := nI 5) dX5_forget_14 (rfl : 14 + 1 = 15) (by decide) ?_
  refine q_putI dX5_forget_15 (rfl : 15 + 3 = 18) pX5_37 (by first | rfl | assumption) ?_
  refine q_aload_n dX5_forget_18 (rfl : 18 + 1 = 19) rfl ?_
  refine q_iconst (v := nI 1) dX5_forget_19 (rfl : 19 + 1 = 20) (by decide) ?_
  refine q_putI dX5_forget_20 (rfl : 20 + 3 = 23) pX5_40 (by first | rfl | assumption) ?_
  refine q_aload_n dX5_forget_23 (rfl : 23 + 1 = 24) rfl ?_
  refine q_iconst (v := nI 0) dX5_forget_24 (rfl : 24 + 1 = 25) (by decide) ?_
  refine q_putI dX5_forget_25 (rfl : 25 + 3 = 28) pX5_43 (by first | rfl | assumption) ?_
  refine q_aload_n dX5_forget_28 (rfl : 28 + 1 = 29) rfl ?_
  refine q_iconst (v := nI 0) dX5_forget_29 (rfl : 29 + 1 = 30) (by decide) ?_
  refine q_putI dX5_forget_30 (rfl : 30 + 3 = 33) pX5_46 (by first | rfl | assumption) ?_
  refine q_aload_n dX5_forget_33 (rfl : 33 + 1 = 34) rfl ?_
  refine q_getR dX5_forget_34 (rfl : 34 + 3 = 37) fX5_24 (by first | rfl | assumption) (by first | rfl | assumption) ?_
  refine q_bipush (v := nI 10) dX5_forget_37 (rfl : 37 + 2 = 39) (by decide) ?_
  refine q_callSV (S_fill h5 (by decide)) dX5_forget_39 (rfl : 39 + 3 = 42) lX5_49 vJ7_fill rfl rfl (Nat.le_of_ble_eq_true rfl) TM_room TM_cs ?_
  intro I1 J1 hp
  obtain ⟨rfl, rfl⟩ := hp
  refine q_vret rfl dX5_forget_42 ⟨rfl, rfl, rfl, ?_⟩
  exact ⟨rfl, rfl⟩
theorem inr_nI {y : Int32} {N : Nat} (hN : N < 2 ^ 31) (h : inr y (nI 0) (nI N) = true) : ∃ j : Nat, j ≤ N ∧ y = nI j := by
  unfold inr at h
  simp only [Bool.and_eq_true, decide_eq_true_eq] at h
  have h0 : ¬ y < 0 := Int32.not_lt.mpr (by rw [← nI_0]; exact h.1)
  exact nI_of2 (nI_toInt hN) h0 h.2
theorem S_isYear {d : Nat} {sh : List Kd} {I : HI} {J : HJ} {R : HR} {y : Int32} : MIp mX6_isYear (d + 1) [.int y] sh I J R (bI (inr y (nI 0) (nI 99))) := by
  refine Mt.of (L := [some (.int y)]) (by decide +kernel) (Nat.le_of_ble_eq_true rfl) rfl ?_
  refine q_iload_n dX6_isYear_0 (rfl : 0 + 1 = 1) rfl ?_
  refine q_iconst (v := nI 0) dX6_isYear_1 (rfl : 1 + 1 = 2) (by decide) ?_
  refine q_bipush (v := nI 99) dX6_isYear_2 (rfl : 2 + 2 = 4) (by decide) ?_
  refine q_callSIp S_inside dX6_isYear_4 (rfl : 4 + 3 = 7) lX6_68 vX6_inside rfl rfl (Nat.le_of_ble_eq_true rfl) TM_room TM_cs ?_
  refine q_zret rfl dX6_isYear_7 (by first | exact bI_01 _ | exact Or.inl rfl | exact Or.inr rfl) ⟨rfl, rfl, _, rfl, ?_⟩
  exact ⟨rfl, rfl, rfl⟩
def setBarnB (l w : Int32) : Bool := inr l (nI 1) (nI 999) && inr w (nI 1) (nI 99)
def setBarnH (I : HI) (t : Nat) (l w : Int32) : HI := wr (wr I t 0 l) t 1 w
theorem S_setBarn {d : Nat} {sh : List Kd} {R : HR} {I : HI} {J : HJ} {t : Nat} {l w : Int32} (ht : ToldAt sh R t) : MI mX5_setBarn (d + 1) [.ref t, .int l, .int w] sh I J R (fun x I' J' => x = bI (setBarnB l w) ∧ I' = cond (setBarnB l w) (setBarnH I t l w) I ∧ J' = J) := by
  obtain ⟨h0, h1, h2, h3, h4, h5, r6, r7, r8, r9, r10⟩ := ht
  refine Mt.of (L := [some (.ref t), some (.int l), some (.int w)]) (by decide +kernel) (Nat.le_of_ble_eq_true rfl) rfl ?_
  refine q_iload_n dX5_setBarn_0 (rfl : 0 + 1 = 1) rfl ?_
  refine q_iconst (v := nI 1) dX5_setBarn_1 (rfl : 1 + 1 = 2) (by decide) ?_
  refine q_sipush (v := nI 999) dX5_setBarn_2 (rfl : 2 + 3 = 5) (by decide) ?_
  refine q_callSIp S_inside dX5_setBarn_5 (rfl : 5 + 3 = 8) lX5_69 vX6_inside rfl rfl (Nat.le_of_ble_eq_true rfl) TM_room TM_cs ?_
  refine q_if_eq_b (q := 21) dX5_setBarn_8 (by decide) (rfl : 8 + 3 = 11) (fun a1 => ?_) (fun a1 => ?_)
  ·
    refine q_iconst (v := nI 0) dX5_setBarn_21 (rfl : 21 + 1 = 22) (by decide) ?_
    refine q_zret rfl dX5_setBarn_22 (by first | exact bI_01 _ | exact Or.inl rfl | exact Or.inr rfl) ⟨rfl, rfl, _, rfl, ?_⟩
    have e : setBarnB l w = false := by simp [setBarnB, a1]
    rw [e]
    exact ⟨rfl, rfl, rfl⟩
  ·
    refine q_iload_n dX5_setBarn_11 (rfl : 11 + 1 = 12) rfl ?_
    refine q_iconst (v := nI 1) dX5_setBarn_12 (rfl : 12 + 1 = 13) (by decide) ?_
    refine q_bipush (v := nI 99) dX5_setBarn_13 (rfl : 13 + 2 = 15) (by decide) ?_
    refine q_callSIp S_inside dX5_setBarn_15 (rfl : 15 + 3 = 18) lX5_69 vX6_inside rfl rfl (Nat.le_of_ble_eq_true rfl) TM_room TM_cs ?_
    refine q_if_ne_b (q := 23) dX5_setBarn_18 (by decide) (rfl : 18 + 3 = 21) (fun a2 => ?_) (fun a2 => ?_)
    ·
      refine q_aload_n dX5_setBarn_23 (rfl : 23 + 1 = 24) rfl ?_
      refine q_iload_n dX5_setBarn_24 (rfl : 24 + 1 = 25) rfl ?_
      refine q_putI dX5_setBarn_25 (rfl : 25 + 3 = 28) pX5_30 (by first | rfl | assumption) ?_
      refine q_aload_n dX5_setBarn_28 (rfl : 28 + 1 = 29) rfl ?_
      refine q_iload_n dX5_setBarn_29 (rfl : 29 + 1 = 30) rfl ?_
      refine q_putI dX5_setBarn_30 (rfl : 30 + 3 = 33) pX5_34 (by first | rfl | assumption) ?_
      refine q_iconst (v := nI 1) dX5_setBarn_33 (rfl : 33 + 1 = 34) (by decide) ?_
      refine q_zret rfl dX5_setBarn_34 (by first | exact bI_01 _ | exact Or.inl rfl | exact Or.inr rfl) ⟨rfl, rfl, _, rfl, ?_⟩
      have e : setBarnB l w = true := by simp [setBarnB, a1, a2]
      rw [e]
      exact ⟨rfl, rfl, rfl⟩
    ·
      refine q_iconst (v := nI 0) dX5_setBarn_21 (rfl : 21 + 1 = 22) (by decide) ?_
      refine q_zret rfl dX5_setBarn_22 (by first | exact bI_01 _ | exact Or.inl rfl | exact Or.inr rfl) ⟨rfl, rfl, _, rfl, ?_⟩
      have e : setBarnB l w = false := by simp [setBarnB, a1, a2]
      rw [e]
      exact ⟨rfl, rfl, rfl⟩
def setCostB (y c : Int32) : Bool := inr y (nI 0) (nI 99) && inr c (nI 0) (nI 99)
theorem S_setCost {d : Nat} {sh : List Kd} {R : HR} {I : HI} {J : HJ} {t : Nat} {y c : Int32} (ht : ToldAt sh R t) : MI mX5_setCost (d + 2) [.ref t, .int y, .int c] sh I J R (fun x I' J' => x = bI (setCostB y c) ∧ I' = cond (setCostB y c) (wr I (t + 5) y.toNatClampNeg c) I ∧ J' = J) := by
  obtain ⟨h0, h1, h2, h3, h4, h5, r6, r7, r8, r9, r10⟩ := ht
  refine Mt.of (L := [some (.ref t), some (.int y), some (.int c)]) (by decide +kernel) (Nat.le_of_ble_eq_true rfl) rfl ?_
  refine q_iload_n dX5_setCost_0 (rfl : 0 + 1 = 1) rfl ?_
  refine q_callSIp S_isYear dX5_setCost_1 (rfl : 1 + 3 = 4) lX5_73 vX6_isYear rfl rfl (Nat.le_of_ble_eq_true rfl) TM_room TM_cs ?_
  refine q_if_eq_b (q := 17) dX5_setCost_4 (by decide) (rfl : 4 + 3 = 7) (fun a1 => ?_) (fun a1 => ?_)
  ·
    refine q_iconst (v := nI 0) dX5_setCost_17 (rfl : 17 + 1 = 18) (by decide) ?_
    refine q_zret rfl dX5_setCost_18 (by first | exact bI_01 _ | exact Or.inl rfl | exact Or.inr rfl) ⟨rfl, rfl, _, rfl, ?_⟩
    have e : setCostB y c = false := by simp [setCostB, a1]
    rw [e]
    exact ⟨rfl, rfl, rfl⟩
  ·
    refine q_iload_n dX5_setCost_7 (rfl : 7 + 1 = 8) rfl ?_
    refine q_iconst (v := nI 0) dX5_setCost_8 (rfl : 8 + 1 = 9) (by decide) ?_
    refine q_bipush (v := nI 99) dX5_setCost_9 (rfl : 9 + 2 = 11) (by decide) ?_
    refine q_callSIp (S_inside (d := d + 1)) dX5_setCost_11 (rfl : 11 + 3 = 14) lX5_69 vX6_inside rfl rfl (Nat.le_of_ble_eq_true rfl) TM_room TM_cs ?_
    refine q_if_ne_b (q := 19) dX5_setCost_14 (by decide) (rfl : 14 + 3 = 17) (fun a2 => ?_) (fun a2 => ?_)
    ·
      obtain ⟨j, hj, rfl⟩ := inr_nI (by decide) a1
      refine q_aload_n dX5_setCost_19 (rfl : 19 + 1 = 20) rfl ?_
      refine q_getR dX5_setCost_20 (rfl : 20 + 3 = 23) fX5_24 (by first | rfl | assumption) (by first | rfl | assumption) ?_
      refine q_iload_n dX5_setCost_23 (rfl : 23 + 1 = 24) rfl ?_
      refine q_iload_n dX5_setCost_24 (rfl : 24 + 1 = 25) rfl ?_
      refine q_iast dX5_setCost_25 (rfl : 25 + 1 = 26) (by first | rfl | assumption) (by first | assumption | omega) (by decide) ?_
      refine q_iconst (v := nI 1) dX5_setCost_26 (rfl : 26 + 1 = 27) (by decide) ?_
      refine q_zret rfl dX5_setCost_27 (by first | exact bI_01 _ | exact Or.inl rfl | exact Or.inr rfl) ⟨rfl, rfl, _, rfl, ?_⟩
      have e : setCostB (nI j) c = true := by simp [setCostB, a1, a2]
      rw [e, nI_clamp (by omega)]
      exact ⟨rfl, rfl, rfl⟩
    ·
      refine q_iconst (v := nI 0) dX5_setCost_17 (rfl : 17 + 1 = 18) (by decide) ?_
      refine q_zret rfl dX5_setCost_18 (by first | exact bI_01 _ | exact Or.inl rfl | exact Or.inr rfl) ⟨rfl, rfl, _, rfl, ?_⟩
      have e : setCostB y c = false := by simp [setCostB, a1, a2]
      rw [e]
      exact ⟨rfl, rfl, rfl⟩
def addFallB (I : HI) (t n : Nat) (y i d m : Int32) : Bool := (inr y (nI 0) (nI 99) && inr i (nI 1) (nI 20) && inr d (nI 1) (nI 9) && inr m (nI 0) (nI 9)) && decide (n < 12) && (decide (n = 0) || decide (I (t + 1) (n - 1) ≤ y))
def addFallH (I : HI) (t n : Nat) (y i d m : Int32) : HI := wr (wr (wr (wr (wr I (t + 1) n y) (t + 2) n i) (t + 3) n d) (t + 4) n m) t 5 (nI (n + 1))
theorem L_addFall {d n0 n : Nat} {sh : List Kd} {R : HR} {I : HI} {J : HJ} {t : Nat} {y i d' m : Int32} {Po : PO} (ht : ToldAt sh R t) (hn : I t 5 = nI n) (h12 : n ≤ 12) (b : Bool)
    (K : ∀ (c : Bool), c = (b && decide (n < 12) && (decide (n = 0) || decide (I (t + 1) (n - 1) ≤ y))) → Po sh (some (.int (bI c))) (cond c (addFallH I t n y i d' m) I) J R) : Wm mX5_addFall (TM (d + 3) 0 0 false n0 Po) 0 0 sh 43 [some (.ref t), some (.int y), some (.int i), some (.int d'), some (.int m), none] [.int (bI b)] I J R := by
  obtain ⟨h0, h1, h2, h3, h4, h5, r6, r7, r8, r9, r10⟩ := ht
  refine q_istore dX5_addFall_43 (rfl : 43 + 2 = 45) (by decide) ?_
  refine q_iload dX5_addFall_45 (rfl : 45 + 2 = 47) rfl ?_
  have stores : n < 12 → (b && decide (n < 12) && (decide (n = 0) || decide (I (t + 1) (n - 1) ≤ y))) = true → Wm mX5_addFall (TM (d + 3) 0 0 false n0 Po) 0 0 sh 83 [some (.ref t), some (.int y), some (.int i), some (.int d'), some (.int m), none] [] I J R := by
    intro hlt hc
    refine q_aload_n dX5_addFall_83 (rfl : 83 + 1 = 84) rfl ?_
    refine q_getR dX5_addFall_84 (rfl : 84 + 3 = 87) fX5_9 (by first | rfl | assumption) (by first | rfl | assumption) ?_
    refine q_aload_n dX5_addFall_87 (rfl : 87 + 1 = 88) rfl ?_
    refine q_getI dX5_addFall_88 (rfl : 88 + 3 = 91) fX5_46 (by first | rfl | assumption) ?_
    try simp (disch := omega) only [wr_hit, wr_p, wr_k, nI_add, pk_mul, nI_1, nI_s1, pk_sub, Nat.add_sub_cancel, hn]
    refine q_iload_n dX5_addFall_91 (rfl : 91 + 1 = 92) rfl ?_
    refine q_iast dX5_addFall_92 (rfl : 92 + 1 = 93) (by first | rfl | assumption) (by first | assumption | omega) (by decide) ?_
    refine q_aload_n dX5_addFall_93 (rfl : 93 + 1 = 94) rfl ?_
    refine q_getR dX5_addFall_94 (rfl : 94 + 3 = 97) fX5_15 (by first | rfl | assumption) (by first | rfl | assumption) ?_
    refine q_aload_n dX5_addFall_97 (rfl : 97 + 1 = 98) rfl ?_
    refine q_getI dX5_addFall_98 (rfl : 98 + 3 = 101) fX5_46 (by first | rfl | assumption) ?_
    try simp (disch := omega) only [wr_hit, wr_p, wr_k, nI_add, pk_mul, nI_1, nI_s1, pk_sub, Nat.add_sub_cancel, hn]
    refine q_iload_n dX5_addFall_101 (rfl : 101 + 1 = 102) rfl ?_
    refine q_iast dX5_addFall_102 (rfl : 102 + 1 = 103) (by first | rfl | assumption) (by first | assumption | omega) (by decide) ?_
    refine q_aload_n dX5_addFall_103 (rfl : 103 + 1 = 104) rfl ?_
    refine q_getR dX5_addFall_104 (rfl : 104 + 3 = 107) fX5_18 (by first | rfl | assumption) (by first | rfl | assumption) ?_
    refine q_aload_n dX5_addFall_107 (rfl : 107 + 1 = 108) rfl ?_
    refine q_getI dX5_addFall_108 (rfl : 108 + 3 = 111) fX5_46 (by first | rfl | assumption) ?_
    try simp (disch := omega) only [wr_hit, wr_p, wr_k, nI_add, pk_mul, nI_1, nI_s1, pk_sub, Nat.add_sub_cancel, hn]
    refine q_iload_n dX5_addFall_111 (rfl : 111 + 1 = 112) rfl ?_
    refine q_iast dX5_addFall_112 (rfl : 112 + 1 = 113) (by first | rfl | assumption) (by first | assumption | omega) (by decide) ?_
    refine q_aload_n dX5_addFall_113 (rfl : 113 + 1 = 114) rfl ?_
    refine q_getR dX5_addFall_114 (rfl : 114 + 3 = 117) fX5_21 (by first | rfl | assumption) (by first | rfl | assumption) ?_
    refine q_aload_n dX5_addFall_117 (rfl : 117 + 1 = 118) rfl ?_
    refine q_getI dX5_addFall_118 (rfl : 118 + 3 = 121) fX5_46 (by first | rfl | assumption) ?_
    try simp (disch := omega) only [wr_hit, wr_p, wr_k, nI_add, pk_mul, nI_1, nI_s1, pk_sub, Nat.add_sub_cancel, hn]
    refine q_iload dX5_addFall_121 (rfl : 121 + 2 = 123) rfl ?_
    refine q_iast dX5_addFall_123 (rfl : 123 + 1 = 124) (by first | rfl | assumption) (by first | assumption | omega) (by decide) ?_
    refine q_aload_n dX5_addFall_124 (rfl : 124 + 1 = 125) rfl ?_
    refine q_dup dX5_addFall_125 (rfl : 125 + 1 = 126) rfl ?_
    refine q_getI dX5_addFall_126 (rfl : 126 + 3 = 129) fX5_46 (by first | rfl | assumption) ?_
    try simp (disch := omega) only [wr_hit, wr_p, wr_k, nI_add, pk_mul, nI_1, nI_s1, pk_sub, Nat.add_sub_cancel, hn]
    refine q_iconst (v := nI 1) dX5_addFall_129 (rfl : 129 + 1 = 130) (by decide) ?_
    refine q_iadd dX5_addFall_130 (rfl : 130 + 1 = 131) ?_
    try simp (disch := omega) only [wr_hit, wr_p, wr_k, nI_add, pk_mul, nI_1, nI_s1, pk_sub, Nat.add_sub_cancel, hn]
    refine q_putI dX5_addFall_131 (rfl : 131 + 3 = 134) pX5_46 (by first | rfl | assumption) ?_
    refine q_iconst (v := nI 1) dX5_addFall_134 (rfl : 134 + 1 = 135) (by decide) ?_
    exact q_zret rfl dX5_addFall_135 (Or.inr rfl) (K true hc.symm)
  have bad : (b && decide (n < 12) && (decide (n = 0) || decide (I (t + 1) (n - 1) ≤ y))) = false → Wm mX5_addFall (TM (d + 3) 0 0 false n0 Po) 0 0 sh 81 [some (.ref t), some (.int y), some (.int i), some (.int d'), some (.int m), none] [] I J R := by
    intro hc
    refine q_iconst (v := nI 0) dX5_addFall_81 (rfl : 81 + 1 = 82) (by decide) ?_
    exact q_zret rfl dX5_addFall_82 (Or.inl rfl) (K false hc.symm)
  refine q_if_eq_b (q := 81) dX5_addFall_47 (by decide) (rfl : 47 + 3 = 50) (fun hb => ?_) (fun hb => ?_)
  ·
    refine q_forget (L' := [some (.ref t), some (.int y), some (.int i), some (.int d'), some (.int m), none]) (by repeat (first | exact trivial | refine And.intro rfl ?_)) ?_
    exact bad (by simp [hb])
  ·
    refine q_aload_n dX5_addFall_50 (rfl : 50 + 1 = 51) rfl ?_
    refine q_getI dX5_addFall_51 (rfl : 51 + 3 = 54) fX5_46 (by first | rfl | assumption) ?_
    try simp (disch := omega) only [wr_hit, wr_p, wr_k, nI_add, pk_mul, nI_1, nI_s1, pk_sub, Nat.add_sub_cancel, hn]
    refine q_bipush (v := nI 12) dX5_addFall_54 (rfl : 54 + 2 = 56) (by decide) ?_
    refine q_icmp_ge_n (q := 81) (by omega) (by omega) dX5_addFall_56 (by decide) (rfl : 56 + 3 = 59) (fun h => ?_) (fun h => ?_)
    ·
      refine q_forget (L' := [some (.ref t), some (.int y), some (.int i), some (.int d'), some (.int m), none]) (by repeat (first | exact trivial | refine And.intro rfl ?_)) ?_
      exact bad (by simp [show ¬ n < 12 by omega])
    ·
      refine q_aload_n dX5_addFall_59 (rfl : 59 + 1 = 60) rfl ?_
      refine q_getI dX5_addFall_60 (rfl : 60 + 3 = 63) fX5_46 (by first | rfl | assumption) ?_
      try simp (disch := omega) only [wr_hit, wr_p, wr_k, nI_add, pk_mul, nI_1, nI_s1, pk_sub, Nat.add_sub_cancel, hn]
      refine q_if_le_n (q := 83) (by omega) dX5_addFall_63 (by decide) (rfl : 63 + 3 = 66) (fun hz => ?_) (fun hz => ?_)
      ·
        refine q_forget (L' := [some (.ref t), some (.int y), some (.int i), some (.int d'), some (.int m), none]) (by repeat (first | exact trivial | refine And.intro rfl ?_)) ?_
        exact stores h (by simp [hb, h, hz])
      ·
        obtain ⟨k, rfl⟩ : ∃ k, n = k + 1 := ⟨n - 1, by omega⟩
        refine q_iload_n dX5_addFall_66 (rfl : 66 + 1 = 67) rfl ?_
        refine q_aload_n dX5_addFall_67 (rfl : 67 + 1 = 68) rfl ?_
        refine q_getR dX5_addFall_68 (rfl : 68 + 3 = 71) fX5_9 (by first | rfl | assumption) (by first | rfl | assumption) ?_
        refine q_aload_n dX5_addFall_71 (rfl : 71 + 1 = 72) rfl ?_
        refine q_getI dX5_addFall_72 (rfl : 72 + 3 = 75) fX5_46 (by first | rfl | assumption) ?_
        try simp (disch := omega) only [wr_hit, wr_p, wr_k, nI_add, pk_mul, nI_1, nI_s1, pk_sub, Nat.add_sub_cancel, hn]
        refine q_iconst (v := nI 1) dX5_addFall_75 (rfl : 75 + 1 = 76) (by decide) ?_
        refine q_isub dX5_addFall_76 (rfl : 76 + 1 = 77) ?_
        try simp (disch := omega) only [wr_hit, wr_p, wr_k, nI_add, pk_mul, nI_1, nI_s1, pk_sub, Nat.add_sub_cancel, hn]
        refine q_iald dX5_addFall_77 (rfl : 77 + 1 = 78) (by first | rfl | assumption) (by first | assumption | omega) (by decide) ?_
        try simp (disch := omega) only [wr_hit, wr_p, wr_k, nI_add, pk_mul, nI_1, nI_s1, pk_sub, Nat.add_sub_cancel, hn]
        refine q_icmp_ge (q := 83) dX5_addFall_78 (by decide) (rfl : 78 + 3 = 81) (fun hy => ?_) (fun hy => ?_)
        ·
          refine q_forget (L' := [some (.ref t), some (.int y), some (.int i), some (.int d'), some (.int m), none]) (by repeat (first | exact trivial | refine And.intro rfl ?_)) ?_
          exact stores h (by simp [hb, h, hy])
        ·
          refine q_forget (L' := [some (.ref t), some (.int y), some (.int i), some (.int d'), some (.int m), none]) (by repeat (first | exact trivial | refine And.intro rfl ?_)) ?_
          exact bad (by simp [Int32.not_le.mpr (Int32.not_le.mp (by simpa using hy))])
theorem S_addFall {d n : Nat} {sh : List Kd} {R : HR} {I : HI} {J : HJ} {t : Nat} {y i d' m : Int32} (ht : ToldAt sh R t) (hn : I t 5 = nI n) (h12 : n ≤ 12) : MI mX5_addFall (d + 3) [.ref t, .int y, .int i, .int d', .int m] sh I J R (fun x I' J' => x = bI (addFallB I t n y i d' m) ∧ I' = cond (addFallB I t n y i d' m) (addFallH I t n y i d' m) I ∧ J' = J) := by
  refine Mt.of (L := [some (.ref t), some (.int y), some (.int i), some (.int d'), some (.int m), none]) (by decide +kernel) (Nat.le_of_ble_eq_true rfl) rfl ?_
  have fin : ∀ b : Bool, b = (inr y (nI 0) (nI 99) && inr i (nI 1) (nI 20) && inr d' (nI 1) (nI 9) && inr m (nI 0) (nI 9)) → ∀ (c : Bool), c = (b && decide (n < 12) && (decide (n = 0) || decide (I (t + 1) (n - 1) ≤ y))) → sh = sh ∧ R = R ∧ ∃ x : Int32, some (Value.int (bI c)) = some (.int x) ∧ (x = bI (addFallB I t n y i d' m) ∧ cond c (addFallH I t n y i d' m) I = cond (addFallB I t n y i d' m) (addFallH I t n y i d' m) I ∧ J = J) := by
    intro b hb c hc
    have e : c = addFallB I t n y i d' m := by rw [hc, hb]; rfl
    rw [e]
    exact ⟨rfl, rfl, _, rfl, rfl, rfl, rfl⟩
  refine q_iload_n dX5_addFall_0 (rfl : 0 + 1 = 1) rfl ?_
  refine q_callSIp (S_isYear (d := d + 1)) dX5_addFall_1 (rfl : 1 + 3 = 4) lX5_73 vX6_isYear rfl rfl (Nat.le_of_ble_eq_true rfl) TM_room TM_cs ?_
  refine q_if_eq_b (q := 42) dX5_addFall_4 (by decide) (rfl : 4 + 3 = 7) (fun a1 => ?_) (fun a1 => ?_)
  ·
    refine q_iconst (v := nI 0) dX5_addFall_42 (rfl : 42 + 1 = 43) (by decide) ?_
    refine L_addFall ht hn h12 false ?_
    exact fin false (by simp [a1])
  ·
    refine q_iload_n dX5_addFall_7 (rfl : 7 + 1 = 8) rfl ?_
    refine q_iconst (v := nI 1) dX5_addFall_8 (rfl : 8 + 1 = 9) (by decide) ?_
    refine q_bipush (v := nI 20) dX5_addFall_9 (rfl : 9 + 2 = 11) (by decide) ?_
    refine q_callSIp (S_inside (d := d + 2)) dX5_addFall_11 (rfl : 11 + 3 = 14) lX5_69 vX6_inside rfl rfl (Nat.le_of_ble_eq_true rfl) TM_room TM_cs ?_
    refine q_if_eq_b (q := 42) dX5_addFall_14 (by decide) (rfl : 14 + 3 = 17) (fun a2 => ?_) (fun a2 => ?_)
    ·
      refine q_iconst (v := nI 0) dX5_addFall_42 (rfl : 42 + 1 = 43) (by decide) ?_
      refine L_addFall ht hn h12 false ?_
      exact fin false (by simp [a2])
    ·
      refine q_iload_n dX5_addFall_17 (rfl : 17 + 1 = 18) rfl ?_
      refine q_iconst (v := nI 1) dX5_addFall_18 (rfl : 18 + 1 = 19) (by decide) ?_
      refine q_bipush (v := nI 9) dX5_addFall_19 (rfl : 19 + 2 = 21) (by decide) ?_
      refine q_callSIp (S_inside (d := d + 2)) dX5_addFall_21 (rfl : 21 + 3 = 24) lX5_69 vX6_inside rfl rfl (Nat.le_of_ble_eq_true rfl) TM_room TM_cs ?_
      refine q_if_eq_b (q := 42) dX5_addFall_24 (by decide) (rfl : 24 + 3 = 27) (fun a3 => ?_) (fun a3 => ?_)
      ·
        refine q_iconst (v := nI 0) dX5_addFall_42 (rfl : 42 + 1 = 43) (by decide) ?_
        refine L_addFall ht hn h12 false ?_
        exact fin false (by simp [a3])
      ·
        refine q_iload dX5_addFall_27 (rfl : 27 + 2 = 29) rfl ?_
        refine q_iconst (v := nI 0) dX5_addFall_29 (rfl : 29 + 1 = 30) (by decide) ?_
        refine q_bipush (v := nI 9) dX5_addFall_30 (rfl : 30 + 2 = 32) (by decide) ?_
        refine q_callSIp (S_inside (d := d + 2)) dX5_addFall_32 (rfl : 32 + 3 = 35) lX5_69 vX6_inside rfl rfl (Nat.le_of_ble_eq_true rfl) TM_room TM_cs ?_
        refine q_if_eq_b (q := 42) dX5_addFall_35 (by decide) (rfl : 35 + 3 = 38) (fun a4 => ?_) (fun a4 => ?_)
        ·
          refine q_iconst (v := nI 0) dX5_addFall_42 (rfl : 42 + 1 = 43) (by decide) ?_
          refine L_addFall ht hn h12 false ?_
          exact fin false (by simp [a4])
        ·
          refine q_iconst (v := nI 1) dX5_addFall_38 (rfl : 38 + 1 = 39) (by decide) ?_
          refine q_goto (q := 43) dX5_addFall_39 (by decide) ?_
          refine L_addFall ht hn h12 true ?_
          exact fin true (by simp [a1, a2, a3, a4])
def setOneB (l n : Int32) : Bool := (decide (l = nI 116) && inr n (nI 1) (nI 50)) || (decide (l = nI 115) && inr n (nI 0) (nI 4)) || (decide (l = nI 118) && inr n (nI 0) (nI 9))
def setOneK (l : Int32) : Nat := if l = nI 116 then 2 else if l = nI 115 then 3 else 4
theorem S_setOne {d : Nat} {sh : List Kd} {R : HR} {I : HI} {J : HJ} {t : Nat} {l n : Int32} (ht : ToldAt sh R t) : MI mX5_setOne (d + 1) [.ref t, .int l, .int n] sh I J R (fun x I' J' => x = bI (setOneB l n) ∧ I' = cond (setOneB l n) (wr I t (setOneK l) n) I ∧ J' = J) := by
  obtain ⟨h0, h1, h2, h3, h4, h5, r6, r7, r8, r9, r10⟩ := ht
  refine Mt.of (L := [some (.ref t), some (.int l), some (.int n)]) (by decide +kernel) (Nat.le_of_ble_eq_true rfl) rfl ?_
  have k1 : (¬ l = nI 116 ∨ inr n (nI 1) (nI 50) = false) → (¬ l = nI 115 ∨ inr n (nI 0) (nI 4) = false) → Wm mX5_setOne (TM (d + 1) 0 0 false sh.length (fun sh' v I' J' R' => sh' = sh ∧ R' = R ∧ ∃ x : Int32, v = some (.int x) ∧ (x = bI (setOneB l n) ∧ I' = cond (setOneB l n) (wr I t (setOneK l) n) I ∧ J' = J))) 0 0 sh 47 [some (.ref t), some (.int l), some (.int n)] [] I J R := by
    intro q1 q2
    refine q_iload_n dX5_setOne_47 (rfl : 47 + 1 = 48) rfl ?_
    refine q_bipush (v := nI 118) dX5_setOne_48 (rfl : 48 + 2 = 50) (by decide) ?_
    refine q_icmp_ne (q := 71) dX5_setOne_50 (by decide) (rfl : 50 + 3 = 53) (fun e => ?_) (fun e => ?_)
    ·
      refine q_iconst (v := nI 0) dX5_setOne_71 (rfl : 71 + 1 = 72) (by decide) ?_
      refine q_zret rfl dX5_setOne_72 (by first | exact bI_01 _ | exact Or.inl rfl | exact Or.inr rfl) ⟨rfl, rfl, _, rfl, ?_⟩
      have z : setOneB l n = false := by rcases q1 with q1 | q1 <;> rcases q2 with q2 | q2 <;> simp [setOneB, q1, q2, e]
      rw [z]
      exact ⟨rfl, rfl, rfl⟩
    ·
      subst e
      refine q_iload_n dX5_setOne_53 (rfl : 53 + 1 = 54) rfl ?_
      refine q_iconst (v := nI 0) dX5_setOne_54 (rfl : 54 + 1 = 55) (by decide) ?_
      refine q_bipush (v := nI 9) dX5_setOne_55 (rfl : 55 + 2 = 57) (by decide) ?_
      refine q_callSIp S_inside dX5_setOne_57 (rfl : 57 + 3 = 60) lX5_69 vX6_inside rfl rfl (Nat.le_of_ble_eq_true rfl) TM_room TM_cs ?_
      refine q_if_eq_b (q := 71) dX5_setOne_60 (by decide) (rfl : 60 + 3 = 63) (fun a => ?_) (fun a => ?_)
      ·
        refine q_iconst (v := nI 0) dX5_setOne_71 (rfl : 71 + 1 = 72) (by decide) ?_
        refine q_zret rfl dX5_setOne_72 (by first | exact bI_01 _ | exact Or.inl rfl | exact Or.inr rfl) ⟨rfl, rfl, _, rfl, ?_⟩
        have z : setOneB (nI 118) n = false := by simp [setOneB, a, show ¬ nI 118 = nI 116 by decide, show ¬ nI 118 = nI 115 by decide]
        rw [z]
        exact ⟨rfl, rfl, rfl⟩
      ·
        refine q_aload_n dX5_setOne_63 (rfl : 63 + 1 = 64) rfl ?_
        refine q_iload_n dX5_setOne_64 (rfl : 64 + 1 = 65) rfl ?_
        refine q_putI dX5_setOne_65 (rfl : 65 + 3 = 68) pX5_43 (by first | rfl | assumption) ?_
        refine q_goto (q := 73) dX5_setOne_68 (by decide) ?_
        refine q_iconst (v := nI 1) dX5_setOne_73 (rfl : 73 + 1 = 74) (by decide) ?_
        refine q_zret rfl dX5_setOne_74 (by first | exact bI_01 _ | exact Or.inl rfl | exact Or.inr rfl) ⟨rfl, rfl, _, rfl, ?_⟩
        have z : setOneB (nI 118) n = true := by simp [setOneB, a]
        rw [z]
        exact ⟨rfl, rfl, rfl⟩
  have k2 : (¬ l = nI 116 ∨ inr n (nI 1) (nI 50) = false) → Wm mX5_setOne (TM (d + 1) 0 0 false sh.length (fun sh' v I' J' R' => sh' = sh ∧ R' = R ∧ ∃ x : Int32, v = some (.int x) ∧ (x = bI (setOneB l n) ∧ I' = cond (setOneB l n) (wr I t (setOneK l) n) I ∧ J' = J))) 0 0 sh 24 [some (.ref t), some (.int l), some (.int n)] [] I J R := by
    intro q1
    refine q_iload_n dX5_setOne_24 (rfl : 24 + 1 = 25) rfl ?_
    refine q_bipush (v := nI 115) dX5_setOne_25 (rfl : 25 + 2 = 27) (by decide) ?_
    refine q_icmp_ne (q := 47) dX5_setOne_27 (by decide) (rfl : 27 + 3 = 30) (fun e => ?_) (fun e => ?_)
    ·
      exact k1 q1 (Or.inl e)
    ·
      refine q_iload_n dX5_setOne_30 (rfl : 30 + 1 = 31) rfl ?_
      refine q_iconst (v := nI 0) dX5_setOne_31 (rfl : 31 + 1 = 32) (by decide) ?_
      refine q_iconst (v := nI 4) dX5_setOne_32 (rfl : 32 + 1 = 33) (by decide) ?_
      refine q_callSIp S_inside dX5_setOne_33 (rfl : 33 + 3 = 36) lX5_69 vX6_inside rfl rfl (Nat.le_of_ble_eq_true rfl) TM_room TM_cs ?_
      refine q_if_eq_b (q := 47) dX5_setOne_36 (by decide) (rfl : 36 + 3 = 39) (fun a => ?_) (fun a => ?_)
      ·
        exact k1 q1 (Or.inr a)
      ·
        subst e
        refine q_aload_n dX5_setOne_39 (rfl : 39 + 1 = 40) rfl ?_
        refine q_iload_n dX5_setOne_40 (rfl : 40 + 1 = 41) rfl ?_
        refine q_putI dX5_setOne_41 (rfl : 41 + 3 = 44) pX5_40 (by first | rfl | assumption) ?_
        refine q_goto (q := 73) dX5_setOne_44 (by decide) ?_
        refine q_iconst (v := nI 1) dX5_setOne_73 (rfl : 73 + 1 = 74) (by decide) ?_
        refine q_zret rfl dX5_setOne_74 (by first | exact bI_01 _ | exact Or.inl rfl | exact Or.inr rfl) ⟨rfl, rfl, _, rfl, ?_⟩
        have z : setOneB (nI 115) n = true := by simp [setOneB, a]
        rw [z]
        exact ⟨rfl, rfl, rfl⟩
  refine q_iload_n dX5_setOne_0 (rfl : 0 + 1 = 1) rfl ?_
  refine q_bipush (v := nI 116) dX5_setOne_1 (rfl : 1 + 2 = 3) (by decide) ?_
  refine q_icmp_ne (q := 24) dX5_setOne_3 (by decide) (rfl : 3 + 3 = 6) (fun e => ?_) (fun e => ?_)
  ·
    exact k2 (Or.inl e)
  ·
    refine q_iload_n dX5_setOne_6 (rfl : 6 + 1 = 7) rfl ?_
    refine q_iconst (v := nI 1) dX5_setOne_7 (rfl : 7 + 1 = 8) (by decide) ?_
    refine q_bipush (v := nI 50) dX5_setOne_8 (rfl : 8 + 2 = 10) (by decide) ?_
    refine q_callSIp S_inside dX5_setOne_10 (rfl : 10 + 3 = 13) lX5_69 vX6_inside rfl rfl (Nat.le_of_ble_eq_true rfl) TM_room TM_cs ?_
    refine q_if_eq_b (q := 24) dX5_setOne_13 (by decide) (rfl : 13 + 3 = 16) (fun a => ?_) (fun a => ?_)
    ·
      exact k2 (Or.inr a)
    ·
      subst e
      refine q_aload_n dX5_setOne_16 (rfl : 16 + 1 = 17) rfl ?_
      refine q_iload_n dX5_setOne_17 (rfl : 17 + 1 = 18) rfl ?_
      refine q_putI dX5_setOne_18 (rfl : 18 + 3 = 21) pX5_37 (by first | rfl | assumption) ?_
      refine q_goto (q := 73) dX5_setOne_21 (by decide) ?_
      refine q_iconst (v := nI 1) dX5_setOne_73 (rfl : 73 + 1 = 74) (by decide) ?_
      refine q_zret rfl dX5_setOne_74 (by first | exact bI_01 _ | exact Or.inl rfl | exact Or.inr rfl) ⟨rfl, rfl, _, rfl, ?_⟩
      have z : setOneB (nI 116) n = true := by simp [setOneB, a]
      rw [z]
      exact ⟨rfl, rfl, rfl⟩
theorem S_costOf {d : Nat} {I : HI} {J : HJ} {i y : Nat} (hi : i < 12) (hy : I 5 i = nI y) (hy2 : y < 100) : MIp mX5_costOf d [.ref 4, .int (nI i)] shA I J RA (I 9 y) := by
  refine Mt.of (L := [some (.ref 4), some (.int (nI i))]) (by decide +kernel) (Nat.le_of_ble_eq_true rfl) rfl ?_
  refine q_aload_n dX5_costOf_0 (rfl : 0 + 1 = 1) rfl ?_
  refine q_getR dX5_costOf_1 (rfl : 1 + 3 = 4) fX5_24 (by first | rfl | assumption) (by first | rfl | assumption) ?_
  refine q_aload_n dX5_costOf_4 (rfl : 4 + 1 = 5) rfl ?_
  refine q_getR dX5_costOf_5 (rfl : 5 + 3 = 8) fX5_9 (by first | rfl | assumption) (by first | rfl | assumption) ?_
  refine q_iload_n dX5_costOf_8 (rfl : 8 + 1 = 9) rfl ?_
  refine q_iald dX5_costOf_9 (rfl : 9 + 1 = 10) (by first | rfl | assumption) (by first | assumption | omega) (by decide) ?_
  try simp (disch := omega) only [wr_hit, wr_p, wr_k, nI_add, pk_mul, nI_1, nI_s1, pk_sub, Nat.add_sub_cancel, hy]
  refine q_iald dX5_costOf_10 (rfl : 10 + 1 = 11) (by first | rfl | assumption) (by first | assumption | omega) (by decide) ?_
  try simp (disch := omega) only [wr_hit, wr_p, wr_k, nI_add, pk_mul, nI_1, nI_s1, pk_sub, Nat.add_sub_cancel, hy]
  refine q_iret rfl dX5_costOf_11 ⟨rfl, rfl, _, rfl, ?_⟩
  exact ⟨rfl, rfl, rfl⟩
def bearsB (I : HI) (high load : Int32) : Bool := decide (high ≤ nI 10 * I 4 1) && decide (load ≤ nI 10 * I 4 0)
theorem S_bears {d : Nat} {I : HI} {J : HJ} {high load : Int32} : MIp mX5_bears d [.ref 4, .int high, .int load] shA I J RA (bI (bearsB I high load)) := by
  refine Mt.of (L := [some (.ref 4), some (.int high), some (.int load)]) (by decide +kernel) (Nat.le_of_ble_eq_true rfl) rfl ?_
  refine q_iload_n dX5_bears_0 (rfl : 0 + 1 = 1) rfl ?_
  refine q_bipush (v := nI 10) dX5_bears_1 (rfl : 1 + 2 = 3) (by decide) ?_
  refine q_aload_n dX5_bears_3 (rfl : 3 + 1 = 4) rfl ?_
  refine q_getI dX5_bears_4 (rfl : 4 + 3 = 7) fX5_34 (by first | rfl | assumption) ?_
  refine q_imul dX5_bears_7 (rfl : 7 + 1 = 8) ?_
  refine q_icmp_gt (q := 26) dX5_bears_8 (by decide) (rfl : 8 + 3 = 11) (fun h1 => ?_) (fun h1 => ?_)
  ·
    refine q_iconst (v := nI 0) dX5_bears_26 (rfl : 26 + 1 = 27) (by decide) ?_
    refine q_zret rfl dX5_bears_27 (by first | exact bI_01 _ | exact Or.inl rfl | exact Or.inr rfl) ⟨rfl, rfl, _, rfl, ?_⟩
    have e : bearsB I high load = false := by simp [bearsB, Int32.not_le.mpr h1]
    rw [e]
    exact ⟨rfl, rfl, rfl⟩
  ·
    refine q_iload_n dX5_bears_11 (rfl : 11 + 1 = 12) rfl ?_
    refine q_bipush (v := nI 10) dX5_bears_12 (rfl : 12 + 2 = 14) (by decide) ?_
    refine q_aload_n dX5_bears_14 (rfl : 14 + 1 = 15) rfl ?_
    refine q_getI dX5_bears_15 (rfl : 15 + 3 = 18) fX5_30 (by first | rfl | assumption) ?_
    refine q_imul dX5_bears_18 (rfl : 18 + 1 = 19) ?_
    refine q_icmp_gt (q := 26) dX5_bears_19 (by decide) (rfl : 19 + 3 = 22) (fun h2 => ?_) (fun h2 => ?_)
    ·
      refine q_iconst (v := nI 0) dX5_bears_26 (rfl : 26 + 1 = 27) (by decide) ?_
      refine q_zret rfl dX5_bears_27 (by first | exact bI_01 _ | exact Or.inl rfl | exact Or.inr rfl) ⟨rfl, rfl, _, rfl, ?_⟩
      have e : bearsB I high load = false := by simp [bearsB, Int32.not_le.mpr h2]
      rw [e]
      exact ⟨rfl, rfl, rfl⟩
    ·
      refine q_iconst (v := nI 1) dX5_bears_22 (rfl : 22 + 1 = 23) (by decide) ?_
      refine q_goto (q := 27) dX5_bears_23 (by decide) ?_
      refine q_zret rfl dX5_bears_27 (by first | exact bI_01 _ | exact Or.inl rfl | exact Or.inr rfl) ⟨rfl, rfl, _, rfl, ?_⟩
      have e : bearsB I high load = true := by simp [bearsB, Int32.not_lt.mp h1, Int32.not_lt.mp h2]
      rw [e]
      exact ⟨rfl, rfl, rfl⟩
