/-! the class's public methods, one by one -/
def BarnAt (t : Nat) : Prop := shA[t]? = some (.inl 0) ∧ shA[t + 1]? = some (.inr (.int, 12)) ∧ shA[t + 2]? = some (.inr (.int, 12)) ∧ shA[t + 3]? = some (.inr (.int, 8)) ∧ shA[t + 4]? = some (.inr (.int, 8)) ∧ shA[t + 5]? = some (.inr (.int, 8)) ∧ RA t 1 = some (t + 1) ∧ RA t 2 = some (t + 2) ∧ RA t 5 = some (t + 3) ∧ RA t 6 = some (t + 4) ∧ RA t 7 = some (t + 5)
theorem barnAt {b : Nat} (h : b < 3) : BarnAt (16 + 6 * b) := by
  rcases (show b = 0 ∨ b = 1 ∨ b = 2 by omega) with rfl | rfl | rfl <;> exact ⟨rfl, rfl, rfl, rfl, rfl, rfl, rfl, rfl, rfl, rfl, rfl⟩
def cp1 (X : HI) (t o i : Nat) : HI := fun a k => if (a = t + 1 ∨ a = t + 2) ∧ k < i then X (o + (a - t)) k else X a k
def cp2 (X : HI) (t o i : Nat) : HI := fun a k => if (a = t + 3 ∨ a = t + 4 ∨ a = t + 5) ∧ k < i then X (o + (a - t)) k else X a k
theorem cp1_0 {X : HI} {t o : Nat} : cp1 X t o 0 = X := by funext a k; simp [cp1]
theorem cp2_0 {X : HI} {t o : Nat} : cp2 X t o 0 = X := by funext a k; simp [cp2]
theorem cp1_o {X : HI} {t o i a : Nat} (h : a ≠ t + 1 ∧ a ≠ t + 2) : cp1 X t o i a = X a := by
  funext k
  unfold cp1
  rw [if_neg (by omega)]
theorem cp2_o {X : HI} {t o i a : Nat} (h : a ≠ t + 3 ∧ a ≠ t + 4 ∧ a ≠ t + 5) : cp2 X t o i a = X a := by
  funext k
  unfold cp2
  rw [if_neg (by omega)]
theorem cp1_s {X : HI} {t o i : Nat} : wr (wr (cp1 X t o i) (t + 1) i (X (o + 1) i)) (t + 2) i (X (o + 2) i) = cp1 X t o (i + 1) := by
  funext a k
  unfold wr cp1
  by_cases hk : k = i
  · subst hk
    by_cases h2 : a = t + 2
    · subst h2; simp
    · by_cases h1 : a = t + 1
      · subst h1; simp
      · simp [h1, h2]
  · by_cases hl : k < i
    · simp [hk, hl, show k < i + 1 by omega]
    · simp [hk, hl, show ¬ k < i + 1 by omega]
theorem cp2_s {X : HI} {t o i : Nat} : wr (wr (wr (cp2 X t o i) (t + 3) i (X (o + 3) i)) (t + 4) i (X (o + 4) i)) (t + 5) i (X (o + 5) i) = cp2 X t o (i + 1) := by
  funext a k
  unfold wr cp2
  by_cases hk : k = i
  · subst hk
    by_cases h5 : a = t + 5
    · subst h5; simp
    · by_cases h4 : a = t + 4
      · subst h4; simp
      · by_cases h3 : a = t + 3
        · subst h3; simp
        · simp [h3, h4, h5]
  · by_cases hl : k < i
    · simp [hk, hl, show k < i + 1 by omega]
    · simp [hk, hl, show ¬ k < i + 1 by omega]
theorem L_copy1 {T : Tg} {X : HI} {J : HJ} {t o : Nat} (ht : BarnAt t) (ho : BarnAt o) (hd : t + 6 ≤ o ∨ o + 6 ≤ t) (K : Wm mX0_copyFrom T 0 0 shA 62 [some (.ref t), some (.ref o), none] [] (cp1 X t o 12) J RA) :
    ∀ (i : Nat), i ≤ 12 → Wm mX0_copyFrom T 0 0 shA 26 [some (.ref t), some (.ref o), some (.int (nI i))] [] (cp1 X t o i) J RA := by
  obtain ⟨t0, t1, t2, t3, t4, t5, u1, u2, u3, u4, u5⟩ := ht
  obtain ⟨o0, o1, o2, o3, o4, o5, v1, v2, v3, v4, v5⟩ := ho
  refine loopN (fun i hi ih => ?_)
  have e1 : cp1 X t o i (o + 1) = X (o + 1) := cp1_o (by omega)
  have e2 : cp1 X t o i (o + 2) = X (o + 2) := cp1_o (by omega)
  refine q_iload_n dX0_copyFrom_26 (rfl : 26 + 1 = 27) rfl ?_
  refine q_bipush (v := nI 12) dX0_copyFrom_27 (rfl : 27 + 2 = 29) (by decide) ?_
  refine q_icmp_ge_n (q := 62) (by omega) (by omega) dX0_copyFrom_29 (by decide) (rfl : 29 + 3 = 32) (fun h => ?_) (fun h => ?_)
  ·
    obtain rfl : i = 12 := by omega
    refine q_forget (L' := [some (.ref t), some (.ref o), none]) (by repeat (first | exact trivial | refine And.intro rfl ?_)) ?_
    exact K
  ·
    refine q_aload_n dX0_copyFrom_32 (rfl : 32 + 1 = 33) rfl ?_
    refine q_getR dX0_copyFrom_33 (rfl : 33 + 3 = 36) fX0_15 (by first | rfl | assumption) (by first | rfl | assumption) ?_
    refine q_iload_n dX0_copyFrom_36 (rfl : 36 + 1 = 37) rfl ?_
    refine q_aload_n dX0_copyFrom_37 (rfl : 37 + 1 = 38) rfl ?_
    refine q_getR dX0_copyFrom_38 (rfl : 38 + 3 = 41) fX0_15 (by first | rfl | assumption) (by first | rfl | assumption) ?_
    refine q_iload_n dX0_copyFrom_41 (rfl : 41 + 1 = 42) rfl ?_
    refine q_iald dX0_copyFrom_42 (rfl : 42 + 1 = 43) (by first | rfl | assumption) (by first | assumption | omega) (by decide) ?_
    try simp (disch := omega) only [wr_hit, wr_p, wr_k, nI_add, pk_mul, nI_1, nI_s1, pk_sub, Nat.add_sub_cancel, e1, e2]
    refine q_iast dX0_copyFrom_43 (rfl : 43 + 1 = 44) (by first | rfl | assumption) (by first | assumption | omega) (by decide) ?_
    refine q_aload_n dX0_copyFrom_44 (rfl : 44 + 1 = 45) rfl ?_
    refine q_getR dX0_copyFrom_45 (rfl : 45 + 3 = 48) fX0_19 (by first | rfl | assumption) (by first | rfl | assumption) ?_
    refine q_iload_n dX0_copyFrom_48 (rfl : 48 + 1 = 49) rfl ?_
    refine q_aload_n dX0_copyFrom_49 (rfl : 49 + 1 = 50) rfl ?_
    refine q_getR dX0_copyFrom_50 (rfl : 50 + 3 = 53) fX0_19 (by first | rfl | assumption) (by first | rfl | assumption) ?_
    refine q_iload_n dX0_copyFrom_53 (rfl : 53 + 1 = 54) rfl ?_
    refine q_iald dX0_copyFrom_54 (rfl : 54 + 1 = 55) (by first | rfl | assumption) (by first | assumption | omega) (by decide) ?_
    try simp (disch := omega) only [wr_hit, wr_p, wr_k, nI_add, pk_mul, nI_1, nI_s1, pk_sub, Nat.add_sub_cancel, e1, e2]
    refine q_iast dX0_copyFrom_55 (rfl : 55 + 1 = 56) (by first | rfl | assumption) (by first | assumption | omega) (by decide) ?_
    first | refine q_iinc1 dX0_copyFrom_56 (rfl : 56 + 3 = 59) rfl (by decide) ?_ | refine q_iinc dX0_copyFrom_56 (rfl : 56 + 3 = 59) rfl rfl (by decide) ?_
    refine q_goto (q := 26) dX0_copyFrom_59 (by decide) ?_
    rw [cp1_s]
    exact ih h
theorem L_copy2 {T : Tg} {X : HI} {J : HJ} {t o : Nat} (ht : BarnAt t) (ho : BarnAt o) (hd : t + 6 ≤ o ∨ o + 6 ≤ t) (K : Wm mX0_copyFrom T 0 0 shA 112 [some (.ref t), some (.ref o), none] [] (cp2 X t o 8) J RA) :
    ∀ (i : Nat), i ≤ 8 → Wm mX0_copyFrom T 0 0 shA 64 [some (.ref t), some (.ref o), some (.int (nI i))] [] (cp2 X t o i) J RA := by
  obtain ⟨t0, t1, t2, t3, t4, t5, u1, u2, u3, u4, u5⟩ := ht
  obtain ⟨o0, o1, o2, o3, o4, o5, v1, v2, v3, v4, v5⟩ := ho
  refine loopN (fun i hi ih => ?_)
  have e1 : cp2 X t o i (o + 3) = X (o + 3) := cp2_o (by omega)
  have e2 : cp2 X t o i (o + 4) = X (o + 4) := cp2_o (by omega)
  have e3 : cp2 X t o i (o + 5) = X (o + 5) := cp2_o (by omega)
  refine q_iload_n dX0_copyFrom_64 (rfl : 64 + 1 = 65) rfl ?_
  refine q_bipush (v := nI 8) dX0_copyFrom_65 (rfl : 65 + 2 = 67) (by decide) ?_
  refine q_icmp_ge_n (q := 112) (by omega) (by omega) dX0_copyFrom_67 (by decide) (rfl : 67 + 3 = 70) (fun h => ?_) (fun h => ?_)
  ·
    obtain rfl : i = 8 := by omega
    refine q_forget (L' := [some (.ref t), some (.ref o), none]) (by repeat (first | exact trivial | refine And.intro rfl ?_)) ?_
    exact K
  ·
    refine q_aload_n dX0_copyFrom_70 (rfl : 70 + 1 = 71) rfl ?_
    refine q_getR dX0_copyFrom_71 (rfl : 71 + 3 = 74) fX0_28 (by first | rfl | assumption) (by first | rfl | assumption) ?_
    refine q_iload_n dX0_copyFrom_74 (rfl : 74 + 1 = 75) rfl ?_
    refine q_aload_n dX0_copyFrom_75 (rfl : 75 + 1 = 76) rfl ?_
    refine q_getR dX0_copyFrom_76 (rfl : 76 + 3 = 79) fX0_28 (by first | rfl | assumption) (by first | rfl | assumption) ?_
    refine q_iload_n dX0_copyFrom_79 (rfl : 79 + 1 = 80) rfl ?_
    refine q_iald dX0_copyFrom_80 (rfl : 80 + 1 = 81) (by first | rfl | assumption) (by first | assumption | omega) (by decide) ?_
    try simp (disch := omega) only [wr_hit, wr_p, wr_k, nI_add, pk_mul, nI_1, nI_s1, pk_sub, Nat.add_sub_cancel, e1, e2, e3]
    refine q_iast dX0_copyFrom_81 (rfl : 81 + 1 = 82) (by first | rfl | assumption) (by first | assumption | omega) (by decide) ?_
    refine q_aload_n dX0_copyFrom_82 (rfl : 82 + 1 = 83) rfl ?_
    refine q_getR dX0_copyFrom_83 (rfl : 83 + 3 = 86) fX0_31 (by first | rfl | assumption) (by first | rfl | assumption) ?_
    refine q_iload_n dX0_copyFrom_86 (rfl : 86 + 1 = 87) rfl ?_
    refine q_aload_n dX0_copyFrom_87 (rfl : 87 + 1 = 88) rfl ?_
    refine q_getR dX0_copyFrom_88 (rfl : 88 + 3 = 91) fX0_31 (by first | rfl | assumption) (by first | rfl | assumption) ?_
    refine q_iload_n dX0_copyFrom_91 (rfl : 91 + 1 = 92) rfl ?_
    refine q_iald dX0_copyFrom_92 (rfl : 92 + 1 = 93) (by first | rfl | assumption) (by first | assumption | omega) (by decide) ?_
    try simp (disch := omega) only [wr_hit, wr_p, wr_k, nI_add, pk_mul, nI_1, nI_s1, pk_sub, Nat.add_sub_cancel, e1, e2, e3]
    refine q_iast dX0_copyFrom_93 (rfl : 93 + 1 = 94) (by first | rfl | assumption) (by first | assumption | omega) (by decide) ?_
    refine q_aload_n dX0_copyFrom_94 (rfl : 94 + 1 = 95) rfl ?_
    refine q_getR dX0_copyFrom_95 (rfl : 95 + 3 = 98) fX0_34 (by first | rfl | assumption) (by first | rfl | assumption) ?_
    refine q_iload_n dX0_copyFrom_98 (rfl : 98 + 1 = 99) rfl ?_
    refine q_aload_n dX0_copyFrom_99 (rfl : 99 + 1 = 100) rfl ?_
    refine q_getR dX0_copyFrom_100 (rfl : 100 + 3 = 103) fX0_34 (by first | rfl | assumption) (by first | rfl | assumption) ?_
    refine q_iload_n dX0_copyFrom_103 (rfl : 103 + 1 = 104) rfl ?_
    refine q_iald dX0_copyFrom_104 (rfl : 104 + 1 = 105) (by first | rfl | assumption) (by first | assumption | omega) (by decide) ?_
    try simp (disch := omega) only [wr_hit, wr_p, wr_k, nI_add, pk_mul, nI_1, nI_s1, pk_sub, Nat.add_sub_cancel, e1, e2, e3]
    refine q_iast dX0_copyFrom_105 (rfl : 105 + 1 = 106) (by first | rfl | assumption) (by first | assumption | omega) (by decide) ?_
    first | refine q_iinc1 dX0_copyFrom_106 (rfl : 106 + 3 = 109) rfl (by decide) ?_ | refine q_iinc dX0_copyFrom_106 (rfl : 106 + 3 = 109) rfl rfl (by decide) ?_
    refine q_goto (q := 64) dX0_copyFrom_109 (by decide) ?_
    rw [cp2_s]
    exact ih h
def cpH (I : HI) (t o : Nat) : HI := cp2 (cp1 (wr (wr (wr I t 0 (I o 0)) t 3 (I o 3)) t 4 (I o 4)) t o 12) t o 8
theorem S_copyFrom {d : Nat} {I : HI} {J : HJ} {t o : Nat} (ht : BarnAt t) (ho : BarnAt o) (hd : t + 6 ≤ o ∨ o + 6 ≤ t) : MV mX0_copyFrom d [.ref t, .ref o] shA I J RA (fun I' J' => I' = cpH I t o ∧ J' = J) := by
  obtain ⟨t0, t1, t2, t3, t4, t5, u1, u2, u3, u4, u5⟩ := id ht
  obtain ⟨o0, o1, o2, o3, o4, o5, v1, v2, v3, v4, v5⟩ := id ho
  refine Mt.of (L := [some (.ref t), some (.ref o), none]) (by decide +kernel) (Nat.le_of_ble_eq_true rfl) rfl ?_
  refine q_aload_n dX0_copyFrom_0 (rfl : 0 + 1 = 1) rfl ?_
  refine q_aload_n dX0_copyFrom_1 (rfl : 1 + 1 = 2) rfl ?_
  refine q_getI dX0_copyFrom_2 (rfl : 2 + 3 = 5) fX0_9 (by first | rfl | assumption) ?_
  try simp (disch := omega) only [wr_hit, wr_p, wr_k, nI_add, pk_mul, nI_1, nI_s1, pk_sub, Nat.add_sub_cancel]
  refine q_putI dX0_copyFrom_5 (rfl : 5 + 3 = 8) pX0_9 (by first | rfl | assumption) ?_
  refine q_aload_n dX0_copyFrom_8 (rfl : 8 + 1 = 9) rfl ?_
  refine q_aload_n dX0_copyFrom_9 (rfl : 9 + 1 = 10) rfl ?_
  refine q_getI dX0_copyFrom_10 (rfl : 10 + 3 = 13) fX0_22 (by first | rfl | assumption) ?_
  try simp (disch := omega) only [wr_hit, wr_p, wr_k, nI_add, pk_mul, nI_1, nI_s1, pk_sub, Nat.add_sub_cancel]
  refine q_putI dX0_copyFrom_13 (rfl : 13 + 3 = 16) pX0_22 (by first | rfl | assumption) ?_
  refine q_aload_n dX0_copyFrom_16 (rfl : 16 + 1 = 17) rfl ?_
  refine q_aload_n dX0_copyFrom_17 (rfl : 17 + 1 = 18) rfl ?_
  refine q_getI dX0_copyFrom_18 (rfl : 18 + 3 = 21) fX0_25 (by first | rfl | assumption) ?_
  try simp (disch := omega) only [wr_hit, wr_p, wr_k, nI_add, pk_mul, nI_1, nI_s1, pk_sub, Nat.add_sub_cancel]
  refine q_putI dX0_copyFrom_21 (rfl : 21 + 3 = 24) pX0_25 (by first | rfl | assumption) ?_
  refine q_iconst (v := nI 0) dX0_copyFrom_24 (rfl : 24 + 1 = 25) (by decide) ?_
  refine q_istore_n dX0_copyFrom_25 (rfl : 25 + 1 = 26) (by decide) ?_
  rw [← cp1_0 (X := wr (wr (wr I t 0 (I o 0)) t 3 (I o 3)) t 4 (I o 4)) (t := t) (o := o)]
  refine L_copy1 ht ho hd ?_ 0 (by omega)
  refine q_iconst (v := nI 0) dX0_copyFrom_62 (rfl : 62 + 1 = 63) (by decide) ?_
  refine q_istore_n dX0_copyFrom_63 (rfl : 63 + 1 = 64) (by decide) ?_
  rw [← cp2_0 (X := cp1 (wr (wr (wr I t 0 (I o 0)) t 3 (I o 3)) t 4 (I o 4)) t o 12) (t := t) (o := o)]
  refine L_copy2 ht ho hd ?_ 0 (by omega)
  refine q_vret rfl dX0_copyFrom_112 ⟨rfl, rfl, rfl, ?_⟩
  exact ⟨rfl, rfl⟩
theorem bad_t {n : Int32} {a b : Int32} (h : inr n a b = false) : bI (inr n a b) = bI false := by rw [h]
theorem S_write_bad {d : Nat} {I : HI} {J : HJ} {n : Int32} {v : Int64} (h : inr n (nI 1) (nI 8) = false) : MIp mX6_write (d + 1) [.ref 0, .int n, .long v] shA I J RA (-1) := by
  refine Mt.of (L := [some (.ref 0), some (.int n), some (.long v), none]) (by decide +kernel) (Nat.le_of_ble_eq_true rfl) rfl ?_
  refine q_iload_n dX6_write_0 (rfl : 0 + 1 = 1) rfl ?_
  refine q_iconst (v := nI 1) dX6_write_1 (rfl : 1 + 1 = 2) (by decide) ?_
  refine q_bipush (v := nI 8) dX6_write_2 (rfl : 2 + 2 = 4) (by decide) ?_
  refine q_callSIp S_inside dX6_write_4 (rfl : 4 + 3 = 7) lX6_68 vX6_inside rfl rfl (Nat.le_of_ble_eq_true rfl) TM_room TM_cs ?_
  refine q_if_ne_b (q := 12) dX6_write_7 (by decide) (rfl : 7 + 3 = 10) (fun h2 => ?_) (fun h2 => ?_)
  · rw [h] at h2; cases h2
  ·
    refine q_iconst (v := -1) dX6_write_10 (rfl : 10 + 1 = 11) (by decide) ?_
    refine q_iret rfl dX6_write_11 ⟨rfl, rfl, _, rfl, ?_⟩
    exact ⟨rfl, rfl, rfl⟩
theorem S_write {d nt n : Nat} {I : HI} {J : HJ} {v : Int64} (ht : I 1 1 = nI nt) (h4 : nt ≤ 400) (h1 : 1 ≤ n) (h8 : n ≤ 8) : MI mX6_write (d + 1) [.ref 0, .int (nI n), .long v] shA I J RA (fun x I' J' => x = (if nt + n ≤ 400 then nI (nt + n) else -3) ∧ I' = (if nt + n ≤ 400 then appH I nt n v n else I) ∧ J' = J) := by
  refine Mt.of (L := [some (.ref 0), some (.int (nI n)), some (.long v), none]) (by decide +kernel) (Nat.le_of_ble_eq_true rfl) rfl ?_
  refine q_iload_n dX6_write_0 (rfl : 0 + 1 = 1) rfl ?_
  refine q_iconst (v := nI 1) dX6_write_1 (rfl : 1 + 1 = 2) (by decide) ?_
  refine q_bipush (v := nI 8) dX6_write_2 (rfl : 2 + 2 = 4) (by decide) ?_
  refine q_callSIp S_inside dX6_write_4 (rfl : 4 + 3 = 7) lX6_68 vX6_inside rfl rfl (Nat.le_of_ble_eq_true rfl) TM_room TM_cs ?_
  refine q_if_ne_b (q := 12) dX6_write_7 (by decide) (rfl : 7 + 3 = 10) (fun h2 => ?_) (fun h2 => ?_)
  ·
    refine q_aload_n dX6_write_12 (rfl : 12 + 1 = 13) rfl ?_
    refine q_getR dX6_write_13 (rfl : 13 + 3 = 16) fX6_10 (by first | rfl | assumption) (by first | rfl | assumption) ?_
    refine q_iload_n dX6_write_16 (rfl : 16 + 1 = 17) rfl ?_
    refine q_lload_n dX6_write_17 (rfl : 17 + 1 = 18) rfl ?_
    refine q_callVI (S_append (d := d) (v := v) ht h4 h8) dX6_write_18 (rfl : 18 + 3 = 21) lX6_72 vX3_append (by first | rfl | assumption) rfl rfl (Nat.le_of_ble_eq_true rfl) TM_room TM_cs ?_
    intro x I1 J1 hp
    obtain ⟨rfl, rfl, rfl⟩ := hp
    refine q_if_eq_b (q := 34) dX6_write_21 (by decide) (rfl : 21 + 3 = 24) (fun h3 => ?_) (fun h3 => ?_)
    ·
      have h3' : ¬ nt + n ≤ 400 := by simpa using h3
      rw [h3]
      refine q_bipush (v := -3) dX6_write_34 (rfl : 34 + 2 = 36) (by decide) ?_
      refine q_iret rfl dX6_write_36 ⟨rfl, rfl, _, rfl, ?_⟩
      rw [if_neg h3', if_neg h3']
      exact ⟨rfl, rfl, rfl⟩
    ·
      have h3' : nt + n ≤ 400 := by simpa using h3
      rw [h3]
      refine q_aload_n dX6_write_24 (rfl : 24 + 1 = 25) rfl ?_
      refine q_getR dX6_write_25 (rfl : 25 + 3 = 28) fX6_10 (by first | rfl | assumption) (by first | rfl | assumption) ?_
      refine q_getI dX6_write_28 (rfl : 28 + 3 = 31) fX6_76 (by first | rfl | assumption) ?_
      refine q_goto (q := 36) dX6_write_31 (by decide) ?_
      refine q_iret rfl dX6_write_36 ⟨rfl, rfl, _, rfl, ?_⟩
      rw [if_pos h3', if_pos h3']
      exact ⟨appH_len, rfl, rfl⟩
  ·
    rw [inr_of h1 h8 (by decide)] at h2
    cases h2
theorem S_wipe {d : Nat} {I : HI} {J : HJ} : MI mX6_wipe (d + 1) [.ref 0] shA I J RA (fun x I' J' => x = I 1 1 ∧ I' = wr I 1 1 (nI 0) ∧ J' = J) := by
  refine Mt.of (L := [some (.ref 0)]) (by decide +kernel) (Nat.le_of_ble_eq_true rfl) rfl ?_
  refine q_aload_n dX6_wipe_0 (rfl : 0 + 1 = 1) rfl ?_
  refine q_getR dX6_wipe_1 (rfl : 1 + 3 = 4) fX6_10 (by first | rfl | assumption) (by first | rfl | assumption) ?_
  refine q_callVI (S_tclear (d := d)) dX6_wipe_4 (rfl : 4 + 3 = 7) lX6_79 vX3_clear (by first | rfl | assumption) rfl rfl (Nat.le_of_ble_eq_true rfl) TM_room TM_cs ?_
  intro x I1 J1 hp
  refine q_iret rfl dX6_wipe_7 ⟨rfl, rfl, _, rfl, ?_⟩
  exact hp
theorem S_fault {d len : Nat} {I : HI} {J : HJ} (hl : I 1 1 = nI len) (h400 : len ≤ 400) : MI mX6_fault (d + 6) [.ref 0] shA I J RA (fun x I' J' => (x, I') = scanC (I 2) len len (forgetT I 10) 0 0 0 0 0 ∧ J' = J) := by
  refine Mt.of (L := [some (.ref 0)]) (by decide +kernel) (Nat.le_of_ble_eq_true rfl) rfl ?_
  refine q_aload_n dX6_fault_0 (rfl : 0 + 1 = 1) rfl ?_
  refine q_getR dX6_fault_1 (rfl : 1 + 3 = 4) fX6_10 (by first | rfl | assumption) (by first | rfl | assumption) ?_
  refine q_aload_n dX6_fault_4 (rfl : 4 + 1 = 5) rfl ?_
  refine q_getR dX6_fault_5 (rfl : 5 + 3 = 8) fX6_23 (by first | rfl | assumption) (by first | rfl | assumption) ?_
  refine q_callVI (S_tellTo (d := d) hl h400) dX6_fault_8 (rfl : 8 + 3 = 11) lX6_83 vX3_tellTo (by first | rfl | assumption) rfl rfl (Nat.le_of_ble_eq_true rfl) TM_room TM_cs ?_
  intro x I1 J1 hp
  refine q_iret rfl dX6_fault_11 ⟨rfl, rfl, _, rfl, ?_⟩
  exact hp
theorem S_lay_no {d len n : Nat} {I : HI} {J : HJ} (hl : I 1 1 = nI len) (h400 : len ≤ 400) (hn : (scanC (I 2) len len (forgetT I 10) 0 0 0 0 0).2 10 5 = nI n) (h12 : n ≤ 12) (h : (scanC (I 2) len len (forgetT I 10) 0 0 0 0 0).1 ≠ -4 ∨ n = 0) : MI mX6_lay (d + 6) [.ref 0] shA I J RA (fun x I' J' => x = -2 ∧ I' = (scanC (I 2) len len (forgetT I 10) 0 0 0 0 0).2 ∧ J' = J) := by
  refine Mt.of (L := [some (.ref 0), none]) (by decide +kernel) (Nat.le_of_ble_eq_true rfl) rfl ?_
  refine q_aload_n dX6_lay_0 (rfl : 0 + 1 = 1) rfl ?_
  refine q_getR dX6_lay_1 (rfl : 1 + 3 = 4) fX6_10 (by first | rfl | assumption) (by first | rfl | assumption) ?_
  refine q_aload_n dX6_lay_4 (rfl : 4 + 1 = 5) rfl ?_
  refine q_getR dX6_lay_5 (rfl : 5 + 3 = 8) fX6_23 (by first | rfl | assumption) (by first | rfl | assumption) ?_
  refine q_callVI (S_tellTo (d := d) hl h400) dX6_lay_8 (rfl : 8 + 3 = 11) lX6_83 vX3_tellTo (by first | rfl | assumption) rfl rfl (Nat.le_of_ble_eq_true rfl) TM_room TM_cs ?_
  intro x I1 J1 hp
  obtain ⟨e, rfl⟩ := hp
  rw [← e] at h hn ⊢
  refine q_bipush (v := -4) dX6_lay_11 (rfl : 11 + 2 = 13) (by decide) ?_
  refine q_icmp_ne (q := 26) dX6_lay_13 (by decide) (rfl : 13 + 3 = 16) (fun q => ?_) (fun q => ?_)
  ·
    refine q_bipush (v := -2) dX6_lay_26 (rfl : 26 + 2 = 28) (by decide) ?_
    refine q_iret rfl dX6_lay_28 ⟨rfl, rfl, _, rfl, ?_⟩
    exact ⟨rfl, rfl, rfl⟩
  ·
    have hn2 : I1 10 5 = nI n := hn
    obtain rfl : n = 0 := h.resolve_left (fun z => z q)
    refine q_aload_n dX6_lay_16 (rfl : 16 + 1 = 17) rfl ?_
    refine q_getR dX6_lay_17 (rfl : 17 + 3 = 20) fX6_23 (by first | rfl | assumption) (by first | rfl | assumption) ?_
    refine q_getI dX6_lay_20 (rfl : 20 + 3 = 23) fX6_87 (by first | rfl | assumption) ?_
    try simp (disch := omega) only [wr_hit, wr_p, wr_k, nI_add, pk_mul, nI_1, nI_s1, pk_sub, Nat.add_sub_cancel, hn2]
    refine q_if_ne_n (q := 29) (by omega) dX6_lay_23 (by decide) (rfl : 23 + 3 = 26) (fun q2 => ?_) (fun q2 => ?_)
    · omega
    ·
      refine q_bipush (v := -2) dX6_lay_26 (rfl : 26 + 2 = 28) (by decide) ?_
      refine q_iret rfl dX6_lay_28 ⟨rfl, rfl, _, rfl, ?_⟩
      exact ⟨rfl, rfl, rfl⟩
def layH (X : HI) : HI := wr (wr (wr (wr (wr X 16 0 (nI 0)) 16 3 (nI 0)) 16 4 (nI 0)) 0 6 (nI 0)) 34 1 (nI 0)
def RL2 : HR := wr (wr RA 0 1 (some 10)) 0 2 (some 4)
theorem S_lay_ok {d len n : Nat} {I : HI} {J : HJ} (hl : I 1 1 = nI len) (h400 : len ≤ 400) (hn : (scanC (I 2) len len (forgetT I 10) 0 0 0 0 0).2 10 5 = nI n) (h12 : n ≤ 12) (h : (scanC (I 2) len len (forgetT I 10) 0 0 0 0 0).1 = -4) (h0 : 0 < n) : Mt mX6_lay (d + 6) 0 0 false [.ref 0] shA I J RA (fun sh' v I' J' R' => sh' = shA ∧ R' = RL2 ∧ v = some (.int (nI n)) ∧ I' = layH (scanC (I 2) len len (forgetT I 10) 0 0 0 0 0).2 ∧ J' = J) := by
  refine Mt.of (L := [some (.ref 0), none]) (by decide +kernel) (Nat.le_of_ble_eq_true rfl) rfl ?_
  refine q_aload_n dX6_lay_0 (rfl : 0 + 1 = 1) rfl ?_
  refine q_getR dX6_lay_1 (rfl : 1 + 3 = 4) fX6_10 (by first | rfl | assumption) (by first | rfl | assumption) ?_
  refine q_aload_n dX6_lay_4 (rfl : 4 + 1 = 5) rfl ?_
  refine q_getR dX6_lay_5 (rfl : 5 + 3 = 8) fX6_23 (by first | rfl | assumption) (by first | rfl | assumption) ?_
  refine q_callVI (S_tellTo (d := d) hl h400) dX6_lay_8 (rfl : 8 + 3 = 11) lX6_83 vX3_tellTo (by first | rfl | assumption) rfl rfl (Nat.le_of_ble_eq_true rfl) TM_room TM_cs ?_
  intro x I1 J1 hp
  obtain ⟨e, rfl⟩ := hp
  rw [← e] at h hn ⊢
  have hn2 : I1 10 5 = nI n := hn
  refine q_bipush (v := -4) dX6_lay_11 (rfl : 11 + 2 = 13) (by decide) ?_
  refine q_icmp_ne (q := 26) dX6_lay_13 (by decide) (rfl : 13 + 3 = 16) (fun q => ?_) (fun q => ?_)
  · exact absurd h q
  ·
    refine q_aload_n dX6_lay_16 (rfl : 16 + 1 = 17) rfl ?_
    refine q_getR dX6_lay_17 (rfl : 17 + 3 = 20) fX6_23 (by first | rfl | assumption) (by first | rfl | assumption) ?_
    refine q_getI dX6_lay_20 (rfl : 20 + 3 = 23) fX6_87 (by first | rfl | assumption) ?_
    try simp (disch := omega) only [wr_hit, wr_p, wr_k, nI_add, pk_mul, nI_1, nI_s1, pk_sub, Nat.add_sub_cancel, hn2]
    refine q_if_ne_n (q := 29) (by omega) dX6_lay_23 (by decide) (rfl : 23 + 3 = 26) (fun q2 => ?_) (fun q2 => ?_)
    ·
      refine q_aload_n dX6_lay_29 (rfl : 29 + 1 = 30) rfl ?_
      refine q_getR dX6_lay_30 (rfl : 30 + 3 = 33) fX6_19 (by first | rfl | assumption) (by first | rfl | assumption) ?_
      refine q_astore_n dX6_lay_33 (rfl : 33 + 1 = 34) (by decide) ?_
      refine q_aload_n dX6_lay_34 (rfl : 34 + 1 = 35) rfl ?_
      refine q_aload_n dX6_lay_35 (rfl : 35 + 1 = 36) rfl ?_
      refine q_getR dX6_lay_36 (rfl : 36 + 3 = 39) fX6_23 (by first | rfl | assumption) (by first | rfl | assumption) ?_
      refine q_putR dX6_lay_39 (rfl : 39 + 3 = 42) pX6_19 rfl (fun h => by cases h) (by first | rfl | assumption) ?_
      refine q_aload_n dX6_lay_42 (rfl : 42 + 1 = 43) rfl ?_
      refine q_aload_n dX6_lay_43 (rfl : 43 + 1 = 44) rfl ?_
      refine q_putR dX6_lay_44 (rfl : 44 + 3 = 47) pX6_23 rfl (fun h => by cases h) (by first | rfl | assumption) ?_
      refine q_aload_n dX6_lay_47 (rfl : 47 + 1 = 48) rfl ?_
      refine q_getR dX6_lay_48 (rfl : 48 + 3 = 51) fX6_29 (by first | rfl | assumption) (by first | rfl | assumption) ?_
      refine q_callVV (S_clear (d := d + 5)) dX6_lay_51 (rfl : 51 + 3 = 54) lX6_90 vX0_clear (by first | rfl | assumption) rfl rfl (Nat.le_of_ble_eq_true rfl) TM_room TM_cs ?_
      intro I2 J2 hp
      obtain ⟨rfl, rfl⟩ := hp
      refine q_aload_n dX6_lay_54 (rfl : 54 + 1 = 55) rfl ?_
      refine q_iconst (v := nI 0) dX6_lay_55 (rfl : 55 + 1 = 56) (by decide) ?_
      refine q_putI dX6_lay_56 (rfl : 56 + 3 = 59) pX6_39 (by first | rfl | assumption) ?_
      refine q_aload_n dX6_lay_59 (rfl : 59 + 1 = 60) rfl ?_
      refine q_getR dX6_lay_60 (rfl : 60 + 3 = 63) fX6_46 (by first | rfl | assumption) (by first | rfl | assumption) ?_
      refine q_callVI (S_mclear (d := d + 5)) dX6_lay_63 (rfl : 63 + 3 = 66) lX6_92 vX2_clear (by first | rfl | assumption) rfl rfl (Nat.le_of_ble_eq_true rfl) TM_room TM_cs ?_
      intro x2 I2 J2 hp
      obtain ⟨rfl, rfl, rfl⟩ := hp
      refine q_pop dX6_lay_66 (rfl : 66 + 1 = 67) rfl ?_
      refine q_aload_n dX6_lay_67 (rfl : 67 + 1 = 68) rfl ?_
      refine q_getR dX6_lay_68 (rfl : 68 + 3 = 71) fX6_19 (by first | rfl | assumption) (by first | rfl | assumption) ?_
      refine q_getI dX6_lay_71 (rfl : 71 + 3 = 74) fX6_87 (by first | rfl | assumption) ?_
      try simp (disch := omega) only [wr_hit, wr_p, wr_k, nI_add, pk_mul, nI_1, nI_s1, pk_sub, Nat.add_sub_cancel, hn2]
      exact q_iret rfl dX6_lay_74 ⟨rfl, rfl, rfl, rfl, rfl⟩
    · omega
theorem S_falls_bad {d nf : Nat} {I : HI} {J : HJ} {i w : Int32} (hf : I 4 5 = nI nf) (h : inr i (nI 0) (nI nf - nI 1) = false) : MIp mX6_falls (d + 1) [.ref 0, .int i, .int w] shA I J RA (-1) := by
  refine Mt.of (L := [some (.ref 0), some (.int i), some (.int w)]) (by decide +kernel) (Nat.le_of_ble_eq_true rfl) rfl ?_
  refine q_iload_n dX6_falls_0 (rfl : 0 + 1 = 1) rfl ?_
  refine q_iconst (v := nI 0) dX6_falls_1 (rfl : 1 + 1 = 2) (by decide) ?_
  refine q_aload_n dX6_falls_2 (rfl : 2 + 1 = 3) rfl ?_
  refine q_getR dX6_falls_3 (rfl : 3 + 3 = 6) fX6_19 (by first | rfl | assumption) (by first | rfl | assumption) ?_
  refine q_getI dX6_falls_6 (rfl : 6 + 3 = 9) fX6_87 (by first | rfl | assumption) ?_
  refine q_iconst (v := nI 1) dX6_falls_9 (rfl : 9 + 1 = 10) (by decide) ?_
  rw [hf]
  refine q_isub dX6_falls_10 (rfl : 10 + 1 = 11) ?_
  refine q_callSIp S_inside dX6_falls_11 (rfl : 11 + 3 = 14) lX6_68 vX6_inside rfl rfl (Nat.le_of_ble_eq_true rfl) TM_room TM_cs ?_
  refine q_if_ne_b (q := 19) dX6_falls_14 (by decide) (rfl : 14 + 3 = 17) (fun h2 => ?_) (fun h2 => ?_)
  · rw [h] at h2; cases h2
  ·
    refine q_iconst (v := -1) dX6_falls_17 (rfl : 17 + 1 = 18) (by decide) ?_
    refine q_iret rfl dX6_falls_18 ⟨rfl, rfl, _, rfl, ?_⟩
    exact ⟨rfl, rfl, rfl⟩
def fallsV (I : HI) (j y w : Nat) : Int32 := match w with
  | 0 => I 5 j
  | 1 => I 6 j
  | 2 => I 7 j
  | 3 => I 8 j
  | _ => I 9 y
theorem in0 {j n : Nat} (h : j < n) (hn : n < 2 ^ 31) : inr (nI j) (nI 0) (nI n - nI 1) = true := by
  rw [pk_sub (show 1 ≤ n by omega)]
  exact inr_of (by omega) (by omega) (by omega)
theorem S_falls {d nf j y w : Nat} {I : HI} {J : HJ} (hf : I 4 5 = nI nf) (h12 : nf ≤ 12) (hj : j < nf) (hy : I 5 j = nI y) (hy2 : y < 100) (hw : w ≤ 4) : MIp mX6_falls (d + 1) [.ref 0, .int (nI j), .int (nI w)] shA I J RA (fallsV I j y w) := by
  refine Mt.of (L := [some (.ref 0), some (.int (nI j)), some (.int (nI w))]) (by decide +kernel) (Nat.le_of_ble_eq_true rfl) rfl ?_
  refine q_iload_n dX6_falls_0 (rfl : 0 + 1 = 1) rfl ?_
  refine q_iconst (v := nI 0) dX6_falls_1 (rfl : 1 + 1 = 2) (by decide) ?_
  refine q_aload_n dX6_falls_2 (rfl : 2 + 1 = 3) rfl ?_
  refine q_getR dX6_falls_3 (rfl : 3 + 3 = 6) fX6_19 (by first | rfl | assumption) (by first | rfl | assumption) ?_
  refine q_getI dX6_falls_6 (rfl : 6 + 3 = 9) fX6_87 (by first | rfl | assumption) ?_
  refine q_iconst (v := nI 1) dX6_falls_9 (rfl : 9 + 1 = 10) (by decide) ?_
  rw [hf]
  refine q_isub dX6_falls_10 (rfl : 10 + 1 = 11) ?_
  refine q_callSIp S_inside dX6_falls_11 (rfl : 11 + 3 = 14) lX6_68 vX6_inside rfl rfl (Nat.le_of_ble_eq_true rfl) TM_room TM_cs ?_
  refine q_if_ne_b (q := 19) dX6_falls_14 (by decide) (rfl : 14 + 3 = 17) (fun h2 => ?_) (fun h2 => ?_)
  ·
    refine q_iload_n dX6_falls_19 (rfl : 19 + 1 = 20) rfl ?_
    rcases (show w = 0 ∨ w = 1 ∨ w = 2 ∨ w = 3 ∨ w = 4 by omega) with rfl | rfl | rfl | rfl | rfl
    · refine q_tableIn (off := 36) (q := 56) dX6_falls_20 (by decide) (by decide) (by decide) (by decide) ?_
      refine q_aload_n dX6_falls_56 (rfl : 56 + 1 = 57) rfl ?_
      refine q_getR dX6_falls_57 (rfl : 57 + 3 = 60) fX6_19 (by first | rfl | assumption) (by first | rfl | assumption) ?_
      refine q_getR dX6_falls_60 (rfl : 60 + 3 = 63) fX6_93 (by first | rfl | assumption) (by first | rfl | assumption) ?_
      refine q_iload_n dX6_falls_63 (rfl : 63 + 1 = 64) rfl ?_
      refine q_iald dX6_falls_64 (rfl : 64 + 1 = 65) (by first | rfl | assumption) (by first | assumption | omega) (by decide) ?_
      refine q_iret rfl dX6_falls_65 ⟨rfl, rfl, _, rfl, ?_⟩
      exact ⟨rfl, rfl, rfl⟩
    · refine q_tableIn (off := 46) (q := 66) dX6_falls_20 (by decide) (by decide) (by decide) (by decide) ?_
      refine q_aload_n dX6_falls_66 (rfl : 66 + 1 = 67) rfl ?_
      refine q_getR dX6_falls_67 (rfl : 67 + 3 = 70) fX6_19 (by first | rfl | assumption) (by first | rfl | assumption) ?_
      refine q_getR dX6_falls_70 (rfl : 70 + 3 = 73) fX6_97 (by first | rfl | assumption) (by first | rfl | assumption) ?_
      refine q_iload_n dX6_falls_73 (rfl : 73 + 1 = 74) rfl ?_
      refine q_iald dX6_falls_74 (rfl : 74 + 1 = 75) (by first | rfl | assumption) (by first | assumption | omega) (by decide) ?_
      refine q_iret rfl dX6_falls_75 ⟨rfl, rfl, _, rfl, ?_⟩
      exact ⟨rfl, rfl, rfl⟩
    · refine q_tableIn (off := 56) (q := 76) dX6_falls_20 (by decide) (by decide) (by decide) (by decide) ?_
      refine q_aload_n dX6_falls_76 (rfl : 76 + 1 = 77) rfl ?_
      refine q_getR dX6_falls_77 (rfl : 77 + 3 = 80) fX6_19 (by first | rfl | assumption) (by first | rfl | assumption) ?_
      refine q_getR dX6_falls_80 (rfl : 80 + 3 = 83) fX6_100 (by first | rfl | assumption) (by first | rfl | assumption) ?_
      refine q_iload_n dX6_falls_83 (rfl : 83 + 1 = 84) rfl ?_
      refine q_iald dX6_falls_84 (rfl : 84 + 1 = 85) (by first | rfl | assumption) (by first | assumption | omega) (by decide) ?_
      refine q_iret rfl dX6_falls_85 ⟨rfl, rfl, _, rfl, ?_⟩
      exact ⟨rfl, rfl, rfl⟩
    · refine q_tableIn (off := 66) (q := 86) dX6_falls_20 (by decide) (by decide) (by decide) (by decide) ?_
      refine q_aload_n dX6_falls_86 (rfl : 86 + 1 = 87) rfl ?_
      refine q_getR dX6_falls_87 (rfl : 87 + 3 = 90) fX6_19 (by first | rfl | assumption) (by first | rfl | assumption) ?_
      refine q_getR dX6_falls_90 (rfl : 90 + 3 = 93) fX6_103 (by first | rfl | assumption) (by first | rfl | assumption) ?_
      refine q_iload_n dX6_falls_93 (rfl : 93 + 1 = 94) rfl ?_
      refine q_iald dX6_falls_94 (rfl : 94 + 1 = 95) (by first | rfl | assumption) (by first | assumption | omega) (by decide) ?_
      refine q_iret rfl dX6_falls_95 ⟨rfl, rfl, _, rfl, ?_⟩
      exact ⟨rfl, rfl, rfl⟩
    · refine q_tableIn (off := 76) (q := 96) dX6_falls_20 (by decide) (by decide) (by decide) (by decide) ?_
      refine q_aload_n dX6_falls_96 (rfl : 96 + 1 = 97) rfl ?_
      refine q_getR dX6_falls_97 (rfl : 97 + 3 = 100) fX6_19 (by first | rfl | assumption) (by first | rfl | assumption) ?_
      refine q_iload_n dX6_falls_100 (rfl : 100 + 1 = 101) rfl ?_
      refine q_callVIp (S_costOf (d := d) (by omega) hy hy2) dX6_falls_101 (rfl : 101 + 3 = 104) lX6_106 vX5_costOf (by first | rfl | assumption) rfl rfl (Nat.le_of_ble_eq_true rfl) TM_room TM_cs ?_
      refine q_iret rfl dX6_falls_104 ⟨rfl, rfl, _, rfl, ?_⟩
      exact ⟨rfl, rfl, rfl⟩
  · rw [in0 hj (by omega)] at h2; cases h2
theorem S_falls_w {d nf j : Nat} {w : Int32} {I : HI} {J : HJ} (hf : I 4 5 = nI nf) (h12 : nf ≤ 12) (hj : j < nf) (hw : w.toInt < 0 ∨ 4 < w.toInt) : MIp mX6_falls (d + 1) [.ref 0, .int (nI j), .int w] shA I J RA (-1) := by
  refine Mt.of (L := [some (.ref 0), some (.int (nI j)), some (.int w)]) (by decide +kernel) (Nat.le_of_ble_eq_true rfl) rfl ?_
  refine q_iload_n dX6_falls_0 (rfl : 0 + 1 = 1) rfl ?_
  refine q_iconst (v := nI 0) dX6_falls_1 (rfl : 1 + 1 = 2) (by decide) ?_
  refine q_aload_n dX6_falls_2 (rfl : 2 + 1 = 3) rfl ?_
  refine q_getR dX6_falls_3 (rfl : 3 + 3 = 6) fX6_19 (by first | rfl | assumption) (by first | rfl | assumption) ?_
  refine q_getI dX6_falls_6 (rfl : 6 + 3 = 9) fX6_87 (by first | rfl | assumption) ?_
  refine q_iconst (v := nI 1) dX6_falls_9 (rfl : 9 + 1 = 10) (by decide) ?_
  rw [hf]
  refine q_isub dX6_falls_10 (rfl : 10 + 1 = 11) ?_
  refine q_callSIp S_inside dX6_falls_11 (rfl : 11 + 3 = 14) lX6_68 vX6_inside rfl rfl (Nat.le_of_ble_eq_true rfl) TM_room TM_cs ?_
  refine q_if_ne_b (q := 19) dX6_falls_14 (by decide) (rfl : 14 + 3 = 17) (fun h2 => ?_) (fun h2 => ?_)
  ·
    refine q_iload_n dX6_falls_19 (rfl : 19 + 1 = 20) rfl ?_
    refine q_tableOut (q := 105) dX6_falls_20 hw (by decide) ?_
    refine q_iconst (v := -1) dX6_falls_105 (rfl : 105 + 1 = 106) (by decide) ?_
    refine q_iret rfl dX6_falls_106 ⟨rfl, rfl, _, rfl, ?_⟩
    exact ⟨rfl, rfl, rfl⟩
  · rw [in0 hj (by omega)] at h2; cases h2
theorem S_fall_no {d nf : Nat} {I : HI} {J : HJ} (hf : I 4 5 = nI nf) (h12 : nf ≤ 12) (hn : I 16 0 = nI nf) : MIp mX6_fall (d + 2) [.ref 0] shA I J RA (-2) := by
  refine Mt.of (L := [some (.ref 0), none, none]) (by decide +kernel) (Nat.le_of_ble_eq_true rfl) rfl ?_
  refine q_aload_n dX6_fall_0 (rfl : 0 + 1 = 1) rfl ?_
  refine q_getR dX6_fall_1 (rfl : 1 + 3 = 4) fX6_29 (by first | rfl | assumption) (by first | rfl | assumption) ?_
  refine q_getI dX6_fall_4 (rfl : 4 + 3 = 7) fX6_110 (by first | rfl | assumption) ?_
  try simp (disch := omega) only [wr_hit, wr_p, wr_k, nI_add, pk_mul, nI_1, nI_s1, pk_sub, Nat.add_sub_cancel, hn, hf]
  refine q_istore_n dX6_fall_7 (rfl : 7 + 1 = 8) (by decide) ?_
  refine q_iload_n dX6_fall_8 (rfl : 8 + 1 = 9) rfl ?_
  refine q_aload_n dX6_fall_9 (rfl : 9 + 1 = 10) rfl ?_
  refine q_getR dX6_fall_10 (rfl : 10 + 3 = 13) fX6_19 (by first | rfl | assumption) (by first | rfl | assumption) ?_
  refine q_getI dX6_fall_13 (rfl : 13 + 3 = 16) fX6_87 (by first | rfl | assumption) ?_
  try simp (disch := omega) only [wr_hit, wr_p, wr_k, nI_add, pk_mul, nI_1, nI_s1, pk_sub, Nat.add_sub_cancel, hn, hf]
  refine q_icmp_lt_n (q := 22) (by omega) (by omega) dX6_fall_16 (by decide) (rfl : 16 + 3 = 19) (fun h => ?_) (fun h => ?_)
  · omega
  ·
    refine q_bipush (v := -2) dX6_fall_19 (rfl : 19 + 2 = 21) (by decide) ?_
    refine q_iret rfl dX6_fall_21 ⟨rfl, rfl, _, rfl, ?_⟩
    exact ⟨rfl, rfl, rfl⟩
def fallB (I : HI) (n : Nat) : Bool := bearsB I (sI (I 17) n + nI 10 * I 6 n) (sI (fun j => I 17 j * I 7 j) n + nI 10 * I 6 n * I 7 n)
def fallH (I : HI) (n : Nat) : HI := wr (wr (wr I 17 n (nI 10 * I 6 n)) 18 n (I 8 n)) 16 0 (nI (n + 1))
theorem S_fall {d nf n : Nat} {I : HI} {J : HJ} (hf : I 4 5 = nI nf) (h12 : nf ≤ 12) (hn : I 16 0 = nI n) (hlt : n < nf) : MI mX6_fall (d + 2) [.ref 0] shA I J RA (fun x I' J' => x = cond (fallB I n) (nI (n + 1)) (-3) ∧ I' = cond (fallB I n) (fallH I n) I ∧ J' = J) := by
  refine Mt.of (L := [some (.ref 0), none, none]) (by decide +kernel) (Nat.le_of_ble_eq_true rfl) rfl ?_
  refine q_aload_n dX6_fall_0 (rfl : 0 + 1 = 1) rfl ?_
  refine q_getR dX6_fall_1 (rfl : 1 + 3 = 4) fX6_29 (by first | rfl | assumption) (by first | rfl | assumption) ?_
  refine q_getI dX6_fall_4 (rfl : 4 + 3 = 7) fX6_110 (by first | rfl | assumption) ?_
  try simp (disch := omega) only [wr_hit, wr_p, wr_k, nI_add, pk_mul, nI_1, nI_s1, pk_sub, Nat.add_sub_cancel, hn, hf]
  refine q_istore_n dX6_fall_7 (rfl : 7 + 1 = 8) (by decide) ?_
  refine q_iload_n dX6_fall_8 (rfl : 8 + 1 = 9) rfl ?_
  refine q_aload_n dX6_fall_9 (rfl : 9 + 1 = 10) rfl ?_
  refine q_getR dX6_fall_10 (rfl : 10 + 3 = 13) fX6_19 (by first | rfl | assumption) (by first | rfl | assumption) ?_
  refine q_getI dX6_fall_13 (rfl : 13 + 3 = 16) fX6_87 (by first | rfl | assumption) ?_
  try simp (disch := omega) only [wr_hit, wr_p, wr_k, nI_add, pk_mul, nI_1, nI_s1, pk_sub, Nat.add_sub_cancel, hn, hf]
  refine q_icmp_lt_n (q := 22) (by omega) (by omega) dX6_fall_16 (by decide) (rfl : 16 + 3 = 19) (fun h => ?_) (fun h => ?_)
  ·
    refine q_bipush (v := nI 10) dX6_fall_22 (rfl : 22 + 2 = 24) (by decide) ?_
    refine q_aload_n dX6_fall_24 (rfl : 24 + 1 = 25) rfl ?_
    refine q_getR dX6_fall_25 (rfl : 25 + 3 = 28) fX6_19 (by first | rfl | assumption) (by first | rfl | assumption) ?_
    refine q_getR dX6_fall_28 (rfl : 28 + 3 = 31) fX6_97 (by first | rfl | assumption) (by first | rfl | assumption) ?_
    refine q_iload_n dX6_fall_31 (rfl : 31 + 1 = 32) rfl ?_
    refine q_iald dX6_fall_32 (rfl : 32 + 1 = 33) (by first | rfl | assumption) (by first | assumption | omega) (by decide) ?_
    refine q_imul dX6_fall_33 (rfl : 33 + 1 = 34) ?_
    refine q_istore_n dX6_fall_34 (rfl : 34 + 1 = 35) (by decide) ?_
    refine q_aload_n dX6_fall_35 (rfl : 35 + 1 = 36) rfl ?_
    refine q_getR dX6_fall_36 (rfl : 36 + 3 = 39) fX6_19 (by first | rfl | assumption) (by first | rfl | assumption) ?_
    refine q_aload_n dX6_fall_39 (rfl : 39 + 1 = 40) rfl ?_
    refine q_getR dX6_fall_40 (rfl : 40 + 3 = 43) fX6_29 (by first | rfl | assumption) (by first | rfl | assumption) ?_
    refine q_callVIp (S_high (d := d + 1) hn (by omega)) dX6_fall_43 (rfl : 43 + 3 = 46) lX6_113 vX0_high (by first | rfl | assumption) rfl rfl (Nat.le_of_ble_eq_true rfl) TM_room TM_cs ?_
    refine q_iload_n dX6_fall_46 (rfl : 46 + 1 = 47) rfl ?_
    refine q_iadd dX6_fall_47 (rfl : 47 + 1 = 48) ?_
    refine q_aload_n dX6_fall_48 (rfl : 48 + 1 = 49) rfl ?_
    refine q_getR dX6_fall_49 (rfl : 49 + 3 = 52) fX6_29 (by first | rfl | assumption) (by first | rfl | assumption) ?_
    refine q_aload_n dX6_fall_52 (rfl : 52 + 1 = 53) rfl ?_
    refine q_getR dX6_fall_53 (rfl : 53 + 3 = 56) fX6_19 (by first | rfl | assumption) (by first | rfl | assumption) ?_
    refine q_callVIp (S_load (d := d + 1) hn (by omega)) dX6_fall_56 (rfl : 56 + 3 = 59) lX6_116 vX0_load (by first | rfl | assumption) rfl rfl (Nat.le_of_ble_eq_true rfl) TM_room TM_cs ?_
    refine q_iload_n dX6_fall_59 (rfl : 59 + 1 = 60) rfl ?_
    refine q_aload_n dX6_fall_60 (rfl : 60 + 1 = 61) rfl ?_
    refine q_getR dX6_fall_61 (rfl : 61 + 3 = 64) fX6_19 (by first | rfl | assumption) (by first | rfl | assumption) ?_
    refine q_getR dX6_fall_64 (rfl : 64 + 3 = 67) fX6_100 (by first | rfl | assumption) (by first | rfl | assumption) ?_
    refine q_iload_n dX6_fall_67 (rfl : 67 + 1 = 68) rfl ?_
    refine q_iald dX6_fall_68 (rfl : 68 + 1 = 69) (by first | rfl | assumption) (by first | assumption | omega) (by decide) ?_
    refine q_imul dX6_fall_69 (rfl : 69 + 1 = 70) ?_
    refine q_iadd dX6_fall_70 (rfl : 70 + 1 = 71) ?_
    refine q_callVIp (S_bears (d := d + 1)) dX6_fall_71 (rfl : 71 + 3 = 74) lX6_119 vX5_bears (by first | rfl | assumption) rfl rfl (Nat.le_of_ble_eq_true rfl) TM_room TM_cs ?_
    refine q_if_ne_b (q := 80) dX6_fall_74 (by decide) (rfl : 74 + 3 = 77) (fun hb => ?_) (fun hb => ?_)
    ·
      have hb' : fallB I n = true := hb
      refine q_aload_n dX6_fall_80 (rfl : 80 + 1 = 81) rfl ?_
      refine q_getR dX6_fall_81 (rfl : 81 + 3 = 84) fX6_29 (by first | rfl | assumption) (by first | rfl | assumption) ?_
      refine q_iload_n dX6_fall_84 (rfl : 84 + 1 = 85) rfl ?_
      refine q_aload_n dX6_fall_85 (rfl : 85 + 1 = 86) rfl ?_
      refine q_getR dX6_fall_86 (rfl : 86 + 3 = 89) fX6_19 (by first | rfl | assumption) (by first | rfl | assumption) ?_
      refine q_getR dX6_fall_89 (rfl : 89 + 3 = 92) fX6_103 (by first | rfl | assumption) (by first | rfl | assumption) ?_
      refine q_iload_n dX6_fall_92 (rfl : 92 + 1 = 93) rfl ?_
      refine q_iald dX6_fall_93 (rfl : 93 + 1 = 94) (by first | rfl | assumption) (by first | assumption | omega) (by decide) ?_
      refine q_callVV (S_comeIn (d := d + 1) hn (show n < 12 by omega)) dX6_fall_94 (rfl : 94 + 3 = 97) lX6_123 vX0_comeIn (by first | rfl | assumption) rfl rfl (Nat.le_of_ble_eq_true rfl) TM_room TM_cs ?_
      intro I2 J2 hp
      obtain ⟨rfl, rfl⟩ := hp
      refine q_aload_n dX6_fall_97 (rfl : 97 + 1 = 98) rfl ?_
      refine q_getR dX6_fall_98 (rfl : 98 + 3 = 101) fX6_29 (by first | rfl | assumption) (by first | rfl | assumption) ?_
      refine q_getI dX6_fall_101 (rfl : 101 + 3 = 104) fX6_110 (by first | rfl | assumption) ?_
      try simp (disch := omega) only [wr_hit, wr_p, wr_k, nI_add, pk_mul, nI_1, nI_s1, pk_sub, Nat.add_sub_cancel]
      refine q_iret rfl dX6_fall_104 ⟨rfl, rfl, _, rfl, ?_⟩
      rw [hb']
      exact ⟨rfl, rfl, rfl⟩
    ·
      have hb' : fallB I n = false := hb
      refine q_bipush (v := -3) dX6_fall_77 (rfl : 77 + 2 = 79) (by decide) ?_
      refine q_iret rfl dX6_fall_79 ⟨rfl, rfl, _, rfl, ?_⟩
      rw [hb']
      exact ⟨rfl, rfl, rfl⟩
  · omega
theorem S_layer_bad {d n : Nat} {I : HI} {J : HJ} {i w : Int32} (hn : I 16 0 = nI n) (h : inr i (nI 0) (nI n - nI 1) = false) : MIp mX6_layer (d + 2) [.ref 0, .int i, .int w] shA I J RA (-1) := by
  refine Mt.of (L := [some (.ref 0), some (.int i), some (.int w)]) (by decide +kernel) (Nat.le_of_ble_eq_true rfl) rfl ?_
  refine q_aload_n dX6_layer_0 (rfl : 0 + 1 = 1) rfl ?_
  refine q_getR dX6_layer_1 (rfl : 1 + 3 = 4) fX6_29 (by first | rfl | assumption) (by first | rfl | assumption) ?_
  refine q_iload_n dX6_layer_4 (rfl : 4 + 1 = 5) rfl ?_
  refine q_callVIp (S_has (d := d) hn) dX6_layer_5 (rfl : 5 + 3 = 8) lX6_127 vX0_has (by first | rfl | assumption) rfl rfl (Nat.le_of_ble_eq_true rfl) TM_room TM_cs ?_
  refine q_if_ne_b (q := 13) dX6_layer_8 (by decide) (rfl : 8 + 3 = 11) (fun h2 => ?_) (fun h2 => ?_)
  · rw [h] at h2; cases h2
  ·
    refine q_iconst (v := -1) dX6_layer_11 (rfl : 11 + 1 = 12) (by decide) ?_
    refine q_iret rfl dX6_layer_12 ⟨rfl, rfl, _, rfl, ?_⟩
    exact ⟨rfl, rfl, rfl⟩
def layerV (I : HI) (n j w : Nat) : Int32 := match w with
  | 0 => I 17 j
  | 1 => I 18 j
  | _ => nI (3 * j / n)
theorem S_layer {d n j w : Nat} {I : HI} {J : HJ} (hn : I 16 0 = nI n) (h12 : n ≤ 12) (hj : j < n) (hw : w ≤ 2) : MIp mX6_layer (d + 2) [.ref 0, .int (nI j), .int (nI w)] shA I J RA (layerV I n j w) := by
  refine Mt.of (L := [some (.ref 0), some (.int (nI j)), some (.int (nI w))]) (by decide +kernel) (Nat.le_of_ble_eq_true rfl) rfl ?_
  refine q_aload_n dX6_layer_0 (rfl : 0 + 1 = 1) rfl ?_
  refine q_getR dX6_layer_1 (rfl : 1 + 3 = 4) fX6_29 (by first | rfl | assumption) (by first | rfl | assumption) ?_
  refine q_iload_n dX6_layer_4 (rfl : 4 + 1 = 5) rfl ?_
  refine q_callVIp (S_has (d := d) hn) dX6_layer_5 (rfl : 5 + 3 = 8) lX6_127 vX0_has (by first | rfl | assumption) rfl rfl (Nat.le_of_ble_eq_true rfl) TM_room TM_cs ?_
  refine q_if_ne_b (q := 13) dX6_layer_8 (by decide) (rfl : 8 + 3 = 11) (fun h2 => ?_) (fun h2 => ?_)
  ·
    refine q_iload_n dX6_layer_13 (rfl : 13 + 1 = 14) rfl ?_
    rcases (show w = 0 ∨ w = 1 ∨ w = 2 by omega) with rfl | rfl | rfl
    · refine q_tableIn (off := 26) (q := 40) dX6_layer_14 (by decide) (by decide) (by decide) (by decide) ?_
      refine q_aload_n dX6_layer_40 (rfl : 40 + 1 = 41) rfl ?_
      refine q_getR dX6_layer_41 (rfl : 41 + 3 = 44) fX6_29 (by first | rfl | assumption) (by first | rfl | assumption) ?_
      refine q_getR dX6_layer_44 (rfl : 44 + 3 = 47) fX6_131 (by first | rfl | assumption) (by first | rfl | assumption) ?_
      refine q_iload_n dX6_layer_47 (rfl : 47 + 1 = 48) rfl ?_
      refine q_iald dX6_layer_48 (rfl : 48 + 1 = 49) (by first | rfl | assumption) (by first | assumption | omega) (by decide) ?_
      refine q_iret rfl dX6_layer_49 ⟨rfl, rfl, _, rfl, ?_⟩
      exact ⟨rfl, rfl, rfl⟩
    · refine q_tableIn (off := 36) (q := 50) dX6_layer_14 (by decide) (by decide) (by decide) (by decide) ?_
      refine q_aload_n dX6_layer_50 (rfl : 50 + 1 = 51) rfl ?_
      refine q_getR dX6_layer_51 (rfl : 51 + 3 = 54) fX6_29 (by first | rfl | assumption) (by first | rfl | assumption) ?_
      refine q_getR dX6_layer_54 (rfl : 54 + 3 = 57) fX6_134 (by first | rfl | assumption) (by first | rfl | assumption) ?_
      refine q_iload_n dX6_layer_57 (rfl : 57 + 1 = 58) rfl ?_
      refine q_iald dX6_layer_58 (rfl : 58 + 1 = 59) (by first | rfl | assumption) (by first | assumption | omega) (by decide) ?_
      refine q_iret rfl dX6_layer_59 ⟨rfl, rfl, _, rfl, ?_⟩
      exact ⟨rfl, rfl, rfl⟩
    · refine q_tableIn (off := 46) (q := 60) dX6_layer_14 (by decide) (by decide) (by decide) (by decide) ?_
      refine q_aload_n dX6_layer_60 (rfl : 60 + 1 = 61) rfl ?_
      refine q_getR dX6_layer_61 (rfl : 61 + 3 = 64) fX6_29 (by first | rfl | assumption) (by first | rfl | assumption) ?_
      refine q_iload_n dX6_layer_64 (rfl : 64 + 1 = 65) rfl ?_
      refine q_callVIp (S_doorOf (d := d) hn h12 hj) dX6_layer_65 (rfl : 65 + 3 = 68) lX6_137 vX0_doorOf (by first | rfl | assumption) rfl rfl (Nat.le_of_ble_eq_true rfl) TM_room TM_cs ?_
      refine q_iret rfl dX6_layer_68 ⟨rfl, rfl, _, rfl, ?_⟩
      exact ⟨rfl, rfl, rfl⟩
  · rw [in0 hj (by omega)] at h2; cases h2
theorem S_layer_w {d n j : Nat} {w : Int32} {I : HI} {J : HJ} (hn : I 16 0 = nI n) (h12 : n ≤ 12) (hj : j < n) (hw : w.toInt < 0 ∨ 2 < w.toInt) : MIp mX6_layer (d + 2) [.ref 0, .int (nI j), .int w] shA I J RA (-1) := by
  refine Mt.of (L := [some (.ref 0), some (.int (nI j)), some (.int w)]) (by decide +kernel) (Nat.le_of_ble_eq_true rfl) rfl ?_
  refine q_aload_n dX6_layer_0 (rfl : 0 + 1 = 1) rfl ?_
  refine q_getR dX6_layer_1 (rfl : 1 + 3 = 4) fX6_29 (by first | rfl | assumption) (by first | rfl | assumption) ?_
  refine q_iload_n dX6_layer_4 (rfl : 4 + 1 = 5) rfl ?_
  refine q_callVIp (S_has (d := d) hn) dX6_layer_5 (rfl : 5 + 3 = 8) lX6_127 vX0_has (by first | rfl | assumption) rfl rfl (Nat.le_of_ble_eq_true rfl) TM_room TM_cs ?_
  refine q_if_ne_b (q := 13) dX6_layer_8 (by decide) (rfl : 8 + 3 = 11) (fun h2 => ?_) (fun h2 => ?_)
  ·
    refine q_iload_n dX6_layer_13 (rfl : 13 + 1 = 14) rfl ?_
    refine q_tableOut (q := 69) dX6_layer_14 hw (by decide) ?_
    refine q_iconst (v := -1) dX6_layer_69 (rfl : 69 + 1 = 70) (by decide) ?_
    refine q_iret rfl dX6_layer_70 ⟨rfl, rfl, _, rfl, ?_⟩
    exact ⟨rfl, rfl, rfl⟩
  · rw [in0 hj (by omega)] at h2; cases h2
def fOut (f k : Nat) : Int32 := if f = k then -4 else nI f
theorem ftc_le {inch heavy more : Nat → Int32} {be : Int32 → Int32 → Bool} : ∀ (k i : Nat) (hi lo : Int32), ftc inch heavy more be k i hi lo ≤ i + k := by
  intro k
  induction k with
  | zero => intro i hi lo; simp [ftc]
  | succ k ih =>
    intro i hi lo
    unfold ftc
    split
    · exact Nat.le_trans (ih _ _ _) (by omega)
    · omega
theorem S_firstOut {d nf n : Nat} {I : HI} {J : HJ} (hf : I 4 5 = nI nf) (h12 : nf ≤ 12) (hn : I 16 0 = nI n) (hle : n ≤ nf) : MIp mX6_firstOut (d + 3) [.ref 0] shA I J RA (fOut (ftc (I 6) (I 7) (fun _ => nI 0) (bearsB I) (nf - n) n (sI (I 17) n) (sI (fun j => I 17 j * I 7 j) n)) nf) := by
  refine Mt.of (L := [some (.ref 0), none]) (by decide +kernel) (Nat.le_of_ble_eq_true rfl) rfl ?_
  refine q_aload_n dX6_firstOut_0 (rfl : 0 + 1 = 1) rfl ?_
  refine q_aload_n dX6_firstOut_1 (rfl : 1 + 1 = 2) rfl ?_
  refine q_getR dX6_firstOut_2 (rfl : 2 + 3 = 5) fX6_29 (by first | rfl | assumption) (by first | rfl | assumption) ?_
  refine q_getI dX6_firstOut_5 (rfl : 5 + 3 = 8) fX6_110 (by first | rfl | assumption) ?_
  refine q_aload_n dX6_firstOut_8 (rfl : 8 + 1 = 9) rfl ?_
  refine q_getR dX6_firstOut_9 (rfl : 9 + 3 = 12) fX6_29 (by first | rfl | assumption) (by first | rfl | assumption) ?_
  refine q_callVIp (S_high (d := d + 2) hn (by omega)) dX6_firstOut_12 (rfl : 12 + 3 = 15) lX6_113 vX0_high (by first | rfl | assumption) rfl rfl (Nat.le_of_ble_eq_true rfl) TM_room TM_cs ?_
  refine q_aload_n dX6_firstOut_15 (rfl : 15 + 1 = 16) rfl ?_
  refine q_getR dX6_firstOut_16 (rfl : 16 + 3 = 19) fX6_29 (by first | rfl | assumption) (by first | rfl | assumption) ?_
  refine q_aload_n dX6_firstOut_19 (rfl : 19 + 1 = 20) rfl ?_
  refine q_getR dX6_firstOut_20 (rfl : 20 + 3 = 23) fX6_19 (by first | rfl | assumption) (by first | rfl | assumption) ?_
  refine q_callVIp (S_load (d := d + 2) hn (by omega)) dX6_firstOut_23 (rfl : 23 + 3 = 26) lX6_116 vX0_load (by first | rfl | assumption) rfl rfl (Nat.le_of_ble_eq_true rfl) TM_room TM_cs ?_
  refine q_iconst (v := -1) dX6_firstOut_26 (rfl : 26 + 1 = 27) (by decide) ?_
  rw [hn]
  refine q_callVIp (S_ftc (d := d) hf h12 hle (fun i => S_moreInches0)) dX6_firstOut_27 (rfl : 27 + 3 = 30) lX6_140 vX6_firstThatCannot (by first | rfl | assumption) rfl rfl (Nat.le_of_ble_eq_true rfl) TM_room TM_cs ?_
  have hlt : ftc (I 6) (I 7) (fun _ => nI 0) (bearsB I) (nf - n) n (sI (I 17) n) (sI (fun j => I 17 j * I 7 j) n) ≤ nf := Nat.le_trans (ftc_le _ _ _ _) (by omega)
  generalize ftc (I 6) (I 7) (fun _ => nI 0) (bearsB I) (nf - n) n (sI (I 17) n) (sI (fun j => I 17 j * I 7 j) n) = f at hlt ⊢
  refine q_istore_n dX6_firstOut_30 (rfl : 30 + 1 = 31) (by decide) ?_
  refine q_iload_n dX6_firstOut_31 (rfl : 31 + 1 = 32) rfl ?_
  refine q_aload_n dX6_firstOut_32 (rfl : 32 + 1 = 33) rfl ?_
  refine q_getR dX6_firstOut_33 (rfl : 33 + 3 = 36) fX6_19 (by first | rfl | assumption) (by first | rfl | assumption) ?_
  refine q_getI dX6_firstOut_36 (rfl : 36 + 3 = 39) fX6_87 (by first | rfl | assumption) ?_
  rw [hf]
  refine q_icmp_ne_n (q := 47) (by omega) (by omega) dX6_firstOut_39 (by decide) (rfl : 39 + 3 = 42) (fun h => ?_) (fun h => ?_)
  ·
    refine q_iload_n dX6_firstOut_47 (rfl : 47 + 1 = 48) rfl ?_
    refine q_iret rfl dX6_firstOut_48 ⟨rfl, rfl, _, rfl, ?_⟩
    exact ⟨by unfold fOut; rw [if_neg h], rfl, rfl⟩
  ·
    refine q_bipush (v := -4) dX6_firstOut_42 (rfl : 42 + 2 = 44) (by decide) ?_
    refine q_goto (q := 48) dX6_firstOut_44 (by decide) ?_
    refine q_iret rfl dX6_firstOut_48 ⟨rfl, rfl, _, rfl, ?_⟩
    exact ⟨by unfold fOut; rw [if_pos h], rfl, rfl⟩
theorem S_thaw_bad {d : Nat} {I : HI} {J : HJ} {x : Int32} (h : inr x (nI 0) (nI 2) = false) : MIp mX6_thaw (d + 1) [.ref 0, .int x] shA I J RA (-1) := by
  refine Mt.of (L := [some (.ref 0), some (.int x)]) (by decide +kernel) (Nat.le_of_ble_eq_true rfl) rfl ?_
  refine q_iload_n dX6_thaw_0 (rfl : 0 + 1 = 1) rfl ?_
  refine q_iconst (v := nI 0) dX6_thaw_1 (rfl : 1 + 1 = 2) (by decide) ?_
  refine q_iconst (v := nI 2) dX6_thaw_2 (rfl : 2 + 1 = 3) (by decide) ?_
  refine q_callSIp S_inside dX6_thaw_3 (rfl : 3 + 3 = 6) lX6_68 vX6_inside rfl rfl (Nat.le_of_ble_eq_true rfl) TM_room TM_cs ?_
  refine q_if_ne_b (q := 11) dX6_thaw_6 (by decide) (rfl : 6 + 3 = 9) (fun h2 => ?_) (fun h2 => ?_)
  · rw [h] at h2; cases h2
  ·
    refine q_iconst (v := -1) dX6_thaw_9 (rfl : 9 + 1 = 10) (by decide) ?_
    refine q_iret rfl dX6_thaw_10 ⟨rfl, rfl, _, rfl, ?_⟩
    exact ⟨rfl, rfl, rfl⟩
theorem S_thaw {d n : Nat} {I : HI} {J : HJ} {x : Int32} (hn : I 16 0 = nI n) (h12 : n ≤ 12) (h : inr x (nI 0) (nI 2) = true) : MI mX6_thaw (d + 3) [.ref 0, .int x] shA I J RA (fun y I' J' => y = sI (lessI (I 17) n x (I 4 2)) n ∧ I' = meltH I n x (I 4 2) n ∧ J' = J) := by
  refine Mt.of (L := [some (.ref 0), some (.int x)]) (by decide +kernel) (Nat.le_of_ble_eq_true rfl) rfl ?_
  refine q_iload_n dX6_thaw_0 (rfl : 0 + 1 = 1) rfl ?_
  refine q_iconst (v := nI 0) dX6_thaw_1 (rfl : 1 + 1 = 2) (by decide) ?_
  refine q_iconst (v := nI 2) dX6_thaw_2 (rfl : 2 + 1 = 3) (by decide) ?_
  refine q_callSIp S_inside dX6_thaw_3 (rfl : 3 + 3 = 6) lX6_68 vX6_inside rfl rfl (Nat.le_of_ble_eq_true rfl) TM_room TM_cs ?_
  refine q_if_ne_b (q := 11) dX6_thaw_6 (by decide) (rfl : 6 + 3 = 9) (fun h2 => ?_) (fun h2 => ?_)
  ·
    refine q_aload_n dX6_thaw_11 (rfl : 11 + 1 = 12) rfl ?_
    refine q_getR dX6_thaw_12 (rfl : 12 + 3 = 15) fX6_29 (by first | rfl | assumption) (by first | rfl | assumption) ?_
    refine q_iload_n dX6_thaw_15 (rfl : 15 + 1 = 16) rfl ?_
    refine q_aload_n dX6_thaw_16 (rfl : 16 + 1 = 17) rfl ?_
    refine q_getR dX6_thaw_17 (rfl : 17 + 3 = 20) fX6_19 (by first | rfl | assumption) (by first | rfl | assumption) ?_
    refine q_getI dX6_thaw_20 (rfl : 20 + 3 = 23) fX6_144 (by first | rfl | assumption) ?_
    refine q_callVI (S_melt (d := d) hn h12) dX6_thaw_23 (rfl : 23 + 3 = 26) lX6_147 vX0_melt (by first | rfl | assumption) rfl rfl (Nat.le_of_ble_eq_true rfl) TM_room TM_cs ?_
    intro y I1 J1 hp
    refine q_iret rfl dX6_thaw_26 ⟨rfl, rfl, _, rfl, ?_⟩
    exact hp
  · rw [h] at h2; cases h2
