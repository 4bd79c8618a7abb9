/-! the reference: doors, sales, swapped dust, letting go -/
def lbI (th c e : Int32) (row : Nat → Int32) (t : Int32) (d : Nat) : Int32 × Int32 := match d with
  | 0 => (t, 0)
  | d + 1 => ((lbI th c e row t d).1 - (if row d = e then (if (lbI th c e row t d).1 < th then (lbI th c e row t d).1 else th) else 0), (lbI th c e row t d).2 + (if row d = e then (if (lbI th c e row t d).1 < th then (lbI th c e row t d).1 else th) else 0) * c)
def lostF (th : Int32) (t c : Nat → Int32) (n k : Nat) (row : Nat → Int32) (i : Nat) : Int32 := match i with
  | 0 => 0
  | i + 1 => lostF th t c n k row i + (lbI th (c i) (nI (3 * i / n)) row (t i) k).2
theorem L_lostIn {dd n0 n k i : Nat} {Po : PO} {I0 : HI} {J : HJ} {row : Nat → Int32} {yr : Nat → Nat} {s0 : Int32} (hk : k ≤ 6) (hn : I0 50 0 = nI n) (h12 : n ≤ 12) (hi : i < n) (hy : ∀ i, i < n → I0 48 (4 * i) = nI (yr i) ∧ yr i < 100) (hr : ∀ d, d < k → I0 59 d = row d)
    (K : ∀ I', Off 57 58 I0 I' → Wm mX7_lostBy (TM (dd + 2) 0 0 false n0 Po) 0 0 shA 119 [some (.ref 44), some (.int (nI k)), some (.int (s0 + (lbI (I0 46 2) (I0 49 (yr i)) (nI (3 * i / n)) row (I0 51 i) k).2)), some (.int (nI i)), none, none] [] I' J RA) :
    ∀ (d : Nat), d ≤ k → ∀ I', Off 57 58 I0 I' → I' 57 i = (lbI (I0 46 2) (I0 49 (yr i)) (nI (3 * i / n)) row (I0 51 i) d).1 → Wm mX7_lostBy (TM (dd + 2) 0 0 false n0 Po) 0 0 shA 29 [some (.ref 44), some (.int (nI k)), some (.int (s0 + (lbI (I0 46 2) (I0 49 (yr i)) (nI (3 * i / n)) row (I0 51 i) d).2)), some (.int (nI i)), some (.int (nI d)), none] [] I' J RA := by
  refine loopN (fun d hd ih => ?_)
  intro I' ho h57
  have hn' : I' 50 0 = nI n := by rw [ho 50 (by omega), hn]
  have h46 : I' 46 = I0 46 := ho 46 (by omega)
  have h49 : I' 49 = I0 49 := ho 49 (by omega)
  have hy' : I' 48 (4 * i) = nI (yr i) := by rw [ho 48 (by omega)]; exact (hy i hi).1
  refine q_iload dX7_lostBy_29 (rfl : 29 + 2 = 31) rfl ?_
  refine q_iload_n dX7_lostBy_31 (rfl : 31 + 1 = 32) rfl ?_
  refine q_icmp_ge_n (q := 119) (by omega) (by omega) dX7_lostBy_32 (by decide) (rfl : 32 + 3 = 35) (fun h => ?_) (fun h => ?_)
  ·
    obtain rfl : d = k := by omega
    refine q_forget (L' := [some (.ref 44), some (.int (nI d)), some (.int (s0 + (lbI (I0 46 2) (I0 49 (yr i)) (nI (3 * i / n)) row (I0 51 i) d).2)), some (.int (nI i)), none, none]) (by repeat (first | exact trivial | refine And.intro rfl ?_)) ?_
    exact K I' ho
  ·
    have hd6 : d < 6 := by omega
    have hi12 : i < 12 := by omega
    have h59 : I' 59 d = row d := by rw [ho 59 (by omega)]; exact hr d h
    refine q_aload_n dX7_lostBy_35 (rfl : 35 + 1 = 36) rfl ?_
    refine q_getR dX7_lostBy_36 (rfl : 36 + 3 = 39) fX7_54 (by first | rfl | assumption) (by first | rfl | assumption) ?_
    refine q_iload dX7_lostBy_39 (rfl : 39 + 2 = 41) rfl ?_
    refine q_iald dX7_lostBy_41 (rfl : 41 + 1 = 42) (by first | rfl | assumption) (by first | assumption | omega) (by decide) ?_
    try simp (disch := omega) only [wr_hit, wr_p, wr_k, nI_add, pk_mul, nI_1, nI_s1, pk_sub, Nat.add_sub_cancel, hn', h59]
    refine q_iload_n dX7_lostBy_42 (rfl : 42 + 1 = 43) rfl ?_
    refine q_aload_n dX7_lostBy_43 (rfl : 43 + 1 = 44) rfl ?_
    refine q_getR dX7_lostBy_44 (rfl : 44 + 3 = 47) fX7_26 (by first | rfl | assumption) (by first | rfl | assumption) ?_
    refine q_iconst (v := nI 0) dX7_lostBy_47 (rfl : 47 + 1 = 48) (by decide) ?_
    refine q_iald (j := 0) dX7_lostBy_48 (rfl : 48 + 1 = 49) (by first | rfl | assumption) (by decide) (by decide) ?_
    try simp (disch := omega) only [wr_hit, wr_p, wr_k, nI_add, pk_mul, nI_1, nI_s1, pk_sub, Nat.add_sub_cancel, hn', h59]
    refine q_callSIp (S_mdoorOf (d := dd + 1) h12 hi) dX7_lostBy_49 (rfl : 49 + 3 = 52) lX7_149 vX7_doorOf rfl rfl (Nat.le_of_ble_eq_true rfl) TM_room TM_cs ?_
    have rest : ∀ x : Int32, x = (if row d = nI (3 * i / n) then (if (lbI (I0 46 2) (I0 49 (yr i)) (nI (3 * i / n)) row (I0 51 i) d).1 < I0 46 2 then (lbI (I0 46 2) (I0 49 (yr i)) (nI (3 * i / n)) row (I0 51 i) d).1 else I0 46 2) else 0) → Wm mX7_lostBy (TM (dd + 2) 0 0 false n0 Po) 0 0 shA 89 [some (.ref 44), some (.int (nI k)), some (.int (s0 + (lbI (I0 46 2) (I0 49 (yr i)) (nI (3 * i / n)) row (I0 51 i) d).2)), some (.int (nI i)), some (.int (nI d)), none] [.int x] I' J RA := by
      intro x hx
      refine q_istore dX7_lostBy_89 (rfl : 89 + 2 = 91) (by decide) ?_
      refine q_aload_n dX7_lostBy_91 (rfl : 91 + 1 = 92) rfl ?_
      refine q_getR dX7_lostBy_92 (rfl : 92 + 3 = 95) fX7_48 (by first | rfl | assumption) (by first | rfl | assumption) ?_
      refine q_iload_n dX7_lostBy_95 (rfl : 95 + 1 = 96) rfl ?_
      refine q_dup2 dX7_lostBy_96 (rfl : 96 + 1 = 97) rfl rfl ?_
      refine q_iald dX7_lostBy_97 (rfl : 97 + 1 = 98) (by first | rfl | assumption) (by first | assumption | omega) (by decide) ?_
      refine q_iload dX7_lostBy_98 (rfl : 98 + 2 = 100) rfl ?_
      refine q_isub dX7_lostBy_100 (rfl : 100 + 1 = 101) ?_
      refine q_iast dX7_lostBy_101 (rfl : 101 + 1 = 102) (by first | rfl | assumption) (by first | assumption | omega) (by decide) ?_
      refine q_iload_n dX7_lostBy_102 (rfl : 102 + 1 = 103) rfl ?_
      refine q_iload dX7_lostBy_103 (rfl : 103 + 2 = 105) rfl ?_
      refine q_aload_n dX7_lostBy_105 (rfl : 105 + 1 = 106) rfl ?_
      refine q_iload_n dX7_lostBy_106 (rfl : 106 + 1 = 107) rfl ?_
      rw [h57]
      have hy2 : wr I' 57 i ((lbI (I0 46 2) (I0 49 (yr i)) (nI (3 * i / n)) row (I0 51 i) d).1 - x) 48 (4 * i) = nI (yr i) := by rw [wr_ne (by omega), hy']
      refine q_callVIp (S_mcostOf (d := dd) hi12 hy2 (hy i hi).2) dX7_lostBy_107 (rfl : 107 + 3 = 110) lX7_131 vX7_costOf (by first | rfl | assumption) rfl rfl (Nat.le_of_ble_eq_true rfl) TM_room TM_cs ?_
      rw [wr_ne (by omega), h49]
      refine q_imul dX7_lostBy_110 (rfl : 110 + 1 = 111) ?_
      refine q_iadd dX7_lostBy_111 (rfl : 111 + 1 = 112) ?_
      refine q_istore_n dX7_lostBy_112 (rfl : 112 + 1 = 113) (by decide) ?_
      first | refine q_iinc1 dX7_lostBy_113 (rfl : 113 + 3 = 116) rfl (by decide) ?_ | refine q_iinc dX7_lostBy_113 (rfl : 113 + 3 = 116) rfl rfl (by decide) ?_
      refine q_goto (q := 29) dX7_lostBy_116 (by decide) ?_
      have key := ih h (wr I' 57 i ((lbI (I0 46 2) (I0 49 (yr i)) (nI (3 * i / n)) row (I0 51 i) d).1 - x)) (ho.wr (by omega) (by omega)) (by rw [wr_hit, hx]; rfl)
      have e : s0 + (lbI (I0 46 2) (I0 49 (yr i)) (nI (3 * i / n)) row (I0 51 i) (d + 1)).2 = s0 + (lbI (I0 46 2) (I0 49 (yr i)) (nI (3 * i / n)) row (I0 51 i) d).2 + x * I0 49 (yr i) := by
        rw [hx, Int32.add_assoc]
        rfl
      rw [e] at key
      refine q_forget (L' := [some (.ref 44), some (.int (nI k)), some (.int (s0 + (lbI (I0 46 2) (I0 49 (yr i)) (nI (3 * i / n)) row (I0 51 i) d).2 + x * I0 49 (yr i))), some (.int (nI i)), some (.int (nI (d + 1))), none]) (by repeat (first | exact trivial | refine And.intro rfl ?_)) ?_
      exact key
    refine q_icmp_eq (q := 59) dX7_lostBy_52 (by decide) (rfl : 52 + 3 = 55) (fun e => ?_) (fun e => ?_)
    ·
      refine q_aload_n dX7_lostBy_59 (rfl : 59 + 1 = 60) rfl ?_
      refine q_getR dX7_lostBy_60 (rfl : 60 + 3 = 63) fX7_48 (by first | rfl | assumption) (by first | rfl | assumption) ?_
      refine q_iload_n dX7_lostBy_63 (rfl : 63 + 1 = 64) rfl ?_
      refine q_iald dX7_lostBy_64 (rfl : 64 + 1 = 65) (by first | rfl | assumption) (by first | assumption | omega) (by decide) ?_
      try simp (disch := omega) only [wr_hit, wr_p, wr_k, nI_add, pk_mul, nI_1, nI_s1, pk_sub, Nat.add_sub_cancel, h57, h46]
      refine q_aload_n dX7_lostBy_65 (rfl : 65 + 1 = 66) rfl ?_
      refine q_getR dX7_lostBy_66 (rfl : 66 + 3 = 69) fX7_13 (by first | rfl | assumption) (by first | rfl | assumption) ?_
      refine q_iconst (v := nI 2) dX7_lostBy_69 (rfl : 69 + 1 = 70) (by decide) ?_
      refine q_iald (j := 2) dX7_lostBy_70 (rfl : 70 + 1 = 71) (by first | rfl | assumption) (by decide) (by decide) ?_
      try simp (disch := omega) only [wr_hit, wr_p, wr_k, nI_add, pk_mul, nI_1, nI_s1, pk_sub, Nat.add_sub_cancel, h57, h46]
      refine q_icmp_ge (q := 83) dX7_lostBy_71 (by decide) (rfl : 71 + 3 = 74) (fun e2 => ?_) (fun e2 => ?_)
      ·
        refine q_aload_n dX7_lostBy_83 (rfl : 83 + 1 = 84) rfl ?_
        refine q_getR dX7_lostBy_84 (rfl : 84 + 3 = 87) fX7_13 (by first | rfl | assumption) (by first | rfl | assumption) ?_
        refine q_iconst (v := nI 2) dX7_lostBy_87 (rfl : 87 + 1 = 88) (by decide) ?_
        refine q_iald (j := 2) dX7_lostBy_88 (rfl : 88 + 1 = 89) (by first | rfl | assumption) (by decide) (by decide) ?_
        try simp (disch := omega) only [wr_hit, wr_p, wr_k, nI_add, pk_mul, nI_1, nI_s1, pk_sub, Nat.add_sub_cancel, h57, h46]
        exact rest _ (by rw [if_pos e, if_neg (Int32.not_lt.mpr e2)])
      ·
        refine q_aload_n dX7_lostBy_74 (rfl : 74 + 1 = 75) rfl ?_
        refine q_getR dX7_lostBy_75 (rfl : 75 + 3 = 78) fX7_48 (by first | rfl | assumption) (by first | rfl | assumption) ?_
        refine q_iload_n dX7_lostBy_78 (rfl : 78 + 1 = 79) rfl ?_
        refine q_iald dX7_lostBy_79 (rfl : 79 + 1 = 80) (by first | rfl | assumption) (by first | assumption | omega) (by decide) ?_
        try simp (disch := omega) only [wr_hit, wr_p, wr_k, nI_add, pk_mul, nI_1, nI_s1, pk_sub, Nat.add_sub_cancel, h57, h46]
        refine q_goto (q := 89) dX7_lostBy_80 (by decide) ?_
        exact rest _ (by rw [if_pos e, if_pos (Int32.not_le.mp e2)])
    ·
      refine q_iconst (v := nI 0) dX7_lostBy_55 (rfl : 55 + 1 = 56) (by decide) ?_
      refine q_goto (q := 89) dX7_lostBy_56 (by decide) ?_
      exact rest _ (by rw [if_neg e]; rfl)
theorem S_lostBy {dd n k : Nat} {I : HI} {J : HJ} {row : Nat → Int32} {yr : Nat → Nat} (hk : k ≤ 6) (hn : I 50 0 = nI n) (h12 : n ≤ 12) (hy : ∀ i, i < n → I 48 (4 * i) = nI (yr i) ∧ yr i < 100) (hr : ∀ d, d < k → I 59 d = row d) : MI mX7_lostBy (dd + 2) [.ref 44, .int (nI k)] shA I J RA (fun x I' J' => x = lostF (I 46 2) (I 51) (fun i => I 49 (yr i)) n k row n ∧ Off 57 58 I I' ∧ J' = J) := by
  have outer : ∀ (i : Nat), i ≤ n → ∀ I', Off 57 58 I I' → Wm mX7_lostBy (TM (dd + 2) 0 0 false shA.length (fun sh' w I' J' R' => sh' = shA ∧ R' = RA ∧ ∃ x : Int32, w = some (.int x) ∧ (x = lostF (I 46 2) (I 51) (fun i => I 49 (yr i)) n k row n ∧ Off 57 58 I I' ∧ J' = J))) 0 0 shA 4 [some (.ref 44), some (.int (nI k)), some (.int (lostF (I 46 2) (I 51) (fun i => I 49 (yr i)) n k row i)), some (.int (nI i)), none, none] [] I' J RA := by
    refine loopN (fun i hi ih => ?_)
    intro I' ho
    have hn' : I' 50 0 = nI n := by rw [ho 50 (by omega), hn]
    have h51 : I' 51 = I 51 := ho 51 (by omega)
    refine q_iload_n dX7_lostBy_4 (rfl : 4 + 1 = 5) rfl ?_
    refine q_aload_n dX7_lostBy_5 (rfl : 5 + 1 = 6) rfl ?_
    refine q_getR dX7_lostBy_6 (rfl : 6 + 3 = 9) fX7_26 (by first | rfl | assumption) (by first | rfl | assumption) ?_
    refine q_iconst (v := nI 0) dX7_lostBy_9 (rfl : 9 + 1 = 10) (by decide) ?_
    refine q_iald (j := 0) dX7_lostBy_10 (rfl : 10 + 1 = 11) (by first | rfl | assumption) (by decide) (by decide) ?_
    try simp (disch := omega) only [wr_hit, wr_p, wr_k, nI_add, pk_mul, nI_1, nI_s1, pk_sub, Nat.add_sub_cancel, hn']
    refine q_icmp_ge_n (q := 125) (by omega) (by omega) dX7_lostBy_11 (by decide) (rfl : 11 + 3 = 14) (fun h => ?_) (fun h => ?_)
    ·
      obtain rfl : i = n := by omega
      refine q_iload_n dX7_lostBy_125 (rfl : 125 + 1 = 126) rfl ?_
      refine q_iret rfl dX7_lostBy_126 ⟨rfl, rfl, _, rfl, ?_⟩
      exact ⟨rfl, ho, rfl⟩
    ·
      have hi12 : i < 36 := by omega
      have hi13 : i < 12 := by omega
      refine q_aload_n dX7_lostBy_14 (rfl : 14 + 1 = 15) rfl ?_
      refine q_getR dX7_lostBy_15 (rfl : 15 + 3 = 18) fX7_48 (by first | rfl | assumption) (by first | rfl | assumption) ?_
      refine q_iload_n dX7_lostBy_18 (rfl : 18 + 1 = 19) rfl ?_
      refine q_aload_n dX7_lostBy_19 (rfl : 19 + 1 = 20) rfl ?_
      refine q_getR dX7_lostBy_20 (rfl : 20 + 3 = 23) fX7_29 (by first | rfl | assumption) (by first | rfl | assumption) ?_
      refine q_iload_n dX7_lostBy_23 (rfl : 23 + 1 = 24) rfl ?_
      refine q_iald dX7_lostBy_24 (rfl : 24 + 1 = 25) (by first | rfl | assumption) (by first | assumption | omega) (by decide) ?_
      refine q_iast dX7_lostBy_25 (rfl : 25 + 1 = 26) (by first | rfl | assumption) (by first | assumption | omega) (by decide) ?_
      refine q_iconst (v := nI 0) dX7_lostBy_26 (rfl : 26 + 1 = 27) (by decide) ?_
      refine q_istore dX7_lostBy_27 (rfl : 27 + 2 = 29) (by decide) ?_
      rw [h51]
      have key := L_lostIn (dd := dd) (n0 := shA.length) (Po := fun sh' w I' J' R' => sh' = shA ∧ R' = RA ∧ ∃ x : Int32, w = some (.int x) ∧ (x = lostF (I 46 2) (I 51) (fun i => I 49 (yr i)) n k row n ∧ Off 57 58 I I' ∧ J' = J)) (I0 := I) (J := J) (row := row) (yr := yr) (s0 := lostF (I 46 2) (I 51) (fun i => I 49 (yr i)) n k row i) hk hn h12 h hy hr ?_ 0 (by omega) (wr I' 57 i (I 51 i)) (ho.wr (by omega) (by omega)) (by rw [wr_hit]; rfl)
      · rw [show (lbI (I 46 2) (I 49 (yr i)) (nI (3 * i / n)) row (I 51 i) 0).2 = 0 from rfl, Int32.add_zero] at key
        exact key
      · intro I2 ho2
        first | refine q_iinc1 dX7_lostBy_119 (rfl : 119 + 3 = 122) rfl (by decide) ?_ | refine q_iinc dX7_lostBy_119 (rfl : 119 + 3 = 122) rfl rfl (by decide) ?_
        refine q_goto (q := 4) dX7_lostBy_122 (by decide) ?_
        exact ih h I2 ho2
  refine Mt.of (L := [some (.ref 44), some (.int (nI k)), none, none, none, none]) (by decide +kernel) (Nat.le_of_ble_eq_true rfl) rfl ?_
  refine q_iconst (v := nI 0) dX7_lostBy_0 (rfl : 0 + 1 = 1) (by decide) ?_
  refine q_istore_n dX7_lostBy_1 (rfl : 1 + 1 = 2) (by decide) ?_
  refine q_iconst (v := nI 0) dX7_lostBy_2 (rfl : 2 + 1 = 3) (by decide) ?_
  refine q_istore_n dX7_lostBy_3 (rfl : 3 + 1 = 4) (by decide) ?_
  exact outer 0 (by omega) I Off.rf
def rowF (k c : Nat) : Nat → Int32 := fun d => nI (c / 3 ^ (k - 1 - d) % 3)
def dmS (v : Nat → Int32) (c : Nat) : Int32 × Nat := match c with
  | 0 => (-1, 0)
  | c + 1 => if (dmS v c).1 < 0 ∨ v c < (dmS v c).1 then (v c, c) else dmS v c
theorem S_mdoors_bad1 {d : Nat} {I : HI} {J : HJ} {k i : Int32} (h : inr k (nI 1) (nI 6) = false) : MIp mX7_doors (d + 1) [.ref 44, .int k, .int i] shA I J RA (-1) := by
  refine Mt.of (L := [some (.ref 44), some (.int k), some (.int i), none, none, none, none, none, none]) (by decide +kernel) (Nat.le_of_ble_eq_true rfl) rfl ?_
  refine q_iload_n dX7_doors_0 (rfl : 0 + 1 = 1) rfl ?_
  refine q_i2l dX7_doors_1 (rfl : 1 + 1 = 2) ?_
  refine q_lconst (v := 1) dX7_doors_2 (rfl : 2 + 1 = 3) (by decide) ?_
  refine q_ldc2 dX7_doors_3 (rfl : 3 + 3 = 6) kX7_152 ?_
  refine q_callSIp (S_inI (x := k) (a := nI 1) (b := nI 6) rfl (by decide) (by decide)) dX7_doors_6 (rfl : 6 + 3 = 9) lX7_77 vX7_in rfl rfl (Nat.le_of_ble_eq_true rfl) TM_room TM_cs ?_
  refine q_if_eq_b (q := 27) dX7_doors_9 (by decide) (rfl : 9 + 3 = 12) (fun h2 => ?_) (fun h2 => ?_)
  ·
    refine q_iconst (v := -1) dX7_doors_27 (rfl : 27 + 1 = 28) (by decide) ?_
    refine q_iret rfl dX7_doors_28 ⟨rfl, rfl, _, rfl, ?_⟩
    exact ⟨rfl, rfl, rfl⟩
  ·
    rw [h] at h2
    cases h2
theorem S_mdoors_bad2 {d k : Nat} {I : HI} {J : HJ} {i : Int32} (h1 : 1 ≤ k) (h6 : k ≤ 6) (h : inr i (-1) (nI k - nI 1) = false) : MIp mX7_doors (d + 1) [.ref 44, .int (nI k), .int i] shA I J RA (-1) := by
  refine Mt.of (L := [some (.ref 44), some (.int (nI k)), some (.int i), none, none, none, none, none, none]) (by decide +kernel) (Nat.le_of_ble_eq_true rfl) rfl ?_
  refine q_iload_n dX7_doors_0 (rfl : 0 + 1 = 1) rfl ?_
  refine q_i2l dX7_doors_1 (rfl : 1 + 1 = 2) ?_
  refine q_lconst (v := 1) dX7_doors_2 (rfl : 2 + 1 = 3) (by decide) ?_
  refine q_ldc2 dX7_doors_3 (rfl : 3 + 3 = 6) kX7_152 ?_
  refine q_callSIp (S_inI (x := nI k) (a := nI 1) (b := nI 6) rfl (by decide) (by decide)) dX7_doors_6 (rfl : 6 + 3 = 9) lX7_77 vX7_in rfl rfl (Nat.le_of_ble_eq_true rfl) TM_room TM_cs ?_
  refine q_if_eq_b (q := 27) dX7_doors_9 (by decide) (rfl : 9 + 3 = 12) (fun h2 => ?_) (fun h2 => ?_)
  · rw [inr_of h1 h6 (by decide)] at h2
    cases h2
  ·
    refine q_iload_n dX7_doors_12 (rfl : 12 + 1 = 13) rfl ?_
    refine q_i2l dX7_doors_13 (rfl : 13 + 1 = 14) ?_
    refine q_ldc2 dX7_doors_14 (rfl : 14 + 3 = 17) kX7_154 ?_
    refine q_iload_n dX7_doors_17 (rfl : 17 + 1 = 18) rfl ?_
    refine q_iconst (v := nI 1) dX7_doors_18 (rfl : 18 + 1 = 19) (by decide) ?_
    refine q_isub dX7_doors_19 (rfl : 19 + 1 = 20) ?_
    refine q_i2l dX7_doors_20 (rfl : 20 + 1 = 21) ?_
    refine q_callSIp (S_inI (x := i) (a := -1) (b := nI k - nI 1) rfl (by decide) rfl) dX7_doors_21 (rfl : 21 + 3 = 24) lX7_77 vX7_in rfl rfl (Nat.le_of_ble_eq_true rfl) TM_room TM_cs ?_
    refine q_if_ne_b (q := 29) dX7_doors_24 (by decide) (rfl : 24 + 3 = 27) (fun h3 => ?_) (fun h3 => ?_)
    · rw [h] at h3
      cases h3
    ·
      refine q_iconst (v := -1) dX7_doors_27 (rfl : 27 + 1 = 28) (by decide) ?_
      refine q_iret rfl dX7_doors_28 ⟨rfl, rfl, _, rfl, ?_⟩
      exact ⟨rfl, rfl, rfl⟩
theorem L_dig {T : Tg} {I0 : HI} {J : HJ} {k c : Nat} {i cs ls : Int32} (hk : k ≤ 6) (hc : c < 1000)
    (K : ∀ I', Off 57 60 I0 I' → I' 58 = I0 58 → (∀ d, d < k → I' 59 d = rowF k c d) → Wm mX7_doors T 0 0 shA 99 [some (.ref 44), some (.int (nI k)), some (.int i), some (.int cs), some (.int ls), some (.int (nI c)), none, none, none] [] I' J RA) :
    ∀ (j : Nat), j ≤ k → ∀ I', Off 57 60 I0 I' → I' 58 = I0 58 → (∀ d, k - j ≤ d → d < k → I' 59 d = rowF k c d) → Wm mX7_doors T 0 0 shA 71 [some (.ref 44), some (.int (nI k)), some (.int i), some (.int cs), some (.int ls), some (.int (nI c)), some (.int (nI (c / 3 ^ j))), some (.int (nI (k - j) - nI 1)), none] [] I' J RA := by
  refine loopN (fun j hj ih => ?_)
  intro I' ho h58 hr
  refine q_iload dX7_doors_71 (rfl : 71 + 2 = 73) rfl ?_
  refine q_if_lt (q := 99) dX7_doors_73 (by decide) (rfl : 73 + 3 = 76) (fun h => ?_) (fun h => ?_)
  ·
    have : j = k := by
      rcases Nat.lt_or_ge j k with q | q
      · obtain ⟨s, hs⟩ : ∃ s, k - j = s + 1 := ⟨k - j - 1, by omega⟩
        rw [hs, nI_s1] at h
        exact absurd h (nI_pos (by omega))
      · omega
    subst this
    refine q_forget (L' := [some (.ref 44), some (.int (nI j)), some (.int i), some (.int cs), some (.int ls), some (.int (nI c)), none, none, none]) (by repeat (first | exact trivial | refine And.intro rfl ?_)) ?_
    exact K I' ho h58 (fun d hd => hr d (by omega) hd)
  ·
    have hlt : j < k := by
      rcases Nat.lt_or_ge j k with q | q
      · exact q
      · rw [show k - j = 0 by omega] at h
        exact absurd nI_m1neg h
    obtain ⟨s, hs⟩ : ∃ s, k - j = s + 1 := ⟨k - j - 1, by omega⟩
    have hs6 : s < 6 := by omega
    rw [hs, nI_s1]
    have hc3 : c / 3 ^ j < 2 ^ 31 := Nat.lt_of_le_of_lt (Nat.div_le_self _ _) (by omega)
    refine q_aload_n dX7_doors_76 (rfl : 76 + 1 = 77) rfl ?_
    refine q_getR dX7_doors_77 (rfl : 77 + 3 = 80) fX7_54 (by first | rfl | assumption) (by first | rfl | assumption) ?_
    refine q_iload dX7_doors_80 (rfl : 80 + 2 = 82) rfl ?_
    refine q_iload dX7_doors_82 (rfl : 82 + 2 = 84) rfl ?_
    refine q_iconst (v := nI 3) dX7_doors_84 (rfl : 84 + 1 = 85) (by decide) ?_
    refine q_irem dX7_doors_85 (rfl : 85 + 1 = 86) (by first | assumption | decide) ?_
    refine q_iast dX7_doors_86 (rfl : 86 + 1 = 87) (by first | rfl | assumption) (by first | assumption | omega) (by decide) ?_
    refine q_iload dX7_doors_87 (rfl : 87 + 2 = 89) rfl ?_
    refine q_iconst (v := nI 3) dX7_doors_89 (rfl : 89 + 1 = 90) (by decide) ?_
    refine q_idiv dX7_doors_90 (rfl : 90 + 1 = 91) (by first | assumption | decide) ?_
    refine q_istore dX7_doors_91 (rfl : 91 + 2 = 93) (by decide) ?_
    refine q_iinc dX7_doors_93 (rfl : 93 + 3 = 96) rfl rfl (by decide) ?_
    refine q_goto (q := 71) dX7_doors_96 (by decide) ?_
    rw [pk_rem hc3 (by decide) (by decide), pk_div hc3 (by decide) (by decide), nI_m1]
    have key := ih hlt (wr I' 59 s (nI (c / 3 ^ j % 3))) (ho.wr (by omega) (by omega)) (by rw [wr_ne (by omega), h58]) (fun d h1 h2 => by
      by_cases e : d = s
      · subst e
        rw [wr_hit]
        unfold rowF
        rw [show k - 1 - d = j by omega]
      · rw [wr_nk e]
        exact hr d (by omega) h2)
    rw [show k - (j + 1) = s by omega, Nat.pow_succ, ← Nat.div_div_eq_div_mul] at key
    exact key
theorem L_dig0 {T : Tg} {I0 : HI} {J : HJ} {k c : Nat} {i cs ls : Int32} (hk : k ≤ 6) (hc : c < 1000)
    (K : ∀ I', Off 57 60 I0 I' → I' 58 = I0 58 → (∀ d, d < k → I' 59 d = rowF k c d) → Wm mX7_doors T 0 0 shA 99 [some (.ref 44), some (.int (nI k)), some (.int i), some (.int cs), some (.int ls), some (.int (nI c)), none, none, none] [] I' J RA) :
    Wm mX7_doors T 0 0 shA 71 [some (.ref 44), some (.int (nI k)), some (.int i), some (.int cs), some (.int ls), some (.int (nI c)), some (.int (nI c)), some (.int (nI k - nI 1)), none] [] I0 J RA := by
  have key := L_dig (I0 := I0) hk hc K 0 (Nat.zero_le _) I0 Off.rf rfl (fun d z1 z2 => by omega)
  rw [Nat.pow_zero, Nat.div_one, Nat.sub_zero] at key
  exact key
theorem L_best {T : Tg} {I0 : HI} {J : HJ} {k : Nat} {i cs ls co vv : Int32} (hk : k ≤ 6)
    (K : ∀ I', Off 57 60 I0 I' → (∀ d, d < k → I' 58 d = I0 59 d) → Wm mX7_doors T 0 0 shA 151 [some (.ref 44), some (.int (nI k)), some (.int i), some (.int cs), some (.int ls), some (.int co), none, none, none] [] I' J RA) :
    ∀ (j : Nat), j ≤ k → ∀ I', Off 57 60 I0 I' → I' 59 = I0 59 → (∀ d, d < j → I' 58 d = I0 59 d) → Wm mX7_doors T 0 0 shA 125 [some (.ref 44), some (.int (nI k)), some (.int i), some (.int cs), some (.int ls), some (.int co), none, some (.int vv), some (.int (nI j))] [] I' J RA := by
  refine loopN (fun j hj ih => ?_)
  intro I' ho h59 hb
  refine q_iload dX7_doors_125 (rfl : 125 + 2 = 127) rfl ?_
  refine q_iload_n dX7_doors_127 (rfl : 127 + 1 = 128) rfl ?_
  refine q_icmp_ge_n (q := 151) (by omega) (by omega) dX7_doors_128 (by decide) (rfl : 128 + 3 = 131) (fun h => ?_) (fun h => ?_)
  ·
    obtain rfl : j = k := by omega
    refine q_forget (L' := [some (.ref 44), some (.int (nI j)), some (.int i), some (.int cs), some (.int ls), some (.int co), none, none, none]) (by repeat (first | exact trivial | refine And.intro rfl ?_)) ?_
    exact K I' ho hb
  ·
    have hj6 : j < 6 := by omega
    refine q_aload_n dX7_doors_131 (rfl : 131 + 1 = 132) rfl ?_
    refine q_getR dX7_doors_132 (rfl : 132 + 3 = 135) fX7_51 (by first | rfl | assumption) (by first | rfl | assumption) ?_
    refine q_iload dX7_doors_135 (rfl : 135 + 2 = 137) rfl ?_
    refine q_aload_n dX7_doors_137 (rfl : 137 + 1 = 138) rfl ?_
    refine q_getR dX7_doors_138 (rfl : 138 + 3 = 141) fX7_54 (by first | rfl | assumption) (by first | rfl | assumption) ?_
    refine q_iload dX7_doors_141 (rfl : 141 + 2 = 143) rfl ?_
    refine q_iald dX7_doors_143 (rfl : 143 + 1 = 144) (by first | rfl | assumption) (by first | assumption | omega) (by decide) ?_
    refine q_iast dX7_doors_144 (rfl : 144 + 1 = 145) (by first | rfl | assumption) (by first | assumption | omega) (by decide) ?_
    first | refine q_iinc1 dX7_doors_145 (rfl : 145 + 3 = 148) rfl (by decide) ?_ | refine q_iinc dX7_doors_145 (rfl : 145 + 3 = 148) rfl rfl (by decide) ?_
    refine q_goto (q := 125) dX7_doors_148 (by decide) ?_
    rw [h59]
    refine ih h _ (ho.wr (by omega) (by omega)) (by rw [wr_ne (by omega), h59]) (fun d hd => ?_)
    by_cases e : d = j
    · subst e
      rw [wr_hit]
    · rw [wr_nk e]
      exact hb d (by omega)
def mdoorsS (I : HI) (n k : Nat) (yr : Nat → Nat) (c : Nat) : Int32 × Nat := dmS (fun c => lostF (I 46 2) (I 51) (fun i => I 49 (yr i)) n k (rowF k c) n) c
theorem S_mdoors {dd n k : Nat} {I : HI} {J : HJ} {i : Int32} {yr : Nat → Nat} (h1 : 1 ≤ k) (h6 : k ≤ 6) (hi : i = -1 ∨ ∃ j, j < k ∧ i = nI j) (hn : I 50 0 = nI n) (h12 : n ≤ 12) (hy : ∀ i, i < n → I 48 (4 * i) = nI (yr i) ∧ yr i < 100) (hnn : ∀ c, c ≤ 3 ^ k → 0 < c → ¬ (mdoorsS I n k yr c).1 < 0) : MI mX7_doors (dd + 3) [.ref 44, .int (nI k), .int i] shA I J RA (fun x I' J' => (i = -1 → x = (mdoorsS I n k yr (3 ^ k)).1) ∧ (∀ j, j < k → i = nI j → x = rowF k (mdoorsS I n k yr (3 ^ k)).2 j) ∧ Off 57 60 I I' ∧ J' = J) := by
  have h3k : 3 ^ k ≤ 729 := Nat.pow_le_pow_right (n := 3) (by omega) h6
  have h3p : 0 < 3 ^ k := Nat.pow_pos (by omega)
  have outer : ∀ (c : Nat), c ≤ 3 ^ k → ∀ I', Off 57 60 I I' → (0 < c → ∀ d, d < k → I' 58 d = rowF k (mdoorsS I n k yr c).2 d) → Wm mX7_doors (TM (dd + 3) 0 0 false shA.length (fun sh' w I' J' R' => sh' = shA ∧ R' = RA ∧ ∃ x : Int32, w = some (.int x) ∧ ((i = -1 → x = (mdoorsS I n k yr (3 ^ k)).1) ∧ (∀ j, j < k → i = nI j → x = rowF k (mdoorsS I n k yr (3 ^ k)).2 j) ∧ Off 57 60 I I' ∧ J' = J))) 0 0 shA 56 [some (.ref 44), some (.int (nI k)), some (.int i), some (.int (nI (3 ^ k))), some (.int (mdoorsS I n k yr c).1), some (.int (nI c)), none, none, none] [] I' J RA := by
    refine loopN (fun c hc ih => ?_)
    intro I' ho hb
    refine q_iload dX7_doors_56 (rfl : 56 + 2 = 58) rfl ?_
    refine q_iload_n dX7_doors_58 (rfl : 58 + 1 = 59) rfl ?_
    refine q_icmp_ge_n (q := 157) (by omega) (by omega) dX7_doors_59 (by decide) (rfl : 59 + 3 = 62) (fun h => ?_) (fun h => ?_)
    ·
      obtain rfl : c = 3 ^ k := by omega
      refine q_iload_n dX7_doors_157 (rfl : 157 + 1 = 158) rfl ?_
      refine q_if_ge (q := 166) dX7_doors_158 (by decide) (rfl : 158 + 3 = 161) (fun h2 => ?_) (fun h2 => ?_)
      ·
        rcases hi with rfl | ⟨j, hj, rfl⟩
        · exact absurd h2 (by decide)
        · have hj6 : j < 6 := by omega
          refine q_aload_n dX7_doors_166 (rfl : 166 + 1 = 167) rfl ?_
          refine q_getR dX7_doors_167 (rfl : 167 + 3 = 170) fX7_51 (by first | rfl | assumption) (by first | rfl | assumption) ?_
          refine q_iload_n dX7_doors_170 (rfl : 170 + 1 = 171) rfl ?_
          refine q_iald dX7_doors_171 (rfl : 171 + 1 = 172) (by first | rfl | assumption) (by first | assumption | omega) (by decide) ?_
          refine q_iret rfl dX7_doors_172 ⟨rfl, rfl, _, rfl, ?_⟩
          exact ⟨fun z => absurd z (nI_nm1 (by omega)), fun j' hj' e => (nI_eq (a := j) (b := j') (by omega) (by omega)).mp e ▸ hb h3p _ hj, ho, rfl⟩
      ·
        refine q_iload dX7_doors_161 (rfl : 161 + 2 = 163) rfl ?_
        refine q_goto (q := 172) dX7_doors_163 (by decide) ?_
        refine q_iret rfl dX7_doors_172 ⟨rfl, rfl, _, rfl, ?_⟩
        exact ⟨fun _ => rfl, fun j hj e => absurd (nI_pos (n := j) (by omega)) (fun z => z (by rw [← e]; exact Int32.not_le.mp h2)), ho, rfl⟩
    ·
      refine q_iload dX7_doors_62 (rfl : 62 + 2 = 64) rfl ?_
      refine q_istore dX7_doors_64 (rfl : 64 + 2 = 66) (by decide) ?_
      refine q_iload_n dX7_doors_66 (rfl : 66 + 1 = 67) rfl ?_
      refine q_iconst (v := nI 1) dX7_doors_67 (rfl : 67 + 1 = 68) (by decide) ?_
      refine q_isub dX7_doors_68 (rfl : 68 + 1 = 69) ?_
      refine q_istore dX7_doors_69 (rfl : 69 + 2 = 71) (by decide) ?_
      refine L_dig0 (I0 := I') (c := c) h6 (by omega) ?_
      intro I2 ho2 h58 hr
      have ho' : Off 57 60 I I2 := ho.trans ho2
      refine q_aload_n dX7_doors_99 (rfl : 99 + 1 = 100) rfl ?_
      refine q_iload_n dX7_doors_100 (rfl : 100 + 1 = 101) rfl ?_
      have n2 : I2 50 0 = nI n := by rw [ho' 50 (by omega), hn]
      have y2 : ∀ i, i < n → I2 48 (4 * i) = nI (yr i) ∧ yr i < 100 := by
        intro i hi
        rw [ho' 48 (by omega)]
        exact hy i hi
      refine q_callVI (S_lostBy (dd := dd) (row := rowF k c) (yr := yr) h6 n2 h12 y2 hr) dX7_doors_101 (rfl : 101 + 3 = 104) lX7_156 vX7_lostBy (by first | rfl | assumption) rfl rfl (Nat.le_of_ble_eq_true rfl) TM_room TM_cs ?_
      intro v I3 J3 hp
      obtain ⟨hv, ho3, e3⟩ := hp
      rw [e3]
      rw [ho' 46 (by omega), ho' 51 (by omega), ho' 49 (by omega)] at hv
      have ho4 : Off 57 60 I I3 := ho'.trans (ho3.wide (by omega) (by omega))
      have un : mdoorsS I n k yr (c + 1) = (if (mdoorsS I n k yr c).1 < 0 ∨ v < (mdoorsS I n k yr c).1 then (v, c) else mdoorsS I n k yr c) := by
        rw [hv]
        rfl
      have better : ((mdoorsS I n k yr c).1 < 0 ∨ v < (mdoorsS I n k yr c).1) → Wm mX7_doors (TM (dd + 3) 0 0 false shA.length (fun sh' w I' J' R' => sh' = shA ∧ R' = RA ∧ ∃ x : Int32, w = some (.int x) ∧ ((i = -1 → x = (mdoorsS I n k yr (3 ^ k)).1) ∧ (∀ j, j < k → i = nI j → x = rowF k (mdoorsS I n k yr (3 ^ k)).2 j) ∧ Off 57 60 I I' ∧ J' = J))) 0 0 shA 118 [some (.ref 44), some (.int (nI k)), some (.int i), some (.int (nI (3 ^ k))), some (.int (mdoorsS I n k yr c).1), some (.int (nI c)), none, some (.int v), none] [] I3 J RA := by
        intro hbt
        rw [if_pos hbt] at un
        refine q_iload dX7_doors_118 (rfl : 118 + 2 = 120) rfl ?_
        refine q_istore dX7_doors_120 (rfl : 120 + 2 = 122) (by decide) ?_
        refine q_iconst (v := nI 0) dX7_doors_122 (rfl : 122 + 1 = 123) (by decide) ?_
        refine q_istore dX7_doors_123 (rfl : 123 + 2 = 125) (by decide) ?_
        refine L_best (I0 := I3) h6 ?_ 0 (by omega) I3 Off.rf rfl (fun d z => by omega)
        intro I4 ho5 hb4
        first | refine q_iinc1 dX7_doors_151 (rfl : 151 + 3 = 154) rfl (by decide) ?_ | refine q_iinc dX7_doors_151 (rfl : 151 + 3 = 154) rfl rfl (by decide) ?_
        refine q_goto (q := 56) dX7_doors_154 (by decide) ?_
        have key := ih h I4 (ho4.trans ho5) (fun _ d hd => by rw [hb4 d hd, ho3 59 (by omega), un]; exact hr d hd)
        rw [un] at key
        exact key
      refine q_istore dX7_doors_104 (rfl : 104 + 2 = 106) (by decide) ?_
      refine q_iload dX7_doors_106 (rfl : 106 + 2 = 108) rfl ?_
      refine q_if_lt (q := 118) dX7_doors_108 (by decide) (rfl : 108 + 3 = 111) (fun h2 => ?_) (fun h2 => ?_)
      ·
        exact better (Or.inl h2)
      ·
        refine q_iload dX7_doors_111 (rfl : 111 + 2 = 113) rfl ?_
        refine q_iload dX7_doors_113 (rfl : 113 + 2 = 115) rfl ?_
        refine q_icmp_ge (q := 151) dX7_doors_115 (by decide) (rfl : 115 + 3 = 118) (fun h3 => ?_) (fun h3 => ?_)
        ·
          have un2 := un
          rw [if_neg (fun z => z.elim h2 (Int32.not_lt.mpr h3))] at un2
          have c0 : 0 < c := by
            rcases Nat.eq_zero_or_pos c with z | z
            · subst z
              exact absurd (show (-1 : Int32) < 0 by decide) h2
            · exact z
          first | refine q_iinc1 dX7_doors_151 (rfl : 151 + 3 = 154) rfl (by decide) ?_ | refine q_iinc dX7_doors_151 (rfl : 151 + 3 = 154) rfl rfl (by decide) ?_
          refine q_goto (q := 56) dX7_doors_154 (by decide) ?_
          have key := ih h I3 ho4 (fun _ d hd => by rw [un2, ho3 58 (by omega), h58]; exact hb c0 d hd)
          rw [un2] at key
          refine q_forget (L' := [some (.ref 44), some (.int (nI k)), some (.int i), some (.int (nI (3 ^ k))), some (.int (mdoorsS I n k yr c).1), some (.int (nI (c + 1))), none, none, none]) (by repeat (first | exact trivial | refine And.intro rfl ?_)) ?_
          exact key
        ·
          exact better (Or.inr (Int32.not_le.mp h3))
  have codes : ∀ (j : Nat), j ≤ k → Wm mX7_doors (TM (dd + 3) 0 0 false shA.length (fun sh' w I' J' R' => sh' = shA ∧ R' = RA ∧ ∃ x : Int32, w = some (.int x) ∧ ((i = -1 → x = (mdoorsS I n k yr (3 ^ k)).1) ∧ (∀ j, j < k → i = nI j → x = rowF k (mdoorsS I n k yr (3 ^ k)).2 j) ∧ Off 57 60 I I' ∧ J' = J))) 0 0 shA 34 [some (.ref 44), some (.int (nI k)), some (.int i), some (.int (nI (3 ^ j))), some (.int (nI j)), none, none, none, none] [] I J RA := by
    refine loopN (fun j hj ih => ?_)
    refine q_iload dX7_doors_34 (rfl : 34 + 2 = 36) rfl ?_
    refine q_iload_n dX7_doors_36 (rfl : 36 + 1 = 37) rfl ?_
    refine q_icmp_ge_n (q := 50) (by omega) (by omega) dX7_doors_37 (by decide) (rfl : 37 + 3 = 40) (fun h => ?_) (fun h => ?_)
    ·
      obtain rfl : k = j := by omega
      refine q_iconst (v := -1) dX7_doors_50 (rfl : 50 + 1 = 51) (by decide) ?_
      refine q_istore dX7_doors_51 (rfl : 51 + 2 = 53) (by decide) ?_
      refine q_iconst (v := nI 0) dX7_doors_53 (rfl : 53 + 1 = 54) (by decide) ?_
      refine q_istore dX7_doors_54 (rfl : 54 + 2 = 56) (by decide) ?_
      have key := outer 0 (Nat.zero_le _) I Off.rf (fun z => absurd z (Nat.lt_irrefl 0))
      rw [show (mdoorsS I n k yr 0).1 = -1 from rfl] at key
      exact key
    ·
      refine q_iload_n dX7_doors_40 (rfl : 40 + 1 = 41) rfl ?_
      refine q_iconst (v := nI 3) dX7_doors_41 (rfl : 41 + 1 = 42) (by decide) ?_
      refine q_imul dX7_doors_42 (rfl : 42 + 1 = 43) ?_
      try simp (disch := omega) only [wr_hit, wr_p, wr_k, nI_add, pk_mul, nI_1, nI_s1, pk_sub, Nat.add_sub_cancel]
      refine q_istore_n dX7_doors_43 (rfl : 43 + 1 = 44) (by decide) ?_
      first | refine q_iinc1 dX7_doors_44 (rfl : 44 + 3 = 47) rfl (by decide) ?_ | refine q_iinc dX7_doors_44 (rfl : 44 + 3 = 47) rfl rfl (by decide) ?_
      refine q_goto (q := 34) dX7_doors_47 (by decide) ?_
      rw [← Nat.pow_succ]
      exact ih h
  refine Mt.of (L := [some (.ref 44), some (.int (nI k)), some (.int i), none, none, none, none, none, none]) (by decide +kernel) (Nat.le_of_ble_eq_true rfl) rfl ?_
  refine q_iload_n dX7_doors_0 (rfl : 0 + 1 = 1) rfl ?_
  refine q_i2l dX7_doors_1 (rfl : 1 + 1 = 2) ?_
  refine q_lconst (v := 1) dX7_doors_2 (rfl : 2 + 1 = 3) (by decide) ?_
  refine q_ldc2 dX7_doors_3 (rfl : 3 + 3 = 6) kX7_152 ?_
  refine q_callSIp (S_inI (x := nI k) (a := nI 1) (b := nI 6) rfl (by decide) (by decide)) dX7_doors_6 (rfl : 6 + 3 = 9) lX7_77 vX7_in rfl rfl (Nat.le_of_ble_eq_true rfl) TM_room TM_cs ?_
  refine q_if_eq_b (q := 27) dX7_doors_9 (by decide) (rfl : 9 + 3 = 12) (fun h2 => ?_) (fun h2 => ?_)
  · rw [inr_of h1 h6 (by decide)] at h2
    cases h2
  ·
    refine q_iload_n dX7_doors_12 (rfl : 12 + 1 = 13) rfl ?_
    refine q_i2l dX7_doors_13 (rfl : 13 + 1 = 14) ?_
    refine q_ldc2 dX7_doors_14 (rfl : 14 + 3 = 17) kX7_154 ?_
    refine q_iload_n dX7_doors_17 (rfl : 17 + 1 = 18) rfl ?_
    refine q_iconst (v := nI 1) dX7_doors_18 (rfl : 18 + 1 = 19) (by decide) ?_
    refine q_isub dX7_doors_19 (rfl : 19 + 1 = 20) ?_
    refine q_i2l dX7_doors_20 (rfl : 20 + 1 = 21) ?_
    refine q_callSIp (S_inI (x := i) (a := -1) (b := nI k - nI 1) rfl (by decide) rfl) dX7_doors_21 (rfl : 21 + 3 = 24) lX7_77 vX7_in rfl rfl (Nat.le_of_ble_eq_true rfl) TM_room TM_cs ?_
    refine q_if_ne_b (q := 29) dX7_doors_24 (by decide) (rfl : 24 + 3 = 27) (fun h3 => ?_) (fun h3 => ?_)
    ·
      refine q_iconst (v := nI 1) dX7_doors_29 (rfl : 29 + 1 = 30) (by decide) ?_
      refine q_istore_n dX7_doors_30 (rfl : 30 + 1 = 31) (by decide) ?_
      refine q_iconst (v := nI 0) dX7_doors_31 (rfl : 31 + 1 = 32) (by decide) ?_
      refine q_istore dX7_doors_32 (rfl : 32 + 2 = 34) (by decide) ?_
      exact codes 0 (by omega)
    ·
      rcases hi with rfl | ⟨j, hj, rfl⟩
      · rw [pk_sub h1] at h3
        have : inr (-1) (-1) (nI (k - 1)) = true := by
          unfold inr
          simp only [Bool.and_eq_true, decide_eq_true_eq]
          exact ⟨by decide, Int32.le_trans (by decide : (-1 : Int32) ≤ 0) (nI_pos' (by omega))⟩
        rw [this] at h3
        cases h3
      · rw [pk_sub h1] at h3
        have : inr (nI j) (-1) (nI (k - 1)) = true := by
          unfold inr
          simp only [Bool.and_eq_true, decide_eq_true_eq]
          exact ⟨Int32.le_trans (by decide : (-1 : Int32) ≤ 0) (nI_pos' (by omega)), (nI_leI (by omega) (by omega)).mpr (by omega)⟩
        rw [this] at h3
        cases h3
