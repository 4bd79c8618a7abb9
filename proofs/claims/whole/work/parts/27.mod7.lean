/-! the reference: sales, swapped dust, letting go -/
theorem S_msell_bad1 {d n : Nat} {I : HI} {J : HJ} {i q : Int32} (hn : I 50 0 = nI n) (h : inr i (nI 0) (nI n - nI 1) = false) : MIp mX7_sell (d + 2) [.ref 44, .int i, .int q] shA I J RA (-1) := by
  refine Mt.of (L := [some (.ref 44), some (.int i), some (.int q), none, none]) (by decide +kernel) (Nat.le_of_ble_eq_true rfl) rfl ?_
  refine q_aload_n dX7_sell_0 (rfl : 0 + 1 = 1) rfl ?_
  refine q_iload_n dX7_sell_1 (rfl : 1 + 1 = 2) rfl ?_
  refine q_callVIp (S_isLayer (d := d) hn) dX7_sell_2 (rfl : 2 + 3 = 5) lX7_144 vX7_isLayer (by first | rfl | assumption) rfl rfl (Nat.le_of_ble_eq_true rfl) TM_room TM_cs ?_
  refine q_if_eq_b (q := 20) dX7_sell_5 (by decide) (rfl : 5 + 3 = 8) (fun h2 => ?_) (fun h2 => ?_)
  ·
    refine q_iconst (v := -1) dX7_sell_20 (rfl : 20 + 1 = 21) (by decide) ?_
    refine q_iret rfl dX7_sell_21 ⟨rfl, rfl, _, rfl, ?_⟩
    exact ⟨rfl, rfl, rfl⟩
  ·
    rw [h] at h2
    cases h2
theorem S_msell_bad2 {d n : Nat} {I : HI} {J : HJ} {i q : Int32} (hn : I 50 0 = nI n) (h : inr q (nI 1) (nI 200) = false) : MIp mX7_sell (d + 2) [.ref 44, .int i, .int q] shA I J RA (-1) := by
  refine Mt.of (L := [some (.ref 44), some (.int i), some (.int q), none, none]) (by decide +kernel) (Nat.le_of_ble_eq_true rfl) rfl ?_
  refine q_aload_n dX7_sell_0 (rfl : 0 + 1 = 1) rfl ?_
  refine q_iload_n dX7_sell_1 (rfl : 1 + 1 = 2) rfl ?_
  refine q_callVIp (S_isLayer (d := d) hn) dX7_sell_2 (rfl : 2 + 3 = 5) lX7_144 vX7_isLayer (by first | rfl | assumption) rfl rfl (Nat.le_of_ble_eq_true rfl) TM_room TM_cs ?_
  refine q_if_eq_b (q := 20) dX7_sell_5 (by decide) (rfl : 5 + 3 = 8) (fun h2 => ?_) (fun h2 => ?_)
  ·
    refine q_iconst (v := -1) dX7_sell_20 (rfl : 20 + 1 = 21) (by decide) ?_
    refine q_iret rfl dX7_sell_21 ⟨rfl, rfl, _, rfl, ?_⟩
    exact ⟨rfl, rfl, rfl⟩
  ·
    refine q_iload_n dX7_sell_8 (rfl : 8 + 1 = 9) rfl ?_
    refine q_i2l dX7_sell_9 (rfl : 9 + 1 = 10) ?_
    refine q_lconst (v := 1) dX7_sell_10 (rfl : 10 + 1 = 11) (by decide) ?_
    refine q_ldc2 dX7_sell_11 (rfl : 11 + 3 = 14) kX7_159 ?_
    refine q_callSIp (S_inI (x := q) (a := nI 1) (b := nI 200) rfl (by decide) (by decide)) dX7_sell_14 (rfl : 14 + 3 = 17) lX7_77 vX7_in rfl rfl (Nat.le_of_ble_eq_true rfl) TM_room TM_cs ?_
    refine q_if_ne_b (q := 22) dX7_sell_17 (by decide) (rfl : 17 + 3 = 20) (fun h3 => ?_) (fun h3 => ?_)
    · rw [h] at h3
      cases h3
    ·
      refine q_iconst (v := -1) dX7_sell_20 (rfl : 20 + 1 = 21) (by decide) ?_
      refine q_iret rfl dX7_sell_21 ⟨rfl, rfl, _, rfl, ?_⟩
      exact ⟨rfl, rfl, rfl⟩
def mshH (I : HI) (k : Nat) : HI := fun a b => if a = 55 ∧ b < k then I 55 (b + 3) else I a b
theorem mshH_0 (I : HI) : mshH I 0 = I := by
  funext a b
  simp [mshH]
theorem mshH_s (I : HI) (k : Nat) : wr (mshH I k) 55 k (I 55 (k + 3)) = mshH I (k + 1) := by
  funext a b
  unfold mshH wr
  by_cases h : a = 55
  · subst h
    by_cases hb : b = k
    · subst hb; simp
    · have e : b < k + 1 ↔ b < k := by omega
      simp [hb, e]
  · simp [h]
theorem mshH_a (I : HI) (k : Nat) : mshH I k 55 (k + 3) = I 55 (k + 3) := by
  unfold mshH
  rw [if_neg (by omega)]
theorem mshH_o (I : HI) (k a : Nat) (h : a ≠ 55) : mshH I k a = I a := by
  funext b
  simp [mshH, h]
def msaleH (I : HI) (ns j : Nat) (q paid : Int32) : HI := wr (wr (wr (wr I 55 (3 * ns) (nI j)) 55 (3 * ns + 1) q) 55 (3 * ns + 2) paid) 54 0 (nI (ns + 1))
def msellH (I : HI) (ns j : Nat) (q paid : Int32) : HI := if ns < 8 then msaleH (wr I 51 j (I 51 j - q)) ns j q paid else msaleH (wr (mshH (wr I 51 j (I 51 j - q)) 21) 54 0 (nI 7)) 7 j q paid
theorem L_msh {T : Tg} {I : HI} {J : HJ} {i q paid : Int32} (K : Wm mX7_sell T 0 0 shA 110 [some (.ref 44), some (.int i), some (.int q), some (.int paid), none] [] (mshH I 21) J RA) :
    ∀ (k : Nat), k ≤ 21 → Wm mX7_sell T 0 0 shA 81 [some (.ref 44), some (.int i), some (.int q), some (.int paid), some (.int (nI k))] [] (mshH I k) J RA := by
  refine loopN (fun k hk ih => ?_)
  refine q_iload dX7_sell_81 (rfl : 81 + 2 = 83) rfl ?_
  refine q_bipush (v := nI 21) dX7_sell_83 (rfl : 83 + 2 = 85) (by decide) ?_
  refine q_icmp_ge_n (q := 110) (by omega) (by omega) dX7_sell_85 (by decide) (rfl : 85 + 3 = 88) (fun h => ?_) (fun h => ?_)
  ·
    obtain rfl : k = 21 := by omega
    refine q_forget (L' := [some (.ref 44), some (.int i), some (.int q), some (.int paid), none]) (by repeat (first | exact trivial | refine And.intro rfl ?_)) ?_
    exact K
  ·
    refine q_aload_n dX7_sell_88 (rfl : 88 + 1 = 89) rfl ?_
    refine q_getR dX7_sell_89 (rfl : 89 + 3 = 92) fX7_42 (by first | rfl | assumption) (by first | rfl | assumption) ?_
    refine q_iload dX7_sell_92 (rfl : 92 + 2 = 94) rfl ?_
    refine q_aload_n dX7_sell_94 (rfl : 94 + 1 = 95) rfl ?_
    refine q_getR dX7_sell_95 (rfl : 95 + 3 = 98) fX7_42 (by first | rfl | assumption) (by first | rfl | assumption) ?_
    refine q_iload dX7_sell_98 (rfl : 98 + 2 = 100) rfl ?_
    refine q_iconst (v := nI 3) dX7_sell_100 (rfl : 100 + 1 = 101) (by decide) ?_
    refine q_iadd dX7_sell_101 (rfl : 101 + 1 = 102) ?_
    try simp (disch := omega) only [wr_hit, wr_p, wr_k, nI_add, pk_mul, nI_1, nI_s1, pk_sub, Nat.add_sub_cancel, mshH_a]
    refine q_iald dX7_sell_102 (rfl : 102 + 1 = 103) (by first | rfl | assumption) (by first | assumption | omega) (by decide) ?_
    try simp (disch := omega) only [wr_hit, wr_p, wr_k, nI_add, pk_mul, nI_1, nI_s1, pk_sub, Nat.add_sub_cancel, mshH_a]
    refine q_iast dX7_sell_103 (rfl : 103 + 1 = 104) (by first | rfl | assumption) (by first | assumption | omega) (by decide) ?_
    first | refine q_iinc1 dX7_sell_104 (rfl : 104 + 3 = 107) rfl (by decide) ?_ | refine q_iinc dX7_sell_104 (rfl : 104 + 3 = 107) rfl rfl (by decide) ?_
    refine q_goto (q := 81) dX7_sell_107 (by decide) ?_
    rw [mshH_s]
    exact ih h
theorem S_msell {d n j ns y : Nat} {I : HI} {J : HJ} {q : Int32} (hn : I 50 0 = nI n) (h12 : n ≤ 12) (hj : j < n) (hq : inr q (nI 1) (nI 200) = true) (hs : I 54 0 = nI ns) (h8 : ns ≤ 8) (hy : I 48 (4 * j) = nI y) (hy2 : y < 100) : MI mX7_sell (d + 2) [.ref 44, .int (nI j), .int q] shA I J RA (fun x I' J' => x = (if I 51 j < q then -2 else q * I 49 y / nI 10) ∧ I' = (if I 51 j < q then I else msellH I ns j q (q * I 49 y / nI 10)) ∧ J' = (if I 51 j < q then J else wr J 53 0 (J 53 0 + (q * I 49 y / nI 10).toInt64))) := by
  have hj12 : j < 12 := by omega
  have hj36 : j < 36 := by omega
  have store : ∀ (I1 : HI) (J1 : HJ) (s : Nat), s < 8 → I1 54 0 = nI s → (¬ I 51 j < q → msaleH I1 s j q (q * I 49 y / nI 10) = msellH I ns j q (q * I 49 y / nI 10)) → ¬ I 51 j < q → J1 = wr J 53 0 (J 53 0 + (q * I 49 y / nI 10).toInt64) → Wm mX7_sell (TM (d + 2) 0 0 false shA.length (fun sh' w I' J' R' => sh' = shA ∧ R' = RA ∧ ∃ x : Int32, w = some (.int x) ∧ (x = (if I 51 j < q then -2 else q * I 49 y / nI 10) ∧ I' = (if I 51 j < q then I else msellH I ns j q (q * I 49 y / nI 10)) ∧ J' = (if I 51 j < q then J else wr J 53 0 (J 53 0 + (q * I 49 y / nI 10).toInt64))))) 0 0 shA 120 [some (.ref 44), some (.int (nI j)), some (.int q), some (.int (q * I 49 y / nI 10)), none] [] I1 J1 RA := by
    intro I1 J1 s hs8 h54 he hq2 hJ
    have hs72 : 3 * s < 72 := by omega
    have hs73 : 3 * s + 1 < 72 := by omega
    have hs74 : 3 * s + 2 < 72 := by omega
    refine q_aload_n dX7_sell_120 (rfl : 120 + 1 = 121) rfl ?_
    refine q_getR dX7_sell_121 (rfl : 121 + 3 = 124) fX7_42 (by first | rfl | assumption) (by first | rfl | assumption) ?_
    refine q_iconst (v := nI 3) dX7_sell_124 (rfl : 124 + 1 = 125) (by decide) ?_
    refine q_aload_n dX7_sell_125 (rfl : 125 + 1 = 126) rfl ?_
    refine q_getR dX7_sell_126 (rfl : 126 + 3 = 129) fX7_39 (by first | rfl | assumption) (by first | rfl | assumption) ?_
    refine q_iconst (v := nI 0) dX7_sell_129 (rfl : 129 + 1 = 130) (by decide) ?_
    refine q_iald (j := 0) dX7_sell_130 (rfl : 130 + 1 = 131) (by first | rfl | assumption) (by decide) (by decide) ?_
    try simp (disch := omega) only [wr_hit, wr_p, wr_k, nI_add, pk_mul, nI_1, nI_s1, pk_sub, Nat.add_sub_cancel, h54]
    refine q_imul dX7_sell_131 (rfl : 131 + 1 = 132) ?_
    try simp (disch := omega) only [wr_hit, wr_p, wr_k, nI_add, pk_mul, nI_1, nI_s1, pk_sub, Nat.add_sub_cancel, h54]
    refine q_iload_n dX7_sell_132 (rfl : 132 + 1 = 133) rfl ?_
    refine q_iast dX7_sell_133 (rfl : 133 + 1 = 134) (by first | rfl | assumption) (by first | assumption | omega) (by decide) ?_
    refine q_aload_n dX7_sell_134 (rfl : 134 + 1 = 135) rfl ?_
    refine q_getR dX7_sell_135 (rfl : 135 + 3 = 138) fX7_42 (by first | rfl | assumption) (by first | rfl | assumption) ?_
    refine q_iconst (v := nI 3) dX7_sell_138 (rfl : 138 + 1 = 139) (by decide) ?_
    refine q_aload_n dX7_sell_139 (rfl : 139 + 1 = 140) rfl ?_
    refine q_getR dX7_sell_140 (rfl : 140 + 3 = 143) fX7_39 (by first | rfl | assumption) (by first | rfl | assumption) ?_
    refine q_iconst (v := nI 0) dX7_sell_143 (rfl : 143 + 1 = 144) (by decide) ?_
    refine q_iald (j := 0) dX7_sell_144 (rfl : 144 + 1 = 145) (by first | rfl | assumption) (by decide) (by decide) ?_
    try simp (disch := omega) only [wr_hit, wr_p, wr_k, nI_add, pk_mul, nI_1, nI_s1, pk_sub, Nat.add_sub_cancel, h54]
    refine q_imul dX7_sell_145 (rfl : 145 + 1 = 146) ?_
    try simp (disch := omega) only [wr_hit, wr_p, wr_k, nI_add, pk_mul, nI_1, nI_s1, pk_sub, Nat.add_sub_cancel, h54]
    refine q_iconst (v := nI 1) dX7_sell_146 (rfl : 146 + 1 = 147) (by decide) ?_
    refine q_iadd dX7_sell_147 (rfl : 147 + 1 = 148) ?_
    try simp (disch := omega) only [wr_hit, wr_p, wr_k, nI_add, pk_mul, nI_1, nI_s1, pk_sub, Nat.add_sub_cancel, h54]
    refine q_iload_n dX7_sell_148 (rfl : 148 + 1 = 149) rfl ?_
    refine q_iast dX7_sell_149 (rfl : 149 + 1 = 150) (by first | rfl | assumption) (by first | assumption | omega) (by decide) ?_
    refine q_aload_n dX7_sell_150 (rfl : 150 + 1 = 151) rfl ?_
    refine q_getR dX7_sell_151 (rfl : 151 + 3 = 154) fX7_42 (by first | rfl | assumption) (by first | rfl | assumption) ?_
    refine q_iconst (v := nI 3) dX7_sell_154 (rfl : 154 + 1 = 155) (by decide) ?_
    refine q_aload_n dX7_sell_155 (rfl : 155 + 1 = 156) rfl ?_
    refine q_getR dX7_sell_156 (rfl : 156 + 3 = 159) fX7_39 (by first | rfl | assumption) (by first | rfl | assumption) ?_
    refine q_iconst (v := nI 0) dX7_sell_159 (rfl : 159 + 1 = 160) (by decide) ?_
    refine q_iald (j := 0) dX7_sell_160 (rfl : 160 + 1 = 161) (by first | rfl | assumption) (by decide) (by decide) ?_
    try simp (disch := omega) only [wr_hit, wr_p, wr_k, nI_add, pk_mul, nI_1, nI_s1, pk_sub, Nat.add_sub_cancel, h54]
    refine q_imul dX7_sell_161 (rfl : 161 + 1 = 162) ?_
    try simp (disch := omega) only [wr_hit, wr_p, wr_k, nI_add, pk_mul, nI_1, nI_s1, pk_sub, Nat.add_sub_cancel, h54]
    refine q_iconst (v := nI 2) dX7_sell_162 (rfl : 162 + 1 = 163) (by decide) ?_
    refine q_iadd dX7_sell_163 (rfl : 163 + 1 = 164) ?_
    try simp (disch := omega) only [wr_hit, wr_p, wr_k, nI_add, pk_mul, nI_1, nI_s1, pk_sub, Nat.add_sub_cancel, h54]
    refine q_iload_n dX7_sell_164 (rfl : 164 + 1 = 165) rfl ?_
    refine q_iast dX7_sell_165 (rfl : 165 + 1 = 166) (by first | rfl | assumption) (by first | assumption | omega) (by decide) ?_
    refine q_aload_n dX7_sell_166 (rfl : 166 + 1 = 167) rfl ?_
    refine q_getR dX7_sell_167 (rfl : 167 + 3 = 170) fX7_39 (by first | rfl | assumption) (by first | rfl | assumption) ?_
    refine q_iconst (v := nI 0) dX7_sell_170 (rfl : 170 + 1 = 171) (by decide) ?_
    refine q_dup2 dX7_sell_171 (rfl : 171 + 1 = 172) rfl rfl ?_
    refine q_iald (j := 0) dX7_sell_172 (rfl : 172 + 1 = 173) (by first | rfl | assumption) (by decide) (by decide) ?_
    try simp (disch := omega) only [wr_hit, wr_p, wr_k, nI_add, pk_mul, nI_1, nI_s1, pk_sub, Nat.add_sub_cancel, h54]
    refine q_iconst (v := nI 1) dX7_sell_173 (rfl : 173 + 1 = 174) (by decide) ?_
    refine q_iadd dX7_sell_174 (rfl : 174 + 1 = 175) ?_
    try simp (disch := omega) only [wr_hit, wr_p, wr_k, nI_add, pk_mul, nI_1, nI_s1, pk_sub, Nat.add_sub_cancel, h54]
    refine q_iast (j := 0) dX7_sell_175 (rfl : 175 + 1 = 176) (by first | rfl | assumption) (by decide) (by decide) ?_
    refine q_iload_n dX7_sell_176 (rfl : 176 + 1 = 177) rfl ?_
    refine q_iret rfl dX7_sell_177 ⟨rfl, rfl, _, rfl, ?_⟩
    rw [if_neg hq2, if_neg hq2, if_neg hq2]
    exact ⟨rfl, he hq2, hJ⟩
  refine Mt.of (L := [some (.ref 44), some (.int (nI j)), some (.int q), none, none]) (by decide +kernel) (Nat.le_of_ble_eq_true rfl) rfl ?_
  refine q_aload_n dX7_sell_0 (rfl : 0 + 1 = 1) rfl ?_
  refine q_iload_n dX7_sell_1 (rfl : 1 + 1 = 2) rfl ?_
  refine q_callVIp (S_isLayer (d := d) hn) dX7_sell_2 (rfl : 2 + 3 = 5) lX7_144 vX7_isLayer (by first | rfl | assumption) rfl rfl (Nat.le_of_ble_eq_true rfl) TM_room TM_cs ?_
  refine q_if_eq_b (q := 20) dX7_sell_5 (by decide) (rfl : 5 + 3 = 8) (fun h2 => ?_) (fun h2 => ?_)
  ·
    rw [in0 hj (by omega)] at h2
    cases h2
  ·
    refine q_iload_n dX7_sell_8 (rfl : 8 + 1 = 9) rfl ?_
    refine q_i2l dX7_sell_9 (rfl : 9 + 1 = 10) ?_
    refine q_lconst (v := 1) dX7_sell_10 (rfl : 10 + 1 = 11) (by decide) ?_
    refine q_ldc2 dX7_sell_11 (rfl : 11 + 3 = 14) kX7_159 ?_
    refine q_callSIp (S_inI (x := q) (a := nI 1) (b := nI 200) rfl (by decide) (by decide)) dX7_sell_14 (rfl : 14 + 3 = 17) lX7_77 vX7_in rfl rfl (Nat.le_of_ble_eq_true rfl) TM_room TM_cs ?_
    refine q_if_ne_b (q := 22) dX7_sell_17 (by decide) (rfl : 17 + 3 = 20) (fun h3 => ?_) (fun h3 => ?_)
    ·
      refine q_aload_n dX7_sell_22 (rfl : 22 + 1 = 23) rfl ?_
      refine q_getR dX7_sell_23 (rfl : 23 + 3 = 26) fX7_29 (by first | rfl | assumption) (by first | rfl | assumption) ?_
      refine q_iload_n dX7_sell_26 (rfl : 26 + 1 = 27) rfl ?_
      refine q_iald dX7_sell_27 (rfl : 27 + 1 = 28) (by first | rfl | assumption) (by first | assumption | omega) (by decide) ?_
      refine q_iload_n dX7_sell_28 (rfl : 28 + 1 = 29) rfl ?_
      refine q_icmp_ge (q := 35) dX7_sell_29 (by decide) (rfl : 29 + 3 = 32) (fun h4 => ?_) (fun h4 => ?_)
      ·
        have h4' : ¬ I 51 j < q := Int32.not_lt.mpr h4
        refine q_iload_n dX7_sell_35 (rfl : 35 + 1 = 36) rfl ?_
        refine q_aload_n dX7_sell_36 (rfl : 36 + 1 = 37) rfl ?_
        refine q_iload_n dX7_sell_37 (rfl : 37 + 1 = 38) rfl ?_
        refine q_callVIp (S_mcostOf (d := d) hj12 hy hy2) dX7_sell_38 (rfl : 38 + 3 = 41) lX7_131 vX7_costOf (by first | rfl | assumption) rfl rfl (Nat.le_of_ble_eq_true rfl) TM_room TM_cs ?_
        refine q_imul dX7_sell_41 (rfl : 41 + 1 = 42) ?_
        refine q_bipush (v := nI 10) dX7_sell_42 (rfl : 42 + 2 = 44) (by decide) ?_
        refine q_idiv dX7_sell_44 (rfl : 44 + 1 = 45) (by first | assumption | decide) ?_
        refine q_istore_n dX7_sell_45 (rfl : 45 + 1 = 46) (by decide) ?_
        refine q_aload_n dX7_sell_46 (rfl : 46 + 1 = 47) rfl ?_
        refine q_getR dX7_sell_47 (rfl : 47 + 3 = 50) fX7_29 (by first | rfl | assumption) (by first | rfl | assumption) ?_
        refine q_iload_n dX7_sell_50 (rfl : 50 + 1 = 51) rfl ?_
        refine q_dup2 dX7_sell_51 (rfl : 51 + 1 = 52) rfl rfl ?_
        refine q_iald dX7_sell_52 (rfl : 52 + 1 = 53) (by first | rfl | assumption) (by first | assumption | omega) (by decide) ?_
        refine q_iload_n dX7_sell_53 (rfl : 53 + 1 = 54) rfl ?_
        refine q_isub dX7_sell_54 (rfl : 54 + 1 = 55) ?_
        refine q_iast dX7_sell_55 (rfl : 55 + 1 = 56) (by first | rfl | assumption) (by first | assumption | omega) (by decide) ?_
        refine q_aload_n dX7_sell_56 (rfl : 56 + 1 = 57) rfl ?_
        refine q_getR dX7_sell_57 (rfl : 57 + 3 = 60) fX7_35 (by first | rfl | assumption) (by first | rfl | assumption) ?_
        refine q_iconst (v := nI 0) dX7_sell_60 (rfl : 60 + 1 = 61) (by decide) ?_
        refine q_dup2 dX7_sell_61 (rfl : 61 + 1 = 62) rfl rfl ?_
        refine q_lald (j := 0) dX7_sell_62 (rfl : 62 + 1 = 63) (by first | rfl | assumption) (by decide) (by decide) ?_
        refine q_iload_n dX7_sell_63 (rfl : 63 + 1 = 64) rfl ?_
        refine q_i2l dX7_sell_64 (rfl : 64 + 1 = 65) ?_
        refine q_ladd dX7_sell_65 (rfl : 65 + 1 = 66) ?_
        refine q_last (j := 0) dX7_sell_66 (rfl : 66 + 1 = 67) (by first | rfl | assumption) (by decide) (by decide) ?_
        refine q_aload_n dX7_sell_67 (rfl : 67 + 1 = 68) rfl ?_
        refine q_getR dX7_sell_68 (rfl : 68 + 3 = 71) fX7_39 (by first | rfl | assumption) (by first | rfl | assumption) ?_
        refine q_iconst (v := nI 0) dX7_sell_71 (rfl : 71 + 1 = 72) (by decide) ?_
        refine q_iald (j := 0) dX7_sell_72 (rfl : 72 + 1 = 73) (by first | rfl | assumption) (by decide) (by decide) ?_
        refine q_bipush (v := nI 8) dX7_sell_73 (rfl : 73 + 2 = 75) (by decide) ?_
        have h54 : wr I 51 j (I 51 j - q) 54 0 = nI ns := by rw [wr_ne (by omega), hs]
        rw [h54]
        refine q_icmp_ne_n (q := 120) (by omega) (by omega) dX7_sell_75 (by decide) (rfl : 75 + 3 = 78) (fun h5 => ?_) (fun h5 => ?_)
        ·
          have hns : ns < 8 := by omega
          exact store _ _ ns hns h54 (fun _ => by unfold msellH; rw [if_pos hns]) h4' rfl
        ·
          subst h5
          refine q_iconst (v := nI 0) dX7_sell_78 (rfl : 78 + 1 = 79) (by decide) ?_
          refine q_istore dX7_sell_79 (rfl : 79 + 2 = 81) (by decide) ?_
          refine (mshH_0 (wr I 51 j (I 51 j - q))) ▸ L_msh (I := wr I 51 j (I 51 j - q)) ?_ 0 (by omega)
          have h55 : mshH (wr I 51 j (I 51 j - q)) 21 54 0 = nI 8 := by rw [mshH_o _ _ _ (by omega), h54]
          refine q_aload_n dX7_sell_110 (rfl : 110 + 1 = 111) rfl ?_
          refine q_getR dX7_sell_111 (rfl : 111 + 3 = 114) fX7_39 (by first | rfl | assumption) (by first | rfl | assumption) ?_
          refine q_iconst (v := nI 0) dX7_sell_114 (rfl : 114 + 1 = 115) (by decide) ?_
          refine q_dup2 dX7_sell_115 (rfl : 115 + 1 = 116) rfl rfl ?_
          refine q_iald (j := 0) dX7_sell_116 (rfl : 116 + 1 = 117) (by first | rfl | assumption) (by decide) (by decide) ?_
          refine q_iconst (v := nI 1) dX7_sell_117 (rfl : 117 + 1 = 118) (by decide) ?_
          refine q_isub dX7_sell_118 (rfl : 118 + 1 = 119) ?_
          refine q_iast (j := 0) dX7_sell_119 (rfl : 119 + 1 = 120) (by first | rfl | assumption) (by decide) (by decide) ?_
          rw [h55]
          exact store _ _ 7 (by omega) (by rw [wr_hit]; rfl) (fun _ => by unfold msellH; rw [if_neg (by omega)]; rfl) h4' rfl
      ·
        have h4' : I 51 j < q := Int32.not_le.mp h4
        refine q_bipush (v := -2) dX7_sell_32 (rfl : 32 + 2 = 34) (by decide) ?_
        refine q_iret rfl dX7_sell_34 ⟨rfl, rfl, _, rfl, ?_⟩
        rw [if_pos h4', if_pos h4', if_pos h4']
        exact ⟨rfl, rfl, rfl⟩
    · rw [hq] at h3
      cases h3
theorem S_mundo0 {d : Nat} {I : HI} {J : HJ} (hs : I 54 0 = nI 0) : MIp mX7_undo d [.ref 44] shA I J RA (-2) := by
  refine Mt.of (L := [some (.ref 44), none]) (by decide +kernel) (Nat.le_of_ble_eq_true rfl) rfl ?_
  refine q_aload_n dX7_undo_0 (rfl : 0 + 1 = 1) rfl ?_
  refine q_getR dX7_undo_1 (rfl : 1 + 3 = 4) fX7_39 (by first | rfl | assumption) (by first | rfl | assumption) ?_
  refine q_iconst (v := nI 0) dX7_undo_4 (rfl : 4 + 1 = 5) (by decide) ?_
  refine q_iald (j := 0) dX7_undo_5 (rfl : 5 + 1 = 6) (by first | rfl | assumption) (by decide) (by decide) ?_
  try simp (disch := omega) only [wr_hit, wr_p, wr_k, nI_add, pk_mul, nI_1, nI_s1, pk_sub, Nat.add_sub_cancel, hs]
  refine q_if_ne_n (q := 12) (by omega) dX7_undo_6 (by decide) (rfl : 6 + 3 = 9) (fun h => ?_) (fun h => ?_)
  · omega
  ·
    refine q_bipush (v := -2) dX7_undo_9 (rfl : 9 + 2 = 11) (by decide) ?_
    refine q_iret rfl dX7_undo_11 ⟨rfl, rfl, _, rfl, ?_⟩
    exact ⟨rfl, rfl, rfl⟩
theorem S_mundo {d k j : Nat} {I : HI} {J : HJ} (hs : I 54 0 = nI (k + 1)) (h8 : k < 8) (hj : I 55 (3 * k) = nI j) (h12 : j < 12) : MI mX7_undo d [.ref 44] shA I J RA (fun x I' J' => x = I 55 (3 * k + 1) ∧ I' = wr (wr I 54 0 (nI k)) 51 j (I 51 j + I 55 (3 * k + 1)) ∧ J' = wr J 53 0 (J 53 0 - (I 55 (3 * k + 2)).toInt64)) := by
  have hs72 : 3 * k < 72 := by omega
  have hs73 : 3 * k + 1 < 72 := by omega
  have hs74 : 3 * k + 2 < 72 := by omega
  have hj36 : j < 36 := by omega
  refine Mt.of (L := [some (.ref 44), none]) (by decide +kernel) (Nat.le_of_ble_eq_true rfl) rfl ?_
  refine q_aload_n dX7_undo_0 (rfl : 0 + 1 = 1) rfl ?_
  refine q_getR dX7_undo_1 (rfl : 1 + 3 = 4) fX7_39 (by first | rfl | assumption) (by first | rfl | assumption) ?_
  refine q_iconst (v := nI 0) dX7_undo_4 (rfl : 4 + 1 = 5) (by decide) ?_
  refine q_iald (j := 0) dX7_undo_5 (rfl : 5 + 1 = 6) (by first | rfl | assumption) (by decide) (by decide) ?_
  try simp (disch := omega) only [wr_hit, wr_p, wr_k, nI_add, pk_mul, nI_1, nI_s1, pk_sub, Nat.add_sub_cancel, hs, hj]
  refine q_if_ne_n (q := 12) (by omega) dX7_undo_6 (by decide) (rfl : 6 + 3 = 9) (fun h => ?_) (fun h => ?_)
  ·
    refine q_aload_n dX7_undo_12 (rfl : 12 + 1 = 13) rfl ?_
    refine q_getR dX7_undo_13 (rfl : 13 + 3 = 16) fX7_39 (by first | rfl | assumption) (by first | rfl | assumption) ?_
    refine q_iconst (v := nI 0) dX7_undo_16 (rfl : 16 + 1 = 17) (by decide) ?_
    refine q_dup2 dX7_undo_17 (rfl : 17 + 1 = 18) rfl rfl ?_
    refine q_iald (j := 0) dX7_undo_18 (rfl : 18 + 1 = 19) (by first | rfl | assumption) (by decide) (by decide) ?_
    try simp (disch := omega) only [wr_hit, wr_p, wr_k, nI_add, pk_mul, nI_1, nI_s1, pk_sub, Nat.add_sub_cancel, hs, hj]
    refine q_iconst (v := nI 1) dX7_undo_19 (rfl : 19 + 1 = 20) (by decide) ?_
    refine q_isub dX7_undo_20 (rfl : 20 + 1 = 21) ?_
    try simp (disch := omega) only [wr_hit, wr_p, wr_k, nI_add, pk_mul, nI_1, nI_s1, pk_sub, Nat.add_sub_cancel, hs, hj]
    refine q_iast (j := 0) dX7_undo_21 (rfl : 21 + 1 = 22) (by first | rfl | assumption) (by decide) (by decide) ?_
    refine q_iconst (v := nI 3) dX7_undo_22 (rfl : 22 + 1 = 23) (by decide) ?_
    refine q_aload_n dX7_undo_23 (rfl : 23 + 1 = 24) rfl ?_
    refine q_getR dX7_undo_24 (rfl : 24 + 3 = 27) fX7_39 (by first | rfl | assumption) (by first | rfl | assumption) ?_
    refine q_iconst (v := nI 0) dX7_undo_27 (rfl : 27 + 1 = 28) (by decide) ?_
    refine q_iald (j := 0) dX7_undo_28 (rfl : 28 + 1 = 29) (by first | rfl | assumption) (by decide) (by decide) ?_
    try simp (disch := omega) only [wr_hit, wr_p, wr_k, nI_add, pk_mul, nI_1, nI_s1, pk_sub, Nat.add_sub_cancel, hs, hj]
    refine q_imul dX7_undo_29 (rfl : 29 + 1 = 30) ?_
    try simp (disch := omega) only [wr_hit, wr_p, wr_k, nI_add, pk_mul, nI_1, nI_s1, pk_sub, Nat.add_sub_cancel, hs, hj]
    refine q_istore_n dX7_undo_30 (rfl : 30 + 1 = 31) (by decide) ?_
    refine q_aload_n dX7_undo_31 (rfl : 31 + 1 = 32) rfl ?_
    refine q_getR dX7_undo_32 (rfl : 32 + 3 = 35) fX7_29 (by first | rfl | assumption) (by first | rfl | assumption) ?_
    refine q_aload_n dX7_undo_35 (rfl : 35 + 1 = 36) rfl ?_
    refine q_getR dX7_undo_36 (rfl : 36 + 3 = 39) fX7_42 (by first | rfl | assumption) (by first | rfl | assumption) ?_
    refine q_iload_n dX7_undo_39 (rfl : 39 + 1 = 40) rfl ?_
    refine q_iald dX7_undo_40 (rfl : 40 + 1 = 41) (by first | rfl | assumption) (by first | assumption | omega) (by decide) ?_
    try simp (disch := omega) only [wr_hit, wr_p, wr_k, nI_add, pk_mul, nI_1, nI_s1, pk_sub, Nat.add_sub_cancel, hs, hj]
    refine q_dup2 dX7_undo_41 (rfl : 41 + 1 = 42) rfl rfl ?_
    refine q_iald dX7_undo_42 (rfl : 42 + 1 = 43) (by first | rfl | assumption) (by first | assumption | omega) (by decide) ?_
    try simp (disch := omega) only [wr_hit, wr_p, wr_k, nI_add, pk_mul, nI_1, nI_s1, pk_sub, Nat.add_sub_cancel, hs, hj]
    refine q_aload_n dX7_undo_43 (rfl : 43 + 1 = 44) rfl ?_
    refine q_getR dX7_undo_44 (rfl : 44 + 3 = 47) fX7_42 (by first | rfl | assumption) (by first | rfl | assumption) ?_
    refine q_iload_n dX7_undo_47 (rfl : 47 + 1 = 48) rfl ?_
    refine q_iconst (v := nI 1) dX7_undo_48 (rfl : 48 + 1 = 49) (by decide) ?_
    refine q_iadd dX7_undo_49 (rfl : 49 + 1 = 50) ?_
    try simp (disch := omega) only [wr_hit, wr_p, wr_k, nI_add, pk_mul, nI_1, nI_s1, pk_sub, Nat.add_sub_cancel, hs, hj]
    refine q_iald dX7_undo_50 (rfl : 50 + 1 = 51) (by first | rfl | assumption) (by first | assumption | omega) (by decide) ?_
    try simp (disch := omega) only [wr_hit, wr_p, wr_k, nI_add, pk_mul, nI_1, nI_s1, pk_sub, Nat.add_sub_cancel, hs, hj]
    refine q_iadd dX7_undo_51 (rfl : 51 + 1 = 52) ?_
    try simp (disch := omega) only [wr_hit, wr_p, wr_k, nI_add, pk_mul, nI_1, nI_s1, pk_sub, Nat.add_sub_cancel, hs, hj]
    refine q_iast dX7_undo_52 (rfl : 52 + 1 = 53) (by first | rfl | assumption) (by first | assumption | omega) (by decide) ?_
    refine q_aload_n dX7_undo_53 (rfl : 53 + 1 = 54) rfl ?_
    refine q_getR dX7_undo_54 (rfl : 54 + 3 = 57) fX7_35 (by first | rfl | assumption) (by first | rfl | assumption) ?_
    refine q_iconst (v := nI 0) dX7_undo_57 (rfl : 57 + 1 = 58) (by decide) ?_
    refine q_dup2 dX7_undo_58 (rfl : 58 + 1 = 59) rfl rfl ?_
    refine q_lald (j := 0) dX7_undo_59 (rfl : 59 + 1 = 60) (by first | rfl | assumption) (by decide) (by decide) ?_
    refine q_aload_n dX7_undo_60 (rfl : 60 + 1 = 61) rfl ?_
    refine q_getR dX7_undo_61 (rfl : 61 + 3 = 64) fX7_42 (by first | rfl | assumption) (by first | rfl | assumption) ?_
    refine q_iload_n dX7_undo_64 (rfl : 64 + 1 = 65) rfl ?_
    refine q_iconst (v := nI 2) dX7_undo_65 (rfl : 65 + 1 = 66) (by decide) ?_
    refine q_iadd dX7_undo_66 (rfl : 66 + 1 = 67) ?_
    try simp (disch := omega) only [wr_hit, wr_p, wr_k, nI_add, pk_mul, nI_1, nI_s1, pk_sub, Nat.add_sub_cancel, hs, hj]
    refine q_iald dX7_undo_67 (rfl : 67 + 1 = 68) (by first | rfl | assumption) (by first | assumption | omega) (by decide) ?_
    try simp (disch := omega) only [wr_hit, wr_p, wr_k, nI_add, pk_mul, nI_1, nI_s1, pk_sub, Nat.add_sub_cancel, hs, hj]
    refine q_i2l dX7_undo_68 (rfl : 68 + 1 = 69) ?_
    refine q_lsub dX7_undo_69 (rfl : 69 + 1 = 70) ?_
    refine q_last (j := 0) dX7_undo_70 (rfl : 70 + 1 = 71) (by first | rfl | assumption) (by decide) (by decide) ?_
    refine q_aload_n dX7_undo_71 (rfl : 71 + 1 = 72) rfl ?_
    refine q_getR dX7_undo_72 (rfl : 72 + 3 = 75) fX7_42 (by first | rfl | assumption) (by first | rfl | assumption) ?_
    refine q_iload_n dX7_undo_75 (rfl : 75 + 1 = 76) rfl ?_
    refine q_iconst (v := nI 1) dX7_undo_76 (rfl : 76 + 1 = 77) (by decide) ?_
    refine q_iadd dX7_undo_77 (rfl : 77 + 1 = 78) ?_
    try simp (disch := omega) only [wr_hit, wr_p, wr_k, nI_add, pk_mul, nI_1, nI_s1, pk_sub, Nat.add_sub_cancel, hs, hj]
    refine q_iald dX7_undo_78 (rfl : 78 + 1 = 79) (by first | rfl | assumption) (by first | assumption | omega) (by decide) ?_
    try simp (disch := omega) only [wr_hit, wr_p, wr_k, nI_add, pk_mul, nI_1, nI_s1, pk_sub, Nat.add_sub_cancel, hs, hj]
    refine q_iret rfl dX7_undo_79 ⟨rfl, rfl, _, rfl, ?_⟩
    exact ⟨rfl, rfl, rfl⟩
  · omega
theorem S_mswap_bad1 {d n : Nat} {I : HI} {J : HJ} {i q : Int32} (hn : I 50 0 = nI n) (h : inr i (nI 0) (nI n - nI 1) = false) : MIp mX7_swap (d + 2) [.ref 44, .int i, .int q] shA I J RA (-1) := by
  refine Mt.of (L := [some (.ref 44), some (.int i), some (.int q), none]) (by decide +kernel) (Nat.le_of_ble_eq_true rfl) rfl ?_
  refine q_aload_n dX7_swap_0 (rfl : 0 + 1 = 1) rfl ?_
  refine q_iload_n dX7_swap_1 (rfl : 1 + 1 = 2) rfl ?_
  refine q_callVIp (S_isLayer (d := d) hn) dX7_swap_2 (rfl : 2 + 3 = 5) lX7_144 vX7_isLayer (by first | rfl | assumption) rfl rfl (Nat.le_of_ble_eq_true rfl) TM_room TM_cs ?_
  refine q_if_eq_b (q := 20) dX7_swap_5 (by decide) (rfl : 5 + 3 = 8) (fun h2 => ?_) (fun h2 => ?_)
  ·
    refine q_iconst (v := -1) dX7_swap_20 (rfl : 20 + 1 = 21) (by decide) ?_
    refine q_iret rfl dX7_swap_21 ⟨rfl, rfl, _, rfl, ?_⟩
    exact ⟨rfl, rfl, rfl⟩
  ·
    rw [h] at h2
    cases h2
theorem S_mswap_bad2 {d n : Nat} {I : HI} {J : HJ} {i q : Int32} (hn : I 50 0 = nI n) (h : inr q (nI 0) (nI 9) = false) : MIp mX7_swap (d + 2) [.ref 44, .int i, .int q] shA I J RA (-1) := by
  refine Mt.of (L := [some (.ref 44), some (.int i), some (.int q), none]) (by decide +kernel) (Nat.le_of_ble_eq_true rfl) rfl ?_
  refine q_aload_n dX7_swap_0 (rfl : 0 + 1 = 1) rfl ?_
  refine q_iload_n dX7_swap_1 (rfl : 1 + 1 = 2) rfl ?_
  refine q_callVIp (S_isLayer (d := d) hn) dX7_swap_2 (rfl : 2 + 3 = 5) lX7_144 vX7_isLayer (by first | rfl | assumption) rfl rfl (Nat.le_of_ble_eq_true rfl) TM_room TM_cs ?_
  refine q_if_eq_b (q := 20) dX7_swap_5 (by decide) (rfl : 5 + 3 = 8) (fun h2 => ?_) (fun h2 => ?_)
  ·
    refine q_iconst (v := -1) dX7_swap_20 (rfl : 20 + 1 = 21) (by decide) ?_
    refine q_iret rfl dX7_swap_21 ⟨rfl, rfl, _, rfl, ?_⟩
    exact ⟨rfl, rfl, rfl⟩
  ·
    refine q_iload_n dX7_swap_8 (rfl : 8 + 1 = 9) rfl ?_
    refine q_i2l dX7_swap_9 (rfl : 9 + 1 = 10) ?_
    refine q_lconst (v := 0) dX7_swap_10 (rfl : 10 + 1 = 11) (by decide) ?_
    refine q_ldc2 dX7_swap_11 (rfl : 11 + 3 = 14) kX7_161 ?_
    refine q_callSIp (S_inI (x := q) (a := nI 0) (b := nI 9) rfl (by decide) (by decide)) dX7_swap_14 (rfl : 14 + 3 = 17) lX7_77 vX7_in rfl rfl (Nat.le_of_ble_eq_true rfl) TM_room TM_cs ?_
    refine q_if_ne_b (q := 22) dX7_swap_17 (by decide) (rfl : 17 + 3 = 20) (fun h3 => ?_) (fun h3 => ?_)
    · rw [h] at h3
      cases h3
    ·
      refine q_iconst (v := -1) dX7_swap_20 (rfl : 20 + 1 = 21) (by decide) ?_
      refine q_iret rfl dX7_swap_21 ⟨rfl, rfl, _, rfl, ?_⟩
      exact ⟨rfl, rfl, rfl⟩
theorem S_mswap {d n j : Nat} {I : HI} {J : HJ} {q : Int32} (hn : I 50 0 = nI n) (h12 : n ≤ 12) (hj : j < n) (hq : inr q (nI 0) (nI 9) = true) : MI mX7_swap (d + 2) [.ref 44, .int (nI j), .int q] shA I J RA (fun x I' J' => x = I 52 j ∧ I' = wr I 52 j q ∧ J' = J) := by
  have hj36 : j < 36 := by omega
  refine Mt.of (L := [some (.ref 44), some (.int (nI j)), some (.int q), none]) (by decide +kernel) (Nat.le_of_ble_eq_true rfl) rfl ?_
  refine q_aload_n dX7_swap_0 (rfl : 0 + 1 = 1) rfl ?_
  refine q_iload_n dX7_swap_1 (rfl : 1 + 1 = 2) rfl ?_
  refine q_callVIp (S_isLayer (d := d) hn) dX7_swap_2 (rfl : 2 + 3 = 5) lX7_144 vX7_isLayer (by first | rfl | assumption) rfl rfl (Nat.le_of_ble_eq_true rfl) TM_room TM_cs ?_
  refine q_if_eq_b (q := 20) dX7_swap_5 (by decide) (rfl : 5 + 3 = 8) (fun h2 => ?_) (fun h2 => ?_)
  ·
    rw [in0 hj (by omega)] at h2
    cases h2
  ·
    refine q_iload_n dX7_swap_8 (rfl : 8 + 1 = 9) rfl ?_
    refine q_i2l dX7_swap_9 (rfl : 9 + 1 = 10) ?_
    refine q_lconst (v := 0) dX7_swap_10 (rfl : 10 + 1 = 11) (by decide) ?_
    refine q_ldc2 dX7_swap_11 (rfl : 11 + 3 = 14) kX7_161 ?_
    refine q_callSIp (S_inI (x := q) (a := nI 0) (b := nI 9) rfl (by decide) (by decide)) dX7_swap_14 (rfl : 14 + 3 = 17) lX7_77 vX7_in rfl rfl (Nat.le_of_ble_eq_true rfl) TM_room TM_cs ?_
    refine q_if_ne_b (q := 22) dX7_swap_17 (by decide) (rfl : 17 + 3 = 20) (fun h3 => ?_) (fun h3 => ?_)
    ·
      refine q_aload_n dX7_swap_22 (rfl : 22 + 1 = 23) rfl ?_
      refine q_getR dX7_swap_23 (rfl : 23 + 3 = 26) fX7_32 (by first | rfl | assumption) (by first | rfl | assumption) ?_
      refine q_iload_n dX7_swap_26 (rfl : 26 + 1 = 27) rfl ?_
      refine q_iald dX7_swap_27 (rfl : 27 + 1 = 28) (by first | rfl | assumption) (by first | assumption | omega) (by decide) ?_
      refine q_istore_n dX7_swap_28 (rfl : 28 + 1 = 29) (by decide) ?_
      refine q_aload_n dX7_swap_29 (rfl : 29 + 1 = 30) rfl ?_
      refine q_getR dX7_swap_30 (rfl : 30 + 3 = 33) fX7_32 (by first | rfl | assumption) (by first | rfl | assumption) ?_
      refine q_iload_n dX7_swap_33 (rfl : 33 + 1 = 34) rfl ?_
      refine q_iload_n dX7_swap_34 (rfl : 34 + 1 = 35) rfl ?_
      refine q_iast dX7_swap_35 (rfl : 35 + 1 = 36) (by first | rfl | assumption) (by first | assumption | omega) (by decide) ?_
      refine q_iload_n dX7_swap_36 (rfl : 36 + 1 = 37) rfl ?_
      refine q_iret rfl dX7_swap_37 ⟨rfl, rfl, _, rfl, ?_⟩
      exact ⟨rfl, rfl, rfl⟩
    · rw [hq] at h3
      cases h3
def yrS (t y : Nat → Int32) (s i : Nat) : Nat × Int32 := match i with
  | 0 => (0, -1)
  | i + 1 => if s / 2 ^ i % 2 = 0 ∧ 0 < t i then (if y i = (yrS t y s i).2 then (yrS t y s i).1 else (yrS t y s i).1 + 1, y i) else yrS t y s i
theorem L_years {d n0 n s : Nat} {Po : PO} {I : HI} {J : HJ} (hs : s < 2 ^ 31) (hn : I 50 0 = nI n) (h12 : n ≤ 12)
    (hPo : Po shA (some (.int (nI (yrS (I 51) (fun i => I 48 (4 * i)) s n).1))) I J RA) :
    ∀ (i : Nat), i ≤ n → Wm mX7_years (TM (d + 1) 0 0 false n0 Po) 0 0 shA 7 [some (.ref 44), some (.int (nI s)), some (.int (nI (yrS (I 51) (fun i => I 48 (4 * i)) s i).1)), some (.int (yrS (I 51) (fun i => I 48 (4 * i)) s i).2), some (.int (nI i))] [] I J RA := by
  refine loopN (fun i hi ih => ?_)
  refine q_iload dX7_years_7 (rfl : 7 + 2 = 9) rfl ?_
  refine q_aload_n dX7_years_9 (rfl : 9 + 1 = 10) rfl ?_
  refine q_getR dX7_years_10 (rfl : 10 + 3 = 13) fX7_26 (by first | rfl | assumption) (by first | rfl | assumption) ?_
  refine q_iconst (v := nI 0) dX7_years_13 (rfl : 13 + 1 = 14) (by decide) ?_
  refine q_iald (j := 0) dX7_years_14 (rfl : 14 + 1 = 15) (by first | rfl | assumption) (by decide) (by decide) ?_
  try simp (disch := omega) only [wr_hit, wr_p, wr_k, nI_add, pk_mul, nI_1, nI_s1, pk_sub, Nat.add_sub_cancel, hn]
  refine q_icmp_ge_n (q := 70) (by omega) (by omega) dX7_years_15 (by decide) (rfl : 15 + 3 = 18) (fun h => ?_) (fun h => ?_)
  ·
    obtain rfl : i = n := by omega
    refine q_iload_n dX7_years_70 (rfl : 70 + 1 = 71) rfl ?_
    exact q_iret rfl dX7_years_71 hPo
  ·
    have hi36 : i < 36 := by omega
    refine q_iload_n dX7_years_18 (rfl : 18 + 1 = 19) rfl ?_
    refine q_iload dX7_years_19 (rfl : 19 + 2 = 21) rfl ?_
    refine q_ishr dX7_years_21 (rfl : 21 + 1 = 22) ?_
    refine q_iconst (v := nI 1) dX7_years_22 (rfl : 22 + 1 = 23) (by decide) ?_
    refine q_iand dX7_years_23 (rfl : 23 + 1 = 24) ?_
    rw [bitI hs (by omega)]
    have skip : ¬ (s / 2 ^ i % 2 = 0 ∧ 0 < I 51 i) → Wm mX7_years (TM (d + 1) 0 0 false n0 Po) 0 0 shA 64 [some (.ref 44), some (.int (nI s)), some (.int (nI (yrS (I 51) (fun i => I 48 (4 * i)) s i).1)), some (.int (yrS (I 51) (fun i => I 48 (4 * i)) s i).2), some (.int (nI i))] [] I J RA := by
      intro hz
      have e : yrS (I 51) (fun i => I 48 (4 * i)) s (i + 1) = yrS (I 51) (fun i => I 48 (4 * i)) s i := if_neg hz
      have key := ih h
      rw [e] at key
      first | refine q_iinc1 dX7_years_64 (rfl : 64 + 3 = 67) rfl (by decide) ?_ | refine q_iinc dX7_years_64 (rfl : 64 + 3 = 67) rfl rfl (by decide) ?_
      refine q_goto (q := 7) dX7_years_67 (by decide) ?_
      exact key
    refine q_if_ne_n (q := 64) (by omega) dX7_years_24 (by decide) (rfl : 24 + 3 = 27) (fun hb => ?_) (fun hb => ?_)
    ·
      exact skip (fun z => hb z.1)
    ·
      refine q_aload_n dX7_years_27 (rfl : 27 + 1 = 28) rfl ?_
      refine q_getR dX7_years_28 (rfl : 28 + 3 = 31) fX7_29 (by first | rfl | assumption) (by first | rfl | assumption) ?_
      refine q_iload dX7_years_31 (rfl : 31 + 2 = 33) rfl ?_
      refine q_iald dX7_years_33 (rfl : 33 + 1 = 34) (by first | rfl | assumption) (by first | assumption | omega) (by decide) ?_
      refine q_if_le (q := 64) dX7_years_34 (by decide) (rfl : 34 + 3 = 37) (fun hp => ?_) (fun hp => ?_)
      ·
        exact skip (fun z => absurd z.2 (Int32.not_lt.mpr hp))
      ·
        have hp' : 0 < I 51 i := Int32.not_le.mp hp
        have e : yrS (I 51) (fun i => I 48 (4 * i)) s (i + 1) = (if I 48 (4 * i) = (yrS (I 51) (fun i => I 48 (4 * i)) s i).2 then (yrS (I 51) (fun i => I 48 (4 * i)) s i).1 else (yrS (I 51) (fun i => I 48 (4 * i)) s i).1 + 1, I 48 (4 * i)) := if_pos ⟨hb, hp'⟩
        have key := ih h
        rw [e] at key
        refine q_iload_n dX7_years_37 (rfl : 37 + 1 = 38) rfl ?_
        refine q_aload_n dX7_years_38 (rfl : 38 + 1 = 39) rfl ?_
        refine q_iload dX7_years_39 (rfl : 39 + 2 = 41) rfl ?_
        refine q_iconst (v := nI 0) dX7_years_41 (rfl : 41 + 1 = 42) (by decide) ?_
        refine q_callVIp (S_of (d := d) (i := i) (w := 0) (by omega)) dX7_years_42 (rfl : 42 + 3 = 45) lX7_123 vX7_of (by first | rfl | assumption) rfl rfl (Nat.le_of_ble_eq_true rfl) TM_room TM_cs ?_
        refine q_iload_n dX7_years_45 (rfl : 45 + 1 = 46) rfl ?_
        rw [show 4 * i + 0 = 4 * i from rfl]
        refine q_icmp_ne (q := 53) dX7_years_46 (by decide) (rfl : 46 + 3 = 49) (fun hy => ?_) (fun hy => ?_)
        ·
          rw [if_neg hy] at key
          refine q_iconst (v := nI 1) dX7_years_53 (rfl : 53 + 1 = 54) (by decide) ?_
          refine q_iadd dX7_years_54 (rfl : 54 + 1 = 55) ?_
          refine q_istore_n dX7_years_55 (rfl : 55 + 1 = 56) (by decide) ?_
          refine q_aload_n dX7_years_56 (rfl : 56 + 1 = 57) rfl ?_
          refine q_iload dX7_years_57 (rfl : 57 + 2 = 59) rfl ?_
          refine q_iconst (v := nI 0) dX7_years_59 (rfl : 59 + 1 = 60) (by decide) ?_
          refine q_callVIp (S_of (d := d) (i := i) (w := 0) (by omega)) dX7_years_60 (rfl : 60 + 3 = 63) lX7_123 vX7_of (by first | rfl | assumption) rfl rfl (Nat.le_of_ble_eq_true rfl) TM_room TM_cs ?_
          refine q_istore_n dX7_years_63 (rfl : 63 + 1 = 64) (by decide) ?_
          first | refine q_iinc1 dX7_years_64 (rfl : 64 + 3 = 67) rfl (by decide) ?_ | refine q_iinc dX7_years_64 (rfl : 64 + 3 = 67) rfl rfl (by decide) ?_
          refine q_goto (q := 7) dX7_years_67 (by decide) ?_
          rw [nI_add]
          exact key
        ·
          rw [if_pos hy] at key
          refine q_iconst (v := nI 0) dX7_years_49 (rfl : 49 + 1 = 50) (by decide) ?_
          refine q_goto (q := 54) dX7_years_50 (by decide) ?_
          refine q_iadd dX7_years_54 (rfl : 54 + 1 = 55) ?_
          refine q_istore_n dX7_years_55 (rfl : 55 + 1 = 56) (by decide) ?_
          refine q_aload_n dX7_years_56 (rfl : 56 + 1 = 57) rfl ?_
          refine q_iload dX7_years_57 (rfl : 57 + 2 = 59) rfl ?_
          refine q_iconst (v := nI 0) dX7_years_59 (rfl : 59 + 1 = 60) (by decide) ?_
          refine q_callVIp (S_of (d := d) (i := i) (w := 0) (by omega)) dX7_years_60 (rfl : 60 + 3 = 63) lX7_123 vX7_of (by first | rfl | assumption) rfl rfl (Nat.le_of_ble_eq_true rfl) TM_room TM_cs ?_
          refine q_istore_n dX7_years_63 (rfl : 63 + 1 = 64) (by decide) ?_
          first | refine q_iinc1 dX7_years_64 (rfl : 64 + 3 = 67) rfl (by decide) ?_ | refine q_iinc dX7_years_64 (rfl : 64 + 3 = 67) rfl rfl (by decide) ?_
          refine q_goto (q := 7) dX7_years_67 (by decide) ?_
          rw [nI_add, Nat.add_zero]
          exact key
theorem S_years {d n s : Nat} {I : HI} {J : HJ} (hs : s < 2 ^ 31) (hn : I 50 0 = nI n) (h12 : n ≤ 12) : MIp mX7_years (d + 1) [.ref 44, .int (nI s)] shA I J RA (nI (yrS (I 51) (fun i => I 48 (4 * i)) s n).1) := by
  refine Mt.of (L := [some (.ref 44), some (.int (nI s)), none, none, none]) (by decide +kernel) (Nat.le_of_ble_eq_true rfl) rfl ?_
  refine q_iconst (v := nI 0) dX7_years_0 (rfl : 0 + 1 = 1) (by decide) ?_
  refine q_istore_n dX7_years_1 (rfl : 1 + 1 = 2) (by decide) ?_
  refine q_iconst (v := -1) dX7_years_2 (rfl : 2 + 1 = 3) (by decide) ?_
  refine q_istore_n dX7_years_3 (rfl : 3 + 1 = 4) (by decide) ?_
  refine q_iconst (v := nI 0) dX7_years_4 (rfl : 4 + 1 = 5) (by decide) ?_
  refine q_istore dX7_years_5 (rfl : 5 + 2 = 7) (by decide) ?_
  exact L_years hs hn h12 ⟨rfl, rfl, _, rfl, rfl, rfl, rfl⟩ 0 (by omega)
def bitT (t : Nat → Int32) (s i : Nat) : Int32 := if s / 2 ^ i % 2 = 1 then 0 else t i
def mlS (hi lo : Nat → Int32) (ys : Nat → Nat) (mh ml : Int32) (c : Nat) : Int32 × Int32 × Int32 := match c with
  | 0 => (-1, -1, -1)
  | c + 1 => if hi c ≤ mh ∧ lo c ≤ ml ∧ ((mlS hi lo ys mh ml c).2.1 < nI (ys c) ∨ (nI (ys c) = (mlS hi lo ys mh ml c).2.1 ∧ (mlS hi lo ys mh ml c).2.2 < hi c)) then (nI c, nI (ys c), hi c) else mlS hi lo ys mh ml c
def mletS (I : HI) (n : Nat) (l w : Int32) (c : Nat) : Int32 × Int32 × Int32 := mlS (fun s => sI (bitT (I 51) s) n) (fun s => sI (fun i => bitT (I 51) s i * I 48 (4 * i + 2)) n) (fun s => (yrS (I 51) (fun i => I 48 (4 * i)) s n).1) (nI 10 * w) (nI 10 * l) c
theorem S_mletGo_bad {d : Nat} {I : HI} {J : HJ} {l w x : Int32} (h : lgOk l w x = false) : MIp mX7_letGo (d + 1) [.ref 44, .int l, .int w, .int x] shA I J RA (-1) := by
  refine Mt.of (L := [some (.ref 44), some (.int l), some (.int w), some (.int x), none, none, none, none, none, none, none, none]) (by decide +kernel) (Nat.le_of_ble_eq_true rfl) rfl ?_
  refine q_iload_n dX7_letGo_0 (rfl : 0 + 1 = 1) rfl ?_
  refine q_i2l dX7_letGo_1 (rfl : 1 + 1 = 2) ?_
  refine q_lconst (v := 1) dX7_letGo_2 (rfl : 2 + 1 = 3) (by decide) ?_
  refine q_ldc2 dX7_letGo_3 (rfl : 3 + 3 = 6) kX7_163 ?_
  refine q_callSIp (S_inI (x := l) (a := nI 1) (b := nI 999) rfl (by decide) (by decide)) dX7_letGo_6 (rfl : 6 + 3 = 9) lX7_77 vX7_in rfl rfl (Nat.le_of_ble_eq_true rfl) TM_room TM_cs ?_
  refine q_if_eq_b (q := 36) dX7_letGo_9 (by decide) (rfl : 9 + 3 = 12) (fun h1 => ?_) (fun h1 => ?_)
  ·
    refine q_iconst (v := -1) dX7_letGo_36 (rfl : 36 + 1 = 37) (by decide) ?_
    refine q_iret rfl dX7_letGo_37 ⟨rfl, rfl, _, rfl, ?_⟩
    exact ⟨rfl, rfl, rfl⟩
  ·
    refine q_iload_n dX7_letGo_12 (rfl : 12 + 1 = 13) rfl ?_
    refine q_i2l dX7_letGo_13 (rfl : 13 + 1 = 14) ?_
    refine q_lconst (v := 1) dX7_letGo_14 (rfl : 14 + 1 = 15) (by decide) ?_
    refine q_ldc2 dX7_letGo_15 (rfl : 15 + 3 = 18) kX7_127 ?_
    refine q_callSIp (S_inI (x := w) (a := nI 1) (b := nI 99) rfl (by decide) (by decide)) dX7_letGo_18 (rfl : 18 + 3 = 21) lX7_77 vX7_in rfl rfl (Nat.le_of_ble_eq_true rfl) TM_room TM_cs ?_
    refine q_if_eq_b (q := 36) dX7_letGo_21 (by decide) (rfl : 21 + 3 = 24) (fun h2 => ?_) (fun h2 => ?_)
    ·
      refine q_iconst (v := -1) dX7_letGo_36 (rfl : 36 + 1 = 37) (by decide) ?_
      refine q_iret rfl dX7_letGo_37 ⟨rfl, rfl, _, rfl, ?_⟩
      exact ⟨rfl, rfl, rfl⟩
    ·
      refine q_iload_n dX7_letGo_24 (rfl : 24 + 1 = 25) rfl ?_
      refine q_i2l dX7_letGo_25 (rfl : 25 + 1 = 26) ?_
      refine q_lconst (v := 0) dX7_letGo_26 (rfl : 26 + 1 = 27) (by decide) ?_
      refine q_ldc2 dX7_letGo_27 (rfl : 27 + 3 = 30) kX7_147 ?_
      refine q_callSIp (S_inI (x := x) (a := nI 0) (b := nI 2) rfl (by decide) (by decide)) dX7_letGo_30 (rfl : 30 + 3 = 33) lX7_77 vX7_in rfl rfl (Nat.le_of_ble_eq_true rfl) TM_room TM_cs ?_
      refine q_if_ne_b (q := 38) dX7_letGo_33 (by decide) (rfl : 33 + 3 = 36) (fun h3 => ?_) (fun h3 => ?_)
      · unfold lgOk at h
        rw [h1, h2, h3] at h
        cases h
      ·
        refine q_iconst (v := -1) dX7_letGo_36 (rfl : 36 + 1 = 37) (by decide) ?_
        refine q_iret rfl dX7_letGo_37 ⟨rfl, rfl, _, rfl, ?_⟩
        exact ⟨rfl, rfl, rfl⟩
theorem L_letIn {d n0 n s : Nat} {Po : PO} {I : HI} {J : HJ} {l w x a b c : Int32} (hs : s < 2 ^ 31) (hn : I 50 0 = nI n) (h12 : n ≤ 12)
    (K : Wm mX7_letGo (TM (d + 2) 0 0 false n0 Po) 0 0 shA 135 [some (.ref 44), some (.int l), some (.int w), some (.int x), some (.int a), some (.int b), some (.int c), some (.int (nI s)), some (.int (sI (bitT (I 51) s) n)), some (.int (sI (fun i => bitT (I 51) s i * I 48 (4 * i + 2)) n)), none, none] [] I J RA) :
    ∀ (i : Nat), i ≤ n → Wm mX7_letGo (TM (d + 2) 0 0 false n0 Po) 0 0 shA 72 [some (.ref 44), some (.int l), some (.int w), some (.int x), some (.int a), some (.int b), some (.int c), some (.int (nI s)), some (.int (sI (bitT (I 51) s) i)), some (.int (sI (fun i => bitT (I 51) s i * I 48 (4 * i + 2)) i)), some (.int (nI i)), none] [] I J RA := by
  refine loopN (fun i hi ih => ?_)
  refine q_iload dX7_letGo_72 (rfl : 72 + 2 = 74) rfl ?_
  refine q_aload_n dX7_letGo_74 (rfl : 74 + 1 = 75) rfl ?_
  refine q_getR dX7_letGo_75 (rfl : 75 + 3 = 78) fX7_26 (by first | rfl | assumption) (by first | rfl | assumption) ?_
  refine q_iconst (v := nI 0) dX7_letGo_78 (rfl : 78 + 1 = 79) (by decide) ?_
  refine q_iald (j := 0) dX7_letGo_79 (rfl : 79 + 1 = 80) (by first | rfl | assumption) (by decide) (by decide) ?_
  try simp (disch := omega) only [wr_hit, wr_p, wr_k, nI_add, pk_mul, nI_1, nI_s1, pk_sub, Nat.add_sub_cancel, hn]
  refine q_icmp_ge_n (q := 135) (by omega) (by omega) dX7_letGo_80 (by decide) (rfl : 80 + 3 = 83) (fun h => ?_) (fun h => ?_)
  ·
    obtain rfl : i = n := by omega
    refine q_forget (L' := [some (.ref 44), some (.int l), some (.int w), some (.int x), some (.int a), some (.int b), some (.int c), some (.int (nI s)), some (.int (sI (bitT (I 51) s) i)), some (.int (sI (fun i => bitT (I 51) s i * I 48 (4 * i + 2)) i)), none, none]) (by repeat (first | exact trivial | refine And.intro rfl ?_)) ?_
    exact K
  ·
    have hi36 : i < 36 := by omega
    have rest : ∀ v : Int32, v = bitT (I 51) s i → Wm mX7_letGo (TM (d + 2) 0 0 false n0 Po) 0 0 shA 105 [some (.ref 44), some (.int l), some (.int w), some (.int x), some (.int a), some (.int b), some (.int c), some (.int (nI s)), some (.int (sI (bitT (I 51) s) i)), some (.int (sI (fun i => bitT (I 51) s i * I 48 (4 * i + 2)) i)), some (.int (nI i)), none] [.int v] I J RA := by
      intro v hv
      subst hv
      refine q_istore dX7_letGo_105 (rfl : 105 + 2 = 107) (by decide) ?_
      refine q_iload dX7_letGo_107 (rfl : 107 + 2 = 109) rfl ?_
      refine q_iload dX7_letGo_109 (rfl : 109 + 2 = 111) rfl ?_
      refine q_iadd dX7_letGo_111 (rfl : 111 + 1 = 112) ?_
      refine q_istore dX7_letGo_112 (rfl : 112 + 2 = 114) (by decide) ?_
      refine q_iload dX7_letGo_114 (rfl : 114 + 2 = 116) rfl ?_
      refine q_iload dX7_letGo_116 (rfl : 116 + 2 = 118) rfl ?_
      refine q_aload_n dX7_letGo_118 (rfl : 118 + 1 = 119) rfl ?_
      refine q_iload dX7_letGo_119 (rfl : 119 + 2 = 121) rfl ?_
      refine q_iconst (v := nI 2) dX7_letGo_121 (rfl : 121 + 1 = 122) (by decide) ?_
      refine q_callVIp (S_of (d := d + 1) (i := i) (w := 2) (by omega)) dX7_letGo_122 (rfl : 122 + 3 = 125) lX7_123 vX7_of (by first | rfl | assumption) rfl rfl (Nat.le_of_ble_eq_true rfl) TM_room TM_cs ?_
      refine q_imul dX7_letGo_125 (rfl : 125 + 1 = 126) ?_
      refine q_iadd dX7_letGo_126 (rfl : 126 + 1 = 127) ?_
      refine q_istore dX7_letGo_127 (rfl : 127 + 2 = 129) (by decide) ?_
      first | refine q_iinc1 dX7_letGo_129 (rfl : 129 + 3 = 132) rfl (by decide) ?_ | refine q_iinc dX7_letGo_129 (rfl : 129 + 3 = 132) rfl rfl (by decide) ?_
      refine q_goto (q := 72) dX7_letGo_132 (by decide) ?_
      refine q_forget (L' := [some (.ref 44), some (.int l), some (.int w), some (.int x), some (.int a), some (.int b), some (.int c), some (.int (nI s)), some (.int (sI (bitT (I 51) s) (i + 1))), some (.int (sI (fun i => bitT (I 51) s i * I 48 (4 * i + 2)) (i + 1))), some (.int (nI (i + 1))), none]) (by repeat (first | exact trivial | refine And.intro rfl ?_)) ?_
      exact ih h
    refine q_iload dX7_letGo_83 (rfl : 83 + 2 = 85) rfl ?_
    refine q_iload dX7_letGo_85 (rfl : 85 + 2 = 87) rfl ?_
    refine q_ishr dX7_letGo_87 (rfl : 87 + 1 = 88) ?_
    refine q_iconst (v := nI 1) dX7_letGo_88 (rfl : 88 + 1 = 89) (by decide) ?_
    refine q_iand dX7_letGo_89 (rfl : 89 + 1 = 90) ?_
    refine q_iconst (v := nI 1) dX7_letGo_90 (rfl : 90 + 1 = 91) (by decide) ?_
    rw [bitI hs (by omega)]
    refine q_icmp_ne_n (q := 98) (by omega) (by omega) dX7_letGo_91 (by decide) (rfl : 91 + 3 = 94) (fun hb => ?_) (fun hb => ?_)
    ·
      refine q_aload_n dX7_letGo_98 (rfl : 98 + 1 = 99) rfl ?_
      refine q_getR dX7_letGo_99 (rfl : 99 + 3 = 102) fX7_29 (by first | rfl | assumption) (by first | rfl | assumption) ?_
      refine q_iload dX7_letGo_102 (rfl : 102 + 2 = 104) rfl ?_
      refine q_iald dX7_letGo_104 (rfl : 104 + 1 = 105) (by first | rfl | assumption) (by first | assumption | omega) (by decide) ?_
      exact rest _ (by unfold bitT; rw [if_neg hb])
    ·
      refine q_iconst (v := nI 0) dX7_letGo_94 (rfl : 94 + 1 = 95) (by decide) ?_
      refine q_goto (q := 105) dX7_letGo_95 (by decide) ?_
      exact rest _ (by unfold bitT; rw [if_pos hb]; rfl)
theorem S_mletGo {d n : Nat} {I : HI} {J : HJ} {l w x : Int32} (h : lgOk l w x = true) (hn : I 50 0 = nI n) (h12 : n ≤ 12) : MIp mX7_letGo (d + 2) [.ref 44, .int l, .int w, .int x] shA I J RA (pick3 (mletS I n l w (2 ^ n)) x) := by
  have h2n : 2 ^ n ≤ 4096 := Nat.pow_le_pow_right (n := 2) (by omega) h12
  have outer : ∀ (c : Nat), c ≤ 2 ^ n → Wm mX7_letGo (TM (d + 2) 0 0 false shA.length (fun sh' v I' J' R' => sh' = shA ∧ R' = RA ∧ ∃ y : Int32, v = some (.int y) ∧ (y = pick3 (mletS I n l w (2 ^ n)) x ∧ I' = I ∧ J' = J))) 0 0 shA 50 [some (.ref 44), some (.int l), some (.int w), some (.int x), some (.int (mletS I n l w c).1), some (.int (mletS I n l w c).2.1), some (.int (mletS I n l w c).2.2), some (.int (nI c)), none, none, none, none] [] I J RA := by
    refine loopN (fun c hc ih => ?_)
    refine q_iload dX7_letGo_50 (rfl : 50 + 2 = 52) rfl ?_
    refine q_iconst (v := nI 1) dX7_letGo_52 (rfl : 52 + 1 = 53) (by decide) ?_
    refine q_aload_n dX7_letGo_53 (rfl : 53 + 1 = 54) rfl ?_
    refine q_getR dX7_letGo_54 (rfl : 54 + 3 = 57) fX7_26 (by first | rfl | assumption) (by first | rfl | assumption) ?_
    refine q_iconst (v := nI 0) dX7_letGo_57 (rfl : 57 + 1 = 58) (by decide) ?_
    refine q_iald (j := 0) dX7_letGo_58 (rfl : 58 + 1 = 59) (by first | rfl | assumption) (by decide) (by decide) ?_
    try simp (disch := omega) only [wr_hit, wr_p, wr_k, nI_add, pk_mul, nI_1, nI_s1, pk_sub, Nat.add_sub_cancel, hn]
    refine q_ishl dX7_letGo_59 (rfl : 59 + 1 = 60) ?_
    rw [shlI (by omega)]
    refine q_icmp_ge_n (q := 200) (by omega) (by omega) dX7_letGo_60 (by decide) (rfl : 60 + 3 = 63) (fun h1 => ?_) (fun h1 => ?_)
    ·
      obtain rfl : c = 2 ^ n := by omega
      refine q_iload_n dX7_letGo_200 (rfl : 200 + 1 = 201) rfl ?_
      refine q_if_ne (q := 209) dX7_letGo_201 (by decide) (rfl : 201 + 3 = 204) (fun hx0 => ?_) (fun hx0 => ?_)
      ·
        refine q_iload_n dX7_letGo_209 (rfl : 209 + 1 = 210) rfl ?_
        refine q_iconst (v := nI 1) dX7_letGo_210 (rfl : 210 + 1 = 211) (by decide) ?_
        refine q_icmp_ne (q := 219) dX7_letGo_211 (by decide) (rfl : 211 + 3 = 214) (fun hx1 => ?_) (fun hx1 => ?_)
        ·
          refine q_iload dX7_letGo_219 (rfl : 219 + 2 = 221) rfl ?_
          refine q_iret rfl dX7_letGo_221 ⟨rfl, rfl, _, rfl, ?_⟩
          have e : pick3 (mletS I n l w (2 ^ n)) x = (mletS I n l w (2 ^ n)).2.2 := by
            unfold pick3
            rw [if_neg hx0, if_neg hx1]
          exact ⟨e.symm, rfl, rfl⟩
        ·
          refine q_iload dX7_letGo_214 (rfl : 214 + 2 = 216) rfl ?_
          refine q_goto (q := 221) dX7_letGo_216 (by decide) ?_
          refine q_iret rfl dX7_letGo_221 ⟨rfl, rfl, _, rfl, ?_⟩
          have e : pick3 (mletS I n l w (2 ^ n)) x = (mletS I n l w (2 ^ n)).2.1 := by
            unfold pick3
            rw [if_neg hx0, if_pos hx1]
          exact ⟨e.symm, rfl, rfl⟩
      ·
        refine q_iload dX7_letGo_204 (rfl : 204 + 2 = 206) rfl ?_
        refine q_goto (q := 221) dX7_letGo_206 (by decide) ?_
        refine q_iret rfl dX7_letGo_221 ⟨rfl, rfl, _, rfl, ?_⟩
        have e : pick3 (mletS I n l w (2 ^ n)) x = (mletS I n l w (2 ^ n)).1 := by
          unfold pick3
          rw [if_pos hx0]
        exact ⟨e.symm, rfl, rfl⟩
    ·
      have hc31 : c < 2 ^ 31 := by omega
      refine q_iconst (v := nI 0) dX7_letGo_63 (rfl : 63 + 1 = 64) (by decide) ?_
      refine q_istore dX7_letGo_64 (rfl : 64 + 2 = 66) (by decide) ?_
      refine q_iconst (v := nI 0) dX7_letGo_66 (rfl : 66 + 1 = 67) (by decide) ?_
      refine q_istore dX7_letGo_67 (rfl : 67 + 2 = 69) (by decide) ?_
      refine q_iconst (v := nI 0) dX7_letGo_69 (rfl : 69 + 1 = 70) (by decide) ?_
      refine q_istore dX7_letGo_70 (rfl : 70 + 2 = 72) (by decide) ?_
      refine L_letIn (s := c) hc31 hn h12 ?_ 0 (by omega)
      have un : mletS I n l w (c + 1) = (if sI (bitT (I 51) c) n ≤ nI 10 * w ∧ sI (fun i => bitT (I 51) c i * I 48 (4 * i + 2)) n ≤ nI 10 * l ∧ ((mletS I n l w c).2.1 < nI (yrS (I 51) (fun i => I 48 (4 * i)) c n).1 ∨ (nI (yrS (I 51) (fun i => I 48 (4 * i)) c n).1 = (mletS I n l w c).2.1 ∧ (mletS I n l w c).2.2 < sI (bitT (I 51) c) n)) then (nI c, nI (yrS (I 51) (fun i => I 48 (4 * i)) c n).1, sI (bitT (I 51) c) n) else mletS I n l w c) := rfl
      have skip : ∀ (v : Option Value), ¬ (sI (bitT (I 51) c) n ≤ nI 10 * w ∧ sI (fun i => bitT (I 51) c i * I 48 (4 * i + 2)) n ≤ nI 10 * l ∧ ((mletS I n l w c).2.1 < nI (yrS (I 51) (fun i => I 48 (4 * i)) c n).1 ∨ (nI (yrS (I 51) (fun i => I 48 (4 * i)) c n).1 = (mletS I n l w c).2.1 ∧ (mletS I n l w c).2.2 < sI (bitT (I 51) c) n))) → Wm mX7_letGo (TM (d + 2) 0 0 false shA.length (fun sh' v I' J' R' => sh' = shA ∧ R' = RA ∧ ∃ y : Int32, v = some (.int y) ∧ (y = pick3 (mletS I n l w (2 ^ n)) x ∧ I' = I ∧ J' = J))) 0 0 shA 194 [some (.ref 44), some (.int l), some (.int w), some (.int x), some (.int (mletS I n l w c).1), some (.int (mletS I n l w c).2.1), some (.int (mletS I n l w c).2.2), some (.int (nI c)), some (.int (sI (bitT (I 51) c) n)), some (.int (sI (fun i => bitT (I 51) c i * I 48 (4 * i + 2)) n)), v, none] [] I J RA := by
        intro v hno
        have key := ih h1
        rw [un, if_neg hno] at key
        first | refine q_iinc1 dX7_letGo_194 (rfl : 194 + 3 = 197) rfl (by decide) ?_ | refine q_iinc dX7_letGo_194 (rfl : 194 + 3 = 197) rfl rfl (by decide) ?_
        refine q_goto (q := 50) dX7_letGo_197 (by decide) ?_
        refine q_forget (L' := [some (.ref 44), some (.int l), some (.int w), some (.int x), some (.int (mletS I n l w c).1), some (.int (mletS I n l w c).2.1), some (.int (mletS I n l w c).2.2), some (.int (nI (c + 1))), none, none, none, none]) (by repeat (first | exact trivial | refine And.intro rfl ?_)) ?_
        exact key
      refine q_iload dX7_letGo_135 (rfl : 135 + 2 = 137) rfl ?_
      refine q_bipush (v := nI 10) dX7_letGo_137 (rfl : 137 + 2 = 139) (by decide) ?_
      refine q_iload_n dX7_letGo_139 (rfl : 139 + 1 = 140) rfl ?_
      refine q_imul dX7_letGo_140 (rfl : 140 + 1 = 141) ?_
      refine q_icmp_gt (q := 194) dX7_letGo_141 (by decide) (rfl : 141 + 3 = 144) (fun q1 => ?_) (fun q1 => ?_)
      ·
        exact skip _ (fun z => absurd z.1 (Int32.not_le.mpr q1))
      ·
        have q1' := Int32.not_lt.mp q1
        refine q_iload dX7_letGo_144 (rfl : 144 + 2 = 146) rfl ?_
        refine q_bipush (v := nI 10) dX7_letGo_146 (rfl : 146 + 2 = 148) (by decide) ?_
        refine q_iload_n dX7_letGo_148 (rfl : 148 + 1 = 149) rfl ?_
        refine q_imul dX7_letGo_149 (rfl : 149 + 1 = 150) ?_
        refine q_icmp_gt (q := 194) dX7_letGo_150 (by decide) (rfl : 150 + 3 = 153) (fun q2 => ?_) (fun q2 => ?_)
        ·
          exact skip _ (fun z => absurd z.2.1 (Int32.not_le.mpr q2))
        ·
          have q2' := Int32.not_lt.mp q2
          refine q_aload_n dX7_letGo_153 (rfl : 153 + 1 = 154) rfl ?_
          refine q_iload dX7_letGo_154 (rfl : 154 + 2 = 156) rfl ?_
          refine q_callVIp (S_years (d := d) hc31 hn h12) dX7_letGo_156 (rfl : 156 + 3 = 159) lX7_165 vX7_years (by first | rfl | assumption) rfl rfl (Nat.le_of_ble_eq_true rfl) TM_room TM_cs ?_
          have take : ((mletS I n l w c).2.1 < nI (yrS (I 51) (fun i => I 48 (4 * i)) c n).1 ∨ (nI (yrS (I 51) (fun i => I 48 (4 * i)) c n).1 = (mletS I n l w c).2.1 ∧ (mletS I n l w c).2.2 < sI (bitT (I 51) c) n)) → Wm mX7_letGo (TM (d + 2) 0 0 false shA.length (fun sh' v I' J' R' => sh' = shA ∧ R' = RA ∧ ∃ y : Int32, v = some (.int y) ∧ (y = pick3 (mletS I n l w (2 ^ n)) x ∧ I' = I ∧ J' = J))) 0 0 shA 182 [some (.ref 44), some (.int l), some (.int w), some (.int x), some (.int (mletS I n l w c).1), some (.int (mletS I n l w c).2.1), some (.int (mletS I n l w c).2.2), some (.int (nI c)), some (.int (sI (bitT (I 51) c) n)), some (.int (sI (fun i => bitT (I 51) c i * I 48 (4 * i + 2)) n)), some (.int (nI (yrS (I 51) (fun i => I 48 (4 * i)) c n).1)), none] [] I J RA := by
            intro hy
            have key := ih h1
            rw [un, if_pos ⟨q1', q2', hy⟩] at key
            refine q_iload dX7_letGo_182 (rfl : 182 + 2 = 184) rfl ?_
            refine q_istore dX7_letGo_184 (rfl : 184 + 2 = 186) (by decide) ?_
            refine q_iload dX7_letGo_186 (rfl : 186 + 2 = 188) rfl ?_
            refine q_istore dX7_letGo_188 (rfl : 188 + 2 = 190) (by decide) ?_
            refine q_iload dX7_letGo_190 (rfl : 190 + 2 = 192) rfl ?_
            refine q_istore dX7_letGo_192 (rfl : 192 + 2 = 194) (by decide) ?_
            first | refine q_iinc1 dX7_letGo_194 (rfl : 194 + 3 = 197) rfl (by decide) ?_ | refine q_iinc dX7_letGo_194 (rfl : 194 + 3 = 197) rfl rfl (by decide) ?_
            refine q_goto (q := 50) dX7_letGo_197 (by decide) ?_
            refine q_forget (L' := [some (.ref 44), some (.int l), some (.int w), some (.int x), some (.int (nI c)), some (.int (nI (yrS (I 51) (fun i => I 48 (4 * i)) c n).1)), some (.int (sI (bitT (I 51) c) n)), some (.int (nI (c + 1))), none, none, none, none]) (by repeat (first | exact trivial | refine And.intro rfl ?_)) ?_
            exact key
          refine q_istore dX7_letGo_159 (rfl : 159 + 2 = 161) (by decide) ?_
          refine q_iload dX7_letGo_161 (rfl : 161 + 2 = 163) rfl ?_
          refine q_iload dX7_letGo_163 (rfl : 163 + 2 = 165) rfl ?_
          refine q_icmp_gt (q := 182) dX7_letGo_165 (by decide) (rfl : 165 + 3 = 168) (fun q3 => ?_) (fun q3 => ?_)
          ·
            exact take (Or.inl q3)
          ·
            refine q_iload dX7_letGo_168 (rfl : 168 + 2 = 170) rfl ?_
            refine q_iload dX7_letGo_170 (rfl : 170 + 2 = 172) rfl ?_
            refine q_icmp_ne (q := 194) dX7_letGo_172 (by decide) (rfl : 172 + 3 = 175) (fun q4 => ?_) (fun q4 => ?_)
            ·
              exact skip _ (fun z => z.2.2.elim q3 (fun z2 => q4 z2.1))
            ·
              refine q_iload dX7_letGo_175 (rfl : 175 + 2 = 177) rfl ?_
              refine q_iload dX7_letGo_177 (rfl : 177 + 2 = 179) rfl ?_
              refine q_icmp_le (q := 194) dX7_letGo_179 (by decide) (rfl : 179 + 3 = 182) (fun q5 => ?_) (fun q5 => ?_)
              ·
                exact skip _ (fun z => z.2.2.elim q3 (fun z2 => absurd z2.2 (Int32.not_lt.mpr q5)))
              ·
                exact take (Or.inr ⟨q4, Int32.not_le.mp q5⟩)
  refine Mt.of (L := [some (.ref 44), some (.int l), some (.int w), some (.int x), none, none, none, none, none, none, none, none]) (by decide +kernel) (Nat.le_of_ble_eq_true rfl) rfl ?_
  refine q_iload_n dX7_letGo_0 (rfl : 0 + 1 = 1) rfl ?_
  refine q_i2l dX7_letGo_1 (rfl : 1 + 1 = 2) ?_
  refine q_lconst (v := 1) dX7_letGo_2 (rfl : 2 + 1 = 3) (by decide) ?_
  refine q_ldc2 dX7_letGo_3 (rfl : 3 + 3 = 6) kX7_163 ?_
  refine q_callSIp (S_inI (x := l) (a := nI 1) (b := nI 999) rfl (by decide) (by decide)) dX7_letGo_6 (rfl : 6 + 3 = 9) lX7_77 vX7_in rfl rfl (Nat.le_of_ble_eq_true rfl) TM_room TM_cs ?_
  unfold lgOk at h
  simp only [Bool.and_eq_true] at h
  obtain ⟨⟨h1, h2⟩, h3⟩ := h
  refine q_if_eq_b (q := 36) dX7_letGo_9 (by decide) (rfl : 9 + 3 = 12) (fun g1 => ?_) (fun g1 => ?_)
  · rw [h1] at g1
    cases g1
  ·
    refine q_iload_n dX7_letGo_12 (rfl : 12 + 1 = 13) rfl ?_
    refine q_i2l dX7_letGo_13 (rfl : 13 + 1 = 14) ?_
    refine q_lconst (v := 1) dX7_letGo_14 (rfl : 14 + 1 = 15) (by decide) ?_
    refine q_ldc2 dX7_letGo_15 (rfl : 15 + 3 = 18) kX7_127 ?_
    refine q_callSIp (S_inI (x := w) (a := nI 1) (b := nI 99) rfl (by decide) (by decide)) dX7_letGo_18 (rfl : 18 + 3 = 21) lX7_77 vX7_in rfl rfl (Nat.le_of_ble_eq_true rfl) TM_room TM_cs ?_
    refine q_if_eq_b (q := 36) dX7_letGo_21 (by decide) (rfl : 21 + 3 = 24) (fun g2 => ?_) (fun g2 => ?_)
    · rw [h2] at g2
      cases g2
    ·
      refine q_iload_n dX7_letGo_24 (rfl : 24 + 1 = 25) rfl ?_
      refine q_i2l dX7_letGo_25 (rfl : 25 + 1 = 26) ?_
      refine q_lconst (v := 0) dX7_letGo_26 (rfl : 26 + 1 = 27) (by decide) ?_
      refine q_ldc2 dX7_letGo_27 (rfl : 27 + 3 = 30) kX7_147 ?_
      refine q_callSIp (S_inI (x := x) (a := nI 0) (b := nI 2) rfl (by decide) (by decide)) dX7_letGo_30 (rfl : 30 + 3 = 33) lX7_77 vX7_in rfl rfl (Nat.le_of_ble_eq_true rfl) TM_room TM_cs ?_
      refine q_if_ne_b (q := 38) dX7_letGo_33 (by decide) (rfl : 33 + 3 = 36) (fun g3 => ?_) (fun g3 => ?_)
      ·
        refine q_iconst (v := -1) dX7_letGo_38 (rfl : 38 + 1 = 39) (by decide) ?_
        refine q_istore dX7_letGo_39 (rfl : 39 + 2 = 41) (by decide) ?_
        refine q_iconst (v := -1) dX7_letGo_41 (rfl : 41 + 1 = 42) (by decide) ?_
        refine q_istore dX7_letGo_42 (rfl : 42 + 2 = 44) (by decide) ?_
        refine q_iconst (v := -1) dX7_letGo_44 (rfl : 44 + 1 = 45) (by decide) ?_
        refine q_istore dX7_letGo_45 (rfl : 45 + 2 = 47) (by decide) ?_
        refine q_iconst (v := nI 0) dX7_letGo_47 (rfl : 47 + 1 = 48) (by decide) ?_
        refine q_istore dX7_letGo_48 (rfl : 48 + 2 = 50) (by decide) ?_
        exact outer 0 (Nat.zero_le _)
      ·
        rw [h3] at g3
        cases g3
