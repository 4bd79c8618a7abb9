/-! the class's text: bytes, numbers, the telling -/
theorem toldA4 : ToldAt shA RA 4 := ⟨rfl, rfl, rfl, rfl, rfl, rfl, rfl, rfl, rfl, rfl, rfl⟩
theorem toldA10 : ToldAt shA RA 10 := ⟨rfl, rfl, rfl, rfl, rfl, rfl, rfl, rfl, rfl, rfl, rfl⟩
def takeB (I : HI) (n : Nat) (l : Int32) (c : Nat) : Bool :=
  if l = nI 98 then decide (c = 2) && setBarnB (I 3 0) (I 3 1)
  else if l = nI 102 then decide (c = 4) && addFallB I 10 n (I 3 0) (I 3 1) (I 3 2) (I 3 3)
  else if l = nI 112 then decide (c = 2) && setCostB (I 3 0) (I 3 1)
  else if l = nI 115 ∨ l = nI 116 ∨ l = nI 118 then decide (c = 1) && setOneB l (I 3 0)
  else false
def takeH (I : HI) (n : Nat) (l : Int32) : HI :=
  if l = nI 98 then setBarnH I 10 (I 3 0) (I 3 1)
  else if l = nI 102 then addFallH I 10 n (I 3 0) (I 3 1) (I 3 2) (I 3 3)
  else if l = nI 112 then wr I 15 (I 3 0).toNatClampNeg (I 3 1)
  else wr I 10 (setOneK l) (I 3 0)
theorem S_take {d n c : Nat} {I : HI} {J : HJ} {l : Int32} (hn : I 10 5 = nI n) (h12 : n ≤ 12) (hc : c ≤ 4) : MI mX5_take (d + 4) [.ref 10, .int l, .ref 3, .int (nI c)] shA I J RA (fun x I' J' => x = bI (takeB I n l c) ∧ I' = cond (takeB I n l c) (takeH I n l) I ∧ J' = J) := by
  refine Mt.of (L := [some (.ref 10), some (.int l), some (.ref 3), some (.int (nI c))]) (by decide +kernel) (Nat.le_of_ble_eq_true rfl) rfl ?_
  refine q_iload_n dX5_take_0 (rfl : 0 + 1 = 1) rfl ?_
  by_cases h98 : l = nI 98
  · subst h98
    refine q_lookup (off := 59) (q := 60) dX5_take_1 (by decide) (by decide) (by decide) ?_
    refine q_iload_n dX5_take_60 (rfl : 60 + 1 = 61) rfl ?_
    refine q_iconst (v := nI 2) dX5_take_61 (rfl : 61 + 1 = 62) (by decide) ?_
    refine q_icmp_ne_n (q := 82) (by omega) (by omega) dX5_take_62 (by decide) (rfl : 62 + 3 = 65) (fun h => ?_) (fun h => ?_)
    ·
      refine q_iconst (v := nI 0) dX5_take_82 (rfl : 82 + 1 = 83) (by decide) ?_
      refine q_zret rfl dX5_take_83 (by first | exact bI_01 _ | exact Or.inl rfl | exact Or.inr rfl) ⟨rfl, rfl, _, rfl, ?_⟩
      have e : takeB I n (nI 98) c = false := by simp [takeB, h]
      rw [e]
      exact ⟨rfl, rfl, rfl⟩
    ·
      subst h
      refine q_aload_n dX5_take_65 (rfl : 65 + 1 = 66) rfl ?_
      refine q_aload_n dX5_take_66 (rfl : 66 + 1 = 67) rfl ?_
      refine q_iconst (v := nI 0) dX5_take_67 (rfl : 67 + 1 = 68) (by decide) ?_
      refine q_iald (j := 0) dX5_take_68 (rfl : 68 + 1 = 69) (by first | rfl | assumption) (by decide) (by decide) ?_
      refine q_aload_n dX5_take_69 (rfl : 69 + 1 = 70) rfl ?_
      refine q_iconst (v := nI 1) dX5_take_70 (rfl : 70 + 1 = 71) (by decide) ?_
      refine q_iald (j := 1) dX5_take_71 (rfl : 71 + 1 = 72) (by first | rfl | assumption) (by decide) (by decide) ?_
      refine q_callVI (S_setBarn (d := d + 2) toldA10) dX5_take_72 (rfl : 72 + 3 = 75) lX5_55 vX5_setBarn (by first | rfl | assumption) rfl rfl (Nat.le_of_ble_eq_true rfl) TM_room TM_cs ?_
      intro x I1 J1 hp
      obtain ⟨rfl, rfl, rfl⟩ := hp
      have e : takeB I n (nI 98) 2 = setBarnB (I 3 0) (I 3 1) := by simp [takeB]
      have e2 : takeH I n (nI 98) = setBarnH I 10 (I 3 0) (I 3 1) := by simp [takeH]
      refine q_if_eq_b (q := 82) dX5_take_75 (by decide) (rfl : 75 + 3 = 78) (fun hb => ?_) (fun hb => ?_)
      ·
        refine q_iconst (v := nI 0) dX5_take_82 (rfl : 82 + 1 = 83) (by decide) ?_
        refine q_zret rfl dX5_take_83 (by first | exact bI_01 _ | exact Or.inl rfl | exact Or.inr rfl) ⟨rfl, rfl, _, rfl, ?_⟩
        rw [e, e2, hb]
        exact ⟨rfl, rfl, rfl⟩
      ·
        refine q_iconst (v := nI 1) dX5_take_78 (rfl : 78 + 1 = 79) (by decide) ?_
        refine q_goto (q := 83) dX5_take_79 (by decide) ?_
        refine q_zret rfl dX5_take_83 (by first | exact bI_01 _ | exact Or.inl rfl | exact Or.inr rfl) ⟨rfl, rfl, _, rfl, ?_⟩
        rw [e, e2, hb]
        exact ⟨rfl, rfl, rfl⟩
  by_cases h102 : l = nI 102
  · subst h102
    refine q_lookup (off := 83) (q := 84) dX5_take_1 (by decide) (by decide) (by decide) ?_
    refine q_iload_n dX5_take_84 (rfl : 84 + 1 = 85) rfl ?_
    refine q_iconst (v := nI 4) dX5_take_85 (rfl : 85 + 1 = 86) (by decide) ?_
    refine q_icmp_ne_n (q := 112) (by omega) (by omega) dX5_take_86 (by decide) (rfl : 86 + 3 = 89) (fun h => ?_) (fun h => ?_)
    ·
      refine q_iconst (v := nI 0) dX5_take_112 (rfl : 112 + 1 = 113) (by decide) ?_
      refine q_zret rfl dX5_take_113 (by first | exact bI_01 _ | exact Or.inl rfl | exact Or.inr rfl) ⟨rfl, rfl, _, rfl, ?_⟩
      have e : takeB I n (nI 102) c = false := by simp [takeB, h, show ¬ nI 102 = nI 98 by decide]
      rw [e]
      exact ⟨rfl, rfl, rfl⟩
    ·
      subst h
      refine q_aload_n dX5_take_89 (rfl : 89 + 1 = 90) rfl ?_
      refine q_aload_n dX5_take_90 (rfl : 90 + 1 = 91) rfl ?_
      refine q_iconst (v := nI 0) dX5_take_91 (rfl : 91 + 1 = 92) (by decide) ?_
      refine q_iald (j := 0) dX5_take_92 (rfl : 92 + 1 = 93) (by first | rfl | assumption) (by decide) (by decide) ?_
      refine q_aload_n dX5_take_93 (rfl : 93 + 1 = 94) rfl ?_
      refine q_iconst (v := nI 1) dX5_take_94 (rfl : 94 + 1 = 95) (by decide) ?_
      refine q_iald (j := 1) dX5_take_95 (rfl : 95 + 1 = 96) (by first | rfl | assumption) (by decide) (by decide) ?_
      refine q_aload_n dX5_take_96 (rfl : 96 + 1 = 97) rfl ?_
      refine q_iconst (v := nI 2) dX5_take_97 (rfl : 97 + 1 = 98) (by decide) ?_
      refine q_iald (j := 2) dX5_take_98 (rfl : 98 + 1 = 99) (by first | rfl | assumption) (by decide) (by decide) ?_
      refine q_aload_n dX5_take_99 (rfl : 99 + 1 = 100) rfl ?_
      refine q_iconst (v := nI 3) dX5_take_100 (rfl : 100 + 1 = 101) (by decide) ?_
      refine q_iald (j := 3) dX5_take_101 (rfl : 101 + 1 = 102) (by first | rfl | assumption) (by decide) (by decide) ?_
      refine q_callVI (S_addFall (d := d) toldA10 hn h12) dX5_take_102 (rfl : 102 + 3 = 105) lX5_59 vX5_addFall (by first | rfl | assumption) rfl rfl (Nat.le_of_ble_eq_true rfl) TM_room TM_cs ?_
      intro x I1 J1 hp
      obtain ⟨rfl, rfl, rfl⟩ := hp
      have e : takeB I n (nI 102) 4 = addFallB I 10 n (I 3 0) (I 3 1) (I 3 2) (I 3 3) := by simp [takeB, show ¬ nI 102 = nI 98 by decide]
      have e2 : takeH I n (nI 102) = addFallH I 10 n (I 3 0) (I 3 1) (I 3 2) (I 3 3) := by simp [takeH, show ¬ nI 102 = nI 98 by decide]
      refine q_if_eq_b (q := 112) dX5_take_105 (by decide) (rfl : 105 + 3 = 108) (fun hb => ?_) (fun hb => ?_)
      ·
        refine q_iconst (v := nI 0) dX5_take_112 (rfl : 112 + 1 = 113) (by decide) ?_
        refine q_zret rfl dX5_take_113 (by first | exact bI_01 _ | exact Or.inl rfl | exact Or.inr rfl) ⟨rfl, rfl, _, rfl, ?_⟩
        rw [e, e2, hb]
        exact ⟨rfl, rfl, rfl⟩
      ·
        refine q_iconst (v := nI 1) dX5_take_108 (rfl : 108 + 1 = 109) (by decide) ?_
        refine q_goto (q := 113) dX5_take_109 (by decide) ?_
        refine q_zret rfl dX5_take_113 (by first | exact bI_01 _ | exact Or.inl rfl | exact Or.inr rfl) ⟨rfl, rfl, _, rfl, ?_⟩
        rw [e, e2, hb]
        exact ⟨rfl, rfl, rfl⟩
  by_cases h112 : l = nI 112
  · subst h112
    refine q_lookup (off := 113) (q := 114) dX5_take_1 (by decide) (by decide) (by decide) ?_
    refine q_iload_n dX5_take_114 (rfl : 114 + 1 = 115) rfl ?_
    refine q_iconst (v := nI 2) dX5_take_115 (rfl : 115 + 1 = 116) (by decide) ?_
    refine q_icmp_ne_n (q := 136) (by omega) (by omega) dX5_take_116 (by decide) (rfl : 116 + 3 = 119) (fun h => ?_) (fun h => ?_)
    ·
      refine q_iconst (v := nI 0) dX5_take_136 (rfl : 136 + 1 = 137) (by decide) ?_
      refine q_zret rfl dX5_take_137 (by first | exact bI_01 _ | exact Or.inl rfl | exact Or.inr rfl) ⟨rfl, rfl, _, rfl, ?_⟩
      have e : takeB I n (nI 112) c = false := by simp [takeB, h, show ¬ nI 112 = nI 98 by decide, show ¬ nI 112 = nI 102 by decide]
      rw [e]
      exact ⟨rfl, rfl, rfl⟩
    ·
      subst h
      refine q_aload_n dX5_take_119 (rfl : 119 + 1 = 120) rfl ?_
      refine q_aload_n dX5_take_120 (rfl : 120 + 1 = 121) rfl ?_
      refine q_iconst (v := nI 0) dX5_take_121 (rfl : 121 + 1 = 122) (by decide) ?_
      refine q_iald (j := 0) dX5_take_122 (rfl : 122 + 1 = 123) (by first | rfl | assumption) (by decide) (by decide) ?_
      refine q_aload_n dX5_take_123 (rfl : 123 + 1 = 124) rfl ?_
      refine q_iconst (v := nI 1) dX5_take_124 (rfl : 124 + 1 = 125) (by decide) ?_
      refine q_iald (j := 1) dX5_take_125 (rfl : 125 + 1 = 126) (by first | rfl | assumption) (by decide) (by decide) ?_
      refine q_callVI (S_setCost (d := d + 1) toldA10) dX5_take_126 (rfl : 126 + 3 = 129) lX5_63 vX5_setCost (by first | rfl | assumption) rfl rfl (Nat.le_of_ble_eq_true rfl) TM_room TM_cs ?_
      intro x I1 J1 hp
      obtain ⟨rfl, rfl, rfl⟩ := hp
      have e : takeB I n (nI 112) 2 = setCostB (I 3 0) (I 3 1) := by simp [takeB, show ¬ nI 112 = nI 98 by decide, show ¬ nI 112 = nI 102 by decide]
      have e2 : takeH I n (nI 112) = wr I 15 (I 3 0).toNatClampNeg (I 3 1) := by simp [takeH, show ¬ nI 112 = nI 98 by decide, show ¬ nI 112 = nI 102 by decide]
      refine q_if_eq_b (q := 136) dX5_take_129 (by decide) (rfl : 129 + 3 = 132) (fun hb => ?_) (fun hb => ?_)
      ·
        refine q_iconst (v := nI 0) dX5_take_136 (rfl : 136 + 1 = 137) (by decide) ?_
        refine q_zret rfl dX5_take_137 (by first | exact bI_01 _ | exact Or.inl rfl | exact Or.inr rfl) ⟨rfl, rfl, _, rfl, ?_⟩
        rw [e, e2, hb]
        exact ⟨rfl, rfl, rfl⟩
      ·
        refine q_iconst (v := nI 1) dX5_take_132 (rfl : 132 + 1 = 133) (by decide) ?_
        refine q_goto (q := 137) dX5_take_133 (by decide) ?_
        refine q_zret rfl dX5_take_137 (by first | exact bI_01 _ | exact Or.inl rfl | exact Or.inr rfl) ⟨rfl, rfl, _, rfl, ?_⟩
        rw [e, e2, hb]
        exact ⟨rfl, rfl, rfl⟩
  by_cases h1 : l = nI 115 ∨ l = nI 116 ∨ l = nI 118
  · have e0 : ∀ c, takeB I n l c = (decide (c = 1) && setOneB l (I 3 0)) := fun c => by simp [takeB, h98, h102, h112, h1]
    have e2 : takeH I n l = wr I 10 (setOneK l) (I 3 0) := by simp [takeH, h98, h102, h112]
    refine q_lookup (off := 137) (q := 138) dX5_take_1 (by decide) (by rcases h1 with rfl | rfl | rfl <;> decide) (by decide) ?_
    refine q_iload_n dX5_take_138 (rfl : 138 + 1 = 139) rfl ?_
    refine q_iconst (v := nI 1) dX5_take_139 (rfl : 139 + 1 = 140) (by decide) ?_
    refine q_icmp_ne_n (q := 158) (by omega) (by omega) dX5_take_140 (by decide) (rfl : 140 + 3 = 143) (fun h => ?_) (fun h => ?_)
    ·
      refine q_iconst (v := nI 0) dX5_take_158 (rfl : 158 + 1 = 159) (by decide) ?_
      refine q_zret rfl dX5_take_159 (by first | exact bI_01 _ | exact Or.inl rfl | exact Or.inr rfl) ⟨rfl, rfl, _, rfl, ?_⟩
      have e : takeB I n l c = false := by rw [e0]; simp [h]
      rw [e]
      exact ⟨rfl, rfl, rfl⟩
    ·
      subst h
      refine q_aload_n dX5_take_143 (rfl : 143 + 1 = 144) rfl ?_
      refine q_iload_n dX5_take_144 (rfl : 144 + 1 = 145) rfl ?_
      refine q_aload_n dX5_take_145 (rfl : 145 + 1 = 146) rfl ?_
      refine q_iconst (v := nI 0) dX5_take_146 (rfl : 146 + 1 = 147) (by decide) ?_
      refine q_iald (j := 0) dX5_take_147 (rfl : 147 + 1 = 148) (by first | rfl | assumption) (by decide) (by decide) ?_
      refine q_callVI (S_setOne (d := d + 2) toldA10) dX5_take_148 (rfl : 148 + 3 = 151) lX5_66 vX5_setOne (by first | rfl | assumption) rfl rfl (Nat.le_of_ble_eq_true rfl) TM_room TM_cs ?_
      intro x I1 J1 hp
      obtain ⟨rfl, rfl, rfl⟩ := hp
      have e : takeB I n l 1 = setOneB l (I 3 0) := by rw [e0]; simp
      refine q_if_eq_b (q := 158) dX5_take_151 (by decide) (rfl : 151 + 3 = 154) (fun hb => ?_) (fun hb => ?_)
      ·
        refine q_iconst (v := nI 0) dX5_take_158 (rfl : 158 + 1 = 159) (by decide) ?_
        refine q_zret rfl dX5_take_159 (by first | exact bI_01 _ | exact Or.inl rfl | exact Or.inr rfl) ⟨rfl, rfl, _, rfl, ?_⟩
        rw [e, e2, hb]
        exact ⟨rfl, rfl, rfl⟩
      ·
        refine q_iconst (v := nI 1) dX5_take_154 (rfl : 154 + 1 = 155) (by decide) ?_
        refine q_goto (q := 159) dX5_take_155 (by decide) ?_
        refine q_zret rfl dX5_take_159 (by first | exact bI_01 _ | exact Or.inl rfl | exact Or.inr rfl) ⟨rfl, rfl, _, rfl, ?_⟩
        rw [e, e2, hb]
        exact ⟨rfl, rfl, rfl⟩
  · have h115 : ¬ l = nI 115 := fun z => h1 (Or.inl z)
    have h116 : ¬ l = nI 116 := fun z => h1 (Or.inr (Or.inl z))
    have h118 : ¬ l = nI 118 := fun z => h1 (Or.inr (Or.inr z))
    refine q_lookup (off := 159) (q := 160) dX5_take_1 (by decide) ?_ (by decide) ?_
    · show Op.lookupswitch.offset [(98, 59), (102, 83), (112, 113), (115, 137), (116, 137), (118, 137)] 159 l.toInt = 159
      rw [lv_osw h98 (by decide), lv_osw h102 (by decide), lv_osw h112 (by decide), lv_osw h115 (by decide), lv_osw h116 (by decide), lv_osw h118 (by decide)]
      rfl
    refine q_iconst (v := nI 0) dX5_take_160 (rfl : 160 + 1 = 161) (by decide) ?_
    refine q_zret rfl dX5_take_161 (by first | exact bI_01 _ | exact Or.inl rfl | exact Or.inr rfl) ⟨rfl, rfl, _, rfl, ?_⟩
    have e : takeB I n l c = false := by simp [takeB, h98, h102, h112, h1]
    rw [e]
    exact ⟨rfl, rfl, rfl⟩
theorem S_tclear {d : Nat} {I : HI} {J : HJ} : MI mX3_clear d [.ref 1] shA I J RA (fun x I' J' => x = I 1 1 ∧ I' = wr I 1 1 (nI 0) ∧ J' = J) := by
  refine Mt.of (L := [some (.ref 1), none]) (by decide +kernel) (Nat.le_of_ble_eq_true rfl) rfl ?_
  refine q_aload_n dX3_clear_0 (rfl : 0 + 1 = 1) rfl ?_
  refine q_getI dX3_clear_1 (rfl : 1 + 3 = 4) fX3_15 (by first | rfl | assumption) ?_
  refine q_istore_n dX3_clear_4 (rfl : 4 + 1 = 5) (by decide) ?_
  refine q_aload_n dX3_clear_5 (rfl : 5 + 1 = 6) rfl ?_
  refine q_iconst (v := nI 0) dX3_clear_6 (rfl : 6 + 1 = 7) (by decide) ?_
  refine q_putI dX3_clear_7 (rfl : 7 + 3 = 10) pX3_15 (by first | rfl | assumption) ?_
  refine q_iload_n dX3_clear_10 (rfl : 10 + 1 = 11) rfl ?_
  refine q_iret rfl dX3_clear_11 ⟨rfl, rfl, _, rfl, ?_⟩
  exact ⟨rfl, rfl, rfl⟩
def startH (I : HI) : HI := wr (wr (wr I 1 3 (nI 0)) 1 4 (nI 0)) 1 5 (nI 0)
theorem S_startItem {d : Nat} {I : HI} {J : HJ} : MV mX3_startItem d [.ref 1] shA I J RA (fun I' J' => I' = startH I ∧ J' = J) := by
  refine Mt.of (L := [some (.ref 1)]) (by decide +kernel) (Nat.le_of_ble_eq_true rfl) rfl ?_
  refine q_aload_n dX3_startItem_0 (rfl : 0 + 1 = 1) rfl ?_
  refine q_iconst (v := nI 0) dX3_startItem_1 (rfl : 1 + 1 = 2) (by decide) ?_
  refine q_putI dX3_startItem_2 (rfl : 2 + 3 = 5) pX3_23 (by first | rfl | assumption) ?_
  refine q_aload_n dX3_startItem_5 (rfl : 5 + 1 = 6) rfl ?_
  refine q_iconst (v := nI 0) dX3_startItem_6 (rfl : 6 + 1 = 7) (by decide) ?_
  refine q_putI dX3_startItem_7 (rfl : 7 + 3 = 10) pX3_26 (by first | rfl | assumption) ?_
  refine q_aload_n dX3_startItem_10 (rfl : 10 + 1 = 11) rfl ?_
  refine q_iconst (v := nI 0) dX3_startItem_11 (rfl : 11 + 1 = 12) (by decide) ?_
  refine q_putI dX3_startItem_12 (rfl : 12 + 3 = 15) pX3_29 (by first | rfl | assumption) ?_
  refine q_vret rfl dX3_startItem_15 ⟨rfl, rfl, rfl, ?_⟩
  exact ⟨rfl, rfl⟩
def figH (I : HI) (g : Nat) (x : Int32) : HI := wr (wr I 1 4 (nI (g + 1))) 1 5 (nI 10 * I 1 5 + x)
theorem S_addFigure {d g : Nat} {I : HI} {J : HJ} {x : Int32} (hg : I 1 4 = nI g) (h3 : g ≤ 3) : MI mX3_addFigure d [.ref 1, .int x] shA I J RA (fun y I' J' => y = bI (decide (g < 3)) ∧ I' = cond (decide (g < 3)) (figH I g x) I ∧ J' = J) := by
  refine Mt.of (L := [some (.ref 1), some (.int x)]) (by decide +kernel) (Nat.le_of_ble_eq_true rfl) rfl ?_
  refine q_aload_n dX3_addFigure_0 (rfl : 0 + 1 = 1) rfl ?_
  refine q_getI dX3_addFigure_1 (rfl : 1 + 3 = 4) fX3_26 (by first | rfl | assumption) ?_
  try simp (disch := omega) only [wr_hit, wr_p, wr_k, nI_add, pk_mul, nI_1, nI_s1, pk_sub, Nat.add_sub_cancel, hg]
  refine q_iconst (v := nI 3) dX3_addFigure_4 (rfl : 4 + 1 = 5) (by decide) ?_
  refine q_icmp_lt_n (q := 10) (by omega) (by omega) dX3_addFigure_5 (by decide) (rfl : 5 + 3 = 8) (fun h => ?_) (fun h => ?_)
  ·
    refine q_aload_n dX3_addFigure_10 (rfl : 10 + 1 = 11) rfl ?_
    refine q_dup dX3_addFigure_11 (rfl : 11 + 1 = 12) rfl ?_
    refine q_getI dX3_addFigure_12 (rfl : 12 + 3 = 15) fX3_26 (by first | rfl | assumption) ?_
    try simp (disch := omega) only [wr_hit, wr_p, wr_k, nI_add, pk_mul, nI_1, nI_s1, pk_sub, Nat.add_sub_cancel, hg]
    refine q_iconst (v := nI 1) dX3_addFigure_15 (rfl : 15 + 1 = 16) (by decide) ?_
    refine q_iadd dX3_addFigure_16 (rfl : 16 + 1 = 17) ?_
    try simp (disch := omega) only [wr_hit, wr_p, wr_k, nI_add, pk_mul, nI_1, nI_s1, pk_sub, Nat.add_sub_cancel, hg]
    refine q_putI dX3_addFigure_17 (rfl : 17 + 3 = 20) pX3_26 (by first | rfl | assumption) ?_
    refine q_aload_n dX3_addFigure_20 (rfl : 20 + 1 = 21) rfl ?_
    refine q_bipush (v := nI 10) dX3_addFigure_21 (rfl : 21 + 2 = 23) (by decide) ?_
    refine q_aload_n dX3_addFigure_23 (rfl : 23 + 1 = 24) rfl ?_
    refine q_getI dX3_addFigure_24 (rfl : 24 + 3 = 27) fX3_29 (by first | rfl | assumption) ?_
    try simp (disch := omega) only [wr_hit, wr_p, wr_k, nI_add, pk_mul, nI_1, nI_s1, pk_sub, Nat.add_sub_cancel, hg]
    refine q_imul dX3_addFigure_27 (rfl : 27 + 1 = 28) ?_
    try simp (disch := omega) only [wr_hit, wr_p, wr_k, nI_add, pk_mul, nI_1, nI_s1, pk_sub, Nat.add_sub_cancel, hg]
    refine q_iload_n dX3_addFigure_28 (rfl : 28 + 1 = 29) rfl ?_
    refine q_iadd dX3_addFigure_29 (rfl : 29 + 1 = 30) ?_
    try simp (disch := omega) only [wr_hit, wr_p, wr_k, nI_add, pk_mul, nI_1, nI_s1, pk_sub, Nat.add_sub_cancel, hg]
    refine q_putI dX3_addFigure_30 (rfl : 30 + 3 = 33) pX3_29 (by first | rfl | assumption) ?_
    refine q_iconst (v := nI 1) dX3_addFigure_33 (rfl : 33 + 1 = 34) (by decide) ?_
    refine q_zret rfl dX3_addFigure_34 (by first | exact bI_01 _ | exact Or.inl rfl | exact Or.inr rfl) ⟨rfl, rfl, _, rfl, ?_⟩
    rw [show decide (g < 3) = true by simp [h]]
    exact ⟨rfl, rfl, rfl⟩
  ·
    refine q_iconst (v := nI 0) dX3_addFigure_8 (rfl : 8 + 1 = 9) (by decide) ?_
    refine q_zret rfl dX3_addFigure_9 (by first | exact bI_01 _ | exact Or.inl rfl | exact Or.inr rfl) ⟨rfl, rfl, _, rfl, ?_⟩
    rw [show decide (g < 3) = false by simp; omega]
    exact ⟨rfl, rfl, rfl⟩
def endH (I : HI) (c : Nat) : HI := wr (wr (wr (wr I 3 c (I 1 5)) 1 3 (nI (c + 1))) 1 4 (nI 0)) 1 5 (nI 0)
theorem S_endNumber {d g c : Nat} {I : HI} {J : HJ} (hg : I 1 4 = nI g) (h3 : g ≤ 3) (hc : I 1 3 = nI c) (h4 : c ≤ 4) : MI mX3_endNumber d [.ref 1] shA I J RA (fun y I' J' => y = bI (decide (g ≠ 0) && decide (c < 4)) ∧ I' = cond (decide (g ≠ 0) && decide (c < 4)) (endH I c) I ∧ J' = J) := by
  refine Mt.of (L := [some (.ref 1)]) (by decide +kernel) (Nat.le_of_ble_eq_true rfl) rfl ?_
  refine q_aload_n dX3_endNumber_0 (rfl : 0 + 1 = 1) rfl ?_
  refine q_getI dX3_endNumber_1 (rfl : 1 + 3 = 4) fX3_26 (by first | rfl | assumption) ?_
  try simp (disch := omega) only [wr_hit, wr_p, wr_k, nI_add, pk_mul, nI_1, nI_s1, pk_sub, Nat.add_sub_cancel, hg, hc]
  refine q_if_eq_n (q := 15) (by omega) dX3_endNumber_4 (by decide) (rfl : 4 + 3 = 7) (fun h => ?_) (fun h => ?_)
  ·
    refine q_iconst (v := nI 0) dX3_endNumber_15 (rfl : 15 + 1 = 16) (by decide) ?_
    refine q_zret rfl dX3_endNumber_16 (by first | exact bI_01 _ | exact Or.inl rfl | exact Or.inr rfl) ⟨rfl, rfl, _, rfl, ?_⟩
    rw [show (decide (g ≠ 0) && decide (c < 4)) = false by simp [h]]
    exact ⟨rfl, rfl, rfl⟩
  ·
    refine q_aload_n dX3_endNumber_7 (rfl : 7 + 1 = 8) rfl ?_
    refine q_getI dX3_endNumber_8 (rfl : 8 + 3 = 11) fX3_23 (by first | rfl | assumption) ?_
    try simp (disch := omega) only [wr_hit, wr_p, wr_k, nI_add, pk_mul, nI_1, nI_s1, pk_sub, Nat.add_sub_cancel, hg, hc]
    refine q_iconst (v := nI 4) dX3_endNumber_11 (rfl : 11 + 1 = 12) (by decide) ?_
    refine q_icmp_lt_n (q := 17) (by omega) (by omega) dX3_endNumber_12 (by decide) (rfl : 12 + 3 = 15) (fun h2 => ?_) (fun h2 => ?_)
    ·
      refine q_aload_n dX3_endNumber_17 (rfl : 17 + 1 = 18) rfl ?_
      refine q_getR dX3_endNumber_18 (rfl : 18 + 3 = 21) fX3_19 (by first | rfl | assumption) (by first | rfl | assumption) ?_
      refine q_aload_n dX3_endNumber_21 (rfl : 21 + 1 = 22) rfl ?_
      refine q_getI dX3_endNumber_22 (rfl : 22 + 3 = 25) fX3_23 (by first | rfl | assumption) ?_
      try simp (disch := omega) only [wr_hit, wr_p, wr_k, nI_add, pk_mul, nI_1, nI_s1, pk_sub, Nat.add_sub_cancel, hg, hc]
      refine q_aload_n dX3_endNumber_25 (rfl : 25 + 1 = 26) rfl ?_
      refine q_getI dX3_endNumber_26 (rfl : 26 + 3 = 29) fX3_29 (by first | rfl | assumption) ?_
      try simp (disch := omega) only [wr_hit, wr_p, wr_k, nI_add, pk_mul, nI_1, nI_s1, pk_sub, Nat.add_sub_cancel, hg, hc]
      refine q_iast dX3_endNumber_29 (rfl : 29 + 1 = 30) (by first | rfl | assumption) (by first | assumption | omega) (by decide) ?_
      refine q_aload_n dX3_endNumber_30 (rfl : 30 + 1 = 31) rfl ?_
      refine q_dup dX3_endNumber_31 (rfl : 31 + 1 = 32) rfl ?_
      refine q_getI dX3_endNumber_32 (rfl : 32 + 3 = 35) fX3_23 (by first | rfl | assumption) ?_
      try simp (disch := omega) only [wr_hit, wr_p, wr_k, nI_add, pk_mul, nI_1, nI_s1, pk_sub, Nat.add_sub_cancel, hg, hc]
      refine q_iconst (v := nI 1) dX3_endNumber_35 (rfl : 35 + 1 = 36) (by decide) ?_
      refine q_iadd dX3_endNumber_36 (rfl : 36 + 1 = 37) ?_
      try simp (disch := omega) only [wr_hit, wr_p, wr_k, nI_add, pk_mul, nI_1, nI_s1, pk_sub, Nat.add_sub_cancel, hg, hc]
      refine q_putI dX3_endNumber_37 (rfl : 37 + 3 = 40) pX3_23 (by first | rfl | assumption) ?_
      refine q_aload_n dX3_endNumber_40 (rfl : 40 + 1 = 41) rfl ?_
      refine q_iconst (v := nI 0) dX3_endNumber_41 (rfl : 41 + 1 = 42) (by decide) ?_
      refine q_putI dX3_endNumber_42 (rfl : 42 + 3 = 45) pX3_26 (by first | rfl | assumption) ?_
      refine q_aload_n dX3_endNumber_45 (rfl : 45 + 1 = 46) rfl ?_
      refine q_iconst (v := nI 0) dX3_endNumber_46 (rfl : 46 + 1 = 47) (by decide) ?_
      refine q_putI dX3_endNumber_47 (rfl : 47 + 3 = 50) pX3_29 (by first | rfl | assumption) ?_
      refine q_iconst (v := nI 1) dX3_endNumber_50 (rfl : 50 + 1 = 51) (by decide) ?_
      refine q_zret rfl dX3_endNumber_51 (by first | exact bI_01 _ | exact Or.inl rfl | exact Or.inr rfl) ⟨rfl, rfl, _, rfl, ?_⟩
      rw [show (decide (g ≠ 0) && decide (c < 4)) = true by simp [h, h2]]
      exact ⟨rfl, rfl, rfl⟩
    ·
      refine q_iconst (v := nI 0) dX3_endNumber_15 (rfl : 15 + 1 = 16) (by decide) ?_
      refine q_zret rfl dX3_endNumber_16 (by first | exact bI_01 _ | exact Or.inl rfl | exact Or.inr rfl) ⟨rfl, rfl, _, rfl, ?_⟩
      rw [show (decide (g ≠ 0) && decide (c < 4)) = false by simp; omega]
      exact ⟨rfl, rfl, rfl⟩
/-- the byte of v that is s bytes above the lowest -/
def bC (v : Int64) (s : Nat) : Int32 := vp_nar .byte ((((v.toUInt64 >>> ((nI (8 * s)).toInt64.toUInt64 &&& Int64.toUInt64 63)).toInt64).toInt32).toInt8.toInt32)
def appH (I : HI) (nt n : Nat) (v : Int64) (j : Nat) : HI := fun a b => if a = 2 ∧ nt ≤ b ∧ b < nt + j then bC v (n - 1 - (b - nt)) else if a = 1 ∧ b = 1 then nI (nt + j) else I a b
theorem appH_0 {I : HI} {nt n : Nat} {v : Int64} (h : I 1 1 = nI nt) : appH I nt n v 0 = I := by
  funext a b
  unfold appH
  rw [if_neg (by omega)]
  split
  · rename_i h2
    obtain ⟨rfl, rfl⟩ := h2
    exact h.symm
  · rfl
theorem appH_s {I : HI} {nt n j s : Nat} {v : Int64} (h : s = n - 1 - j) : wr (wr (appH I nt n v j) 2 (nt + j) (bC v s)) 1 1 (nI (nt + j + 1)) = appH I nt n v (j + 1) := by
  subst h
  funext a b
  unfold wr appH
  by_cases h1 : a = 1
  · subst h1
    by_cases hb : b = 1
    · subst hb; simp; rfl
    · simp [hb]
  · by_cases h2 : a = 2
    · subst h2
      by_cases hb : b = nt + j
      · subst hb; simp
      · by_cases hl : nt ≤ b ∧ b < nt + j
        · simp [hb, hl, show nt ≤ b ∧ b < nt + (j + 1) by omega]
        · simp [hb, hl, show ¬ (nt ≤ b ∧ b < nt + (j + 1)) by omega]
    · simp [h1, h2]
theorem appH_len {I : HI} {nt n j : Nat} {v : Int64} : appH I nt n v j 1 1 = nI (nt + j) := by simp [appH]
theorem nI_m1 (s : Nat) : nI s + Int32.ofInt (-1) = nI s - nI 1 := by
  rw [Int32.sub_eq_add_neg]
  rfl
theorem nI_m1neg : nI 0 - nI 1 < 0 := by decide
theorem L_append {T : Tg} {I : HI} {J : HJ} {nt n : Nat} {v : Int64} (h4 : nt + n ≤ 400) (K : Wm mX3_append T 0 0 shA 58 [some (.ref 1), some (.int (nI n)), some (.long v), none, none] [] (appH I nt n v n) J RA) :
    ∀ (j : Nat), j ≤ n → Wm mX3_append T 0 0 shA 19 [some (.ref 1), some (.int (nI n)), some (.long v), none, some (.int (nI (n - j) - nI 1))] [] (appH I nt n v j) J RA := by
  refine loopN (fun j hj ih => ?_)
  refine q_iload dX3_append_19 (rfl : 19 + 2 = 21) rfl ?_
  refine q_if_lt (q := 58) dX3_append_21 (by decide) (rfl : 21 + 3 = 24) (fun h => ?_) (fun h => ?_)
  ·
    have : j = n := by
      rcases Nat.lt_or_ge j n with q | q
      · obtain ⟨s, hs⟩ : ∃ s, n - j = s + 1 := ⟨n - j - 1, by omega⟩
        rw [hs, nI_s1] at h
        exact absurd h (nI_pos (by omega))
      · omega
    subst this
    refine q_forget (L' := [some (.ref 1), some (.int (nI j)), some (.long v), none, none]) (by repeat (first | exact trivial | refine And.intro rfl ?_)) ?_
    exact K
  ·
    have hlt : j < n := by
      rcases Nat.lt_or_ge j n with q | q
      · exact q
      · rw [show n - j = 0 by omega] at h
        exact absurd nI_m1neg h
    obtain ⟨s, hs⟩ : ∃ s, n - j = s + 1 := ⟨n - j - 1, by omega⟩
    rw [hs, nI_s1]
    refine q_aload_n dX3_append_24 (rfl : 24 + 1 = 25) rfl ?_
    refine q_getR dX3_append_25 (rfl : 25 + 3 = 28) fX3_9 (by first | rfl | assumption) (by first | rfl | assumption) ?_
    refine q_aload_n dX3_append_28 (rfl : 28 + 1 = 29) rfl ?_
    refine q_getI dX3_append_29 (rfl : 29 + 3 = 32) fX3_15 (by first | rfl | assumption) ?_
    try simp (disch := omega) only [wr_hit, wr_p, wr_k, nI_add, pk_mul, nI_1, nI_s1, pk_sub, Nat.add_sub_cancel, appH_len]
    refine q_lload_n dX3_append_32 (rfl : 32 + 1 = 33) rfl ?_
    refine q_bipush (v := nI 8) dX3_append_33 (rfl : 33 + 2 = 35) (by decide) ?_
    refine q_iload dX3_append_35 (rfl : 35 + 2 = 37) rfl ?_
    refine q_imul dX3_append_37 (rfl : 37 + 1 = 38) ?_
    try simp (disch := omega) only [wr_hit, wr_p, wr_k, nI_add, pk_mul, nI_1, nI_s1, pk_sub, Nat.add_sub_cancel, appH_len]
    refine q_lushr dX3_append_38 (rfl : 38 + 1 = 39) ?_
    refine q_l2i dX3_append_39 (rfl : 39 + 1 = 40) ?_
    refine q_i2b dX3_append_40 (rfl : 40 + 1 = 41) ?_
    refine q_bast dX3_append_41 (rfl : 41 + 1 = 42) (by first | rfl | assumption) (by first | assumption | omega) (by decide) ?_
    refine q_aload_n dX3_append_42 (rfl : 42 + 1 = 43) rfl ?_
    refine q_dup dX3_append_43 (rfl : 43 + 1 = 44) rfl ?_
    refine q_getI dX3_append_44 (rfl : 44 + 3 = 47) fX3_15 (by first | rfl | assumption) ?_
    try simp (disch := omega) only [wr_hit, wr_p, wr_k, nI_add, pk_mul, nI_1, nI_s1, pk_sub, Nat.add_sub_cancel, appH_len]
    refine q_iconst (v := nI 1) dX3_append_47 (rfl : 47 + 1 = 48) (by decide) ?_
    refine q_iadd dX3_append_48 (rfl : 48 + 1 = 49) ?_
    try simp (disch := omega) only [wr_hit, wr_p, wr_k, nI_add, pk_mul, nI_1, nI_s1, pk_sub, Nat.add_sub_cancel, appH_len]
    refine q_putI dX3_append_49 (rfl : 49 + 3 = 52) pX3_15 (by first | rfl | assumption) ?_
    refine q_iinc dX3_append_52 (rfl : 52 + 3 = 55) rfl rfl (by decide) ?_
    refine q_goto (q := 19) dX3_append_55 (by decide) ?_
    rw [nI_m1]
    have e : ((((v.toUInt64 >>> ((nI (8 * s)).toInt64.toUInt64 &&& Int64.toUInt64 63)).toInt64).toInt32).toInt8.toInt32 : Int32) = ((((v.toUInt64 >>> ((nI (8 * s)).toInt64.toUInt64 &&& Int64.toUInt64 63)).toInt64).toInt32).toInt8.toInt32 : Int32) := rfl
    have e2 := appH_s (I := I) (nt := nt) (v := v) (show s = n - 1 - j by omega)
    unfold bC at e2
    rw [e2]
    have := ih hlt
    rw [show n - (j + 1) = s by omega] at this
    exact this
theorem S_append {d nt n : Nat} {I : HI} {J : HJ} {v : Int64} (ht : I 1 1 = nI nt) (h4 : nt ≤ 400) (hn : n ≤ 8) : MI mX3_append d [.ref 1, .int (nI n), .long v] shA I J RA (fun x I' J' => x = bI (decide (nt + n ≤ 400)) ∧ I' = cond (decide (nt + n ≤ 400)) (appH I nt n v n) I ∧ J' = J) := by
  refine Mt.of (L := [some (.ref 1), some (.int (nI n)), some (.long v), none, none]) (by decide +kernel) (Nat.le_of_ble_eq_true rfl) rfl ?_
  refine q_iload_n dX3_append_0 (rfl : 0 + 1 = 1) rfl ?_
  refine q_sipush (v := nI 400) dX3_append_1 (rfl : 1 + 3 = 4) (by decide) ?_
  refine q_aload_n dX3_append_4 (rfl : 4 + 1 = 5) rfl ?_
  refine q_getI dX3_append_5 (rfl : 5 + 3 = 8) fX3_15 (by first | rfl | assumption) ?_
  try simp (disch := omega) only [wr_hit, wr_p, wr_k, nI_add, pk_mul, nI_1, nI_s1, pk_sub, Nat.add_sub_cancel, appH_len]
  refine q_isub dX3_append_8 (rfl : 8 + 1 = 9) ?_
  try simp (disch := omega) only [wr_hit, wr_p, wr_k, nI_add, pk_mul, nI_1, nI_s1, pk_sub, Nat.add_sub_cancel, appH_len]
  rw [ht, pk_sub h4]
  refine q_icmp_le_n (q := 14) (by omega) (by omega) dX3_append_9 (by decide) (rfl : 9 + 3 = 12) (fun h => ?_) (fun h => ?_)
  ·
    have hle : nt + n ≤ 400 := by omega
    refine q_iload_n dX3_append_14 (rfl : 14 + 1 = 15) rfl ?_
    refine q_iconst (v := nI 1) dX3_append_15 (rfl : 15 + 1 = 16) (by decide) ?_
    refine q_isub dX3_append_16 (rfl : 16 + 1 = 17) ?_
    try simp (disch := omega) only [wr_hit, wr_p, wr_k, nI_add, pk_mul, nI_1, nI_s1, pk_sub, Nat.add_sub_cancel, appH_len]
    refine q_istore dX3_append_17 (rfl : 17 + 2 = 19) (by decide) ?_
    have := L_append (J := J) (I := I) (v := v) (T := TM d 0 0 false shA.length (fun sh' w I' J' R' => sh' = shA ∧ R' = RA ∧ ∃ x : Int32, w = some (.int x) ∧ (x = bI (decide (nt + n ≤ 400)) ∧ I' = cond (decide (nt + n ≤ 400)) (appH I nt n v n) I ∧ J' = J))) hle ?_ 0 (by omega)
    · rw [appH_0 ht] at this
      exact this
    refine q_iconst (v := nI 1) dX3_append_58 (rfl : 58 + 1 = 59) (by decide) ?_
    refine q_zret rfl dX3_append_59 (by first | exact bI_01 _ | exact Or.inl rfl | exact Or.inr rfl) ⟨rfl, rfl, _, rfl, ?_⟩
    rw [show decide (nt + n ≤ 400) = true by simp [hle]]
    exact ⟨rfl, rfl, rfl⟩
  ·
    refine q_iconst (v := nI 0) dX3_append_12 (rfl : 12 + 1 = 13) (by decide) ?_
    refine q_zret rfl dX3_append_13 (by first | exact bI_01 _ | exact Or.inl rfl | exact Or.inr rfl) ⟨rfl, rfl, _, rfl, ?_⟩
    rw [show decide (nt + n ≤ 400) = false by simp; omega]
    exact ⟨rfl, rfl, rfl⟩
