/-! the reference's constructor; what lies in the world at the start -/
/-- the references of the first part of the world -/
def RA0 : HR := fun p k => if p < 44 then RA p k else none
def RB2 (R : HR) : Prop := ∀ p k, ¬ (p < 64 ∧ k < 25) → R p k = none
theorem RB2.w {R : HR} {p k : Nat} {v : Option Nat} (h : RB2 R) (hp : p < 64 ∧ k < 25) : RB2 (wr R p k v) := fun a b hab => by
  have e : ¬ (a = p ∧ b = k) := fun z => hab ⟨by omega, by omega⟩
  unfold wr
  split
  · split
    · rename_i h1 h2
      exact absurd ⟨h1, h2⟩ e
    · exact h a b hab
  · exact h a b hab
theorem RB2.ext {R R' : HR} (h : RB2 R) (h' : RB2 R') (he : ∀ p, p < 64 → ∀ k, k < 25 → R p k = R' p k) : R = R' := by
  funext p k
  by_cases hk : p < 64 ∧ k < 25
  · exact he p hk.1 k hk.2
  · rw [h p k hk, h' p k hk]
theorem getD_none {α : Type} {l : List α} {k : Nat} {d : α} (h : l.length ≤ k) : l.getD k d = d := by
  rw [List.getD_eq_getElem?_getD, List.getElem?_eq_none h]
  rfl
theorem RB2.of (rows : List (List (Option Nat))) (h : rows.length ≤ 64) (h2 : ∀ r ∈ rows, r.length ≤ 25) : RB2 (fun p k => (rows.getD p []).getD k none) := by
  intro p k hk
  show (rows.getD p []).getD k none = none
  by_cases hp : p < rows.length
  · have e : rows.getD p [] = rows[p] := by
      rw [List.getD_eq_getElem?_getD, List.getElem?_eq_getElem hp]
      rfl
    rw [e]
    have := h2 _ (List.getElem_mem hp)
    exact getD_none (by omega)
  · rw [getD_none (show rows.length ≤ p by omega)]
    exact getD_none (Nat.zero_le k)
theorem RB2.ra : RB2 RA := RB2.of _ (by decide) (by decide)
theorem RB2.ra0 : RB2 RA0 := fun p k hk => by
  unfold RA0
  split
  · exact RB2.ra p k hk
  · rfl
theorem RB2.n : RB2 (fun _ _ => none) := fun _ _ _ => rfl
set_option maxRecDepth 100000 in
theorem coR_Snow_eq : coR_conSnow (fun _ _ => none) = RA0 := by
  refine RB2.ext ?_ RB2.ra0 (by decide +kernel)
  unfold coR_conSnow coR_conText coR_conTold4 coR_conTold10 coR_conBarn16 coR_conBarn22 coR_conBarn28 coR_conMarks coR_conThaw coR_conLet
  repeat (first | exact RB2.n | refine RB2.w ?_ (by decide))
theorem ZW.takes {n : Nat} {I : HI} {J : HJ} {R : HR} (h : ZW n I J R) (hp : 63 < n) : ZW n (takZ I) J R := ⟨fun a ha => by
  rw [← h.1 a ha]
  funext b
  exact takZ_o (by omega), h.2⟩
theorem take64 : shA.take 64 = shA := rfl
set_option maxRecDepth 100000 in
theorem eR64 : wr (wr (wr (wr (wr (wr (wr (wr (wr (wr (wr (wr (wr (wr (wr (wr (wr (wr (wr (RA0) 44 1 (some 45)) 44 3 (some 46)) 44 4 (some 47)) 44 5 (some 48)) 44 6 (some 49)) 44 7 (some 50)) 44 8 (some 51)) 44 9 (some 52)) 44 10 (some 53)) 44 11 (some 54)) 44 12 (some 55)) 44 15 (some 56)) 44 16 (some 57)) 44 17 (some 58)) 44 18 (some 59)) 44 19 (some 60)) 44 20 (some 61)) 44 21 (some 62)) 44 24 (some 63) = RA := by
  refine RB2.ext ?_ RB2.ra (by decide +kernel)
  repeat (first | exact RB2.ra0 | refine RB2.w ?_ (by decide))
def coI_conModel (I : HI) : HI := takZ (wr (wr (wr (wr (wr (begH I) 47 1 (nI 1)) 48 48 (nI 0)) 48 49 (nI 5)) 48 50 (nI 2)) 48 51 (nI 1))
theorem S_conModel {I : HI} {J : HJ} (hb0 : ZW 45 I J RA0) : Mt mX7_init 7 19 1152 true [.ref 44] (shA.take 45) I J RA0 (CoP 64 (coI_conModel I) (wr J 53 0 0) RA) := by
  refine Mt.of (L := [some (.ref 44)]) (by decide +kernel) (Nat.le_of_ble_eq_true rfl) rfl ?_
  refine q_aload_n dX7_init_0 (rfl : 0 + 1 = 1) rfl ?_
  refine q_oinit dX7_init_1 (rfl : 1 + 3 = 4) lX7_1 w_obj (Nat.le_of_ble_eq_true rfl) TM_o ?_
  refine q_aload_n dX7_init_4 (rfl : 4 + 1 = 5) rfl ?_
  refine q_sipush (v := nI 400) dX7_init_5 (rfl : 5 + 3 = 8) (by decide) ?_
  refine q_newaN (n := 45) (c2 := 1) (s2 := 400) (t := .byte) (k := 400) dX7_init_8 (rfl : 8 + 2 = 10) rfl (rfl : shA[45]? = some (.inr (.byte, 400))) (by decide) a_byte (by decide) (by decide) (by decide) (fun _ _ => rfl) (Tx.of (Nat.le_of_ble_eq_true rfl)) rfl rfl (by repeat (first | exact hb0.up (by decide) | refine ZW.wI ?_ (by decide) | refine ZW.wR ?_ (by decide) (by decide) | refine ZW.wJ ?_ (by decide) | refine ZW.forget ?_ (by decide) | refine ZW.addFall ?_ (by decide) | refine ZW.begins ?_ (by decide))) ⟨rfl, rfl⟩ ⟨Nat.le_of_ble_eq_true rfl, Nat.le_of_ble_eq_true rfl⟩ (fun hz => ?_)
  refine q_putR dX7_init_10 (rfl : 10 + 3 = 13) pX7_7 rfl (fun h => rfl) (by first | rfl | assumption) ?_
  refine q_aload_n dX7_init_13 (rfl : 13 + 1 = 14) rfl ?_
  refine q_bipush (v := nI 10) dX7_init_14 (rfl : 14 + 2 = 16) (by decide) ?_
  refine q_newaN (n := 46) (c2 := 2) (s2 := 410) (t := .int) (k := 10) dX7_init_16 (rfl : 16 + 2 = 18) rfl (rfl : shA[46]? = some (.inr (.int, 10))) (by decide) a_int (by decide) (by decide) (by decide) (fun _ _ => rfl) (Tx.of (Nat.le_of_ble_eq_true rfl)) rfl rfl (by repeat (first | exact hb0.up (by decide) | refine ZW.wI ?_ (by decide) | refine ZW.wR ?_ (by decide) (by decide) | refine ZW.wJ ?_ (by decide) | refine ZW.forget ?_ (by decide) | refine ZW.addFall ?_ (by decide) | refine ZW.begins ?_ (by decide))) ⟨rfl, rfl⟩ ⟨Nat.le_of_ble_eq_true rfl, Nat.le_of_ble_eq_true rfl⟩ (fun hz => ?_)
  refine q_putR dX7_init_18 (rfl : 18 + 3 = 21) pX7_13 rfl (fun h => rfl) (by first | rfl | assumption) ?_
  refine q_aload_n dX7_init_21 (rfl : 21 + 1 = 22) rfl ?_
  refine q_iconst (v := nI 2) dX7_init_22 (rfl : 22 + 1 = 23) (by decide) ?_
  refine q_newaN (n := 47) (c2 := 3) (s2 := 412) (t := .int) (k := 2) dX7_init_23 (rfl : 23 + 2 = 25) rfl (rfl : shA[47]? = some (.inr (.int, 2))) (by decide) a_int (by decide) (by decide) (by decide) (fun _ _ => rfl) (Tx.of (Nat.le_of_ble_eq_true rfl)) rfl rfl (by repeat (first | exact hb0.up (by decide) | refine ZW.wI ?_ (by decide) | refine ZW.wR ?_ (by decide) (by decide) | refine ZW.wJ ?_ (by decide) | refine ZW.forget ?_ (by decide) | refine ZW.addFall ?_ (by decide) | refine ZW.begins ?_ (by decide))) ⟨rfl, rfl⟩ ⟨Nat.le_of_ble_eq_true rfl, Nat.le_of_ble_eq_true rfl⟩ (fun hz => ?_)
  refine q_putR dX7_init_25 (rfl : 25 + 3 = 28) pX7_17 rfl (fun h => rfl) (by first | rfl | assumption) ?_
  refine q_aload_n dX7_init_28 (rfl : 28 + 1 = 29) rfl ?_
  refine q_bipush (v := nI 96) dX7_init_29 (rfl : 29 + 2 = 31) (by decide) ?_
  refine q_newaN (n := 48) (c2 := 4) (s2 := 508) (t := .int) (k := 96) dX7_init_31 (rfl : 31 + 2 = 33) rfl (rfl : shA[48]? = some (.inr (.int, 96))) (by decide) a_int (by decide) (by decide) (by decide) (fun _ _ => rfl) (Tx.of (Nat.le_of_ble_eq_true rfl)) rfl rfl (by repeat (first | exact hb0.up (by decide) | refine ZW.wI ?_ (by decide) | refine ZW.wR ?_ (by decide) (by decide) | refine ZW.wJ ?_ (by decide) | refine ZW.forget ?_ (by decide) | refine ZW.addFall ?_ (by decide) | refine ZW.begins ?_ (by decide))) ⟨rfl, rfl⟩ ⟨Nat.le_of_ble_eq_true rfl, Nat.le_of_ble_eq_true rfl⟩ (fun hz => ?_)
  refine q_putR dX7_init_33 (rfl : 33 + 3 = 36) pX7_20 rfl (fun h => rfl) (by first | rfl | assumption) ?_
  refine q_aload_n dX7_init_36 (rfl : 36 + 1 = 37) rfl ?_
  refine q_sipush (v := nI 200) dX7_init_37 (rfl : 37 + 3 = 40) (by decide) ?_
  refine q_newaN (n := 49) (c2 := 5) (s2 := 708) (t := .int) (k := 200) dX7_init_40 (rfl : 40 + 2 = 42) rfl (rfl : shA[49]? = some (.inr (.int, 200))) (by decide) a_int (by decide) (by decide) (by decide) (fun _ _ => rfl) (Tx.of (Nat.le_of_ble_eq_true rfl)) rfl rfl (by repeat (first | exact hb0.up (by decide) | refine ZW.wI ?_ (by decide) | refine ZW.wR ?_ (by decide) (by decide) | refine ZW.wJ ?_ (by decide) | refine ZW.forget ?_ (by decide) | refine ZW.addFall ?_ (by decide) | refine ZW.begins ?_ (by decide))) ⟨rfl, rfl⟩ ⟨Nat.le_of_ble_eq_true rfl, Nat.le_of_ble_eq_true rfl⟩ (fun hz => ?_)
  refine q_putR dX7_init_42 (rfl : 42 + 3 = 45) pX7_23 rfl (fun h => rfl) (by first | rfl | assumption) ?_
  refine q_aload_n dX7_init_45 (rfl : 45 + 1 = 46) rfl ?_
  refine q_iconst (v := nI 3) dX7_init_46 (rfl : 46 + 1 = 47) (by decide) ?_
  refine q_newaN (n := 50) (c2 := 6) (s2 := 711) (t := .int) (k := 3) dX7_init_47 (rfl : 47 + 2 = 49) rfl (rfl : shA[50]? = some (.inr (.int, 3))) (by decide) a_int (by decide) (by decide) (by decide) (fun _ _ => rfl) (Tx.of (Nat.le_of_ble_eq_true rfl)) rfl rfl (by repeat (first | exact hb0.up (by decide) | refine ZW.wI ?_ (by decide) | refine ZW.wR ?_ (by decide) (by decide) | refine ZW.wJ ?_ (by decide) | refine ZW.forget ?_ (by decide) | refine ZW.addFall ?_ (by decide) | refine ZW.begins ?_ (by decide))) ⟨rfl, rfl⟩ ⟨Nat.le_of_ble_eq_true rfl, Nat.le_of_ble_eq_true rfl⟩ (fun hz => ?_)
  refine q_putR dX7_init_49 (rfl : 49 + 3 = 52) pX7_26 rfl (fun h => rfl) (by first | rfl | assumption) ?_
  refine q_aload_n dX7_init_52 (rfl : 52 + 1 = 53) rfl ?_
  refine q_bipush (v := nI 36) dX7_init_53 (rfl : 53 + 2 = 55) (by decide) ?_
  refine q_newaN (n := 51) (c2 := 7) (s2 := 747) (t := .int) (k := 36) dX7_init_55 (rfl : 55 + 2 = 57) rfl (rfl : shA[51]? = some (.inr (.int, 36))) (by decide) a_int (by decide) (by decide) (by decide) (fun _ _ => rfl) (Tx.of (Nat.le_of_ble_eq_true rfl)) rfl rfl (by repeat (first | exact hb0.up (by decide) | refine ZW.wI ?_ (by decide) | refine ZW.wR ?_ (by decide) (by decide) | refine ZW.wJ ?_ (by decide) | refine ZW.forget ?_ (by decide) | refine ZW.addFall ?_ (by decide) | refine ZW.begins ?_ (by decide))) ⟨rfl, rfl⟩ ⟨Nat.le_of_ble_eq_true rfl, Nat.le_of_ble_eq_true rfl⟩ (fun hz => ?_)
  refine q_putR dX7_init_57 (rfl : 57 + 3 = 60) pX7_29 rfl (fun h => rfl) (by first | rfl | assumption) ?_
  refine q_aload_n dX7_init_60 (rfl : 60 + 1 = 61) rfl ?_
  refine q_bipush (v := nI 36) dX7_init_61 (rfl : 61 + 2 = 63) (by decide) ?_
  refine q_newaN (n := 52) (c2 := 8) (s2 := 783) (t := .int) (k := 36) dX7_init_63 (rfl : 63 + 2 = 65) rfl (rfl : shA[52]? = some (.inr (.int, 36))) (by decide) a_int (by decide) (by decide) (by decide) (fun _ _ => rfl) (Tx.of (Nat.le_of_ble_eq_true rfl)) rfl rfl (by repeat (first | exact hb0.up (by decide) | refine ZW.wI ?_ (by decide) | refine ZW.wR ?_ (by decide) (by decide) | refine ZW.wJ ?_ (by decide) | refine ZW.forget ?_ (by decide) | refine ZW.addFall ?_ (by decide) | refine ZW.begins ?_ (by decide))) ⟨rfl, rfl⟩ ⟨Nat.le_of_ble_eq_true rfl, Nat.le_of_ble_eq_true rfl⟩ (fun hz => ?_)
  refine q_putR dX7_init_65 (rfl : 65 + 3 = 68) pX7_32 rfl (fun h => rfl) (by first | rfl | assumption) ?_
  refine q_aload_n dX7_init_68 (rfl : 68 + 1 = 69) rfl ?_
  refine q_iconst (v := nI 3) dX7_init_69 (rfl : 69 + 1 = 70) (by decide) ?_
  refine q_newaN (n := 53) (c2 := 9) (s2 := 786) (t := .long) (k := 3) dX7_init_70 (rfl : 70 + 2 = 72) rfl (rfl : shA[53]? = some (.inr (.long, 3))) (by decide) a_long (by decide) (by decide) (by decide) (fun _ _ => rfl) (Tx.of (Nat.le_of_ble_eq_true rfl)) rfl rfl (by repeat (first | exact hb0.up (by decide) | refine ZW.wI ?_ (by decide) | refine ZW.wR ?_ (by decide) (by decide) | refine ZW.wJ ?_ (by decide) | refine ZW.forget ?_ (by decide) | refine ZW.addFall ?_ (by decide) | refine ZW.begins ?_ (by decide))) ⟨rfl, rfl⟩ ⟨Nat.le_of_ble_eq_true rfl, Nat.le_of_ble_eq_true rfl⟩ (fun hz => ?_)
  refine q_putR dX7_init_72 (rfl : 72 + 3 = 75) pX7_35 rfl (fun h => rfl) (by first | rfl | assumption) ?_
  refine q_aload_n dX7_init_75 (rfl : 75 + 1 = 76) rfl ?_
  refine q_iconst (v := nI 3) dX7_init_76 (rfl : 76 + 1 = 77) (by decide) ?_
  refine q_newaN (n := 54) (c2 := 10) (s2 := 789) (t := .int) (k := 3) dX7_init_77 (rfl : 77 + 2 = 79) rfl (rfl : shA[54]? = some (.inr (.int, 3))) (by decide) a_int (by decide) (by decide) (by decide) (fun _ _ => rfl) (Tx.of (Nat.le_of_ble_eq_true rfl)) rfl rfl (by repeat (first | exact hb0.up (by decide) | refine ZW.wI ?_ (by decide) | refine ZW.wR ?_ (by decide) (by decide) | refine ZW.wJ ?_ (by decide) | refine ZW.forget ?_ (by decide) | refine ZW.addFall ?_ (by decide) | refine ZW.begins ?_ (by decide))) ⟨rfl, rfl⟩ ⟨Nat.le_of_ble_eq_true rfl, Nat.le_of_ble_eq_true rfl⟩ (fun hz => ?_)
  refine q_putR dX7_init_79 (rfl : 79 + 3 = 82) pX7_39 rfl (fun h => rfl) (by first | rfl | assumption) ?_
  refine q_aload_n dX7_init_82 (rfl : 82 + 1 = 83) rfl ?_
  refine q_bipush (v := nI 72) dX7_init_83 (rfl : 83 + 2 = 85) (by decide) ?_
  refine q_newaN (n := 55) (c2 := 11) (s2 := 861) (t := .int) (k := 72) dX7_init_85 (rfl : 85 + 2 = 87) rfl (rfl : shA[55]? = some (.inr (.int, 72))) (by decide) a_int (by decide) (by decide) (by decide) (fun _ _ => rfl) (Tx.of (Nat.le_of_ble_eq_true rfl)) rfl rfl (by repeat (first | exact hb0.up (by decide) | refine ZW.wI ?_ (by decide) | refine ZW.wR ?_ (by decide) (by decide) | refine ZW.wJ ?_ (by decide) | refine ZW.forget ?_ (by decide) | refine ZW.addFall ?_ (by decide) | refine ZW.begins ?_ (by decide))) ⟨rfl, rfl⟩ ⟨Nat.le_of_ble_eq_true rfl, Nat.le_of_ble_eq_true rfl⟩ (fun hz => ?_)
  refine q_putR dX7_init_87 (rfl : 87 + 3 = 90) pX7_42 rfl (fun h => rfl) (by first | rfl | assumption) ?_
  refine q_aload_n dX7_init_90 (rfl : 90 + 1 = 91) rfl ?_
  refine q_bipush (v := nI 14) dX7_init_91 (rfl : 91 + 2 = 93) (by decide) ?_
  refine q_newaN (n := 56) (c2 := 12) (s2 := 875) (t := .int) (k := 14) dX7_init_93 (rfl : 93 + 2 = 95) rfl (rfl : shA[56]? = some (.inr (.int, 14))) (by decide) a_int (by decide) (by decide) (by decide) (fun _ _ => rfl) (Tx.of (Nat.le_of_ble_eq_true rfl)) rfl rfl (by repeat (first | exact hb0.up (by decide) | refine ZW.wI ?_ (by decide) | refine ZW.wR ?_ (by decide) (by decide) | refine ZW.wJ ?_ (by decide) | refine ZW.forget ?_ (by decide) | refine ZW.addFall ?_ (by decide) | refine ZW.begins ?_ (by decide))) ⟨rfl, rfl⟩ ⟨Nat.le_of_ble_eq_true rfl, Nat.le_of_ble_eq_true rfl⟩ (fun hz => ?_)
  refine q_putR dX7_init_95 (rfl : 95 + 3 = 98) pX7_45 rfl (fun h => rfl) (by first | rfl | assumption) ?_
  refine q_aload_n dX7_init_98 (rfl : 98 + 1 = 99) rfl ?_
  refine q_bipush (v := nI 12) dX7_init_99 (rfl : 99 + 2 = 101) (by decide) ?_
  refine q_newaN (n := 57) (c2 := 13) (s2 := 887) (t := .int) (k := 12) dX7_init_101 (rfl : 101 + 2 = 103) rfl (rfl : shA[57]? = some (.inr (.int, 12))) (by decide) a_int (by decide) (by decide) (by decide) (fun _ _ => rfl) (Tx.of (Nat.le_of_ble_eq_true rfl)) rfl rfl (by repeat (first | exact hb0.up (by decide) | refine ZW.wI ?_ (by decide) | refine ZW.wR ?_ (by decide) (by decide) | refine ZW.wJ ?_ (by decide) | refine ZW.forget ?_ (by decide) | refine ZW.addFall ?_ (by decide) | refine ZW.begins ?_ (by decide))) ⟨rfl, rfl⟩ ⟨Nat.le_of_ble_eq_true rfl, Nat.le_of_ble_eq_true rfl⟩ (fun hz => ?_)
  refine q_putR dX7_init_103 (rfl : 103 + 3 = 106) pX7_48 rfl (fun h => rfl) (by first | rfl | assumption) ?_
  refine q_aload_n dX7_init_106 (rfl : 106 + 1 = 107) rfl ?_
  refine q_bipush (v := nI 6) dX7_init_107 (rfl : 107 + 2 = 109) (by decide) ?_
  refine q_newaN (n := 58) (c2 := 14) (s2 := 893) (t := .int) (k := 6) dX7_init_109 (rfl : 109 + 2 = 111) rfl (rfl : shA[58]? = some (.inr (.int, 6))) (by decide) a_int (by decide) (by decide) (by decide) (fun _ _ => rfl) (Tx.of (Nat.le_of_ble_eq_true rfl)) rfl rfl (by repeat (first | exact hb0.up (by decide) | refine ZW.wI ?_ (by decide) | refine ZW.wR ?_ (by decide) (by decide) | refine ZW.wJ ?_ (by decide) | refine ZW.forget ?_ (by decide) | refine ZW.addFall ?_ (by decide) | refine ZW.begins ?_ (by decide))) ⟨rfl, rfl⟩ ⟨Nat.le_of_ble_eq_true rfl, Nat.le_of_ble_eq_true rfl⟩ (fun hz => ?_)
  refine q_putR dX7_init_111 (rfl : 111 + 3 = 114) pX7_51 rfl (fun h => rfl) (by first | rfl | assumption) ?_
  refine q_aload_n dX7_init_114 (rfl : 114 + 1 = 115) rfl ?_
  refine q_bipush (v := nI 6) dX7_init_115 (rfl : 115 + 2 = 117) (by decide) ?_
  refine q_newaN (n := 59) (c2 := 15) (s2 := 899) (t := .int) (k := 6) dX7_init_117 (rfl : 117 + 2 = 119) rfl (rfl : shA[59]? = some (.inr (.int, 6))) (by decide) a_int (by decide) (by decide) (by decide) (fun _ _ => rfl) (Tx.of (Nat.le_of_ble_eq_true rfl)) rfl rfl (by repeat (first | exact hb0.up (by decide) | refine ZW.wI ?_ (by decide) | refine ZW.wR ?_ (by decide) (by decide) | refine ZW.wJ ?_ (by decide) | refine ZW.forget ?_ (by decide) | refine ZW.addFall ?_ (by decide) | refine ZW.begins ?_ (by decide))) ⟨rfl, rfl⟩ ⟨Nat.le_of_ble_eq_true rfl, Nat.le_of_ble_eq_true rfl⟩ (fun hz => ?_)
  refine q_putR dX7_init_119 (rfl : 119 + 3 = 122) pX7_54 rfl (fun h => rfl) (by first | rfl | assumption) ?_
  refine q_aload_n dX7_init_122 (rfl : 122 + 1 = 123) rfl ?_
  refine q_bipush (v := nI 12) dX7_init_123 (rfl : 123 + 2 = 125) (by decide) ?_
  refine q_newaN (n := 60) (c2 := 16) (s2 := 911) (t := .int) (k := 12) dX7_init_125 (rfl : 125 + 2 = 127) rfl (rfl : shA[60]? = some (.inr (.int, 12))) (by decide) a_int (by decide) (by decide) (by decide) (fun _ _ => rfl) (Tx.of (Nat.le_of_ble_eq_true rfl)) rfl rfl (by repeat (first | exact hb0.up (by decide) | refine ZW.wI ?_ (by decide) | refine ZW.wR ?_ (by decide) (by decide) | refine ZW.wJ ?_ (by decide) | refine ZW.forget ?_ (by decide) | refine ZW.addFall ?_ (by decide) | refine ZW.begins ?_ (by decide))) ⟨rfl, rfl⟩ ⟨Nat.le_of_ble_eq_true rfl, Nat.le_of_ble_eq_true rfl⟩ (fun hz => ?_)
  refine q_putR dX7_init_127 (rfl : 127 + 3 = 130) pX7_57 rfl (fun h => rfl) (by first | rfl | assumption) ?_
  refine q_aload_n dX7_init_130 (rfl : 130 + 1 = 131) rfl ?_
  refine q_bipush (v := nI 12) dX7_init_131 (rfl : 131 + 2 = 133) (by decide) ?_
  refine q_newaN (n := 61) (c2 := 17) (s2 := 923) (t := .int) (k := 12) dX7_init_133 (rfl : 133 + 2 = 135) rfl (rfl : shA[61]? = some (.inr (.int, 12))) (by decide) a_int (by decide) (by decide) (by decide) (fun _ _ => rfl) (Tx.of (Nat.le_of_ble_eq_true rfl)) rfl rfl (by repeat (first | exact hb0.up (by decide) | refine ZW.wI ?_ (by decide) | refine ZW.wR ?_ (by decide) (by decide) | refine ZW.wJ ?_ (by decide) | refine ZW.forget ?_ (by decide) | refine ZW.addFall ?_ (by decide) | refine ZW.begins ?_ (by decide))) ⟨rfl, rfl⟩ ⟨Nat.le_of_ble_eq_true rfl, Nat.le_of_ble_eq_true rfl⟩ (fun hz => ?_)
  refine q_putR dX7_init_135 (rfl : 135 + 3 = 138) pX7_60 rfl (fun h => rfl) (by first | rfl | assumption) ?_
  refine q_aload_n dX7_init_138 (rfl : 138 + 1 = 139) rfl ?_
  refine q_sipush (v := nI 225) dX7_init_139 (rfl : 139 + 3 = 142) (by decide) ?_
  refine q_newaN (n := 62) (c2 := 18) (s2 := 1148) (t := .int) (k := 225) dX7_init_142 (rfl : 142 + 2 = 144) rfl (rfl : shA[62]? = some (.inr (.int, 225))) (by decide) a_int (by decide) (by decide) (by decide) (fun _ _ => rfl) (Tx.of (Nat.le_of_ble_eq_true rfl)) rfl rfl (by repeat (first | exact hb0.up (by decide) | refine ZW.wI ?_ (by decide) | refine ZW.wR ?_ (by decide) (by decide) | refine ZW.wJ ?_ (by decide) | refine ZW.forget ?_ (by decide) | refine ZW.addFall ?_ (by decide) | refine ZW.begins ?_ (by decide))) ⟨rfl, rfl⟩ ⟨Nat.le_of_ble_eq_true rfl, Nat.le_of_ble_eq_true rfl⟩ (fun hz => ?_)
  refine q_putR dX7_init_144 (rfl : 144 + 3 = 147) pX7_63 rfl (fun h => rfl) (by first | rfl | assumption) ?_
  refine q_aload_n dX7_init_147 (rfl : 147 + 1 = 148) rfl ?_
  refine q_iconst (v := nI 4) dX7_init_148 (rfl : 148 + 1 = 149) (by decide) ?_
  refine q_newaN (n := 63) (c2 := 19) (s2 := 1152) (t := .int) (k := 4) dX7_init_149 (rfl : 149 + 2 = 151) rfl (rfl : shA[63]? = some (.inr (.int, 4))) (by decide) a_int (by decide) (by decide) (by decide) (fun _ _ => rfl) (Tx.of (Nat.le_of_ble_eq_true rfl)) rfl rfl (by repeat (first | exact hb0.up (by decide) | refine ZW.wI ?_ (by decide) | refine ZW.wR ?_ (by decide) (by decide) | refine ZW.wJ ?_ (by decide) | refine ZW.forget ?_ (by decide) | refine ZW.addFall ?_ (by decide) | refine ZW.begins ?_ (by decide))) ⟨rfl, rfl⟩ ⟨Nat.le_of_ble_eq_true rfl, Nat.le_of_ble_eq_true rfl⟩ (fun hz => ?_)
  refine q_putR dX7_init_151 (rfl : 151 + 3 = 154) pX7_66 rfl (fun h => rfl) (by first | rfl | assumption) ?_
  refine q_aload_n dX7_init_154 (rfl : 154 + 1 = 155) rfl ?_
  rw [take64, eR64]
  refine q_callVV (S_begins (d := 6)) dX7_init_155 (rfl : 155 + 3 = 158) lX7_69 vX7_begins rfl rfl rfl (Nat.le_of_ble_eq_true rfl) TM_room ⟨Nat.le_of_ble_eq_true rfl, Nat.le_of_ble_eq_true rfl⟩ ?_
  intro I1 J1 hp
  obtain ⟨rfl, rfl⟩ := hp
  refine q_aload_n dX7_init_158 (rfl : 158 + 1 = 159) rfl ?_
  refine q_getR dX7_init_159 (rfl : 159 + 3 = 162) fX7_17 (by first | rfl | assumption) (by first | rfl | assumption) ?_
  refine q_iconst (v := nI 1) dX7_init_162 (rfl : 162 + 1 = 163) (by decide) ?_
  refine q_iconst (v := nI 1) dX7_init_163 (rfl : 163 + 1 = 164) (by decide) ?_
  refine q_iast (j := 1) dX7_init_164 (rfl : 164 + 1 = 165) (by first | rfl | assumption) (by decide) (by decide) ?_
  refine q_aload_n dX7_init_165 (rfl : 165 + 1 = 166) rfl ?_
  refine q_getR dX7_init_166 (rfl : 166 + 3 = 169) fX7_20 (by first | rfl | assumption) (by first | rfl | assumption) ?_
  refine q_bipush (v := nI 48) dX7_init_169 (rfl : 169 + 2 = 171) (by decide) ?_
  refine q_iconst (v := nI 0) dX7_init_171 (rfl : 171 + 1 = 172) (by decide) ?_
  refine q_iast (j := 48) dX7_init_172 (rfl : 172 + 1 = 173) (by first | rfl | assumption) (by decide) (by decide) ?_
  refine q_aload_n dX7_init_173 (rfl : 173 + 1 = 174) rfl ?_
  refine q_getR dX7_init_174 (rfl : 174 + 3 = 177) fX7_20 (by first | rfl | assumption) (by first | rfl | assumption) ?_
  refine q_bipush (v := nI 49) dX7_init_177 (rfl : 177 + 2 = 179) (by decide) ?_
  refine q_iconst (v := nI 5) dX7_init_179 (rfl : 179 + 1 = 180) (by decide) ?_
  refine q_iast (j := 49) dX7_init_180 (rfl : 180 + 1 = 181) (by first | rfl | assumption) (by decide) (by decide) ?_
  refine q_aload_n dX7_init_181 (rfl : 181 + 1 = 182) rfl ?_
  refine q_getR dX7_init_182 (rfl : 182 + 3 = 185) fX7_20 (by first | rfl | assumption) (by first | rfl | assumption) ?_
  refine q_bipush (v := nI 50) dX7_init_185 (rfl : 185 + 2 = 187) (by decide) ?_
  refine q_iconst (v := nI 2) dX7_init_187 (rfl : 187 + 1 = 188) (by decide) ?_
  refine q_iast (j := 50) dX7_init_188 (rfl : 188 + 1 = 189) (by first | rfl | assumption) (by decide) (by decide) ?_
  refine q_aload_n dX7_init_189 (rfl : 189 + 1 = 190) rfl ?_
  refine q_getR dX7_init_190 (rfl : 190 + 3 = 193) fX7_20 (by first | rfl | assumption) (by first | rfl | assumption) ?_
  refine q_bipush (v := nI 51) dX7_init_193 (rfl : 193 + 2 = 195) (by decide) ?_
  refine q_iconst (v := nI 1) dX7_init_195 (rfl : 195 + 1 = 196) (by decide) ?_
  refine q_iast (j := 51) dX7_init_196 (rfl : 196 + 1 = 197) (by first | rfl | assumption) (by decide) (by decide) ?_
  refine q_aload_n dX7_init_197 (rfl : 197 + 1 = 198) rfl ?_
  refine q_callVV (S_takes (d := 6)) dX7_init_198 (rfl : 198 + 3 = 201) lX7_72 vX7_takes rfl rfl rfl (Nat.le_of_ble_eq_true rfl) TM_room ⟨Nat.le_of_ble_eq_true rfl, Nat.le_of_ble_eq_true rfl⟩ ?_
  intro I2 J2 hp
  obtain ⟨rfl, rfl⟩ := hp
  refine q_vret rfl dX7_init_201 ⟨take64.symm, rfl, rfl, rfl, rfl, ?_⟩
  unfold coI_conModel
  refine ZW.wJ ?_ (by decide)
  refine ZW.takes ?_ (by decide)
  refine ZW.wI (ZW.wI (ZW.wI (ZW.wI (ZW.wI (ZW.begins ?_ (by decide)) (by decide)) (by decide)) (by decide)) (by decide)) (by decide)
  rw [← eR64]
  exact (by repeat (first | exact hb0.up (by decide) | refine ZW.wR ?_ (by decide) (by decide)))
/-- the world when both are made -/
def I00 : HI := coI_conModel (coI_conSnow (fun _ _ => 0))
def J00 : HJ := wr (fun _ _ => 0) 53 0 0
set_option maxRecDepth 100000 in
theorem rel00 : Rel I00 J00 := by
  refine ⟨1, 0, fun _ => 0, ⟨0, by omega, by decide +kernel, by decide +kernel, fun i hi => by omega⟩, ⟨by omega, by omega, by decide +kernel, by decide +kernel, fun i hi => ?_, fun i j hij hj => by omega, fun i hi => ?_, fun i hi => ?_, fun i hi => ?_, fun y hy => ?_, by decide +kernel, ⟨400, by omega, by omega, by decide +kernel⟩, ⟨60, by omega, by omega, by decide +kernel⟩, ⟨5, by omega, by omega, by decide +kernel⟩, ⟨1, by omega, by decide +kernel⟩, ⟨0, by omega, by decide +kernel⟩⟩, ⟨0, 0, fun _ => 0, fun _ => 0, fun _ => 0, by omega, by omega, by decide +kernel, by decide +kernel, by decide +kernel, by decide +kernel, by decide +kernel, fun i hi => by omega, fun s hs => by omega⟩, ⟨0, by omega, by decide +kernel, by decide +kernel, fun i hi => by omega⟩, by omega, by decide +kernel, by decide +kernel, fun b h1 h2 => by omega⟩
  · obtain rfl : i = 0 := by omega
    exact ⟨by decide +kernel, by decide +kernel, by decide⟩
  · obtain rfl : i = 0 := by omega
    exact ⟨by decide +kernel, 5, by omega, by omega, by decide +kernel⟩
  · obtain rfl : i = 0 := by omega
    exact ⟨by decide +kernel, 2, by omega, by omega, by decide +kernel⟩
  · obtain rfl : i = 0 := by omega
    exact ⟨by decide +kernel, 1, by omega, by decide +kernel⟩
  · have k1 : ∀ y, y < 100 → I00 49 y = nI 10 := by decide +kernel
    have k2 : ∀ y, y < 100 → I00 9 y = nI 10 := by decide +kernel
    rw [k1 y hy, k2 y hy]
    exact ⟨rfl, 10, by omega, rfl⟩
set_option maxRecDepth 100000 in
theorem snow_A : addFallB (coI_conSnow0 (fun _ _ => 0)) 4 0 (nI 0) (nI 5) (nI 2) (nI 1) = true := by decide +kernel
set_option maxRecDepth 100000 in
theorem snow_5 : coI_conSnow0 (fun _ _ => 0) 4 5 = nI 0 := by decide +kernel
