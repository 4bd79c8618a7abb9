/-! the class's own constructor -/
def coI_conSnow0 (I : HI) : HI := coI_conLet (coI_conThaw (coI_conMarks (wr (coI_conBarn28 (coI_conBarn22 (coI_conBarn16 (coI_conTold10 (coI_conTold4 (coI_conText (I))))))) 0 6 (nI 0))))
def coR_conSnow (R : HR) : HR := wr (coR_conLet (wr (coR_conThaw (wr (coR_conMarks (wr (coR_conBarn28 (wr (coR_conBarn22 (wr (coR_conBarn16 (wr (coR_conTold10 (wr (coR_conTold4 (wr (coR_conText (R)) 0 0 (some 1))) 0 1 (some 4))) 0 2 (some 10))) 0 3 (some 16))) 0 4 (some 22))) 0 5 (some 28))) 0 7 (some 34))) 0 8 (some 37))) 0 9 (some 42)
def coI_conSnow (I : HI) : HI := addFallH (coI_conSnow0 I) 4 0 (nI 0) (nI 5) (nI 2) (nI 1)
theorem S_conSnow {I : HI} {J : HJ} {R : HR} (hb0 : ZW 1 I J R) (hA : addFallB (coI_conSnow0 I) 4 0 (nI 0) (nI 5) (nI 2) (nI 1) = true) (h5 : coI_conSnow0 I 4 5 = nI 0) : Mt mX6_init 7 43 1063 true [.ref 0] (shA.take 1) I J R (CoP 44 (coI_conSnow I) J (coR_conSnow R)) := by
  refine Mt.of (L := [some (.ref 0)]) (by decide +kernel) (Nat.le_of_ble_eq_true rfl) rfl ?_
  refine q_aload_n dX6_init_0 (rfl : 0 + 1 = 1) rfl ?_
  refine q_oinit dX6_init_1 (rfl : 1 + 3 = 4) lX6_1 w_obj (Nat.le_of_ble_eq_true rfl) TM_o ?_
  refine q_aload_n dX6_init_4 (rfl : 4 + 1 = 5) rfl ?_
  refine q_newN (n := 1) (ci := 3) (c2 := 1) (s2 := 6) dX6_init_5 (rfl : 5 + 3 = 8) (rfl : shA[1]? = some (.inl 3)) (by decide) (by decide) nX6_7 (Tx.of (Nat.le_of_ble_eq_true rfl)) rfl rfl (by repeat (first | exact hb0.up (by decide) | refine ZW.wI ?_ (by decide) | refine ZW.wR ?_ (by decide) (by decide) | refine ZW.wJ ?_ (by decide) | refine ZW.forget ?_ (by decide) | refine ZW.addFall ?_ (by decide) | refine ZW.begins ?_ (by decide))) ⟨rfl, rfl⟩ ⟨Nat.le_of_ble_eq_true rfl, Nat.le_of_ble_eq_true rfl⟩ (fun hz => ?_)
  refine q_dup dX6_init_8 (rfl : 8 + 1 = 9) rfl ?_
  refine q_initN (n := 2) (n2 := 4) (c2 := 3) (s2 := 410) (S_conText (d := 5) (by repeat (first | exact hb0.up (by decide) | refine ZW.wI ?_ (by decide) | refine ZW.wR ?_ (by decide) (by decide) | refine ZW.wJ ?_ (by decide) | refine ZW.forget ?_ (by decide) | refine ZW.addFall ?_ (by decide) | refine ZW.begins ?_ (by decide)))) dX6_init_9 (rfl : 9 + 3 = 12) (by decide) lX6_9 vX3_init rfl (by decide) TM_room ⟨rfl, rfl⟩ ⟨Nat.le_of_ble_eq_true rfl, Nat.le_of_ble_eq_true rfl⟩ rfl (Tx.of (Nat.le_of_ble_eq_true rfl)) rfl rfl (fun hz => ?_)
  refine q_putR dX6_init_12 (rfl : 12 + 3 = 15) pX6_10 rfl (fun h => rfl) (by first | rfl | assumption) ?_
  refine q_aload_n dX6_init_15 (rfl : 15 + 1 = 16) rfl ?_
  refine q_newN (n := 4) (ci := 5) (c2 := 4) (s2 := 421) dX6_init_16 (rfl : 16 + 3 = 19) (rfl : shA[4]? = some (.inl 5)) (by decide) (by decide) nX6_16 (Tx.of (Nat.le_of_ble_eq_true rfl)) rfl rfl (by repeat (first | exact hb0.up (by decide) | refine ZW.wI ?_ (by decide) | refine ZW.wR ?_ (by decide) (by decide) | refine ZW.wJ ?_ (by decide) | refine ZW.forget ?_ (by decide) | refine ZW.addFall ?_ (by decide) | refine ZW.begins ?_ (by decide))) ⟨rfl, rfl⟩ ⟨Nat.le_of_ble_eq_true rfl, Nat.le_of_ble_eq_true rfl⟩ (fun hz => ?_)
  refine q_dup dX6_init_19 (rfl : 19 + 1 = 20) rfl ?_
  refine q_initN (n := 5) (n2 := 10) (c2 := 9) (s2 := 569) (S_conTold4 (d := 4) (by repeat (first | exact hb0.up (by decide) | refine ZW.wI ?_ (by decide) | refine ZW.wR ?_ (by decide) (by decide) | refine ZW.wJ ?_ (by decide) | refine ZW.forget ?_ (by decide) | refine ZW.addFall ?_ (by decide) | refine ZW.begins ?_ (by decide)))) dX6_init_20 (rfl : 20 + 3 = 23) (by decide) lX6_18 vX5_init rfl (by decide) TM_room ⟨rfl, rfl⟩ ⟨Nat.le_of_ble_eq_true rfl, Nat.le_of_ble_eq_true rfl⟩ rfl (Tx.of (Nat.le_of_ble_eq_true rfl)) rfl rfl (fun hz => ?_)
  refine q_putR dX6_init_23 (rfl : 23 + 3 = 26) pX6_19 rfl (fun h => by cases h) (by first | rfl | assumption) ?_
  refine q_aload_n dX6_init_26 (rfl : 26 + 1 = 27) rfl ?_
  refine q_newN (n := 10) (ci := 5) (c2 := 10) (s2 := 580) dX6_init_27 (rfl : 27 + 3 = 30) (rfl : shA[10]? = some (.inl 5)) (by decide) (by decide) nX6_16 (Tx.of (Nat.le_of_ble_eq_true rfl)) rfl rfl (by repeat (first | exact hb0.up (by decide) | refine ZW.wI ?_ (by decide) | refine ZW.wR ?_ (by decide) (by decide) | refine ZW.wJ ?_ (by decide) | refine ZW.forget ?_ (by decide) | refine ZW.addFall ?_ (by decide) | refine ZW.begins ?_ (by decide))) ⟨rfl, rfl⟩ ⟨Nat.le_of_ble_eq_true rfl, Nat.le_of_ble_eq_true rfl⟩ (fun hz => ?_)
  refine q_dup dX6_init_30 (rfl : 30 + 1 = 31) rfl ?_
  refine q_initN (n := 11) (n2 := 16) (c2 := 15) (s2 := 728) (S_conTold10 (d := 4) (by repeat (first | exact hb0.up (by decide) | refine ZW.wI ?_ (by decide) | refine ZW.wR ?_ (by decide) (by decide) | refine ZW.wJ ?_ (by decide) | refine ZW.forget ?_ (by decide) | refine ZW.addFall ?_ (by decide) | refine ZW.begins ?_ (by decide)))) dX6_init_31 (rfl : 31 + 3 = 34) (by decide) lX6_18 vX5_init rfl (by decide) TM_room ⟨rfl, rfl⟩ ⟨Nat.le_of_ble_eq_true rfl, Nat.le_of_ble_eq_true rfl⟩ rfl (Tx.of (Nat.le_of_ble_eq_true rfl)) rfl rfl (fun hz => ?_)
  refine q_putR dX6_init_34 (rfl : 34 + 3 = 37) pX6_23 rfl (fun h => by cases h) (by first | rfl | assumption) ?_
  refine q_aload_n dX6_init_37 (rfl : 37 + 1 = 38) rfl ?_
  refine q_newN (n := 16) (ci := 0) (c2 := 16) (s2 := 736) dX6_init_38 (rfl : 38 + 3 = 41) (rfl : shA[16]? = some (.inl 0)) (by decide) (by decide) nX6_26 (Tx.of (Nat.le_of_ble_eq_true rfl)) rfl rfl (by repeat (first | exact hb0.up (by decide) | refine ZW.wI ?_ (by decide) | refine ZW.wR ?_ (by decide) (by decide) | refine ZW.wJ ?_ (by decide) | refine ZW.forget ?_ (by decide) | refine ZW.addFall ?_ (by decide) | refine ZW.begins ?_ (by decide))) ⟨rfl, rfl⟩ ⟨Nat.le_of_ble_eq_true rfl, Nat.le_of_ble_eq_true rfl⟩ (fun hz => ?_)
  refine q_dup dX6_init_41 (rfl : 41 + 1 = 42) rfl ?_
  refine q_initN (n := 17) (n2 := 22) (c2 := 21) (s2 := 784) (S_conBarn16 (d := 5) (by repeat (first | exact hb0.up (by decide) | refine ZW.wI ?_ (by decide) | refine ZW.wR ?_ (by decide) (by decide) | refine ZW.wJ ?_ (by decide) | refine ZW.forget ?_ (by decide) | refine ZW.addFall ?_ (by decide) | refine ZW.begins ?_ (by decide)))) dX6_init_42 (rfl : 42 + 3 = 45) (by decide) lX6_28 vX0_init rfl (by decide) TM_room ⟨rfl, rfl⟩ ⟨Nat.le_of_ble_eq_true rfl, Nat.le_of_ble_eq_true rfl⟩ rfl (Tx.of (Nat.le_of_ble_eq_true rfl)) rfl rfl (fun hz => ?_)
  refine q_putR dX6_init_45 (rfl : 45 + 3 = 48) pX6_29 rfl (fun h => rfl) (by first | rfl | assumption) ?_
  refine q_aload_n dX6_init_48 (rfl : 48 + 1 = 49) rfl ?_
  refine q_newN (n := 22) (ci := 0) (c2 := 22) (s2 := 792) dX6_init_49 (rfl : 49 + 3 = 52) (rfl : shA[22]? = some (.inl 0)) (by decide) (by decide) nX6_26 (Tx.of (Nat.le_of_ble_eq_true rfl)) rfl rfl (by repeat (first | exact hb0.up (by decide) | refine ZW.wI ?_ (by decide) | refine ZW.wR ?_ (by decide) (by decide) | refine ZW.wJ ?_ (by decide) | refine ZW.forget ?_ (by decide) | refine ZW.addFall ?_ (by decide) | refine ZW.begins ?_ (by decide))) ⟨rfl, rfl⟩ ⟨Nat.le_of_ble_eq_true rfl, Nat.le_of_ble_eq_true rfl⟩ (fun hz => ?_)
  refine q_dup dX6_init_52 (rfl : 52 + 1 = 53) rfl ?_
  refine q_initN (n := 23) (n2 := 28) (c2 := 27) (s2 := 840) (S_conBarn22 (d := 5) (by repeat (first | exact hb0.up (by decide) | refine ZW.wI ?_ (by decide) | refine ZW.wR ?_ (by decide) (by decide) | refine ZW.wJ ?_ (by decide) | refine ZW.forget ?_ (by decide) | refine ZW.addFall ?_ (by decide) | refine ZW.begins ?_ (by decide)))) dX6_init_53 (rfl : 53 + 3 = 56) (by decide) lX6_28 vX0_init rfl (by decide) TM_room ⟨rfl, rfl⟩ ⟨Nat.le_of_ble_eq_true rfl, Nat.le_of_ble_eq_true rfl⟩ rfl (Tx.of (Nat.le_of_ble_eq_true rfl)) rfl rfl (fun hz => ?_)
  refine q_putR dX6_init_56 (rfl : 56 + 3 = 59) pX6_33 rfl (fun h => rfl) (by first | rfl | assumption) ?_
  refine q_aload_n dX6_init_59 (rfl : 59 + 1 = 60) rfl ?_
  refine q_newN (n := 28) (ci := 0) (c2 := 28) (s2 := 848) dX6_init_60 (rfl : 60 + 3 = 63) (rfl : shA[28]? = some (.inl 0)) (by decide) (by decide) nX6_26 (Tx.of (Nat.le_of_ble_eq_true rfl)) rfl rfl (by repeat (first | exact hb0.up (by decide) | refine ZW.wI ?_ (by decide) | refine ZW.wR ?_ (by decide) (by decide) | refine ZW.wJ ?_ (by decide) | refine ZW.forget ?_ (by decide) | refine ZW.addFall ?_ (by decide) | refine ZW.begins ?_ (by decide))) ⟨rfl, rfl⟩ ⟨Nat.le_of_ble_eq_true rfl, Nat.le_of_ble_eq_true rfl⟩ (fun hz => ?_)
  refine q_dup dX6_init_63 (rfl : 63 + 1 = 64) rfl ?_
  refine q_initN (n := 29) (n2 := 34) (c2 := 33) (s2 := 896) (S_conBarn28 (d := 5) (by repeat (first | exact hb0.up (by decide) | refine ZW.wI ?_ (by decide) | refine ZW.wR ?_ (by decide) (by decide) | refine ZW.wJ ?_ (by decide) | refine ZW.forget ?_ (by decide) | refine ZW.addFall ?_ (by decide) | refine ZW.begins ?_ (by decide)))) dX6_init_64 (rfl : 64 + 3 = 67) (by decide) lX6_28 vX0_init rfl (by decide) TM_room ⟨rfl, rfl⟩ ⟨Nat.le_of_ble_eq_true rfl, Nat.le_of_ble_eq_true rfl⟩ rfl (Tx.of (Nat.le_of_ble_eq_true rfl)) rfl rfl (fun hz => ?_)
  refine q_putR dX6_init_67 (rfl : 67 + 3 = 70) pX6_36 rfl (fun h => rfl) (by first | rfl | assumption) ?_
  refine q_aload_n dX6_init_70 (rfl : 70 + 1 = 71) rfl ?_
  refine q_iconst (v := nI 0) dX6_init_71 (rfl : 71 + 1 = 72) (by decide) ?_
  refine q_putI dX6_init_72 (rfl : 72 + 3 = 75) pX6_39 (by first | rfl | assumption) ?_
  refine q_aload_n dX6_init_75 (rfl : 75 + 1 = 76) rfl ?_
  refine q_newN (n := 34) (ci := 2) (c2 := 34) (s2 := 899) dX6_init_76 (rfl : 76 + 3 = 79) (rfl : shA[34]? = some (.inl 2)) (by decide) (by decide) nX6_43 (Tx.of (Nat.le_of_ble_eq_true rfl)) rfl rfl (by repeat (first | exact hb0.up (by decide) | refine ZW.wI ?_ (by decide) | refine ZW.wR ?_ (by decide) (by decide) | refine ZW.wJ ?_ (by decide) | refine ZW.forget ?_ (by decide) | refine ZW.addFall ?_ (by decide) | refine ZW.begins ?_ (by decide))) ⟨rfl, rfl⟩ ⟨Nat.le_of_ble_eq_true rfl, Nat.le_of_ble_eq_true rfl⟩ (fun hz => ?_)
  refine q_dup dX6_init_79 (rfl : 79 + 1 = 80) rfl ?_
  refine q_initN (n := 35) (n2 := 37) (c2 := 36) (s2 := 928) (S_conMarks (d := 5) (by repeat (first | exact hb0.up (by decide) | refine ZW.wI ?_ (by decide) | refine ZW.wR ?_ (by decide) (by decide) | refine ZW.wJ ?_ (by decide) | refine ZW.forget ?_ (by decide) | refine ZW.addFall ?_ (by decide) | refine ZW.begins ?_ (by decide)))) dX6_init_80 (rfl : 80 + 3 = 83) (by decide) lX6_45 vX2_init rfl (by decide) TM_room ⟨rfl, rfl⟩ ⟨Nat.le_of_ble_eq_true rfl, Nat.le_of_ble_eq_true rfl⟩ rfl (Tx.of (Nat.le_of_ble_eq_true rfl)) rfl rfl (fun hz => ?_)
  refine q_putR dX6_init_83 (rfl : 83 + 3 = 86) pX6_46 rfl (fun h => rfl) (by first | rfl | assumption) ?_
  refine q_aload_n dX6_init_86 (rfl : 86 + 1 = 87) rfl ?_
  refine q_newN (n := 37) (ci := 4) (c2 := 37) (s2 := 932) dX6_init_87 (rfl : 87 + 3 = 90) (rfl : shA[37]? = some (.inl 4)) (by decide) (by decide) nX6_50 (Tx.of (Nat.le_of_ble_eq_true rfl)) rfl rfl (by repeat (first | exact hb0.up (by decide) | refine ZW.wI ?_ (by decide) | refine ZW.wR ?_ (by decide) (by decide) | refine ZW.wJ ?_ (by decide) | refine ZW.forget ?_ (by decide) | refine ZW.addFall ?_ (by decide) | refine ZW.begins ?_ (by decide))) ⟨rfl, rfl⟩ ⟨Nat.le_of_ble_eq_true rfl, Nat.le_of_ble_eq_true rfl⟩ (fun hz => ?_)
  refine q_dup dX6_init_90 (rfl : 90 + 1 = 91) rfl ?_
  refine q_initN (n := 38) (n2 := 42) (c2 := 41) (s2 := 956) (S_conThaw (d := 5) (by repeat (first | exact hb0.up (by decide) | refine ZW.wI ?_ (by decide) | refine ZW.wR ?_ (by decide) (by decide) | refine ZW.wJ ?_ (by decide) | refine ZW.forget ?_ (by decide) | refine ZW.addFall ?_ (by decide) | refine ZW.begins ?_ (by decide)))) dX6_init_91 (rfl : 91 + 3 = 94) (by decide) lX6_52 vX4_init rfl (by decide) TM_room ⟨rfl, rfl⟩ ⟨Nat.le_of_ble_eq_true rfl, Nat.le_of_ble_eq_true rfl⟩ rfl (Tx.of (Nat.le_of_ble_eq_true rfl)) rfl rfl (fun hz => ?_)
  refine q_putR dX6_init_94 (rfl : 94 + 3 = 97) pX6_53 rfl (fun h => rfl) (by first | rfl | assumption) ?_
  refine q_aload_n dX6_init_97 (rfl : 97 + 1 = 98) rfl ?_
  refine q_newN (n := 42) (ci := 1) (c2 := 42) (s2 := 963) dX6_init_98 (rfl : 98 + 3 = 101) (rfl : shA[42]? = some (.inl 1)) (by decide) (by decide) nX6_57 (Tx.of (Nat.le_of_ble_eq_true rfl)) rfl rfl (by repeat (first | exact hb0.up (by decide) | refine ZW.wI ?_ (by decide) | refine ZW.wR ?_ (by decide) (by decide) | refine ZW.wJ ?_ (by decide) | refine ZW.forget ?_ (by decide) | refine ZW.addFall ?_ (by decide) | refine ZW.begins ?_ (by decide))) ⟨rfl, rfl⟩ ⟨Nat.le_of_ble_eq_true rfl, Nat.le_of_ble_eq_true rfl⟩ (fun hz => ?_)
  refine q_dup dX6_init_101 (rfl : 101 + 1 = 102) rfl ?_
  refine q_initN (n := 43) (n2 := 44) (c2 := 43) (s2 := 1063) (S_conLet (d := 5) (by repeat (first | exact hb0.up (by decide) | refine ZW.wI ?_ (by decide) | refine ZW.wR ?_ (by decide) (by decide) | refine ZW.wJ ?_ (by decide) | refine ZW.forget ?_ (by decide) | refine ZW.addFall ?_ (by decide) | refine ZW.begins ?_ (by decide)))) dX6_init_102 (rfl : 102 + 3 = 105) (by decide) lX6_59 vX1_init rfl (by decide) TM_room ⟨rfl, rfl⟩ ⟨Nat.le_of_ble_eq_true rfl, Nat.le_of_ble_eq_true rfl⟩ rfl (Tx.of (Nat.le_of_ble_eq_true rfl)) rfl rfl (fun hz => ?_)
  refine q_putR dX6_init_105 (rfl : 105 + 3 = 108) pX6_60 rfl (fun h => rfl) (by first | rfl | assumption) ?_
  refine q_aload_n dX6_init_108 (rfl : 108 + 1 = 109) rfl ?_
  refine q_getR dX6_init_109 (rfl : 109 + 3 = 112) fX6_19 (by first | rfl | assumption) (by first | rfl | assumption) ?_
  refine q_iconst (v := nI 0) dX6_init_112 (rfl : 112 + 1 = 113) (by decide) ?_
  refine q_iconst (v := nI 5) dX6_init_113 (rfl : 113 + 1 = 114) (by decide) ?_
  refine q_iconst (v := nI 2) dX6_init_114 (rfl : 114 + 1 = 115) (by decide) ?_
  refine q_iconst (v := nI 1) dX6_init_115 (rfl : 115 + 1 = 116) (by decide) ?_
  refine q_callVI (S_addFall (d := 3) (n := 0) (I := coI_conSnow0 I) ⟨rfl, rfl, rfl, rfl, rfl, rfl, rfl, rfl, rfl, rfl, rfl⟩ h5 (by omega)) dX6_init_116 (rfl : 116 + 3 = 119) lX6_64 vX5_addFall rfl rfl rfl (Nat.le_of_ble_eq_true rfl) TM_room ⟨Nat.le_of_ble_eq_true rfl, Nat.le_of_ble_eq_true rfl⟩ ?_
  intro x I1 J1 hp
  rw [hA] at hp
  obtain ⟨-, e1, e2⟩ := hp
  have e1' : I1 = coI_conSnow I := e1
  rw [e1', e2]
  refine q_pop dX6_init_119 (rfl : 119 + 1 = 120) rfl ?_
  refine q_vret rfl dX6_init_120 ⟨rfl, rfl, rfl, rfl, rfl, ?_⟩
  unfold coI_conSnow coI_conSnow0 coR_conSnow
  exact (by repeat (first | exact hb0.up (by decide) | refine ZW.wI ?_ (by decide) | refine ZW.wR ?_ (by decide) (by decide) | refine ZW.wJ ?_ (by decide) | refine ZW.forget ?_ (by decide) | refine ZW.addFall ?_ (by decide)))
