/-! the constructors of the class's parts, walked by program -/
theorem ZW.fill {n p k : Nat} {I : HI} {J : HJ} {R : HR} {v : Int32} (h : ZW n I J R) (hp : p < n) : ZW n (fillH I p k v) J R := ⟨fun a ha => by
  rw [← h.1 a ha]
  funext b
  unfold fillH
  rw [if_neg (by omega)], h.2⟩
theorem ZW.forget {n t : Nat} {I : HI} {J : HJ} {R : HR} (h : ZW n I J R) (hp : t + 5 < n) : ZW n (forgetT I t) J R := by
  unfold forgetT
  exact ZW.fill (((((((h.wI (by omega)).wI (by omega)).wI (by omega)).wI (by omega)).wI (by omega)).wI (by omega))) hp
theorem ZW.addFall {n t k : Nat} {y i d m : Int32} {I : HI} {J : HJ} {R : HR} (h : ZW n I J R) (hp : t + 5 < n) : ZW n (addFallH I t k y i d m) J R := by
  unfold addFallH
  exact ((((h.wI (by omega)).wI (by omega)).wI (by omega)).wI (by omega)).wI (by omega)
theorem ZW.begins {n : Nat} {I : HI} {J : HJ} {R : HR} (h : ZW n I J R) (hp : 63 < n) : ZW n (begH I) J R := ⟨fun a ha => by
  rw [← h.1 a ha]
  funext b
  exact begH_Fr I a b (by unfold drt; omega), h.2⟩
theorem TM_o {d mc ms n0 : Nat} {al : Bool} {Po : PO} : 1 ≤ (TM (d + 1) mc ms al n0 Po).1.frames ∧ 21 ≤ (TM (d + 1) mc ms al n0 Po).1.locals := ⟨Nat.le_add_left 1 d, by show 21 ≤ 31 * (d + 1); omega⟩
theorem nX4_9 : Cond.classLink RX4 9 "[[I" ∈ ALLW ∧ Cond.arrayOver (.array .int) ∈ nestW := ⟨inA 214 (by decide +kernel) rfl, inN 215 (by decide +kernel) rfl⟩
theorem enc_app {ad ad' : Nat → Nat} {cA cA' : Nat → ClassId} {sh ex : List Kd} {I I' : HI} {J J' : HJ} {R R' : HR} (h : ∀ p, p < sh.length → ad' p = ad p ∧ cA' p = cA p ∧ I' p = I p ∧ J' p = J p ∧ R' p = R p) (hR : ∀ p k r, p < sh.length → R p k = some r → r < sh.length) :
    enc ad' cA' (sh ++ ex) I' J' R' = enc ad cA sh I J R ++ ex.mapIdx (fun i kd => (ad' (i + sh.length), en ad' cA' I' J' R' (i + sh.length) kd)) := by
  unfold enc
  rw [List.mapIdx_append]
  congr 1
  apply List.ext_getElem?
  intro q
  rw [List.getElem?_mapIdx, List.getElem?_mapIdx]
  cases hq : sh[q]? with
  | none => rfl
  | some kd =>
    have hlt : q < sh.length := (List.getElem?_eq_some_iff.mp hq).1
    obtain ⟨h1, h2, h3, h4, h5⟩ := h q hlt
    have hm : ∀ k, (R q k).map ad' = (R q k).map ad := fun k => by
      cases hr : R q k with
      | none => rfl
      | some r =>
        have := (h r (hR q k r hlt hr)).1
        simp [this]
    simp only [Option.map_some, h1]
    refine congrArg (fun e => some (ad q, e)) ?_
    cases kd with
    | inl ci => simp only [en, fv, h3, h4, h5, hm]
    | inr tn => simp only [en, acn, h2, h3, h4, h5, hm]
theorem va_D_app {A : Nat → Prop} {w1 w2 : va_W} (h1 : va_D A w1) (h2 : va_D A w2) (h : ∀ (i j : Nat) (p q : Nat × va_E), w1[i]? = some p → w2[j]? = some q → p.1 ≠ q.1) : va_D A (w1 ++ w2) := by
  have key : ∀ (k : Nat) (q : Nat × va_E), (w1 ++ w2)[k]? = some q → w1[k]? = some q ∨ (w1.length ≤ k ∧ w2[k - w1.length]? = some q) := fun k q hk => by
    by_cases hl : k < w1.length
    · rw [List.getElem?_append_left hl] at hk
      exact Or.inl hk
    · rw [List.getElem?_append_right (by omega)] at hk
      exact Or.inr ⟨by omega, hk⟩
  refine ⟨fun i j p q hi hj e => ?_, fun k q hk => ?_⟩
  · rcases key i p hi with hi | ⟨li, hi⟩ <;> rcases key j q hj with hj | ⟨lj, hj⟩
    · exact h1.1 i j p q hi hj e
    · exact absurd e (h _ _ _ _ hi hj)
    · exact absurd e.symm (h _ _ _ _ hj hi)
    · have := h2.1 _ _ p q hi hj e
      omega
  · rcases key k q hk with hk | ⟨-, hk⟩
    · exact h1.2 k q hk
    · exact h2.2 _ q hk
/-- three rows of seven, in a row of rows -/
theorem q_multiN {m : MD} {T : Tg} {cells slots : Nat} {pc idx q c2 s2 : Nat} {L : LO} {st : List Value} {I : HI} {J : HJ} {R : HR} (hd : decode m.2.1 pc = .ok (.multianewarray idx 2, 4)) (hq : pc + 4 = q) (hm : m.1.cls = RX4 ∧ idx = 9) (hx : Tx T 38) (hL : scLb 38 L = true) (hst : scSb 38 st = true) (hz : ZW 38 I J R) (hcs : cells + 4 = c2 ∧ slots + 24 = s2) (hT : c2 ≤ T.1.cells ∧ s2 ≤ T.1.slots)
    (K : ZW 42 I J (wr (wr (wr R 38 0 (some 39)) 38 1 (some 40)) 38 2 (some 41)) → Wm m T c2 s2 (shA.take 42) q L (.ref 38 :: st) I J (wr (wr (wr R 38 0 (some 39)) 38 1 (some 40)) 38 2 (some 41))) : Wm m T cells slots (shA.take 38) pc L (.int (nI 7) :: .int (nI 3) :: st) I J R := by
  obtain ⟨hm, rfl⟩ := hm
  obtain ⟨rfl, rfl⟩ := hcs
  subst hq
  have hl : (shA.take 38).length = 38 := take_len (by omega)
  have hz2 : ZW 42 I J (wr (wr (wr R 38 0 (some 39)) 38 1 (some 40)) 38 2 (some 41)) := (((hz.up (show 38 ≤ 42 by omega)).wR (by omega) (by omega)).wR (by omega) (by omega)).wR (by omega) (by omega)
  have K := K hz2
  intro p l e s mid args below meth c D A ad0 cA0 ad cA H locs ls S
  obtain ⟨C, hA, hTT, hK, hP, hD, hS, hlo⟩ := S
  refine W_multi (own := RX4) (N := 3) (K := 7) C.1 C.2.1 (by rw [← hm]; exact C.2.2.2.2.1) (C.2.2.2.2.2.1 _ nX4_9.1) (over_moved (Vm.Alike.refl _) (C.2.2.2.2.2.2.2.2 _ nX4_9.2)) (C.2.2.2.2.2.1 _ a_int) (by decide) (by decide) (by decide) (by decide) (by decide) (by decide) hd (by have := hT.1; omega) (by have := hT.2; omega) (fun H' cO cI e1 e2 z1 o1 k1 k2 k3 k4 => ?_)
  have hsz := hS.1
  let ad' : Nat → Nat := fun p => if 38 ≤ p ∧ p < 42 then H.size + (p - 38) else ad p
  let cA' : Nat → ClassId := fun p => if p = 38 then cO else if 38 < p ∧ p < 42 then cI else cA p
  have hg : ∀ p, (p < 38 ∨ SCR ≤ p) → ad' p = ad p ∧ cA' p = cA p := fun p hp => by
    have h1 : ¬ (38 ≤ p ∧ p < 42) := by unfold SCR at hp; omega
    exact ⟨if_neg h1, by show (if p = 38 then cO else if 38 < p ∧ p < 42 then cI else cA p) = cA p; rw [if_neg (by omega), if_neg (by omega)]⟩
  let R' : HR := wr (wr (wr R 38 0 (some 39)) 38 1 (some 40)) 38 2 (some 41)
  have eA : enc ad' cA' (shA.take 42) I J R' = enc ad cA (shA.take 38) I J R ++ [(H.size, .inl (cO, acn ad' I J R' 38 3 (.array .int))), (H.size + 1, .inl (cI, acn ad' I J R' 39 7 .int)), (H.size + 2, .inl (cI, acn ad' I J R' 40 7 .int)), (H.size + 3, .inl (cI, acn ad' I J R' 41 7 .int))] := by
    have := enc_app (ad := ad) (ad' := ad') (cA := cA) (cA' := cA') (sh := shA.take 38) (ex := [.inr (.array .int, 3), .inr (.int, 7), .inr (.int, 7), .inr (.int, 7)]) (I := I) (I' := I) (J := J) (J' := J) (R := R) (R' := R') (fun p hp => by
      rw [hl] at hp
      obtain ⟨g1, g2⟩ := hg p (Or.inl hp)
      refine ⟨g1, g2, rfl, rfl, ?_⟩
      show wr (wr (wr R 38 0 (some 39)) 38 1 (some 40)) 38 2 (some 41) p = R p
      rw [wr_ne (by omega), wr_ne (by omega), wr_ne (by omega)]) (fun p k r _ hr => by rw [hl]; exact hz.2.2.2 p k r hr)
    rw [hl] at this
    exact this
  have hP1 : va_P D vwCl (enc ad' cA' (shA.take 42) I J R') H' := by
    rw [eA]
    refine (hP.kept (fun k x hx => o1 x.1 ((hP k x hx).lt))).app (fun k x hx => ?_)
    have i39 : I 39 = fun _ => 0 := hz.1 39 (by omega)
    have i40 : I 40 = fun _ => 0 := hz.1 40 (by omega)
    have i41 : I 41 = fun _ => 0 := hz.1 41 (by omega)
    match k, hx with
    | 0, hx =>
      cases hx
      show H'[H.size]? = some (vp_cell cO (3, .inr (.inr (.inr (.inr (fun j => (R' 38 j).map ad'))))))
      rw [e1, vp_cell_q]
      refine congrArg some (arrV_cg (fun j hj => ?_))
      rcases (show j = 0 ∨ j = 1 ∨ j = 2 by omega) with rfl | rfl | rfl <;> rfl
    | 1, hx =>
      cases hx
      show H'[H.size + 1]? = some (vp_cell cI (7, .inl (I 39)))
      rw [i39, vp_cell_i]
      exact e2 0 (by omega)
    | 2, hx =>
      cases hx
      show H'[H.size + 2]? = some (vp_cell cI (7, .inl (I 40)))
      rw [i40, vp_cell_i]
      exact e2 1 (by omega)
    | 3, hx =>
      cases hx
      show H'[H.size + 3]? = some (vp_cell cI (7, .inl (I 41)))
      rw [i41, vp_cell_i]
      exact e2 2 (by omega)
    | k + 4, hx => cases hx
  have hD1 : va_D A (enc ad' cA' (shA.take 42) I J R') := by
    rw [eA]
    have at4 : ∀ (j : Nat) (q : Nat × va_E), [((H.size, .inl (cO, acn ad' I J R' 38 3 (.array .int))) : Nat × va_E), (H.size + 1, .inl (cI, acn ad' I J R' 39 7 .int)), (H.size + 2, .inl (cI, acn ad' I J R' 40 7 .int)), (H.size + 3, .inl (cI, acn ad' I J R' 41 7 .int))][j]? = some q → q.1 = H.size + j := fun j q hj => by
      match j, hj with
      | 0, hj => cases hj; rfl
      | 1, hj => cases hj; rfl
      | 2, hj => cases hj; rfl
      | 3, hj => cases hj; rfl
      | j + 4, hj => cases hj
    refine va_D_app hD ⟨fun i j p q hi hj e => ?_, fun k q hk => ?_⟩ (fun i j p q hi hj e => ?_)
    · have h1 := at4 i p hi
      have h2 := at4 j q hj
      omega
    · refine hA _ ?_
      have h1 := at4 k q hk
      show s.heap.size ≤ q.1
      omega
    · have h1 := at4 j q hj
      have h2 : p.1 < H.size := (hP i p hi).lt
      omega
  have hK1 : KK D cA' (shA.take 42) s := by
    refine ⟨hK.1, fun p t n hp => ?_⟩
    by_cases h38 : p < 38
    · rw [(hg p (Or.inl h38)).2]
      refine hK.2 p t n ?_
      rw [List.getElem?_take, if_pos h38]
      rw [List.getElem?_take, if_pos (by omega)] at hp
      exact hp
    · have h42 : p < 42 := by
        rcases Nat.lt_or_ge p 42 with z | z
        · exact z
        · rw [List.getElem?_take, if_neg (by omega)] at hp
          cases hp
      have nil2 : ∀ {cc : ClassId} {tt : FieldType}, ArrOfT s cc tt → va_RA s cc tt → va_K D vwCl [(cc, tt)] s := fun a1 a2 => ⟨hK.1.1, fun k x hx => by
        match k, hx with
        | 0, hx => cases hx; exact ⟨a1, a2⟩
        | k + 1, hx => cases hx⟩
      rcases (show p = 38 ∨ p = 39 ∨ p = 40 ∨ p = 41 by omega) with rfl | rfl | rfl | rfl
      · cases hp
        exact nil2 k1 k2
      · cases hp
        exact nil2 k3 k4
      · cases hp
        exact nil2 k3 k4
      · cases hp
        exact nil2 k3 k4
  have hS1 : va_S A s.heap H' locs := ⟨by omega, fun x h1 h2 => (o1 x (Nat.lt_of_lt_of_le h1 hS.1)).trans (hS.2.1 x h1 h2), hS.2.2⟩
  have := K p l e s mid args below meth c D A ad0 cA0 ad' cA' H' locs ls ⟨C, hA, hx _ _ _ _ _ _ _ _ _ hTT hg, hK1, hP1, hD1, hS1, lo_ag (fun p h => (hg p h).1) (scL_b hL) hlo⟩
  rw [List.map_cons, map_ag (fun p h => (hg p h).1) (scS_b hst)] at this
  have e3 : tr ad' (.ref 38) = .ref H.size := rfl
  rw [e3] at this
  exact this
def coI_conText (I : HI) : HI := wr (wr (wr (wr (I) 1 1 (nI 0)) 1 3 (nI 0)) 1 4 (nI 0)) 1 5 (nI 0)
def coR_conText (R : HR) : HR := wr (wr (R) 1 0 (some 2)) 1 2 (some 3)
theorem S_conText {d : Nat} {I : HI} {J : HJ} {R : HR} (hb0 : ZW 2 I J R) : Mt mX3_init (d + 1) 2 404 true [.ref 1] (shA.take 2) I J R (CoP 4 (coI_conText I) J (coR_conText R)) := by
  refine Mt.of (L := [some (.ref 1)]) (by decide +kernel) (Nat.le_of_ble_eq_true rfl) rfl ?_
  refine q_aload_n dX3_init_0 (rfl : 0 + 1 = 1) rfl ?_
  refine q_oinit dX3_init_1 (rfl : 1 + 3 = 4) lX3_3 w_obj (Nat.le_of_ble_eq_true rfl) TM_o ?_
  refine q_aload_n dX3_init_4 (rfl : 4 + 1 = 5) rfl ?_
  refine q_sipush (v := nI 400) dX3_init_5 (rfl : 5 + 3 = 8) (by decide) ?_
  refine q_newaN (n := 2) (c2 := 1) (s2 := 400) (t := .byte) (k := 400) dX3_init_8 (rfl : 8 + 2 = 10) rfl (rfl : shA[2]? = some (.inr (.byte, 400))) (by decide) a_byte (by decide) (by decide) (by decide) (fun _ _ => rfl) (Tx.of (Nat.le_of_ble_eq_true rfl)) rfl rfl (by repeat (first | exact hb0.up (by decide) | refine ZW.wI ?_ (by decide) | refine ZW.wR ?_ (by decide) (by decide) | refine ZW.wJ ?_ (by decide) | refine ZW.forget ?_ (by decide) | refine ZW.addFall ?_ (by decide) | refine ZW.begins ?_ (by decide))) ⟨rfl, rfl⟩ ⟨Nat.le_of_ble_eq_true rfl, Nat.le_of_ble_eq_true rfl⟩ (fun hz => ?_)
  refine q_putR dX3_init_10 (rfl : 10 + 3 = 13) pX3_9 rfl (fun h => rfl) (by first | rfl | assumption) ?_
  refine q_aload_n dX3_init_13 (rfl : 13 + 1 = 14) rfl ?_
  refine q_iconst (v := nI 0) dX3_init_14 (rfl : 14 + 1 = 15) (by decide) ?_
  refine q_putI dX3_init_15 (rfl : 15 + 3 = 18) pX3_15 (by first | rfl | assumption) ?_
  refine q_aload_n dX3_init_18 (rfl : 18 + 1 = 19) rfl ?_
  refine q_iconst (v := nI 4) dX3_init_19 (rfl : 19 + 1 = 20) (by decide) ?_
  refine q_newaN (n := 3) (c2 := 2) (s2 := 404) (t := .int) (k := 4) dX3_init_20 (rfl : 20 + 2 = 22) rfl (rfl : shA[3]? = some (.inr (.int, 4))) (by decide) a_int (by decide) (by decide) (by decide) (fun _ _ => rfl) (Tx.of (Nat.le_of_ble_eq_true rfl)) rfl rfl (by repeat (first | exact hb0.up (by decide) | refine ZW.wI ?_ (by decide) | refine ZW.wR ?_ (by decide) (by decide) | refine ZW.wJ ?_ (by decide) | refine ZW.forget ?_ (by decide) | refine ZW.addFall ?_ (by decide) | refine ZW.begins ?_ (by decide))) ⟨rfl, rfl⟩ ⟨Nat.le_of_ble_eq_true rfl, Nat.le_of_ble_eq_true rfl⟩ (fun hz => ?_)
  refine q_putR dX3_init_22 (rfl : 22 + 3 = 25) pX3_19 rfl (fun h => rfl) (by first | rfl | assumption) ?_
  refine q_aload_n dX3_init_25 (rfl : 25 + 1 = 26) rfl ?_
  refine q_iconst (v := nI 0) dX3_init_26 (rfl : 26 + 1 = 27) (by decide) ?_
  refine q_putI dX3_init_27 (rfl : 27 + 3 = 30) pX3_23 (by first | rfl | assumption) ?_
  refine q_aload_n dX3_init_30 (rfl : 30 + 1 = 31) rfl ?_
  refine q_iconst (v := nI 0) dX3_init_31 (rfl : 31 + 1 = 32) (by decide) ?_
  refine q_putI dX3_init_32 (rfl : 32 + 3 = 35) pX3_26 (by first | rfl | assumption) ?_
  refine q_aload_n dX3_init_35 (rfl : 35 + 1 = 36) rfl ?_
  refine q_iconst (v := nI 0) dX3_init_36 (rfl : 36 + 1 = 37) (by decide) ?_
  refine q_putI dX3_init_37 (rfl : 37 + 3 = 40) pX3_29 (by first | rfl | assumption) ?_
  refine q_vret rfl dX3_init_40 ⟨rfl, rfl, rfl, rfl, rfl, ?_⟩
  unfold coI_conText coR_conText
  exact (by repeat (first | exact hb0.up (by decide) | refine ZW.wI ?_ (by decide) | refine ZW.wR ?_ (by decide) (by decide) | refine ZW.wJ ?_ (by decide) | refine ZW.forget ?_ (by decide) | refine ZW.addFall ?_ (by decide) | refine ZW.begins ?_ (by decide)))
def coI_conTold4 (I : HI) : HI := forgetT (I) 4
def coR_conTold4 (R : HR) : HR := wr (wr (wr (wr (wr (R) 4 6 (some 5)) 4 7 (some 6)) 4 8 (some 7)) 4 9 (some 8)) 4 10 (some 9)
theorem S_conTold4 {d : Nat} {I : HI} {J : HJ} {R : HR} (hb0 : ZW 5 I J R) : Mt mX5_init (d + 2) 5 148 true [.ref 4] (shA.take 5) I J R (CoP 10 (coI_conTold4 I) J (coR_conTold4 R)) := by
  refine Mt.of (L := [some (.ref 4)]) (by decide +kernel) (Nat.le_of_ble_eq_true rfl) rfl ?_
  refine q_aload_n dX5_init_0 (rfl : 0 + 1 = 1) rfl ?_
  refine q_oinit dX5_init_1 (rfl : 1 + 3 = 4) lX5_3 w_obj (Nat.le_of_ble_eq_true rfl) TM_o ?_
  refine q_aload_n dX5_init_4 (rfl : 4 + 1 = 5) rfl ?_
  refine q_bipush (v := nI 12) dX5_init_5 (rfl : 5 + 2 = 7) (by decide) ?_
  refine q_newaN (n := 5) (c2 := 1) (s2 := 12) (t := .int) (k := 12) dX5_init_7 (rfl : 7 + 2 = 9) rfl (rfl : shA[5]? = some (.inr (.int, 12))) (by decide) a_int (by decide) (by decide) (by decide) (fun _ _ => rfl) (Tx.of (Nat.le_of_ble_eq_true rfl)) rfl rfl (by repeat (first | exact hb0.up (by decide) | refine ZW.wI ?_ (by decide) | refine ZW.wR ?_ (by decide) (by decide) | refine ZW.wJ ?_ (by decide) | refine ZW.forget ?_ (by decide) | refine ZW.addFall ?_ (by decide) | refine ZW.begins ?_ (by decide))) ⟨rfl, rfl⟩ ⟨Nat.le_of_ble_eq_true rfl, Nat.le_of_ble_eq_true rfl⟩ (fun hz => ?_)
  refine q_putR dX5_init_9 (rfl : 9 + 3 = 12) pX5_9 rfl (fun h => rfl) (by first | rfl | assumption) ?_
  refine q_aload_n dX5_init_12 (rfl : 12 + 1 = 13) rfl ?_
  refine q_bipush (v := nI 12) dX5_init_13 (rfl : 13 + 2 = 15) (by decide) ?_
  refine q_newaN (n := 6) (c2 := 2) (s2 := 24) (t := .int) (k := 12) dX5_init_15 (rfl : 15 + 2 = 17) rfl (rfl : shA[6]? = some (.inr (.int, 12))) (by decide) a_int (by decide) (by decide) (by decide) (fun _ _ => rfl) (Tx.of (Nat.le_of_ble_eq_true rfl)) rfl rfl (by repeat (first | exact hb0.up (by decide) | refine ZW.wI ?_ (by decide) | refine ZW.wR ?_ (by decide) (by decide) | refine ZW.wJ ?_ (by decide) | refine ZW.forget ?_ (by decide) | refine ZW.addFall ?_ (by decide) | refine ZW.begins ?_ (by decide))) ⟨rfl, rfl⟩ ⟨Nat.le_of_ble_eq_true rfl, Nat.le_of_ble_eq_true rfl⟩ (fun hz => ?_)
  refine q_putR dX5_init_17 (rfl : 17 + 3 = 20) pX5_15 rfl (fun h => rfl) (by first | rfl | assumption) ?_
  refine q_aload_n dX5_init_20 (rfl : 20 + 1 = 21) rfl ?_
  refine q_bipush (v := nI 12) dX5_init_21 (rfl : 21 + 2 = 23) (by decide) ?_
  refine q_newaN (n := 7) (c2 := 3) (s2 := 36) (t := .int) (k := 12) dX5_init_23 (rfl : 23 + 2 = 25) rfl (rfl : shA[7]? = some (.inr (.int, 12))) (by decide) a_int (by decide) (by decide) (by decide) (fun _ _ => rfl) (Tx.of (Nat.le_of_ble_eq_true rfl)) rfl rfl (by repeat (first | exact hb0.up (by decide) | refine ZW.wI ?_ (by decide) | refine ZW.wR ?_ (by decide) (by decide) | refine ZW.wJ ?_ (by decide) | refine ZW.forget ?_ (by decide) | refine ZW.addFall ?_ (by decide) | refine ZW.begins ?_ (by decide))) ⟨rfl, rfl⟩ ⟨Nat.le_of_ble_eq_true rfl, Nat.le_of_ble_eq_true rfl⟩ (fun hz => ?_)
  refine q_putR dX5_init_25 (rfl : 25 + 3 = 28) pX5_18 rfl (fun h => rfl) (by first | rfl | assumption) ?_
  refine q_aload_n dX5_init_28 (rfl : 28 + 1 = 29) rfl ?_
  refine q_bipush (v := nI 12) dX5_init_29 (rfl : 29 + 2 = 31) (by decide) ?_
  refine q_newaN (n := 8) (c2 := 4) (s2 := 48) (t := .int) (k := 12) dX5_init_31 (rfl : 31 + 2 = 33) rfl (rfl : shA[8]? = some (.inr (.int, 12))) (by decide) a_int (by decide) (by decide) (by decide) (fun _ _ => rfl) (Tx.of (Nat.le_of_ble_eq_true rfl)) rfl rfl (by repeat (first | exact hb0.up (by decide) | refine ZW.wI ?_ (by decide) | refine ZW.wR ?_ (by decide) (by decide) | refine ZW.wJ ?_ (by decide) | refine ZW.forget ?_ (by decide) | refine ZW.addFall ?_ (by decide) | refine ZW.begins ?_ (by decide))) ⟨rfl, rfl⟩ ⟨Nat.le_of_ble_eq_true rfl, Nat.le_of_ble_eq_true rfl⟩ (fun hz => ?_)
  refine q_putR dX5_init_33 (rfl : 33 + 3 = 36) pX5_21 rfl (fun h => rfl) (by first | rfl | assumption) ?_
  refine q_aload_n dX5_init_36 (rfl : 36 + 1 = 37) rfl ?_
  refine q_bipush (v := nI 100) dX5_init_37 (rfl : 37 + 2 = 39) (by decide) ?_
  refine q_newaN (n := 9) (c2 := 5) (s2 := 148) (t := .int) (k := 100) dX5_init_39 (rfl : 39 + 2 = 41) rfl (rfl : shA[9]? = some (.inr (.int, 100))) (by decide) a_int (by decide) (by decide) (by decide) (fun _ _ => rfl) (Tx.of (Nat.le_of_ble_eq_true rfl)) rfl rfl (by repeat (first | exact hb0.up (by decide) | refine ZW.wI ?_ (by decide) | refine ZW.wR ?_ (by decide) (by decide) | refine ZW.wJ ?_ (by decide) | refine ZW.forget ?_ (by decide) | refine ZW.addFall ?_ (by decide) | refine ZW.begins ?_ (by decide))) ⟨rfl, rfl⟩ ⟨Nat.le_of_ble_eq_true rfl, Nat.le_of_ble_eq_true rfl⟩ (fun hz => ?_)
  refine q_putR dX5_init_41 (rfl : 41 + 3 = 44) pX5_24 rfl (fun h => rfl) (by first | rfl | assumption) ?_
  refine q_aload_n dX5_init_44 (rfl : 44 + 1 = 45) rfl ?_
  refine q_callVV (S_forget (d := d) ⟨rfl, rfl, rfl, rfl, rfl, rfl, rfl, rfl, rfl, rfl, rfl⟩) dX5_init_45 (rfl : 45 + 3 = 48) lX5_27 vX5_forget rfl rfl rfl (Nat.le_of_ble_eq_true rfl) TM_room ⟨Nat.le_of_ble_eq_true rfl, Nat.le_of_ble_eq_true rfl⟩ ?_
  intro I1 J1 hp
  obtain ⟨rfl, rfl⟩ := hp
  refine q_vret rfl dX5_init_48 ⟨rfl, rfl, rfl, rfl, rfl, ?_⟩
  unfold coI_conTold4 coR_conTold4
  exact (by repeat (first | exact hb0.up (by decide) | refine ZW.wI ?_ (by decide) | refine ZW.wR ?_ (by decide) (by decide) | refine ZW.wJ ?_ (by decide) | refine ZW.forget ?_ (by decide) | refine ZW.addFall ?_ (by decide) | refine ZW.begins ?_ (by decide)))
def coI_conTold10 (I : HI) : HI := forgetT (I) 10
def coR_conTold10 (R : HR) : HR := wr (wr (wr (wr (wr (R) 10 6 (some 11)) 10 7 (some 12)) 10 8 (some 13)) 10 9 (some 14)) 10 10 (some 15)
theorem S_conTold10 {d : Nat} {I : HI} {J : HJ} {R : HR} (hb0 : ZW 11 I J R) : Mt mX5_init (d + 2) 5 148 true [.ref 10] (shA.take 11) I J R (CoP 16 (coI_conTold10 I) J (coR_conTold10 R)) := by
  refine Mt.of (L := [some (.ref 10)]) (by decide +kernel) (Nat.le_of_ble_eq_true rfl) rfl ?_
  refine q_aload_n dX5_init_0 (rfl : 0 + 1 = 1) rfl ?_
  refine q_oinit dX5_init_1 (rfl : 1 + 3 = 4) lX5_3 w_obj (Nat.le_of_ble_eq_true rfl) TM_o ?_
  refine q_aload_n dX5_init_4 (rfl : 4 + 1 = 5) rfl ?_
  refine q_bipush (v := nI 12) dX5_init_5 (rfl : 5 + 2 = 7) (by decide) ?_
  refine q_newaN (n := 11) (c2 := 1) (s2 := 12) (t := .int) (k := 12) dX5_init_7 (rfl : 7 + 2 = 9) rfl (rfl : shA[11]? = some (.inr (.int, 12))) (by decide) a_int (by decide) (by decide) (by decide) (fun _ _ => rfl) (Tx.of (Nat.le_of_ble_eq_true rfl)) rfl rfl (by repeat (first | exact hb0.up (by decide) | refine ZW.wI ?_ (by decide) | refine ZW.wR ?_ (by decide) (by decide) | refine ZW.wJ ?_ (by decide) | refine ZW.forget ?_ (by decide) | refine ZW.addFall ?_ (by decide) | refine ZW.begins ?_ (by decide))) ⟨rfl, rfl⟩ ⟨Nat.le_of_ble_eq_true rfl, Nat.le_of_ble_eq_true rfl⟩ (fun hz => ?_)
  refine q_putR dX5_init_9 (rfl : 9 + 3 = 12) pX5_9 rfl (fun h => rfl) (by first | rfl | assumption) ?_
  refine q_aload_n dX5_init_12 (rfl : 12 + 1 = 13) rfl ?_
  refine q_bipush (v := nI 12) dX5_init_13 (rfl : 13 + 2 = 15) (by decide) ?_
  refine q_newaN (n := 12) (c2 := 2) (s2 := 24) (t := .int) (k := 12) dX5_init_15 (rfl : 15 + 2 = 17) rfl (rfl : shA[12]? = some (.inr (.int, 12))) (by decide) a_int (by decide) (by decide) (by decide) (fun _ _ => rfl) (Tx.of (Nat.le_of_ble_eq_true rfl)) rfl rfl (by repeat (first | exact hb0.up (by decide) | refine ZW.wI ?_ (by decide) | refine ZW.wR ?_ (by decide) (by decide) | refine ZW.wJ ?_ (by decide) | refine ZW.forget ?_ (by decide) | refine ZW.addFall ?_ (by decide) | refine ZW.begins ?_ (by decide))) ⟨rfl, rfl⟩ ⟨Nat.le_of_ble_eq_true rfl, Nat.le_of_ble_eq_true rfl⟩ (fun hz => ?_)
  refine q_putR dX5_init_17 (rfl : 17 + 3 = 20) pX5_15 rfl (fun h => rfl) (by first | rfl | assumption) ?_
  refine q_aload_n dX5_init_20 (rfl : 20 + 1 = 21) rfl ?_
  refine q_bipush (v := nI 12) dX5_init_21 (rfl : 21 + 2 = 23) (by decide) ?_
  refine q_newaN (n := 13) (c2 := 3) (s2 := 36) (t := .int) (k := 12) dX5_init_23 (rfl : 23 + 2 = 25) rfl (rfl : shA[13]? = some (.inr (.int, 12))) (by decide) a_int (by decide) (by decide) (by decide) (fun _ _ => rfl) (Tx.of (Nat.le_of_ble_eq_true rfl)) rfl rfl (by repeat (first | exact hb0.up (by decide) | refine ZW.wI ?_ (by decide) | refine ZW.wR ?_ (by decide) (by decide) | refine ZW.wJ ?_ (by decide) | refine ZW.forget ?_ (by decide) | refine ZW.addFall ?_ (by decide) | refine ZW.begins ?_ (by decide))) ⟨rfl, rfl⟩ ⟨Nat.le_of_ble_eq_true rfl, Nat.le_of_ble_eq_true rfl⟩ (fun hz => ?_)
  refine q_putR dX5_init_25 (rfl : 25 + 3 = 28) pX5_18 rfl (fun h => rfl) (by first | rfl | assumption) ?_
  refine q_aload_n dX5_init_28 (rfl : 28 + 1 = 29) rfl ?_
  refine q_bipush (v := nI 12) dX5_init_29 (rfl : 29 + 2 = 31) (by decide) ?_
  refine q_newaN (n := 14) (c2 := 4) (s2 := 48) (t := .int) (k := 12) dX5_init_31 (rfl : 31 + 2 = 33) rfl (rfl : shA[14]? = some (.inr (.int, 12))) (by decide) a_int (by decide) (by decide) (by decide) (fun _ _ => rfl) (Tx.of (Nat.le_of_ble_eq_true rfl)) rfl rfl (by repeat (first | exact hb0.up (by decide) | refine ZW.wI ?_ (by decide) | refine ZW.wR ?_ (by decide) (by decide) | refine ZW.wJ ?_ (by decide) | refine ZW.forget ?_ (by decide) | refine ZW.addFall ?_ (by decide) | refine ZW.begins ?_ (by decide))) ⟨rfl, rfl⟩ ⟨Nat.le_of_ble_eq_true rfl, Nat.le_of_ble_eq_true rfl⟩ (fun hz => ?_)
  refine q_putR dX5_init_33 (rfl : 33 + 3 = 36) pX5_21 rfl (fun h => rfl) (by first | rfl | assumption) ?_
  refine q_aload_n dX5_init_36 (rfl : 36 + 1 = 37) rfl ?_
  refine q_bipush (v := nI 100) dX5_init_37 (rfl : 37 + 2 = 39) (by decide) ?_
  refine q_newaN (n := 15) (c2 := 5) (s2 := 148) (t := .int) (k := 100) dX5_init_39 (rfl : 39 + 2 = 41) rfl (rfl : shA[15]? = some (.inr (.int, 100))) (by decide) a_int (by decide) (by decide) (by decide) (fun _ _ => rfl) (Tx.of (Nat.le_of_ble_eq_true rfl)) rfl rfl (by repeat (first | exact hb0.up (by decide) | refine ZW.wI ?_ (by decide) | refine ZW.wR ?_ (by decide) (by decide) | refine ZW.wJ ?_ (by decide) | refine ZW.forget ?_ (by decide) | refine ZW.addFall ?_ (by decide) | refine ZW.begins ?_ (by decide))) ⟨rfl, rfl⟩ ⟨Nat.le_of_ble_eq_true rfl, Nat.le_of_ble_eq_true rfl⟩ (fun hz => ?_)
  refine q_putR dX5_init_41 (rfl : 41 + 3 = 44) pX5_24 rfl (fun h => rfl) (by first | rfl | assumption) ?_
  refine q_aload_n dX5_init_44 (rfl : 44 + 1 = 45) rfl ?_
  refine q_callVV (S_forget (d := d) ⟨rfl, rfl, rfl, rfl, rfl, rfl, rfl, rfl, rfl, rfl, rfl⟩) dX5_init_45 (rfl : 45 + 3 = 48) lX5_27 vX5_forget rfl rfl rfl (Nat.le_of_ble_eq_true rfl) TM_room ⟨Nat.le_of_ble_eq_true rfl, Nat.le_of_ble_eq_true rfl⟩ ?_
  intro I1 J1 hp
  obtain ⟨rfl, rfl⟩ := hp
  refine q_vret rfl dX5_init_48 ⟨rfl, rfl, rfl, rfl, rfl, ?_⟩
  unfold coI_conTold10 coR_conTold10
  exact (by repeat (first | exact hb0.up (by decide) | refine ZW.wI ?_ (by decide) | refine ZW.wR ?_ (by decide) (by decide) | refine ZW.wJ ?_ (by decide) | refine ZW.forget ?_ (by decide) | refine ZW.addFall ?_ (by decide) | refine ZW.begins ?_ (by decide)))
def coI_conBarn16 (I : HI) : HI := wr (wr (wr (I) 16 0 (nI 0)) 16 3 (nI 0)) 16 4 (nI 0)
def coR_conBarn16 (R : HR) : HR := wr (wr (wr (wr (wr (R) 16 1 (some 17)) 16 2 (some 18)) 16 5 (some 19)) 16 6 (some 20)) 16 7 (some 21)
theorem S_conBarn16 {d : Nat} {I : HI} {J : HJ} {R : HR} (hb0 : ZW 17 I J R) : Mt mX0_init (d + 1) 5 48 true [.ref 16] (shA.take 17) I J R (CoP 22 (coI_conBarn16 I) J (coR_conBarn16 R)) := by
  refine Mt.of (L := [some (.ref 16)]) (by decide +kernel) (Nat.le_of_ble_eq_true rfl) rfl ?_
  refine q_aload_n dX0_init_0 (rfl : 0 + 1 = 1) rfl ?_
  refine q_oinit dX0_init_1 (rfl : 1 + 3 = 4) lX0_3 w_obj (Nat.le_of_ble_eq_true rfl) TM_o ?_
  refine q_aload_n dX0_init_4 (rfl : 4 + 1 = 5) rfl ?_
  refine q_iconst (v := nI 0) dX0_init_5 (rfl : 5 + 1 = 6) (by decide) ?_
  refine q_putI dX0_init_6 (rfl : 6 + 3 = 9) pX0_9 (by first | rfl | assumption) ?_
  refine q_aload_n dX0_init_9 (rfl : 9 + 1 = 10) rfl ?_
  refine q_bipush (v := nI 12) dX0_init_10 (rfl : 10 + 2 = 12) (by decide) ?_
  refine q_newaN (n := 17) (c2 := 1) (s2 := 12) (t := .int) (k := 12) dX0_init_12 (rfl : 12 + 2 = 14) rfl (rfl : shA[17]? = some (.inr (.int, 12))) (by decide) a_int (by decide) (by decide) (by decide) (fun _ _ => rfl) (Tx.of (Nat.le_of_ble_eq_true rfl)) rfl rfl (by repeat (first | exact hb0.up (by decide) | refine ZW.wI ?_ (by decide) | refine ZW.wR ?_ (by decide) (by decide) | refine ZW.wJ ?_ (by decide) | refine ZW.forget ?_ (by decide) | refine ZW.addFall ?_ (by decide) | refine ZW.begins ?_ (by decide))) ⟨rfl, rfl⟩ ⟨Nat.le_of_ble_eq_true rfl, Nat.le_of_ble_eq_true rfl⟩ (fun hz => ?_)
  refine q_putR dX0_init_14 (rfl : 14 + 3 = 17) pX0_15 rfl (fun h => rfl) (by first | rfl | assumption) ?_
  refine q_aload_n dX0_init_17 (rfl : 17 + 1 = 18) rfl ?_
  refine q_bipush (v := nI 12) dX0_init_18 (rfl : 18 + 2 = 20) (by decide) ?_
  refine q_newaN (n := 18) (c2 := 2) (s2 := 24) (t := .int) (k := 12) dX0_init_20 (rfl : 20 + 2 = 22) rfl (rfl : shA[18]? = some (.inr (.int, 12))) (by decide) a_int (by decide) (by decide) (by decide) (fun _ _ => rfl) (Tx.of (Nat.le_of_ble_eq_true rfl)) rfl rfl (by repeat (first | exact hb0.up (by decide) | refine ZW.wI ?_ (by decide) | refine ZW.wR ?_ (by decide) (by decide) | refine ZW.wJ ?_ (by decide) | refine ZW.forget ?_ (by decide) | refine ZW.addFall ?_ (by decide) | refine ZW.begins ?_ (by decide))) ⟨rfl, rfl⟩ ⟨Nat.le_of_ble_eq_true rfl, Nat.le_of_ble_eq_true rfl⟩ (fun hz => ?_)
  refine q_putR dX0_init_22 (rfl : 22 + 3 = 25) pX0_19 rfl (fun h => rfl) (by first | rfl | assumption) ?_
  refine q_aload_n dX0_init_25 (rfl : 25 + 1 = 26) rfl ?_
  refine q_iconst (v := nI 0) dX0_init_26 (rfl : 26 + 1 = 27) (by decide) ?_
  refine q_putI dX0_init_27 (rfl : 27 + 3 = 30) pX0_22 (by first | rfl | assumption) ?_
  refine q_aload_n dX0_init_30 (rfl : 30 + 1 = 31) rfl ?_
  refine q_iconst (v := nI 0) dX0_init_31 (rfl : 31 + 1 = 32) (by decide) ?_
  refine q_putI dX0_init_32 (rfl : 32 + 3 = 35) pX0_25 (by first | rfl | assumption) ?_
  refine q_aload_n dX0_init_35 (rfl : 35 + 1 = 36) rfl ?_
  refine q_bipush (v := nI 8) dX0_init_36 (rfl : 36 + 2 = 38) (by decide) ?_
  refine q_newaN (n := 19) (c2 := 3) (s2 := 32) (t := .int) (k := 8) dX0_init_38 (rfl : 38 + 2 = 40) rfl (rfl : shA[19]? = some (.inr (.int, 8))) (by decide) a_int (by decide) (by decide) (by decide) (fun _ _ => rfl) (Tx.of (Nat.le_of_ble_eq_true rfl)) rfl rfl (by repeat (first | exact hb0.up (by decide) | refine ZW.wI ?_ (by decide) | refine ZW.wR ?_ (by decide) (by decide) | refine ZW.wJ ?_ (by decide) | refine ZW.forget ?_ (by decide) | refine ZW.addFall ?_ (by decide) | refine ZW.begins ?_ (by decide))) ⟨rfl, rfl⟩ ⟨Nat.le_of_ble_eq_true rfl, Nat.le_of_ble_eq_true rfl⟩ (fun hz => ?_)
  refine q_putR dX0_init_40 (rfl : 40 + 3 = 43) pX0_28 rfl (fun h => rfl) (by first | rfl | assumption) ?_
  refine q_aload_n dX0_init_43 (rfl : 43 + 1 = 44) rfl ?_
  refine q_bipush (v := nI 8) dX0_init_44 (rfl : 44 + 2 = 46) (by decide) ?_
  refine q_newaN (n := 20) (c2 := 4) (s2 := 40) (t := .int) (k := 8) dX0_init_46 (rfl : 46 + 2 = 48) rfl (rfl : shA[20]? = some (.inr (.int, 8))) (by decide) a_int (by decide) (by decide) (by decide) (fun _ _ => rfl) (Tx.of (Nat.le_of_ble_eq_true rfl)) rfl rfl (by repeat (first | exact hb0.up (by decide) | refine ZW.wI ?_ (by decide) | refine ZW.wR ?_ (by decide) (by decide) | refine ZW.wJ ?_ (by decide) | refine ZW.forget ?_ (by decide) | refine ZW.addFall ?_ (by decide) | refine ZW.begins ?_ (by decide))) ⟨rfl, rfl⟩ ⟨Nat.le_of_ble_eq_true rfl, Nat.le_of_ble_eq_true rfl⟩ (fun hz => ?_)
  refine q_putR dX0_init_48 (rfl : 48 + 3 = 51) pX0_31 rfl (fun h => rfl) (by first | rfl | assumption) ?_
  refine q_aload_n dX0_init_51 (rfl : 51 + 1 = 52) rfl ?_
  refine q_bipush (v := nI 8) dX0_init_52 (rfl : 52 + 2 = 54) (by decide) ?_
  refine q_newaN (n := 21) (c2 := 5) (s2 := 48) (t := .int) (k := 8) dX0_init_54 (rfl : 54 + 2 = 56) rfl (rfl : shA[21]? = some (.inr (.int, 8))) (by decide) a_int (by decide) (by decide) (by decide) (fun _ _ => rfl) (Tx.of (Nat.le_of_ble_eq_true rfl)) rfl rfl (by repeat (first | exact hb0.up (by decide) | refine ZW.wI ?_ (by decide) | refine ZW.wR ?_ (by decide) (by decide) | refine ZW.wJ ?_ (by decide) | refine ZW.forget ?_ (by decide) | refine ZW.addFall ?_ (by decide) | refine ZW.begins ?_ (by decide))) ⟨rfl, rfl⟩ ⟨Nat.le_of_ble_eq_true rfl, Nat.le_of_ble_eq_true rfl⟩ (fun hz => ?_)
  refine q_putR dX0_init_56 (rfl : 56 + 3 = 59) pX0_34 rfl (fun h => rfl) (by first | rfl | assumption) ?_
  refine q_vret rfl dX0_init_59 ⟨rfl, rfl, rfl, rfl, rfl, ?_⟩
  unfold coI_conBarn16 coR_conBarn16
  exact (by repeat (first | exact hb0.up (by decide) | refine ZW.wI ?_ (by decide) | refine ZW.wR ?_ (by decide) (by decide) | refine ZW.wJ ?_ (by decide) | refine ZW.forget ?_ (by decide) | refine ZW.addFall ?_ (by decide) | refine ZW.begins ?_ (by decide)))
def coI_conBarn22 (I : HI) : HI := wr (wr (wr (I) 22 0 (nI 0)) 22 3 (nI 0)) 22 4 (nI 0)
def coR_conBarn22 (R : HR) : HR := wr (wr (wr (wr (wr (R) 22 1 (some 23)) 22 2 (some 24)) 22 5 (some 25)) 22 6 (some 26)) 22 7 (some 27)
theorem S_conBarn22 {d : Nat} {I : HI} {J : HJ} {R : HR} (hb0 : ZW 23 I J R) : Mt mX0_init (d + 1) 5 48 true [.ref 22] (shA.take 23) I J R (CoP 28 (coI_conBarn22 I) J (coR_conBarn22 R)) := by
  refine Mt.of (L := [some (.ref 22)]) (by decide +kernel) (Nat.le_of_ble_eq_true rfl) rfl ?_
  refine q_aload_n dX0_init_0 (rfl : 0 + 1 = 1) rfl ?_
  refine q_oinit dX0_init_1 (rfl : 1 + 3 = 4) lX0_3 w_obj (Nat.le_of_ble_eq_true rfl) TM_o ?_
  refine q_aload_n dX0_init_4 (rfl : 4 + 1 = 5) rfl ?_
  refine q_iconst (v := nI 0) dX0_init_5 (rfl : 5 + 1 = 6) (by decide) ?_
  refine q_putI dX0_init_6 (rfl : 6 + 3 = 9) pX0_9 (by first | rfl | assumption) ?_
  refine q_aload_n dX0_init_9 (rfl : 9 + 1 = 10) rfl ?_
  refine q_bipush (v := nI 12) dX0_init_10 (rfl : 10 + 2 = 12) (by decide) ?_
  refine q_newaN (n := 23) (c2 := 1) (s2 := 12) (t := .int) (k := 12) dX0_init_12 (rfl : 12 + 2 = 14) rfl (rfl : shA[23]? = some (.inr (.int, 12))) (by decide) a_int (by decide) (by decide) (by decide) (fun _ _ => rfl) (Tx.of (Nat.le_of_ble_eq_true rfl)) rfl rfl (by repeat (first | exact hb0.up (by decide) | refine ZW.wI ?_ (by decide) | refine ZW.wR ?_ (by decide) (by decide) | refine ZW.wJ ?_ (by decide) | refine ZW.forget ?_ (by decide) | refine ZW.addFall ?_ (by decide) | refine ZW.begins ?_ (by decide))) ⟨rfl, rfl⟩ ⟨Nat.le_of_ble_eq_true rfl, Nat.le_of_ble_eq_true rfl⟩ (fun hz => ?_)
  refine q_putR dX0_init_14 (rfl : 14 + 3 = 17) pX0_15 rfl (fun h => rfl) (by first | rfl | assumption) ?_
  refine q_aload_n dX0_init_17 (rfl : 17 + 1 = 18) rfl ?_
  refine q_bipush (v := nI 12) dX0_init_18 (rfl : 18 + 2 = 20) (by decide) ?_
  refine q_newaN (n := 24) (c2 := 2) (s2 := 24) (t := .int) (k := 12) dX0_init_20 (rfl : 20 + 2 = 22) rfl (rfl : shA[24]? = some (.inr (.int, 12))) (by decide) a_int (by decide) (by decide) (by decide) (fun _ _ => rfl) (Tx.of (Nat.le_of_ble_eq_true rfl)) rfl rfl (by repeat (first | exact hb0.up (by decide) | refine ZW.wI ?_ (by decide) | refine ZW.wR ?_ (by decide) (by decide) | refine ZW.wJ ?_ (by decide) | refine ZW.forget ?_ (by decide) | refine ZW.addFall ?_ (by decide) | refine ZW.begins ?_ (by decide))) ⟨rfl, rfl⟩ ⟨Nat.le_of_ble_eq_true rfl, Nat.le_of_ble_eq_true rfl⟩ (fun hz => ?_)
  refine q_putR dX0_init_22 (rfl : 22 + 3 = 25) pX0_19 rfl (fun h => rfl) (by first | rfl | assumption) ?_
  refine q_aload_n dX0_init_25 (rfl : 25 + 1 = 26) rfl ?_
  refine q_iconst (v := nI 0) dX0_init_26 (rfl : 26 + 1 = 27) (by decide) ?_
  refine q_putI dX0_init_27 (rfl : 27 + 3 = 30) pX0_22 (by first | rfl | assumption) ?_
  refine q_aload_n dX0_init_30 (rfl : 30 + 1 = 31) rfl ?_
  refine q_iconst (v := nI 0) dX0_init_31 (rfl : 31 + 1 = 32) (by decide) ?_
  refine q_putI dX0_init_32 (rfl : 32 + 3 = 35) pX0_25 (by first | rfl | assumption) ?_
  refine q_aload_n dX0_init_35 (rfl : 35 + 1 = 36) rfl ?_
  refine q_bipush (v := nI 8) dX0_init_36 (rfl : 36 + 2 = 38) (by decide) ?_
  refine q_newaN (n := 25) (c2 := 3) (s2 := 32) (t := .int) (k := 8) dX0_init_38 (rfl : 38 + 2 = 40) rfl (rfl : shA[25]? = some (.inr (.int, 8))) (by decide) a_int (by decide) (by decide) (by decide) (fun _ _ => rfl) (Tx.of (Nat.le_of_ble_eq_true rfl)) rfl rfl (by repeat (first | exact hb0.up (by decide) | refine ZW.wI ?_ (by decide) | refine ZW.wR ?_ (by decide) (by decide) | refine ZW.wJ ?_ (by decide) | refine ZW.forget ?_ (by decide) | refine ZW.addFall ?_ (by decide) | refine ZW.begins ?_ (by decide))) ⟨rfl, rfl⟩ ⟨Nat.le_of_ble_eq_true rfl, Nat.le_of_ble_eq_true rfl⟩ (fun hz => ?_)
  refine q_putR dX0_init_40 (rfl : 40 + 3 = 43) pX0_28 rfl (fun h => rfl) (by first | rfl | assumption) ?_
  refine q_aload_n dX0_init_43 (rfl : 43 + 1 = 44) rfl ?_
  refine q_bipush (v := nI 8) dX0_init_44 (rfl : 44 + 2 = 46) (by decide) ?_
  refine q_newaN (n := 26) (c2 := 4) (s2 := 40) (t := .int) (k := 8) dX0_init_46 (rfl : 46 + 2 = 48) rfl (rfl : shA[26]? = some (.inr (.int, 8))) (by decide) a_int (by decide) (by decide) (by decide) (fun _ _ => rfl) (Tx.of (Nat.le_of_ble_eq_true rfl)) rfl rfl (by repeat (first | exact hb0.up (by decide) | refine ZW.wI ?_ (by decide) | refine ZW.wR ?_ (by decide) (by decide) | refine ZW.wJ ?_ (by decide) | refine ZW.forget ?_ (by decide) | refine ZW.addFall ?_ (by decide) | refine ZW.begins ?_ (by decide))) ⟨rfl, rfl⟩ ⟨Nat.le_of_ble_eq_true rfl, Nat.le_of_ble_eq_true rfl⟩ (fun hz => ?_)
  refine q_putR dX0_init_48 (rfl : 48 + 3 = 51) pX0_31 rfl (fun h => rfl) (by first | rfl | assumption) ?_
  refine q_aload_n dX0_init_51 (rfl : 51 + 1 = 52) rfl ?_
  refine q_bipush (v := nI 8) dX0_init_52 (rfl : 52 + 2 = 54) (by decide) ?_
  refine q_newaN (n := 27) (c2 := 5) (s2 := 48) (t := .int) (k := 8) dX0_init_54 (rfl : 54 + 2 = 56) rfl (rfl : shA[27]? = some (.inr (.int, 8))) (by decide) a_int (by decide) (by decide) (by decide) (fun _ _ => rfl) (Tx.of (Nat.le_of_ble_eq_true rfl)) rfl rfl (by repeat (first | exact hb0.up (by decide) | refine ZW.wI ?_ (by decide) | refine ZW.wR ?_ (by decide) (by decide) | refine ZW.wJ ?_ (by decide) | refine ZW.forget ?_ (by decide) | refine ZW.addFall ?_ (by decide) | refine ZW.begins ?_ (by decide))) ⟨rfl, rfl⟩ ⟨Nat.le_of_ble_eq_true rfl, Nat.le_of_ble_eq_true rfl⟩ (fun hz => ?_)
  refine q_putR dX0_init_56 (rfl : 56 + 3 = 59) pX0_34 rfl (fun h => rfl) (by first | rfl | assumption) ?_
  refine q_vret rfl dX0_init_59 ⟨rfl, rfl, rfl, rfl, rfl, ?_⟩
  unfold coI_conBarn22 coR_conBarn22
  exact (by repeat (first | exact hb0.up (by decide) | refine ZW.wI ?_ (by decide) | refine ZW.wR ?_ (by decide) (by decide) | refine ZW.wJ ?_ (by decide) | refine ZW.forget ?_ (by decide) | refine ZW.addFall ?_ (by decide) | refine ZW.begins ?_ (by decide)))
def coI_conBarn28 (I : HI) : HI := wr (wr (wr (I) 28 0 (nI 0)) 28 3 (nI 0)) 28 4 (nI 0)
def coR_conBarn28 (R : HR) : HR := wr (wr (wr (wr (wr (R) 28 1 (some 29)) 28 2 (some 30)) 28 5 (some 31)) 28 6 (some 32)) 28 7 (some 33)
theorem S_conBarn28 {d : Nat} {I : HI} {J : HJ} {R : HR} (hb0 : ZW 29 I J R) : Mt mX0_init (d + 1) 5 48 true [.ref 28] (shA.take 29) I J R (CoP 34 (coI_conBarn28 I) J (coR_conBarn28 R)) := by
  refine Mt.of (L := [some (.ref 28)]) (by decide +kernel) (Nat.le_of_ble_eq_true rfl) rfl ?_
  refine q_aload_n dX0_init_0 (rfl : 0 + 1 = 1) rfl ?_
  refine q_oinit dX0_init_1 (rfl : 1 + 3 = 4) lX0_3 w_obj (Nat.le_of_ble_eq_true rfl) TM_o ?_
  refine q_aload_n dX0_init_4 (rfl : 4 + 1 = 5) rfl ?_
  refine q_iconst (v := nI 0) dX0_init_5 (rfl : 5 + 1 = 6) (by decide) ?_
  refine q_putI dX0_init_6 (rfl : 6 + 3 = 9) pX0_9 (by first | rfl | assumption) ?_
  refine q_aload_n dX0_init_9 (rfl : 9 + 1 = 10) rfl ?_
  refine q_bipush (v := nI 12) dX0_init_10 (rfl : 10 + 2 = 12) (by decide) ?_
  refine q_newaN (n := 29) (c2 := 1) (s2 := 12) (t := .int) (k := 12) dX0_init_12 (rfl : 12 + 2 = 14) rfl (rfl : shA[29]? = some (.inr (.int, 12))) (by decide) a_int (by decide) (by decide) (by decide) (fun _ _ => rfl) (Tx.of (Nat.le_of_ble_eq_true rfl)) rfl rfl (by repeat (first | exact hb0.up (by decide) | refine ZW.wI ?_ (by decide) | refine ZW.wR ?_ (by decide) (by decide) | refine ZW.wJ ?_ (by decide) | refine ZW.forget ?_ (by decide) | refine ZW.addFall ?_ (by decide) | refine ZW.begins ?_ (by decide))) ⟨rfl, rfl⟩ ⟨Nat.le_of_ble_eq_true rfl, Nat.le_of_ble_eq_true rfl⟩ (fun hz => ?_)
  refine q_putR dX0_init_14 (rfl : 14 + 3 = 17) pX0_15 rfl (fun h => rfl) (by first | rfl | assumption) ?_
  refine q_aload_n dX0_init_17 (rfl : 17 + 1 = 18) rfl ?_
  refine q_bipush (v := nI 12) dX0_init_18 (rfl : 18 + 2 = 20) (by decide) ?_
  refine q_newaN (n := 30) (c2 := 2) (s2 := 24) (t := .int) (k := 12) dX0_init_20 (rfl : 20 + 2 = 22) rfl (rfl : shA[30]? = some (.inr (.int, 12))) (by decide) a_int (by decide) (by decide) (by decide) (fun _ _ => rfl) (Tx.of (Nat.le_of_ble_eq_true rfl)) rfl rfl (by repeat (first | exact hb0.up (by decide) | refine ZW.wI ?_ (by decide) | refine ZW.wR ?_ (by decide) (by decide) | refine ZW.wJ ?_ (by decide) | refine ZW.forget ?_ (by decide) | refine ZW.addFall ?_ (by decide) | refine ZW.begins ?_ (by decide))) ⟨rfl, rfl⟩ ⟨Nat.le_of_ble_eq_true rfl, Nat.le_of_ble_eq_true rfl⟩ (fun hz => ?_)
  refine q_putR dX0_init_22 (rfl : 22 + 3 = 25) pX0_19 rfl (fun h => rfl) (by first | rfl | assumption) ?_
  refine q_aload_n dX0_init_25 (rfl : 25 + 1 = 26) rfl ?_
  refine q_iconst (v := nI 0) dX0_init_26 (rfl : 26 + 1 = 27) (by decide) ?_
  refine q_putI dX0_init_27 (rfl : 27 + 3 = 30) pX0_22 (by first | rfl | assumption) ?_
  refine q_aload_n dX0_init_30 (rfl : 30 + 1 = 31) rfl ?_
  refine q_iconst (v := nI 0) dX0_init_31 (rfl : 31 + 1 = 32) (by decide) ?_
  refine q_putI dX0_init_32 (rfl : 32 + 3 = 35) pX0_25 (by first | rfl | assumption) ?_
  refine q_aload_n dX0_init_35 (rfl : 35 + 1 = 36) rfl ?_
  refine q_bipush (v := nI 8) dX0_init_36 (rfl : 36 + 2 = 38) (by decide) ?_
  refine q_newaN (n := 31) (c2 := 3) (s2 := 32) (t := .int) (k := 8) dX0_init_38 (rfl : 38 + 2 = 40) rfl (rfl : shA[31]? = some (.inr (.int, 8))) (by decide) a_int (by decide) (by decide) (by decide) (fun _ _ => rfl) (Tx.of (Nat.le_of_ble_eq_true rfl)) rfl rfl (by repeat (first | exact hb0.up (by decide) | refine ZW.wI ?_ (by decide) | refine ZW.wR ?_ (by decide) (by decide) | refine ZW.wJ ?_ (by decide) | refine ZW.forget ?_ (by decide) | refine ZW.addFall ?_ (by decide) | refine ZW.begins ?_ (by decide))) ⟨rfl, rfl⟩ ⟨Nat.le_of_ble_eq_true rfl, Nat.le_of_ble_eq_true rfl⟩ (fun hz => ?_)
  refine q_putR dX0_init_40 (rfl : 40 + 3 = 43) pX0_28 rfl (fun h => rfl) (by first | rfl | assumption) ?_
  refine q_aload_n dX0_init_43 (rfl : 43 + 1 = 44) rfl ?_
  refine q_bipush (v := nI 8) dX0_init_44 (rfl : 44 + 2 = 46) (by decide) ?_
  refine q_newaN (n := 32) (c2 := 4) (s2 := 40) (t := .int) (k := 8) dX0_init_46 (rfl : 46 + 2 = 48) rfl (rfl : shA[32]? = some (.inr (.int, 8))) (by decide) a_int (by decide) (by decide) (by decide) (fun _ _ => rfl) (Tx.of (Nat.le_of_ble_eq_true rfl)) rfl rfl (by repeat (first | exact hb0.up (by decide) | refine ZW.wI ?_ (by decide) | refine ZW.wR ?_ (by decide) (by decide) | refine ZW.wJ ?_ (by decide) | refine ZW.forget ?_ (by decide) | refine ZW.addFall ?_ (by decide) | refine ZW.begins ?_ (by decide))) ⟨rfl, rfl⟩ ⟨Nat.le_of_ble_eq_true rfl, Nat.le_of_ble_eq_true rfl⟩ (fun hz => ?_)
  refine q_putR dX0_init_48 (rfl : 48 + 3 = 51) pX0_31 rfl (fun h => rfl) (by first | rfl | assumption) ?_
  refine q_aload_n dX0_init_51 (rfl : 51 + 1 = 52) rfl ?_
  refine q_bipush (v := nI 8) dX0_init_52 (rfl : 52 + 2 = 54) (by decide) ?_
  refine q_newaN (n := 33) (c2 := 5) (s2 := 48) (t := .int) (k := 8) dX0_init_54 (rfl : 54 + 2 = 56) rfl (rfl : shA[33]? = some (.inr (.int, 8))) (by decide) a_int (by decide) (by decide) (by decide) (fun _ _ => rfl) (Tx.of (Nat.le_of_ble_eq_true rfl)) rfl rfl (by repeat (first | exact hb0.up (by decide) | refine ZW.wI ?_ (by decide) | refine ZW.wR ?_ (by decide) (by decide) | refine ZW.wJ ?_ (by decide) | refine ZW.forget ?_ (by decide) | refine ZW.addFall ?_ (by decide) | refine ZW.begins ?_ (by decide))) ⟨rfl, rfl⟩ ⟨Nat.le_of_ble_eq_true rfl, Nat.le_of_ble_eq_true rfl⟩ (fun hz => ?_)
  refine q_putR dX0_init_56 (rfl : 56 + 3 = 59) pX0_34 rfl (fun h => rfl) (by first | rfl | assumption) ?_
  refine q_vret rfl dX0_init_59 ⟨rfl, rfl, rfl, rfl, rfl, ?_⟩
  unfold coI_conBarn28 coR_conBarn28
  exact (by repeat (first | exact hb0.up (by decide) | refine ZW.wI ?_ (by decide) | refine ZW.wR ?_ (by decide) (by decide) | refine ZW.wJ ?_ (by decide) | refine ZW.forget ?_ (by decide) | refine ZW.addFall ?_ (by decide) | refine ZW.begins ?_ (by decide)))
def coI_conMarks (I : HI) : HI := wr (I) 34 1 (nI 0)
def coR_conMarks (R : HR) : HR := wr (wr (R) 34 0 (some 35)) 34 2 (some 36)
theorem S_conMarks {d : Nat} {I : HI} {J : HJ} {R : HR} (hb0 : ZW 35 I J R) : Mt mX2_init (d + 1) 2 29 true [.ref 34] (shA.take 35) I J R (CoP 37 (coI_conMarks I) J (coR_conMarks R)) := by
  refine Mt.of (L := [some (.ref 34)]) (by decide +kernel) (Nat.le_of_ble_eq_true rfl) rfl ?_
  refine q_aload_n dX2_init_0 (rfl : 0 + 1 = 1) rfl ?_
  refine q_oinit dX2_init_1 (rfl : 1 + 3 = 4) lX2_3 w_obj (Nat.le_of_ble_eq_true rfl) TM_o ?_
  refine q_aload_n dX2_init_4 (rfl : 4 + 1 = 5) rfl ?_
  refine q_bipush (v := nI 14) dX2_init_5 (rfl : 5 + 2 = 7) (by decide) ?_
  refine q_newaN (n := 35) (c2 := 1) (s2 := 14) (t := .int) (k := 14) dX2_init_7 (rfl : 7 + 2 = 9) rfl (rfl : shA[35]? = some (.inr (.int, 14))) (by decide) a_int (by decide) (by decide) (by decide) (fun _ _ => rfl) (Tx.of (Nat.le_of_ble_eq_true rfl)) rfl rfl (by repeat (first | exact hb0.up (by decide) | refine ZW.wI ?_ (by decide) | refine ZW.wR ?_ (by decide) (by decide) | refine ZW.wJ ?_ (by decide) | refine ZW.forget ?_ (by decide) | refine ZW.addFall ?_ (by decide) | refine ZW.begins ?_ (by decide))) ⟨rfl, rfl⟩ ⟨Nat.le_of_ble_eq_true rfl, Nat.le_of_ble_eq_true rfl⟩ (fun hz => ?_)
  refine q_putR dX2_init_9 (rfl : 9 + 3 = 12) pX2_9 rfl (fun h => rfl) (by first | rfl | assumption) ?_
  refine q_aload_n dX2_init_12 (rfl : 12 + 1 = 13) rfl ?_
  refine q_iconst (v := nI 0) dX2_init_13 (rfl : 13 + 1 = 14) (by decide) ?_
  refine q_putI dX2_init_14 (rfl : 14 + 3 = 17) pX2_15 (by first | rfl | assumption) ?_
  refine q_aload_n dX2_init_17 (rfl : 17 + 1 = 18) rfl ?_
  refine q_bipush (v := nI 15) dX2_init_18 (rfl : 18 + 2 = 20) (by decide) ?_
  refine q_newaN (n := 36) (c2 := 2) (s2 := 29) (t := .int) (k := 15) dX2_init_20 (rfl : 20 + 2 = 22) rfl (rfl : shA[36]? = some (.inr (.int, 15))) (by decide) a_int (by decide) (by decide) (by decide) (fun _ _ => rfl) (Tx.of (Nat.le_of_ble_eq_true rfl)) rfl rfl (by repeat (first | exact hb0.up (by decide) | refine ZW.wI ?_ (by decide) | refine ZW.wR ?_ (by decide) (by decide) | refine ZW.wJ ?_ (by decide) | refine ZW.forget ?_ (by decide) | refine ZW.addFall ?_ (by decide) | refine ZW.begins ?_ (by decide))) ⟨rfl, rfl⟩ ⟨Nat.le_of_ble_eq_true rfl, Nat.le_of_ble_eq_true rfl⟩ (fun hz => ?_)
  refine q_putR dX2_init_22 (rfl : 22 + 3 = 25) pX2_19 rfl (fun h => rfl) (by first | rfl | assumption) ?_
  refine q_vret rfl dX2_init_25 ⟨rfl, rfl, rfl, rfl, rfl, ?_⟩
  unfold coI_conMarks coR_conMarks
  exact (by repeat (first | exact hb0.up (by decide) | refine ZW.wI ?_ (by decide) | refine ZW.wR ?_ (by decide) (by decide) | refine ZW.wJ ?_ (by decide) | refine ZW.forget ?_ (by decide) | refine ZW.addFall ?_ (by decide) | refine ZW.begins ?_ (by decide)))
def coI_conThaw (I : HI) : HI := wr (wr (wr (I) 37 1 (nI 0)) 37 2 (nI 0)) 37 3 (nI 0)
def coR_conThaw (R : HR) : HR := wr (wr (wr (wr (R) 38 0 (some 39)) 38 1 (some 40)) 38 2 (some 41)) 37 0 (some 38)
theorem S_conThaw {d : Nat} {I : HI} {J : HJ} {R : HR} (hb0 : ZW 38 I J R) : Mt mX4_init (d + 1) 4 24 true [.ref 37] (shA.take 38) I J R (CoP 42 (coI_conThaw I) J (coR_conThaw R)) := by
  refine Mt.of (L := [some (.ref 37)]) (by decide +kernel) (Nat.le_of_ble_eq_true rfl) rfl ?_
  refine q_aload_n dX4_init_0 (rfl : 0 + 1 = 1) rfl ?_
  refine q_oinit dX4_init_1 (rfl : 1 + 3 = 4) lX4_3 w_obj (Nat.le_of_ble_eq_true rfl) TM_o ?_
  refine q_aload_n dX4_init_4 (rfl : 4 + 1 = 5) rfl ?_
  refine q_iconst (v := nI 3) dX4_init_5 (rfl : 5 + 1 = 6) (by decide) ?_
  refine q_bipush (v := nI 7) dX4_init_6 (rfl : 6 + 2 = 8) (by decide) ?_
  refine q_multiN (c2 := 4) (s2 := 24) dX4_init_8 (rfl : 8 + 4 = 12) ⟨rfl, rfl⟩ (Tx.of (Nat.le_of_ble_eq_true rfl)) rfl rfl (by repeat (first | exact hb0.up (by decide) | refine ZW.wI ?_ (by decide) | refine ZW.wR ?_ (by decide) (by decide) | refine ZW.wJ ?_ (by decide) | refine ZW.forget ?_ (by decide) | refine ZW.addFall ?_ (by decide) | refine ZW.begins ?_ (by decide))) ⟨rfl, rfl⟩ ⟨Nat.le_of_ble_eq_true rfl, Nat.le_of_ble_eq_true rfl⟩ (fun hz => ?_)
  refine q_putR dX4_init_12 (rfl : 12 + 3 = 15) pX4_11 rfl (fun h => rfl) (by first | rfl | assumption) ?_
  refine q_aload_n dX4_init_15 (rfl : 15 + 1 = 16) rfl ?_
  refine q_iconst (v := nI 0) dX4_init_16 (rfl : 16 + 1 = 17) (by decide) ?_
  refine q_putI dX4_init_17 (rfl : 17 + 3 = 20) pX4_16 (by first | rfl | assumption) ?_
  refine q_aload_n dX4_init_20 (rfl : 20 + 1 = 21) rfl ?_
  refine q_iconst (v := nI 0) dX4_init_21 (rfl : 21 + 1 = 22) (by decide) ?_
  refine q_putI dX4_init_22 (rfl : 22 + 3 = 25) pX4_20 (by first | rfl | assumption) ?_
  refine q_aload_n dX4_init_25 (rfl : 25 + 1 = 26) rfl ?_
  refine q_iconst (v := nI 0) dX4_init_26 (rfl : 26 + 1 = 27) (by decide) ?_
  refine q_putI dX4_init_27 (rfl : 27 + 3 = 30) pX4_23 (by first | rfl | assumption) ?_
  refine q_vret rfl dX4_init_30 ⟨rfl, rfl, rfl, rfl, rfl, ?_⟩
  unfold coI_conThaw coR_conThaw
  exact (by repeat (first | exact hb0.up (by decide) | refine ZW.wI ?_ (by decide) | refine ZW.wR ?_ (by decide) (by decide) | refine ZW.wJ ?_ (by decide) | refine ZW.forget ?_ (by decide) | refine ZW.addFall ?_ (by decide) | refine ZW.begins ?_ (by decide)))
def coI_conLet (I : HI) : HI := wr (wr (wr (wr (wr (wr (I) 42 1 (nI 0)) 42 2 (nI 0)) 42 3 (nI 0)) 42 4 (nI 0)) 42 5 (nI 0)) 42 6 (nI 0)
def coR_conLet (R : HR) : HR := wr (R) 42 0 (some 43)
theorem S_conLet {d : Nat} {I : HI} {J : HJ} {R : HR} (hb0 : ZW 43 I J R) : Mt mX1_init (d + 1) 1 100 true [.ref 42] (shA.take 43) I J R (CoP 44 (coI_conLet I) J (coR_conLet R)) := by
  refine Mt.of (L := [some (.ref 42)]) (by decide +kernel) (Nat.le_of_ble_eq_true rfl) rfl ?_
  refine q_aload_n dX1_init_0 (rfl : 0 + 1 = 1) rfl ?_
  refine q_oinit dX1_init_1 (rfl : 1 + 3 = 4) lX1_3 w_obj (Nat.le_of_ble_eq_true rfl) TM_o ?_
  refine q_aload_n dX1_init_4 (rfl : 4 + 1 = 5) rfl ?_
  refine q_bipush (v := nI 100) dX1_init_5 (rfl : 5 + 2 = 7) (by decide) ?_
  refine q_newaN (n := 43) (c2 := 1) (s2 := 100) (t := .int) (k := 100) dX1_init_7 (rfl : 7 + 2 = 9) rfl (rfl : shA[43]? = some (.inr (.int, 100))) (by decide) a_int (by decide) (by decide) (by decide) (fun _ _ => rfl) (Tx.of (Nat.le_of_ble_eq_true rfl)) rfl rfl (by repeat (first | exact hb0.up (by decide) | refine ZW.wI ?_ (by decide) | refine ZW.wR ?_ (by decide) (by decide) | refine ZW.wJ ?_ (by decide) | refine ZW.forget ?_ (by decide) | refine ZW.addFall ?_ (by decide) | refine ZW.begins ?_ (by decide))) ⟨rfl, rfl⟩ ⟨Nat.le_of_ble_eq_true rfl, Nat.le_of_ble_eq_true rfl⟩ (fun hz => ?_)
  refine q_putR dX1_init_9 (rfl : 9 + 3 = 12) pX1_9 rfl (fun h => rfl) (by first | rfl | assumption) ?_
  refine q_aload_n dX1_init_12 (rfl : 12 + 1 = 13) rfl ?_
  refine q_iconst (v := nI 0) dX1_init_13 (rfl : 13 + 1 = 14) (by decide) ?_
  refine q_putI dX1_init_14 (rfl : 14 + 3 = 17) pX1_15 (by first | rfl | assumption) ?_
  refine q_aload_n dX1_init_17 (rfl : 17 + 1 = 18) rfl ?_
  refine q_iconst (v := nI 0) dX1_init_18 (rfl : 18 + 1 = 19) (by decide) ?_
  refine q_putI dX1_init_19 (rfl : 19 + 3 = 22) pX1_19 (by first | rfl | assumption) ?_
  refine q_aload_n dX1_init_22 (rfl : 22 + 1 = 23) rfl ?_
  refine q_iconst (v := nI 0) dX1_init_23 (rfl : 23 + 1 = 24) (by decide) ?_
  refine q_putI dX1_init_24 (rfl : 24 + 3 = 27) pX1_22 (by first | rfl | assumption) ?_
  refine q_aload_n dX1_init_27 (rfl : 27 + 1 = 28) rfl ?_
  refine q_iconst (v := nI 0) dX1_init_28 (rfl : 28 + 1 = 29) (by decide) ?_
  refine q_putI dX1_init_29 (rfl : 29 + 3 = 32) pX1_25 (by first | rfl | assumption) ?_
  refine q_aload_n dX1_init_32 (rfl : 32 + 1 = 33) rfl ?_
  refine q_iconst (v := nI 0) dX1_init_33 (rfl : 33 + 1 = 34) (by decide) ?_
  refine q_putI dX1_init_34 (rfl : 34 + 3 = 37) pX1_28 (by first | rfl | assumption) ?_
  refine q_aload_n dX1_init_37 (rfl : 37 + 1 = 38) rfl ?_
  refine q_iconst (v := nI 0) dX1_init_38 (rfl : 38 + 1 = 39) (by decide) ?_
  refine q_putI dX1_init_39 (rfl : 39 + 3 = 42) pX1_31 (by first | rfl | assumption) ?_
  refine q_vret rfl dX1_init_42 ⟨rfl, rfl, rfl, rfl, rfl, ?_⟩
  unfold coI_conLet coR_conLet
  exact (by repeat (first | exact hb0.up (by decide) | refine ZW.wI ?_ (by decide) | refine ZW.wR ?_ (by decide) (by decide) | refine ZW.wJ ?_ (by decide) | refine ZW.forget ?_ (by decide) | refine ZW.addFall ?_ (by decide) | refine ZW.begins ?_ (by decide)))
