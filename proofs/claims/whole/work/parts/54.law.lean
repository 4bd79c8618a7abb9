/-! THE CLAIM OUT OF ONE WALK OF THE LAW'S BODY. Your part is whole_start (and what it stands on); all else here is the same for every law, but numbers. -/
def R_law : String := "SnowByNumberLaw"
def lw_P (b : Addr) (xs : List Int32) (args : Array Value) (s : State) : Prop := args = #[.ref b] ∧ s.IntsAt b xs ∧ xs.length ≤ 2560 ∧ (Jvm.Cond.and given_1 narrow_1).before args s = true
def lw_Q (_ : Array Value) (s : State) (o : Outcome) (t : State) : Prop := o = .returned (some (.int 1)) ∧ Framed s o t [] 600000 7302250
def lw_Z (below : List Frame) (a : Array Value) (s : State) : State → Prop := fun t => ∃ o, t.status = .running ∧ Ended t below o ∧ lw_Q a s o t
/-- the law's own end, with 1 on the stack, nothing written that was there before, its room as the claim has it -/
theorem lw_ret {p : Program} {l : Launch} {e : Env} {s : State} {m : MethodId} {below : List Frame} {meth : Method} {c : Code} {b : Nat} (hx : p.tables.exec = Jvm.exec) (hb : c.code = code) (hr : meth.sig.returnType = ret) (hlocks : meth.locks = false) {pc : Nat} {H : Heap} {ls : Array Slot} (hdg : decode code pc = .ok (.ireturn, 1)) : W p l e room_1 s m #[Value.ref b] below meth c H [] 600000 7302250 (lw_Z below #[Value.ref b] s) (F0 m pc ls [.int 1]) := by
  intro T hT X
  obtain ⟨fs, hret, hrun, hended, hW, hframe⟩ := X.leave (v := some (.int 1)) (hlocks := hlocks) (fun h => by rw [hr] at h; cases h)
  have hmeth' : T.vm.method? m = some meth := X.method'
  refine ⟨T.setFrames fs, ?_, .returned (some (.int 1)), hrun, hended, rfl, ⟨_, rfl⟩, hW, hframe⟩
  jvm_step X.here [X.here.top, hx, hb, hdg, hmeth', hr, ret, narrow_b1]
  (try refine ⟨rfl, ?_⟩); (try refine ⟨rfl, ?_⟩)
  first | (intro acts; rw [hret _ acts rfl rfl rfl]) | rw [hret _ _ rfl rfl rfl]
  exact Steps.refl _
/-- what holds at the law's entry: the machine, the code, the tables' words (any of lw_tbl by 'hts w (by decide +kernel)'), the script of L ints xs at the cell b, what the Statement gives of the start (any of its parts by flat_of_before) -/
def lw_At (p : Program) (s : State) (m : MethodId) (meth : Method) (c : Code) (b L : Nat) (xs : Nat → Int32) : Prop :=
  p.tables.exec = Jvm.exec ∧ c.code = code ∧ meth.sig.returnType = ret ∧ c.maxLocals = 4 ∧ s.vm.findClass R_law = some m.cls ∧ (∀ w ∈ lw_tbl, w.before #[Value.ref b] s = true) ∧ va_X b L xs s s.heap ∧ b < s.heap.size ∧ meth.locks = false ∧ (Jvm.Cond.and given_1 narrow_1).before #[Value.ref b] s = true
/-- the law's frame: the script lies at a place of its own -/
def TL (L : Nat) (xs : Nat → Int32) : Tg := (room_1, fun below args s _ _ _ _ => lw_Z below args s, fun s args A _ _ ad _ => args = #[.ref (ad SCR)] ∧ va_X (ad SCR) L xs s s.heap ∧ ad SCR < s.heap.size ∧ ∀ q, A q → s.heap.size ≤ q)
theorem TL.tx {L n : Nat} {xs : Nat → Int32} : Tx (TL L xs) n := by
  intro s args A ad0 cA0 ad cA ad' cA' h1 h2
  have e := (h2 SCR (Or.inr (Nat.le_refl _))).1
  show args = #[.ref (ad' SCR)] ∧ va_X (ad' SCR) L xs s s.heap ∧ ad' SCR < s.heap.size ∧ ∀ q, A q → s.heap.size ≤ q
  rw [e]
  exact h1
theorem TL.room {L : Nat} {xs : Nat → Int32} : 7 + 1 ≤ (TL L xs).1.frames ∧ 31 * (7 + 1) ≤ (TL L xs).1.locals := ⟨Nat.le_of_ble_eq_true rfl, Nat.le_of_ble_eq_true rfl⟩
section LROWS
variable {m : MD} {L : Nat} {xs : Nat → Int32} {cells slots : Nat} {sh : List Kd} {pc : Nat} {Lc : LO} {st : List Value} {I : HI} {J : HJ} {R : HR}
theorem q_sld {i q : Nat} (hd : decode m.2.1 pc = .ok (.iaload, 1)) (hq : pc + 1 = q) (hi : i < L) (hL : L ≤ 2560) (K : Wm m (TL L xs) cells slots sh q Lc (.int (xs i) :: st) I J R) : Wm m (TL L xs) cells slots sh pc Lc (.int (nI i) :: .ref SCR :: st) I J R := by
  subst hq
  intro p l e s mid args below meth c D A ad0 cA0 ad cA H locs ls S
  have kk := K p l e s mid args below meth c D A ad0 cA0 ad cA H locs ls S
  obtain ⟨C, hA, ⟨t1, t2, t3, t4⟩, hK, hP, hD, hS, hl⟩ := S
  have ec : (nI i).toNatClampNeg = i := nI_clamp (by omega)
  refine va_sld C.1 C.2.1 t2 t3 (fun z => absurd (t4 _ z) (Nat.not_le.mpr t3)) hS (i := nI i) (fun z => z.elim (nI_pos (by omega)) (fun w => by rw [ec] at w; omega)) hd ?_
  rw [ec]
  exact kk
theorem q_slen {q : Nat} (hd : decode m.2.1 pc = .ok (.arraylength, 1)) (hq : pc + 1 = q) (K : Wm m (TL L xs) cells slots sh q Lc (.int (nI L) :: st) I J R) : Wm m (TL L xs) cells slots sh pc Lc (.ref SCR :: st) I J R := by
  subst hq
  intro p l e s mid args below meth c D A ad0 cA0 ad cA H locs ls S
  have kk := K p l e s mid args below meth c D A ad0 cA0 ad cA H locs ls S
  obtain ⟨C, hA, ⟨t1, t2, t3, t4⟩, hK, hP, hD, hS, hl⟩ := S
  exact va_slen C.1 C.2.1 t2 t3 (fun z => absurd (t4 _ z) (Nat.not_le.mpr t3)) hS hd kk
theorem q_lawret (hd : decode code pc = .ok (.ireturn, 1)) (hc : cells ≤ 600000 ∧ slots ≤ 7302250) : Wm mL_law (TL L xs) cells slots sh pc Lc [.int 1] I J R := by
  intro p l e s mid args below meth c D A ad0 cA0 ad cA H locs ls S
  obtain ⟨C, hA, ⟨t1, t2, t3, t4⟩, hK, hP, hD, hS, hl⟩ := S
  subst t1
  exact va_forget (fun q hq => t4 _ (hS.2.2 q hq)) (W.widen hc.1 hc.2 (lw_ret C.1 C.2.1 C.2.2.1 C.2.2.2.2.2.2.1 hd))
theorem q_both {mc mm : MD} {as rest st0 : List Value} {idx n q : Nat} (hB : Both mc mm as I J) (hd : decode m.2.1 pc = .ok (.invokevirtual idx, 3)) (hq : pc + 3 = q) (hl : ML m.1.cls idx mc) (hm : MF mc 0 6 n) (hst : st0 = as.reverse ++ .ref 0 :: rest) (hn : as.length = n) (hr : (rest.map fun v => v.category).sum ≤ 8) (hc : cells + 0 ≤ (TL L xs).1.cells ∧ slots + 0 ≤ (TL L xs).1.slots)
    (K : ∀ x I1 J1, (∃ Po2, MI mm 7 (.ref 44 :: as) shA I1 J1 RA Po2 ∧ ∀ y I2 J2, Po2 y I2 J2 → y = x ∧ Rel I2 J2) → Wm m (TL L xs) cells slots shA q Lc (.int x :: rest) I1 J1 RA) : Wm m (TL L xs) cells slots shA pc Lc st0 I J RA := by
  obtain ⟨Po, h1, h2⟩ := hB
  exact q_callVI h1 hd hq hl hm rfl hst hn hr TL.room hc (fun x I1 J1 hp => K x I1 J1 (h2 x I1 J1 hp))
theorem q_both2 {mm : MD} {as rest st0 : List Value} {idx n q : Nat} {x : Int32} (hB : ∃ Po2, MI mm 7 (.ref 44 :: as) shA I J RA Po2 ∧ ∀ y I2 J2, Po2 y I2 J2 → y = x ∧ Rel I2 J2) (hd : decode m.2.1 pc = .ok (.invokevirtual idx, 3)) (hq : pc + 3 = q) (hl : ML m.1.cls idx mm) (hm : MF mm 0 7 n) (hst : st0 = as.reverse ++ .ref 44 :: rest) (hn : as.length = n) (hr : (rest.map fun v => v.category).sum ≤ 8) (hc : cells + 0 ≤ (TL L xs).1.cells ∧ slots + 0 ≤ (TL L xs).1.slots)
    (K : ∀ I2 J2, Rel I2 J2 → Wm m (TL L xs) cells slots shA q Lc (.int x :: rest) I2 J2 RA) : Wm m (TL L xs) cells slots shA pc Lc st0 I J RA := by
  obtain ⟨Po, h1, h2⟩ := hB
  refine q_callVI h1 hd hq hl hm rfl hst hn hr TL.room hc (fun y I2 J2 hp => ?_)
  obtain ⟨rfl, hr2⟩ := h2 y I2 J2 hp
  exact K I2 J2 hr2
theorem q_bothG {mc mm : MD} {as rest st0 : List Value} {idx n q : Nat} (hB : BothG mc mm as I J) (hd : decode m.2.1 pc = .ok (.invokevirtual idx, 3)) (hq : pc + 3 = q) (hl : ML m.1.cls idx mc) (hm : MF mc 0 6 n) (hst : st0 = as.reverse ++ .ref 0 :: rest) (hn : as.length = n) (hr : (rest.map fun v => v.category).sum ≤ 8) (hc : cells + 0 ≤ (TL L xs).1.cells ∧ slots + 0 ≤ (TL L xs).1.slots)
    (K : ∀ x I1 J1, (∃ Po2, MG mm 7 (.ref 44 :: as) shA I1 J1 RA Po2 ∧ ∀ y I2 J2, Po2 y I2 J2 → y = x ∧ Rel I2 J2) → Wm m (TL L xs) cells slots shA q Lc (.long x :: rest) I1 J1 RA) : Wm m (TL L xs) cells slots shA pc Lc st0 I J RA := by
  obtain ⟨Po, h1, h2⟩ := hB
  exact q_callVG h1 hd hq hl hm rfl hst hn hr TL.room hc (fun x I1 J1 hp => K x I1 J1 (h2 x I1 J1 hp))
theorem q_bothG2 {mm : MD} {as rest st0 : List Value} {idx n q : Nat} {x : Int64} (hB : ∃ Po2, MG mm 7 (.ref 44 :: as) shA I J RA Po2 ∧ ∀ y I2 J2, Po2 y I2 J2 → y = x ∧ Rel I2 J2) (hd : decode m.2.1 pc = .ok (.invokevirtual idx, 3)) (hq : pc + 3 = q) (hl : ML m.1.cls idx mm) (hm : MF mm 0 7 n) (hst : st0 = as.reverse ++ .ref 44 :: rest) (hn : as.length = n) (hr : (rest.map fun v => v.category).sum ≤ 8) (hc : cells + 0 ≤ (TL L xs).1.cells ∧ slots + 0 ≤ (TL L xs).1.slots)
    (K : ∀ I2 J2, Rel I2 J2 → Wm m (TL L xs) cells slots shA q Lc (.long x :: rest) I2 J2 RA) : Wm m (TL L xs) cells slots shA pc Lc st0 I J RA := by
  obtain ⟨Po, h1, h2⟩ := hB
  refine q_callVG h1 hd hq hl hm rfl hst hn hr TL.room hc (fun y I2 J2 hp => ?_)
  obtain ⟨rfl, hr2⟩ := h2 y I2 J2 hp
  exact K I2 J2 hr2
end LROWS
/-! the two tellings have changed their places: the same world by other names -/
theorem piP_pi (a : Nat) : piP (piP a) = a := by
  unfold piP
  split
  · rw [if_neg (by omega), if_pos (by omega)]
    omega
  · split
    · rw [if_pos (by omega)]
      omega
    · rfl
theorem shA_pi (p : Nat) : shA[piP p]? = shA[p]? := by
  by_cases h : p < 64
  · have key : ∀ p, p < 64 → shA[piP p]? = shA[p]? := by decide +kernel
    exact key p h
  · rw [piP_o (by omega)]
theorem RL2_pi (p k : Nat) : RL2 (piP p) k = (RA p k).map piP := by
  by_cases h : p < 64 ∧ k < 25
  · have key : ∀ p, p < 64 → ∀ k, k < 25 → RL2 (piP p) k = (RA p k).map piP := by decide +kernel
    exact key p h.1 k h.2
  · have e1 : RA p k = none := RB2.ra p k h
    have e2 : RB2 RL2 := (RB2.ra.w (by decide)).w (by decide)
    rw [e1, e2 (piP p) k (fun z => h ⟨by
      by_cases h2 : p < 64
      · exact h2
      · rw [piP_o (by omega)] at z
        exact z.1, z.2⟩)]
    rfl
theorem en_pi {ad : Nat → Nat} {cA : Nat → ClassId} {I : HI} {J : HJ} {p : Nat} {kd : Kd} : en (fun q => ad (piP q)) (fun q => cA (piP q)) (swI I) (swI J) RA p kd = en ad cA I J RL2 (piP p) kd := by
  have hR : ∀ k, (RL2 (piP p) k).map ad = (RA p k).map (fun q => ad (piP q)) := fun k => by
    rw [RL2_pi, Option.map_map]
    rfl
  cases kd with
  | inl c =>
    have e : ∀ k t, fv (fun q => ad (piP q)) (swI I) (swI J) RA p k t = fv ad I J RL2 (piP p) k t := fun k t => by
      unfold fv
      rw [hR]
      rfl
    simp only [en, e]
  | inr tn =>
    have e : ∀ n t, acn (fun q => ad (piP q)) (swI I) (swI J) RA p n t = acn ad I J RL2 (piP p) n t := fun n t => by
      unfold acn
      simp only [hR]
      rfl
    simp only [en, e]
theorem enc_pi {ad : Nat → Nat} {cA : Nat → ClassId} {I : HI} {J : HJ} (p : Nat) : (enc (fun q => ad (piP q)) (fun q => cA (piP q)) shA (swI I) (swI J) RA)[p]? = (enc ad cA shA I J RL2)[piP p]? := by
  unfold enc
  rw [List.getElem?_mapIdx, List.getElem?_mapIdx, shA_pi]
  cases shA[p]? with
  | none => rfl
  | some kd =>
    simp only [Option.map_some]
    rw [en_pi]
def npV (v : Value) : Bool := match v with
  | .ref p => decide (p < 4) || decide (16 ≤ p)
  | _ => true
def npO (o : Option Value) : Bool := match o with
  | some v => npV v
  | none => true
theorem tr_pi {ad : Nat → Nat} {v : Value} (h : npV v = true) : tr (fun q => ad (piP q)) v = tr ad v := by
  cases v <;> first | rfl | (simp only [npV, Bool.or_eq_true, decide_eq_true_eq] at h; simp only [tr]; rw [piP_o h])
theorem q_perm {m : MD} {L : Nat} {xs : Nat → Int32} {cells slots pc : Nat} {Lc : LO} {st : List Value} {I : HI} {J : HJ} (hL : Lc.all npO = true) (hst : st.all npV = true) (K : Wm m (TL L xs) cells slots shA pc Lc st (swI I) (swI J) RA) : Wm m (TL L xs) cells slots shA pc Lc st I J RL2 := by
  intro p l e s mid args below meth c D A ad0 cA0 ad cA H locs ls S
  obtain ⟨C, hA, hT, hK, hP, hD, hS, hl⟩ := S
  have es : st.map (tr (fun q => ad (piP q))) = st.map (tr ad) := List.map_congr_left (fun v hv => tr_pi (List.all_eq_true.mp hst v hv))
  have := K p l e s mid args below meth c D A ad0 cA0 (fun q => ad (piP q)) (fun q => cA (piP q)) H locs ls ⟨C, hA, ?_, ⟨hK.1, fun q t n hq => ?_⟩, fun k q hk => ?_, ⟨fun i j x y hi hj hxy => ?_, fun k q hk => ?_⟩, hS, hl.1, hl.2.1, fun i v hi => ?_⟩
  · rw [es] at this
    exact this
  · show args = #[.ref (ad (piP SCR))] ∧ va_X (ad (piP SCR)) L xs s s.heap ∧ ad (piP SCR) < s.heap.size ∧ ∀ q, A q → s.heap.size ≤ q
    rw [piP_o (show SCR < 4 ∨ 16 ≤ SCR by decide)]
    exact hT
  · exact hK.2 (piP q) t n (by rw [shA_pi]; exact hq)
  · rw [enc_pi] at hk
    exact hP (piP k) q hk
  · rw [enc_pi] at hi hj
    have h1 := hD.1 _ _ x y hi hj hxy
    rw [← piP_pi i, ← piP_pi j, h1]
  · rw [enc_pi] at hk
    exact hD.2 (piP k) q hk
  · rw [tr_pi (List.all_eq_true.mp hL (some v) (List.mem_of_getElem? hi))]
    exact hl.2.2 i v hi
/-- the frame between two rows of the script -/
def LW (L : Nat) (xs : Nat → Int32) (k pc : Nat) (I : HI) (J : HJ) : Prop := Wm mL_law (TL L xs) 64 2250 shA pc [some (.ref SCR), some (.ref 0), some (.ref 44), some (.int (nI (5 * k)))] [] I J RA
theorem LC {L : Nat} {xs : Nat → Int32} : 64 + 0 ≤ (TL L xs).1.cells ∧ 2250 + 0 ≤ (TL L xs).1.slots := ⟨Nat.le_of_ble_eq_true rfl, Nat.le_of_ble_eq_true rfl⟩
theorem and31 (x : Int32) : ∃ j, j < 32 ∧ x &&& nI 31 = nI j := by
  refine ⟨(x.toBitVec &&& 31#32).toNat, ?_, ?_⟩
  · rw [BitVec.toNat_and]
    exact Nat.lt_succ_of_le Nat.and_le_right
  · apply Int32.toBitVec_inj.mp
    show x.toBitVec &&& (nI 31).toBitVec = BitVec.ofNat 32 (x.toBitVec &&& 31#32).toNat
    rw [BitVec.ofNat_toNat, BitVec.setWidth_eq]
    rfl
