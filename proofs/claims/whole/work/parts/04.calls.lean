/-! contracts of methods in the small layer, and calls -/
def SCR : Nat := 1000
def rmd (d mc ms : Nat) : Room := { frames := d, cells := mc, slots := ms, locals := 31 * d }
def Ag (al : Bool) (n0 : Nat) (ad0 : Nat → Nat) (cA0 : Nat → ClassId) (ad : Nat → Nat) (cA : Nat → ClassId) : Prop := match al with
  | false => ad = ad0 ∧ cA = cA0
  | true => ∀ p, (p < n0 ∨ SCR ≤ p) → ad p = ad0 p ∧ cA p = cA0 p
abbrev PO : Type := List Kd → Option Value → HI → HJ → HR → Prop
def QM (al : Bool) (n0 : Nat) (D : va_G) (A : Nat → Prop) (ad0 : Nat → Nat) (cA0 : Nat → ClassId) (Po : PO) : Array Value → State → Outcome → State → Prop := fun _ st oc t =>
  (∃ (v : Option Value) (sh : List Kd) (I : HI) (J : HJ) (R : HR) (ad : Nat → Nat) (cA : Nat → ClassId), oc = .returned (v.map (tr ad)) ∧ Ag al n0 ad0 cA0 ad cA ∧ Po sh v I J R ∧ KK D cA sh t ∧ va_P D vwCl (enc ad cA sh I J R) t.heap ∧ va_D A (enc ad cA sh I J R)) ∧ va_F A st t
def TM (d mc ms : Nat) (al : Bool) (n0 : Nat) (Po : PO) : Tg := (rmd d mc ms, fun below args s D A ad0 cA0 => MQ below (QM al n0 D A ad0 cA0 Po) args s mc ms A, fun _ _ _ ad0 cA0 ad cA => Ag al n0 ad0 cA0 ad cA)
def wsM (m : MD) : List Cond := Cond.code m.1 m.2.1 m.2.2.1 m.2.2.2 :: ALLW
/-- THE CONTRACT of method m at depth d: from arguments args and a world of shape sh, it returns with Po -/
def Mt (m : MD) (d mc ms : Nat) (al : Bool) (args : List Value) (sh : List Kd) (I : HI) (J : HJ) (R : HR) (Po : PO) : Prop :=
  ∀ (l : Launch) (D : va_G) (ad : Nat → Nat) (cA : Nat → ClassId) (sz : Nat), Met l m.1 (wsM m) (rmd d mc ms) (va_Pc (args.map (tr ad)) (fun U => U.heap.size = sz ∧ va_P D vwCl (enc ad cA sh I J R) U.heap ∧ KK D cA sh U ∧ NN U ∧ va_D (fun _ => True) (enc ad cA sh I J R))) (QM al sh.length D (va_A (enc ad cA sh I J R) sz) ad cA Po) mc ms (va_A (enc ad cA sh I J R) sz)
theorem Mt.of {m : MD} {d mc ms : Nat} {al : Bool} {args : List Value} {sh : List Kd} {I : HI} {J : HJ} {R : HR} {Po : PO} {L : LO} (hy : plainName m.1.cls = true) (hn : (lg_sl args).length ≤ m.2.2.1) (hL : L0 m.2.2.1 args = L)
    (K : Wm m (TM d mc ms al sh.length Po) 0 0 sh 0 L [] I J R) : Mt m d mc ms al args sh I J R Po := by
  subst hL
  intro l D ad cA sz
  refine Met.ofW (cc := m.2.1) (maxL := m.2.2.1) (ret := m.2.2.2) hy rfl ?_
  intro p e s mid args' below meth c s₁ B hml hv
  obtain ⟨rfl, hsz, hP, hK, hN, hD0⟩ := hv
  subst hsz
  have hts := atoms_spec (ws := wsM m) B.pre
  have hD := hD0.self (sz := s.heap.size)
  have hl := lv_entry (args.map (tr ad)) (n := m.2.2.1) (by rw [sl_len]; exact hn)
  rw [lg_entry_eq]
  generalize (lg_sl (args.map (tr ad)) ++ List.replicate (m.2.2.1 - (lg_sl (args.map (tr ad))).length) Slot.unset).toArray = ls at hl ⊢
  refine K p l e s mid _ below meth c D (va_A (enc ad cA sh I J R) s.heap.size) ad cA ad cA s.heap [] ls ⟨⟨B.exec, B.bytes, B.returns, hml, findClass_of_methodNamed B.named, fun w h => hts w (List.mem_cons_of_mem _ h), B.notSynchronized, fun h => (name_of_methodNamed B.named B.method).1.trans h, hN⟩, fun q h => Or.inr h, ?_, hK, hP, hD, va_S.rf, hl.1, hl.2.1, fun i v hi => ?_⟩
  · show Ag al sh.length ad cA ad cA
    cases al with
    | false => exact ⟨rfl, rfl⟩
    | true => exact fun _ _ => ⟨rfl, rfl⟩
  · unfold L0 at hi
    have h2 : (entA args)[i]? = some (some v) := by
      by_cases h : i < (entA args).length
      · rwa [List.getElem?_append_left h] at hi
      · rw [List.getElem?_append_right (by omega)] at hi
        have := List.mem_of_getElem? hi
        simp at this
    have := entA_at ad args 0 i v h2
    rw [Nat.zero_add] at this
    exact hl.2.2 _ this
section MCALLS
variable {m : MD} {T : Tg} {cells slots : Nat} {sh : List Kd} {pc : Nat} {L : LO} {st : List Value} {I : HI} {J : HJ} {R : HR}
variable {d mc ms n0 : Nat} {al : Bool} {Po : PO}
theorem q_iret {v : Int32} (hr : m.2.2.2 = some .int) (hd : decode m.2.1 pc = .ok (.ireturn, 1)) (hP0 : Po sh (some (.int v)) I J R) : Wm m (TM d mc ms al n0 Po) mc ms sh pc L [.int v] I J R := by
  intro p l e s mid args below meth c D A ad0 cA0 ad cA H locs ls S
  obtain ⟨C, hA, hT, hK, hP, hD, hS, hl⟩ := S
  exact W.iret C.1 C.2.1 (C.2.2.1.trans hr) (fun t ht hW => ⟨⟨some (.int v), sh, I, J, R, ad, cA, rfl, hT, hP0, KK.moved hW.alike hK, by rw [ht]; exact hP, hD⟩, hS.F ht⟩) hS.2.2 hd C.2.2.2.2.2.2.1
theorem q_zret {v : Int32} (hr : m.2.2.2 = some .boolean) (hd : decode m.2.1 pc = .ok (.ireturn, 1)) (hv : v = 0 ∨ v = 1) (hP0 : Po sh (some (.int v)) I J R) : Wm m (TM d mc ms al n0 Po) mc ms sh pc L [.int v] I J R := by
  intro p l e s mid args below meth c D A ad0 cA0 ad cA H locs ls S
  obtain ⟨C, hA, hT, hK, hP, hD, hS, hl⟩ := S
  exact W.zret C.1 C.2.1 (C.2.2.1.trans hr) (by rcases hv with rfl | rfl <;> rfl) (fun t ht hW => ⟨⟨some (.int v), sh, I, J, R, ad, cA, rfl, hT, hP0, KK.moved hW.alike hK, by rw [ht]; exact hP, hD⟩, hS.F ht⟩) hS.2.2 hd C.2.2.2.2.2.2.1
theorem q_lret {v : Int64} (hr : m.2.2.2 = some .long) (hd : decode m.2.1 pc = .ok (.lreturn, 1)) (hP0 : Po sh (some (.long v)) I J R) : Wm m (TM d mc ms al n0 Po) mc ms sh pc L [.long v] I J R := by
  intro p l e s mid args below meth c D A ad0 cA0 ad cA H locs ls S
  obtain ⟨C, hA, hT, hK, hP, hD, hS, hl⟩ := S
  exact W.lret C.1 C.2.1 (C.2.2.1.trans hr) (fun t ht hW => ⟨⟨some (.long v), sh, I, J, R, ad, cA, rfl, hT, hP0, KK.moved hW.alike hK, by rw [ht]; exact hP, hD⟩, hS.F ht⟩) hS.2.2 hd C.2.2.2.2.2.2.1
theorem q_aret {v : Nat} {cn : String} (hr : m.2.2.2 = some (.object cn)) (hd : decode m.2.1 pc = .ok (.areturn, 1)) (hP0 : Po sh (some (.ref v)) I J R) : Wm m (TM d mc ms al n0 Po) mc ms sh pc L [.ref v] I J R := by
  intro p l e s mid args below meth c D A ad0 cA0 ad cA H locs ls S
  obtain ⟨C, hA, hT, hK, hP, hD, hS, hl⟩ := S
  exact W.aret (v := .ref (ad v)) C.1 C.2.1 (C.2.2.1.trans hr) (Or.inl ⟨cn, rfl⟩) (Or.inr ⟨_, rfl⟩) (fun t ht hW => ⟨⟨some (.ref v), sh, I, J, R, ad, cA, rfl, hT, hP0, KK.moved hW.alike hK, by rw [ht]; exact hP, hD⟩, hS.F ht⟩) hS.2.2 hd C.2.2.2.2.2.2.1
theorem q_vret (hr : m.2.2.2 = none) (hd : decode m.2.1 pc = .ok (.return_, 1)) (hP0 : Po sh none I J R) : Wm m (TM d mc ms al n0 Po) mc ms sh pc L [] I J R := by
  intro p l e s mid args below meth c D A ad0 cA0 ad cA H locs ls S
  obtain ⟨C, hA, hT, hK, hP, hD, hS, hl⟩ := S
  exact W.vret C.1 C.2.1 (C.2.2.1.trans hr) (fun t ht hW => ⟨⟨none, sh, I, J, R, ad, cA, rfl, hT, hP0, KK.moved hW.alike hK, by rw [ht]; exact hP, hD⟩, hS.F ht⟩) hS.2.2 hd C.2.2.2.2.2.2.1
/-- behind a call, whatever it answers -/
theorem W_call {p : Program} {l : Launch} {e : Env} {RR : Room} {s : State} {mid : MethodId} {args : Array Value} {below : List Frame} {meth : Method} {c : Code} {H : Heap} {locs : List Loc} {Q : State → Prop} {D : va_G} {cA : Nat → ClassId} {ad : Nat → Nat} {ls : Array Slot} {rest st0 : List Value} {a : Array Value} {A0 A1 free : Nat → Prop} {H0 : Heap} {k : Nat}
    (hr : va_Run p l e RR s mid args below meth c H locs cells slots mc ms (F0 mid pc ls st0) rest (QM al k D A1 ad cA Po a) free) (hS : va_S A0 H0 H locs) (hA : ∀ q, q < H.size → A1 q → A0 q) (hf : ∀ q, free q → A0 q)
    (kk : ∀ (v : Option Value) (sh' : List Kd) (I' : HI) (J' : HJ) (R' : HR) (ad' : Nat → Nat) (cA' : Nat → ClassId) (t : State) (H1 : Heap) (locs1 : List Loc), t.heap = H1 → s.vm.Alike t.vm → Ag al k ad cA ad' cA' → Po sh' v I' J' R' → KK D cA' sh' t → va_P D vwCl (enc ad' cA' sh' I' J' R') H1 → va_D A1 (enc ad' cA' sh' I' J' R') → va_S A0 H0 H1 locs1 → W p l e RR s mid args below meth c H1 locs1 (cells + mc) (slots + ms) Q (F0 mid (pc + 3) ls ((v.map (tr ad')).toList ++ rest))) : W p l e RR s mid args below meth c H locs cells slots Q (F0 mid pc ls st0) := by
  intro T hT X
  obtain ⟨v, st₀, t, T', Ls, h0, X', hL, e1, e2, ⟨⟨w, sh', I', J', R', ad', cA', hv, hg, hp, hk, hpp, hdd⟩, hz, hkk⟩, stp⟩ := hr T hT X
  cases hv
  rw [h0] at hz hkk
  obtain ⟨t2, a1, b1⟩ := kk w sh' I' J' R' ad' cA' t T'.heap (locs ++ Ls) e1.symm (by rw [← e2]; exact X'.warmed.alike) hg hp hk (by rw [e1]; exact hpp) hdd
    ⟨Nat.le_trans hS.1 (by rw [e1]; exact hz), fun q h1 h2 => by rw [e1, hkk q (Nat.lt_of_lt_of_le h1 hS.1) (fun z => h2 (hA q (Nat.lt_of_lt_of_le h1 hS.1) z))]; exact hS.2.1 q h1 h2, fun q hq => by
      rcases List.mem_append.mp hq with h | h
      · exact hS.2.2 q h
      · exact hf _ (hL q h)⟩ T' rfl X'
  exact ⟨t2, stp t2 a1, b1⟩
theorem enc_free {ad : Nat → Nat} {cA : Nat → ClassId} {A : Nat → Prop} {H0 H : Heap} {locs : List Loc} (hD : va_D A (enc ad cA sh I J R)) (hS : va_S A H0 H locs) (hA : ∀ q, H0.size ≤ q → A q) : ∀ q, va_A (enc ad cA sh I J R) H.size q → A q := by
  intro q h
  rcases h with ⟨k, e, h⟩ | h
  · exact hD.2 k _ h
  · exact hA q (Nat.le_trans hS.1 h)
/-- a callee, as its words have it: f says how it is called (0 virtual, 1 static, 2 constructor), n its arguments -/
def MF (y : MD) (f ci n : Nat) : Prop := y.2.2.1 ≤ 12 ∧ Cond.initialized y.1.cls ∈ ALLW ∧ Cond.code y.1 y.2.1 y.2.2.1 y.2.2.2 ∈ ALLW ∧ (y.1.cls ≠ "java/lang/invoke/MethodHandle" ∧ y.1.cls ≠ "java/lang/invoke/VarHandle") ∧ (parseMethodDescriptor y.1.desc).map (fun d => d.parameters.length) = some n ∧
  (match f with
  | 0 => ci < 8 ∧ RC ci = y.1.cls ∧ Cond.instanceMethod y.1 ∈ ALLW ∧ Cond.selects y.1.cls y.1 y.1 ∈ ALLW
  | 1 => Cond.static y.1 ∈ ALLW
  | _ => y.1.name = "<init>" ∧ y.2.2.2 = none ∧ Cond.instanceMethod y.1 ∈ ALLW)
def ML (own : String) (idx : Nat) (y : MD) : Prop := Cond.methodLink own idx y.1 ∈ ALLW ∨ ∃ host, Cond.methodLinkNest own idx y.1 host ∈ nestW
theorem wsM_warm {y : MD} {s : State} {args : Array Value} (hts : ∀ w ∈ ALLW, w.before args s = true) (hc : Cond.code y.1 y.2.1 y.2.2.1 y.2.2.2 ∈ ALLW) : ∀ w ∈ wsM y, ∀ (a' : Array Value) (U : State), s.WarmedH U.vm → w.before a' U = true := by
  intro w hw a' U hW
  have hw2 : w ∈ ALLW := by
    rcases List.mem_cons.mp hw with rfl | h
    · exact hc
    · exact h
  exact word_at hW (good_of_word (ALLW_good hw2)) (hts w hw2)
theorem callB_mini {y : MD} {RR : Room} {s : State} {args : Array Value} {own : String} {idx f ci n dd kc ks : Nat} (hts : ∀ w ∈ ALLW, w.before args s = true) (hm : MF y f ci n) (hl : Cond.methodLink own idx y.1 ∈ ALLW) (hR : dd + 1 ≤ RR.frames ∧ 31 * (dd + 1) ≤ RR.locals) :
    CallB RR s args own idx y.1 y.2.1 y.2.2.1 y.2.2.2 (wsM y) (rmd dd kc ks) kc ks n := by
  obtain ⟨h1, h2, h3, h4, h5, -⟩ := hm
  refine ⟨rfl, rfl, hR.1, ?_, wsM_warm hts h3, List.mem_cons_self, hts _ h3, hts _ h2, h4, fun sig h => ?_, hts _ hl⟩
  · show 8 + (y.2.2.1 + 11) + 31 * dd ≤ RR.locals
    omega
  · rw [h] at h5
    exact (Option.some.inj h5).symm
theorem callN_mini {y : MD} {RR : Room} {s : State} {args : Array Value} {own host : String} {idx f ci n dd kc ks : Nat} (hts : ∀ w ∈ ALLW, w.before args s = true) (hN : NN s) (hm : MF y f ci n) (hl : Cond.methodLinkNest own idx y.1 host ∈ nestW) (hR : dd + 1 ≤ RR.frames ∧ 31 * (dd + 1) ≤ RR.locals) :
    va_CN RR s args own idx y.1 host y.2.1 y.2.2.1 y.2.2.2 (wsM y) (rmd dd kc ks) kc ks n := by
  obtain ⟨h1, h2, h3, h4, h5, -⟩ := hm
  refine ⟨⟨rfl, rfl, hR.1, ?_, wsM_warm hts h3, List.mem_cons_self⟩, hts _ h3, hts _ h2, h4, fun sig h => ?_, va_Nw.use rfl (hN _ hl)⟩
  · show 8 + (y.2.2.1 + 11) + 31 * dd ≤ RR.locals
    omega
  · rw [h] at h5
    exact (Option.some.inj h5).symm
theorem blind_mini {av : List Value} {D : va_G} {ad : Nat → Nat} {cA : Nat → ClassId} {sz : Nat} : FrameBlind (va_Pc av (fun U => U.heap.size = sz ∧ va_P D vwCl (enc ad cA sh I J R) U.heap ∧ KK D cA sh U ∧ NN U ∧ va_D (fun _ => True) (enc ad cA sh I J R))) :=
  fun a U g mk q => ⟨q.1, q.2.1, q.2.2.1, KK.moved (u := U) (U := U.calling g mk a) (Vm.Alike.refl U.vm) q.2.2.2.1, NN.same (u := U) (U := U.calling g mk a) rfl q.2.2.2.2.1, q.2.2.2.2.2⟩
theorem pre_mini {av : List Value} {D : va_G} {ad : Nat → Nat} {cA : Nat → ClassId} {H : Heap} {s : State} {A : Nat → Prop} (hK : KK D cA sh s) (hN : NN s) (hP : va_P D vwCl (enc ad cA sh I J R) H) (hD : va_D A (enc ad cA sh I J R)) : ∀ U : State, U.heap = H → s.WarmedH U.vm → va_Pc av (fun U => U.heap.size = H.size ∧ va_P D vwCl (enc ad cA sh I J R) U.heap ∧ KK D cA sh U ∧ NN U ∧ va_D (fun _ => True) (enc ad cA sh I J R)) av.toArray U :=
  fun U hU hW => ⟨rfl, by rw [hU], by rw [hU]; exact hP, KK.moved hW.alike hK, NN.warm hW hN, hD.weaken (fun _ _ _ _ => trivial)⟩
/-- a call of the small layer, as the machine's run -/
def MRun (m : MD) (T : Tg) (cells slots : Nat) (sh : List Kd) (pc : Nat) (st0 rest : List Value) (I : HI) (J : HJ) (R : HR) (mc ms : Nat) (al : Bool) (Po : PO) : Prop :=
  ∀ (p : Program) (l : Launch) (e : Env) (s : State) (mid : MethodId) (args : Array Value) (below : List Frame) (meth : Method) (c : Code) (D : va_G) (A : Nat → Prop) (ad : Nat → Nat) (cA : Nat → ClassId) (H : Heap) (locs : List Loc) (ls : Array Slot),
    Cx m p s mid args meth c → KK D cA sh s → va_P D vwCl (enc ad cA sh I J R) H → va_D A (enc ad cA sh I J R) → ls.size = m.2.2.1 → ∃ a : Array Value, va_Run p l e T.1 s mid args below meth c H locs cells slots mc ms (F0 mid pc ls (st0.map (tr ad))) (rest.map (tr ad)) (QM al sh.length D (va_A (enc ad cA sh I J R) H.size) ad cA Po a) (va_A (enc ad cA sh I J R) H.size)
theorem lv_roomM {ad : Nat → Nat} {mid : MethodId} {ls : Array Slot} {st0 rest : List Value} (h : (rest.map fun v => v.category).sum ≤ 8) : 2 * (F0 mid pc ls st0).monitorRoom + ((rest.map (tr ad)).map fun v => v.category).sum ≤ 8 := by
  refine lv_room ?_
  rw [List.map_map]
  have : (Value.category ∘ tr ad) = Value.category := funext (fun v => tr_cat ad v)
  show (List.map (Value.category ∘ tr ad) rest).sum ≤ 8
  rw [this]
  exact h
theorem run_V {y : MD} {idx ci n dd pl : Nat} {As rest : List Value} (hd : decode m.2.1 pc = .ok (.invokevirtual idx, 3)) (hl : ML m.1.cls idx y) (hm : MF y 0 ci n) (hs : sh[pl]? = some (.inl ci)) (hn : As.length = n) (hr : (rest.map fun v => v.category).sum ≤ 8) (hR : dd + 1 ≤ T.1.frames ∧ 31 * (dd + 1) ≤ T.1.locals) (hf : cells + mc ≤ T.1.cells ∧ slots + ms ≤ T.1.slots)
    (hM : Mt y dd mc ms al (.ref pl :: As) sh I J R Po) : MRun m T cells slots sh pc (As.reverse ++ .ref pl :: rest) rest I J R mc ms al Po := by
  intro p l e s mid args below meth c D A ad cA H locs ls C hK hP hD hsz
  have hc8 := hm.2.2.2.2.2.1
  have hrec := va_recv hK.1 hP (vwAt hc8) (enc_at hs)
  have hcl : (RC ci, TC ci, nC ci).1 = y.1.cls := hm.2.2.2.2.2.2.1
  rw [hcl] at hrec
  have hpre : PreV s H y.1.cls (ad pl) (va_Pc ((.ref pl :: As).map (tr ad)) (fun U => U.heap.size = H.size ∧ va_P D vwCl (enc ad cA sh I J R) U.heap ∧ KK D cA sh U ∧ NN U ∧ va_D (fun _ => True) (enc ad cA sh I J R))) (As.map (tr ad)) := ⟨blind_mini, hrec, pre_mini hK C.2.2.2.2.2.2.2.2 hP hD⟩
  have hst : (As.reverse ++ .ref pl :: rest).map (tr ad) = (As.map (tr ad)).reverse ++ .ref (ad pl) :: rest.map (tr ad) := by
    rw [List.map_append, List.map_reverse, List.map_cons]
    rfl
  rw [hst]
  rcases hl with hl | ⟨host, hl⟩
  · exact ⟨_, va_runV (g := F0 mid pc ls _) ⟨C.1, C.2.1, C.2.2.2.1, C.2.2.2.2.1, C.2.2.2.2.2.1⟩ (hM l D ad cA H.size) ⟨callB_mini C.2.2.2.2.2.1 hm hl hR, C.2.2.2.2.2.1 _ hm.2.2.2.2.2.2.2.1, C.2.2.2.2.2.1 _ hm.2.2.2.2.2.2.2.2⟩ hpre rfl (by rw [List.length_map]; exact hn) hsz rfl (lv_roomM hr) hd hf⟩
  · exact ⟨_, va_runVN (g := F0 mid pc ls _) ⟨C.1, C.2.1, C.2.2.2.1, C.2.2.2.2.1, C.2.2.2.2.2.1⟩ (hM l D ad cA H.size) ⟨callN_mini C.2.2.2.2.2.1 C.2.2.2.2.2.2.2.2 hm hl hR, C.2.2.2.2.2.1 _ hm.2.2.2.2.2.2.2.1, C.2.2.2.2.2.1 _ hm.2.2.2.2.2.2.2.2⟩ hpre rfl (by rw [List.length_map]; exact hn) hsz rfl (lv_roomM hr) hd hf⟩
theorem run_S {y : MD} {idx ci n dd : Nat} {As rest : List Value} (hd : decode m.2.1 pc = .ok (.invokestatic idx, 3)) (hl : ML m.1.cls idx y) (hm : MF y 1 ci n) (hn : As.length = n) (hr : (rest.map fun v => v.category).sum ≤ 8) (hR : dd + 1 ≤ T.1.frames ∧ 31 * (dd + 1) ≤ T.1.locals) (hf : cells + mc ≤ T.1.cells ∧ slots + ms ≤ T.1.slots)
    (hM : Mt y dd mc ms al As sh I J R Po) : MRun m T cells slots sh pc (As.reverse ++ rest) rest I J R mc ms al Po := by
  intro p l e s mid args below meth c D A ad cA H locs ls C hK hP hD hsz
  have hpre : PreS s H (va_Pc (As.map (tr ad)) (fun U => U.heap.size = H.size ∧ va_P D vwCl (enc ad cA sh I J R) U.heap ∧ KK D cA sh U ∧ NN U ∧ va_D (fun _ => True) (enc ad cA sh I J R))) (As.map (tr ad)) := ⟨blind_mini, pre_mini hK C.2.2.2.2.2.2.2.2 hP hD⟩
  have hst : (As.reverse ++ rest).map (tr ad) = (As.map (tr ad)).reverse ++ rest.map (tr ad) := by
    rw [List.map_append, List.map_reverse]
  rw [hst]
  rcases hl with hl | ⟨host, hl⟩
  · exact ⟨_, va_runS (g := F0 mid pc ls _) ⟨C.1, C.2.1, C.2.2.2.1, C.2.2.2.2.1, C.2.2.2.2.2.1⟩ (hM l D ad cA H.size) ⟨callB_mini C.2.2.2.2.2.1 hm hl hR, C.2.2.2.2.2.1 _ hm.2.2.2.2.2⟩ hpre rfl (by rw [List.length_map]; exact hn) hsz rfl (lv_roomM hr) hd hf⟩
  · exact ⟨_, va_runSN (g := F0 mid pc ls _) ⟨C.1, C.2.1, C.2.2.2.1, C.2.2.2.2.1, C.2.2.2.2.2.1⟩ (hM l D ad cA H.size) ⟨callN_mini C.2.2.2.2.2.1 C.2.2.2.2.2.2.2.2 hm hl hR, C.2.2.2.2.2.1 _ hm.2.2.2.2.2, trivial⟩ hpre rfl (by rw [List.length_map]; exact hn) hsz rfl (lv_roomM hr) hd hf⟩
theorem run_I {y : MD} {idx ci n dd pl : Nat} {As rest : List Value} (hd : decode m.2.1 pc = .ok (.invokespecial idx, 3)) (hl : ML m.1.cls idx y) (hm : MF y 2 ci n) (hn : As.length = n) (hr : (rest.map fun v => v.category).sum ≤ 8) (hR : dd + 1 ≤ T.1.frames ∧ 31 * (dd + 1) ≤ T.1.locals) (hf : cells + mc ≤ T.1.cells ∧ slots + ms ≤ T.1.slots)
    (hM : Mt y dd mc ms al (.ref pl :: As) sh I J R Po) : MRun m T cells slots sh pc (As.reverse ++ .ref pl :: rest) rest I J R mc ms al Po := by
  intro p l e s mid args below meth c D A ad cA H locs ls C hK hP hD hsz
  have hpre : PreS s H (va_Pc ((.ref pl :: As).map (tr ad)) (fun U => U.heap.size = H.size ∧ va_P D vwCl (enc ad cA sh I J R) U.heap ∧ KK D cA sh U ∧ NN U ∧ va_D (fun _ => True) (enc ad cA sh I J R))) (.ref (ad pl) :: As.map (tr ad)) := ⟨blind_mini, pre_mini hK C.2.2.2.2.2.2.2.2 hP hD⟩
  have hst : (As.reverse ++ .ref pl :: rest).map (tr ad) = (As.map (tr ad)).reverse ++ .ref (ad pl) :: rest.map (tr ad) := by
    rw [List.map_append, List.map_reverse, List.map_cons]
    rfl
  rw [hst]
  have hret := hm.2.2.2.2.2.2.1
  rcases hl with hl | ⟨host, hl⟩
  · have cb := callB_mini (kc := mc) (ks := ms) (dd := dd) (n := n) C.2.2.2.2.2.1 hm hl hR
    rw [hret] at cb
    exact ⟨_, va_runI (g := F0 mid pc ls _) ⟨C.1, C.2.1, C.2.2.2.1, C.2.2.2.2.1, C.2.2.2.2.2.1⟩ (hM l D ad cA H.size) ⟨cb, hm.2.2.2.2.2.1, C.2.2.2.2.2.1 _ hm.2.2.2.2.2.2.2⟩ hpre rfl (by rw [List.length_map]; exact hn) hsz rfl (lv_roomM hr) hd hf⟩
  · have cb := callN_mini (kc := mc) (ks := ms) (dd := dd) (n := n) C.2.2.2.2.2.1 C.2.2.2.2.2.2.2.2 hm hl hR
    rw [hret] at cb
    exact ⟨_, va_runIN (g := F0 mid pc ls _) ⟨C.1, C.2.1, C.2.2.2.1, C.2.2.2.2.1, C.2.2.2.2.2.1⟩ (hM l D ad cA H.size) ⟨cb, hm.2.2.2.2.2.1, C.2.2.2.2.2.1 _ hm.2.2.2.2.2.2.2⟩ hpre rfl (by rw [List.length_map]; exact hn) hsz rfl (lv_roomM hr) hd hf⟩
/-- behind a call that makes nothing -/
theorem q_after {st0 rest : List Value} {q : Nat} (hq : pc + 3 = q) (hr : MRun m T cells slots sh pc st0 rest I J R 0 0 false (fun sh' v I' J' R' => sh' = sh ∧ Po sh v I' J' R'))
    (K : ∀ (v : Option Value) (I' : HI) (J' : HJ) (R' : HR), Po sh v I' J' R' → Wm m T cells slots sh q L (v.toList ++ rest) I' J' R') : Wm m T cells slots sh pc L st0 I J R := by
  subst hq
  intro p l e s mid args below meth c D A ad0 cA0 ad cA H locs ls S
  obtain ⟨C, hA, hT, hK, hP, hD, hS, hl⟩ := S
  obtain ⟨a, hrun⟩ := hr p l e s mid args below meth c D A ad cA H locs ls C hK hP hD hl.1
  have hF := enc_free hD hS hA
  refine W_call hrun hS (fun q _ h => hF q h) hF (fun v sh' I' J' R' ad' cA' t H1 locs1 ht hvm hg hp hk hpp hdd hS1 => ?_)
  obtain ⟨rfl, rfl⟩ := hg
  obtain ⟨rfl, hp⟩ := hp
  have := K v I' J' R' hp p l e s mid args below meth c D A ad0 cA0 ad' cA' H1 locs1 ls ⟨C, hA, hT, hK, hpp, hdd.weaken (fun _ q _ h => hF q.1 h), hS1, hl⟩
  rw [List.map_append] at this
  cases v <;> exact this
/-- behind a call that makes cells: what was there keeps its place -/
def Tx (T : Tg) (n : Nat) : Prop := ∀ (s : State) (args : Array Value) (A : Nat → Prop) (ad0 : Nat → Nat) (cA0 : Nat → ClassId) (ad : Nat → Nat) (cA : Nat → ClassId) (ad' : Nat → Nat) (cA' : Nat → ClassId), T.2.2 s args A ad0 cA0 ad cA → (∀ p, (p < n ∨ SCR ≤ p) → ad' p = ad p ∧ cA' p = cA p) → T.2.2 s args A ad0 cA0 ad' cA'
theorem Tx.of {n : Nat} (h : n0 ≤ n) : Tx (TM d mc ms true n0 Po) n := by
  intro s args A ad0 cA0 ad cA ad' cA' h1 h2 p hp
  have e1 := h1 p hp
  have e2 := h2 p (by omega)
  exact ⟨e2.1.trans e1.1, e2.2.trans e1.2⟩
def scV (n : Nat) (v : Value) : Prop := match v with
  | .ref p => p < n ∨ SCR ≤ p
  | _ => True
def scL (n : Nat) (L : LO) : Prop := ∀ v, some v ∈ L → scV n v
def scS (n : Nat) (st : List Value) : Prop := ∀ v, v ∈ st → scV n v
def scR (n : Nat) (R : HR) : Prop := ∀ p k r, R p k = some r → r < n
theorem tr_ag {n : Nat} {ad ad' : Nat → Nat} {v : Value} (h : ∀ p, (p < n ∨ SCR ≤ p) → ad' p = ad p) (hv : scV n v) : tr ad' v = tr ad v := by
  cases v <;> first | rfl | (simp only [tr]; rw [h _ hv])
theorem map_ag {n : Nat} {ad ad' : Nat → Nat} {st : List Value} (h : ∀ p, (p < n ∨ SCR ≤ p) → ad' p = ad p) (hv : scS n st) : st.map (tr ad') = st.map (tr ad) := List.map_congr_left (fun v hm => tr_ag h (hv v hm))
theorem lo_ag {n nl : Nat} {ad ad' : Nat → Nat} {ls : Array Slot} (h : ∀ p, (p < n ∨ SCR ≤ p) → ad' p = ad p) (hv : scL n L) (hl : lo ad ls nl L) : lo ad' ls nl L := ⟨hl.1, hl.2.1, fun i v hi => by
  rw [tr_ag h (hv v (List.mem_of_getElem? hi))]
  exact hl.2.2 i v hi⟩
theorem q_afterA {st0 rest : List Value} {q : Nat} (hq : pc + 3 = q) (hr : MRun m T cells slots sh pc st0 rest I J R mc ms true Po) (hx : Tx T sh.length) (hL : scL sh.length L) (hst : scS sh.length rest)
    (K : ∀ (sh' : List Kd) (I' : HI) (J' : HJ) (R' : HR), Po sh' none I' J' R' → Wm m T (cells + mc) (slots + ms) sh' q L rest I' J' R') (hv : ∀ sh' v I' J' R', Po sh' v I' J' R' → v = none) : Wm m T cells slots sh pc L st0 I J R := by
  subst hq
  intro p l e s mid args below meth c D A ad0 cA0 ad cA H locs ls S
  obtain ⟨C, hA, hT, hK, hP, hD, hS, hl⟩ := S
  obtain ⟨a, hrun⟩ := hr p l e s mid args below meth c D A ad cA H locs ls C hK hP hD hl.1
  have hF := enc_free hD hS hA
  refine W_call hrun hS (fun q _ h => hF q h) hF (fun v sh' I' J' R' ad' cA' t H1 locs1 ht hvm hg hp hk hpp hdd hS1 => ?_)
  have hg : ∀ p, (p < sh.length ∨ SCR ≤ p) → ad' p = ad p ∧ cA' p = cA p := hg
  have hv0 := hv _ _ _ _ _ hp
  subst hv0
  have := K sh' I' J' R' hp p l e s mid args below meth c D A ad0 cA0 ad' cA' H1 locs1 ls ⟨C, hA, hx _ _ _ _ _ _ _ _ _ hT hg, KK.moved hvm.symm hk, hpp, hdd.weaken (fun _ q _ h => hF q.1 h), hS1, lo_ag (fun p h => (hg p h).1) hL hl⟩
  rw [map_ag (fun p h => (hg p h).1) hst] at this
  exact this
theorem TM_room {dd : Nat} : dd + 1 ≤ (TM (dd + 1) mc ms al n0 Po).1.frames ∧ 31 * (dd + 1) ≤ (TM (dd + 1) mc ms al n0 Po).1.locals := ⟨Nat.le_refl _, Nat.le_refl _⟩
theorem q_max {x y : Int32} {idx q : Nat} (hd : decode m.2.1 pc = .ok (.invokestatic idx, 3)) (hq : pc + 3 = q) (hlk : Cond.methodLink m.1.cls idx Lib.Math.max.name ∈ ALLW) (hf : Cond.static Lib.Math.max.name ∈ ALLW ∧ Cond.initialized "java/lang/Math" ∈ ALLW ∧ Cond.code Lib.Math.max.name Lib.Math.max.code 2 (some .int) ∈ ALLW) (hr : (st.map fun v => v.category).sum ≤ 8) (hR : 1 ≤ T.1.frames ∧ 21 ≤ T.1.locals ∧ cells ≤ T.1.cells ∧ slots ≤ T.1.slots) (K : Wm m T cells slots sh q L (.int (if x < y then y else x) :: st) I J R) : Wm m T cells slots sh pc L (.int y :: .int x :: st) I J R := by
  subst hq
  intro p l e s mid args below meth c D A ad0 cA0 ad cA H locs ls S
  obtain ⟨C, hA, hT, hK, hP, hD, hS, hl⟩ := S
  refine va_mmax C.1 C.2.1 (C.2.2.2.1.trans hl.1.symm) C.2.2.2.2.1 (C.2.2.2.2.2.1 _ hlk) (C.2.2.2.2.2.1 _ hf.1) (C.2.2.2.2.2.1 _ hf.2.1) (C.2.2.2.2.2.1 _ hf.2.2) hR.1 ?_ hR.2.2.1 hR.2.2.2 hd (K p l e s mid args below meth c D A ad0 cA0 ad cA H locs ls ⟨C, hA, hT, hK, hP, hD, hS, hl⟩)
  have := lv_roomM (ad := ad) (mid := mid) (ls := ls) (st0 := []) (pc := pc) hr
  have h2 := hR.2.1
  omega
theorem q_min {x y : Int32} {idx q : Nat} (hd : decode m.2.1 pc = .ok (.invokestatic idx, 3)) (hq : pc + 3 = q) (hlk : Cond.methodLink m.1.cls idx Lib.Math.min.name ∈ ALLW) (hf : Cond.static Lib.Math.min.name ∈ ALLW ∧ Cond.initialized "java/lang/Math" ∈ ALLW ∧ Cond.code Lib.Math.min.name Lib.Math.min.code 2 (some .int) ∈ ALLW) (hr : (st.map fun v => v.category).sum ≤ 8) (hR : 1 ≤ T.1.frames ∧ 21 ≤ T.1.locals ∧ cells ≤ T.1.cells ∧ slots ≤ T.1.slots) (K : Wm m T cells slots sh q L (.int (if y < x then y else x) :: st) I J R) : Wm m T cells slots sh pc L (.int y :: .int x :: st) I J R := by
  subst hq
  intro p l e s mid args below meth c D A ad0 cA0 ad cA H locs ls S
  obtain ⟨C, hA, hT, hK, hP, hD, hS, hl⟩ := S
  refine va_mmin C.1 C.2.1 (C.2.2.2.1.trans hl.1.symm) C.2.2.2.2.1 (C.2.2.2.2.2.1 _ hlk) (C.2.2.2.2.2.1 _ hf.1) (C.2.2.2.2.2.1 _ hf.2.1) (C.2.2.2.2.2.1 _ hf.2.2) hR.1 ?_ hR.2.2.1 hR.2.2.2 hd (K p l e s mid args below meth c D A ad0 cA0 ad cA H locs ls ⟨C, hA, hT, hK, hP, hD, hS, hl⟩)
  have := lv_roomM (ad := ad) (mid := mid) (ls := ls) (st0 := []) (pc := pc) hr
  have h2 := hR.2.1
  omega
theorem q_abs {x : Int32} {idx q : Nat} (hd : decode m.2.1 pc = .ok (.invokestatic idx, 3)) (hq : pc + 3 = q) (hlk : Cond.methodLink m.1.cls idx Lib.Math.abs.name ∈ ALLW) (hf : Cond.static Lib.Math.abs.name ∈ ALLW ∧ Cond.initialized "java/lang/Math" ∈ ALLW ∧ Cond.code Lib.Math.abs.name Lib.Math.abs.code 1 (some .int) ∈ ALLW) (hr : (st.map fun v => v.category).sum ≤ 8) (hR : 1 ≤ T.1.frames ∧ 21 ≤ T.1.locals ∧ cells ≤ T.1.cells ∧ slots ≤ T.1.slots) (K : Wm m T cells slots sh q L (.int (if 0 ≤ x then x else 0 - x) :: st) I J R) : Wm m T cells slots sh pc L (.int x :: st) I J R := by
  subst hq
  intro p l e s mid args below meth c D A ad0 cA0 ad cA H locs ls S
  obtain ⟨C, hA, hT, hK, hP, hD, hS, hl⟩ := S
  refine va_mabs C.1 C.2.1 (C.2.2.2.1.trans hl.1.symm) C.2.2.2.2.1 (C.2.2.2.2.2.1 _ hlk) (C.2.2.2.2.2.1 _ hf.1) (C.2.2.2.2.2.1 _ hf.2.1) (C.2.2.2.2.2.1 _ hf.2.2) hR.1 ?_ hR.2.2.1 hR.2.2.2 hd (K p l e s mid args below meth c D A ad0 cA0 ad cA H locs ls ⟨C, hA, hT, hK, hP, hD, hS, hl⟩)
  have := lv_roomM (ad := ad) (mid := mid) (ls := ls) (st0 := []) (pc := pc) hr
  have h2 := hR.2.1
  omega
theorem q_oinit {pl idx q : Nat} (hd : decode m.2.1 pc = .ok (.invokespecial idx, 3)) (hq : pc + 3 = q) (hlk : Cond.methodLink m.1.cls idx objectInit ∈ ALLW) (hf : Cond.instanceMethod objectInit ∈ ALLW ∧ Cond.code objectInit ⟨#[0xb1]⟩ 1 none ∈ ALLW) (hr : (st.map fun v => v.category).sum ≤ 8) (hR : 1 ≤ T.1.frames ∧ 21 ≤ T.1.locals) (K : Wm m T cells slots sh q L st I J R) : Wm m T cells slots sh pc L (.ref pl :: st) I J R := by
  subst hq
  intro p l e s mid args below meth c D A ad0 cA0 ad cA H locs ls S
  obtain ⟨C, hA, hT, hK, hP, hD, hS, hl⟩ := S
  refine W.objInit C.1 C.2.1 C.2.2.2.2.1 (C.2.2.2.2.2.1 _ hlk) (C.2.2.2.2.2.1 _ hf.1) (C.2.2.2.2.2.1 _ hf.2) rfl (hl.1.trans C.2.2.2.1.symm) rfl hd hR.1 ?_ (K p l e s mid args below meth c D A ad0 cA0 ad cA H locs ls ⟨C, hA, hT, hK, hP, hD, hS, hl⟩)
  have := lv_roomM (ad := ad) (mid := mid) (ls := ls) (st0 := List.map (tr ad) (Value.ref pl :: st)) (pc := pc) hr
  have h2 := hR.2
  omega
def zr {α : Type} (I : Nat → Nat → α) (n : Nat) (z : α) : Nat → Nat → α := fun a b => if a = n then z else I a b
theorem zr_same {α : Type} {I : Nat → Nat → α} {n : Nat} {z : α} : zr I n z n = fun _ => z := by
  funext b
  simp [zr]
theorem zr_ne {α : Type} {I : Nat → Nat → α} {n q : Nat} {z : α} (h : q ≠ n) : zr I n z q = I q := by
  funext b
  simp [zr, h]
theorem enc_push {ad : Nat → Nat} {cA : Nat → ClassId} {kd : Kd} {a : Nat} {cc : ClassId} (hR : ∀ p k r, p < sh.length → R p k = some r → r < sh.length) :
    enc (fun p => if p = sh.length then a else ad p) (fun p => if p = sh.length then cc else cA p) (sh ++ [kd]) (zr I sh.length 0) (zr J sh.length 0) (zr R sh.length none) = enc ad cA sh I J R ++ [(a, en ad (fun p => if p = sh.length then cc else cA p) (zr I sh.length 0) (zr J sh.length 0) (zr R sh.length none) sh.length kd)] := by
  unfold enc
  rw [List.mapIdx_append]
  congr 1
  · apply List.ext_getElem?
    intro q
    rw [List.getElem?_mapIdx, List.getElem?_mapIdx]
    cases hq : sh[q]? with
    | none => rfl
    | some kd' =>
      have hlt : q < sh.length := (List.getElem?_eq_some_iff.mp hq).1
      have hne : q ≠ sh.length := by omega
      simp only [Option.map_some, if_neg hne]
      refine congrArg (fun e => some (ad q, e)) ?_
      have hmap : ∀ k, (R q k).map (fun p => if p = sh.length then a else ad p) = (R q k).map ad := fun k => by
        cases hr : R q k with
        | none => rfl
        | some r =>
          have := hR q k r hlt hr
          simp [show r ≠ sh.length by omega]
      cases kd' with
      | inl ci =>
        simp only [en, fv, zr_ne hne, hmap]
      | inr tn =>
        simp only [en, acn, zr_ne hne, hmap, if_neg hne]
  · simp only [List.mapIdx_cons, List.mapIdx_nil, Nat.zero_add, if_true]
    refine congrArg (fun e => [(a, e)]) ?_
    cases kd with
    | inl ci => simp only [en, fv, zr_same]; rfl
    | inr tn => simp only [en, acn, zr_same]; rfl
theorem ag_push {ad : Nat → Nat} {cA : Nat → ClassId} {a : Nat} {cc : ClassId} {n : Nat} (hn : n < SCR) : ∀ p, (p < n ∨ SCR ≤ p) → (fun p => if p = n then a else ad p) p = ad p ∧ (fun p => if p = n then cc else cA p) p = cA p := by
  intro p h
  have : p ≠ n := by omega
  simp [this]
theorem KK_push {D : va_G} {cA : Nat → ClassId} {U : State} {kd : Kd} {cc : ClassId} (hK : KK D cA sh U) (h : ∀ t n, kd = .inr (t, n) → va_K D vwCl [(cc, t)] U) : KK D (fun p => if p = sh.length then cc else cA p) (sh ++ [kd]) U := by
  refine ⟨hK.1, fun p t n hp => ?_⟩
  by_cases hl : p < sh.length
  · rw [List.getElem?_append_left hl] at hp
    have := hK.2 p t n hp
    simp only [show p ≠ sh.length by omega, if_false]
    exact this
  · rw [List.getElem?_append_right (by omega)] at hp
    have hz : p - sh.length < 1 := (List.getElem?_eq_some_iff.mp hp).1
    have e : p = sh.length := by omega
    subst e
    rw [Nat.sub_self] at hp
    cases hp
    simp only [if_true]
    exact h t n rfl
theorem noFD {c k : Nat} (h : c < 8) (hk : k < nC c) : tyC c k ≠ .float ∧ tyC c k ≠ .double := by
  have key : ∀ c, c < 8 → ∀ k, k < nC c → tyC c k ≠ .float ∧ tyC c k ≠ .double := by decide +kernel
  exact key c h k hk
theorem q_new {ci idx q : Nat} (hd : decode m.2.1 pc = .ok (.new idx, 3)) (hq : pc + 3 = q) (hci : ci < 8) (hw : Cond.classLink m.1.cls idx (RC ci) ∈ ALLW ∧ Cond.instantiable (RC ci) (nC ci) ∈ ALLW ∧ Cond.initialized (RC ci) ∈ ALLW) (hx : Tx T sh.length) (hn : sh.length < SCR) (hL : scL sh.length L) (hst : scS sh.length st) (hR : ∀ p k r, p < sh.length → R p k = some r → r < sh.length) (hc : cells + 1 ≤ T.1.cells) (hsl : slots + nC ci ≤ T.1.slots)
    (K : Wm m T (cells + 1) (slots + nC ci) (sh ++ [.inl ci]) q L (.ref sh.length :: st) (zr I sh.length 0) (zr J sh.length 0) (zr R sh.length none)) : Wm m T cells slots sh pc L st I J R := by
  subst hq
  intro p l e s mid args below meth c D A ad0 cA0 ad cA H locs ls S
  obtain ⟨C, hA, hT, hK, hP, hD, hS, hl⟩ := S
  refine va_new (ci := ci) (fs := (List.range (nC ci)).map (fun k => fv ad (zr I sh.length 0) (zr J sh.length 0) (zr R sh.length none) sh.length k (tyC ci k))) (C := RC ci) (T := TC ci) (N := nC ci) C.1 C.2.1 C.2.2.2.2.2.1 (uAll hci) (tyC ci) (tyOK hci) C.2.2.2.2.1 (C.2.2.2.2.2.1 _ hw.1) (C.2.2.2.2.2.1 _ hw.2.1) (C.2.2.2.2.2.1 _ hw.2.2) hK.1 hP hD hS hA (vwAt hci) (fun j hj => ?_) hc hsl hd (fun a H1 hP1 hD1 hS1 => ?_)
  · show _ = ((List.range (nC ci)).map _).getD j Value.null
    rw [List.getD_eq_getElem?_getD, List.getElem?_map, List.getElem?_range hj]
    simp only [Option.map_some, Option.getD_some, fv, zr_same]
    have z := noFD hci hj
    revert z
    cases tyC ci j <;> intro z <;> first | rfl | exact absurd rfl z.1 | exact absurd rfl z.2
  · have e1 := enc_push (ad := ad) (cA := cA) (kd := .inl ci) (a := a) (cc := cA sh.length) (I := I) (J := J) hR
    have e2 : en ad (fun p => if p = sh.length then cA sh.length else cA p) (zr I sh.length 0) (zr J sh.length 0) (zr R sh.length none) sh.length (.inl ci) = .inr (ci, (List.range (nC ci)).map (fun k => fv ad (zr I sh.length 0) (zr J sh.length 0) (zr R sh.length none) sh.length k (tyC ci k))) := rfl
    rw [e2] at e1
    rw [← e1] at hP1 hD1
    have hg := ag_push (ad := ad) (cA := cA) (a := a) (cc := cA sh.length) hn
    have := K p l e s mid args below meth c D A ad0 cA0 _ _ H1 locs ls ⟨C, hA, hx _ _ _ _ _ _ _ _ _ hT hg, KK_push hK (fun t n h => by cases h), hP1, hD1, hS1, lo_ag (fun p h => (hg p h).1) hL hl⟩
    rw [List.map_cons, map_ag (fun p h => (hg p h).1) hst] at this
    have e3 : tr (fun p => if p = sh.length then a else ad p) (.ref sh.length) = .ref a := by simp [tr]
    rw [e3] at this
    exact this
theorem q_newa {at_ : ArrayType} {t : FieldType} {n : Int32} {k q : Nat} (hd : decode m.2.1 pc = .ok (.newarray at_, 2)) (hq : pc + 2 = q) (ht : newarray.typeOf at_ = t) (hw : Cond.arrayClass (newarray.typeOf at_) ∈ ALLW) (h0 : ¬ n < 0) (hk : n.toNatClampNeg = k) (hb : k * componentBytes t ≤ 536870912) (hz : ∀ (cA : ClassId) (p : Nat), vp_cell cA (acn (fun x => x) (fun _ _ => 0) (fun _ _ => 0) (fun _ _ => none) p k t) = arrV cA k (fun _ => defaultValue t)) (hx : Tx T sh.length) (hn : sh.length < SCR) (hL : scL sh.length L) (hst : scS sh.length st) (hR : ∀ p k r, p < sh.length → R p k = some r → r < sh.length) (hc : cells + 1 ≤ T.1.cells) (hsl : slots + k ≤ T.1.slots)
    (K : Wm m T (cells + 1) (slots + k) (sh ++ [.inr (t, k)]) q L (.ref sh.length :: st) (zr I sh.length 0) (zr J sh.length 0) (zr R sh.length none)) : Wm m T cells slots sh pc L (.int n :: st) I J R := by
  subst hq
  intro p l e s mid args below meth c D A ad0 cA0 ad cA H locs ls S
  obtain ⟨C, hA, hT, hK, hP, hD, hS, hl⟩ := S
  refine va_newa (a0 := acn (fun x => x) (fun _ _ => 0) (fun _ _ => 0) (fun _ _ => none) sh.length k t) C.1 C.2.1 (C.2.2.2.2.2.1 _ hw) ht hK.1 hP hD hS hA (fun cc => hz cc _) h0 hk hb hc hsl hd (fun a cc H1 hK1 hP1 hD1 hS1 => ?_)
  have e1 := enc_push (ad := ad) (cA := cA) (kd := .inr (t, k)) (a := a) (cc := cc) (I := I) (J := J) hR
  have e2 : en ad (fun p => if p = sh.length then cc else cA p) (zr I sh.length 0) (zr J sh.length 0) (zr R sh.length none) sh.length (.inr (t, k)) = .inl (cc, acn (fun x => x) (fun _ _ => 0) (fun _ _ => 0) (fun _ _ => none) sh.length k t) := by
    simp only [en, acn, zr_same, if_true]
    rfl
  rw [e2] at e1
  rw [← e1] at hP1 hD1
  have hg := ag_push (ad := ad) (cA := cA) (a := a) (cc := cc) hn
  have := K p l e s mid args below meth c D A ad0 cA0 _ _ H1 locs ls ⟨C, hA, hx _ _ _ _ _ _ _ _ _ hT hg, KK_push hK (fun t n h => by cases h; exact hK1), hP1, hD1, hS1, lo_ag (fun p h => (hg p h).1) hL hl⟩
  rw [List.map_cons, map_ag (fun p h => (hg p h).1) hst] at this
  have e3 : tr (fun p => if p = sh.length then a else ad p) (.ref sh.length) = .ref a := by simp [tr]
  rw [e3] at this
  exact this
end MCALLS
