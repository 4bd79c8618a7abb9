/-! THE SMALL LAYER: a method is walked over places (numbers of objects and rows), not addresses; heap contents are three functions of place and slot -/
abbrev MD : Type := MethodName × ByteArray × Nat × Option FieldType
abbrev Kd : Type := Nat ⊕ (FieldType × Nat)
abbrev HI : Type := Nat → Nat → Int32
abbrev HJ : Type := Nat → Nat → Int64
abbrev HR : Type := Nat → Nat → Option Nat
abbrev LO : Type := List (Option Value)
def tr (ad : Nat → Nat) (v : Value) : Value := match v with
  | .ref p => .ref (ad p)
  | w => w
theorem tr_cat (ad : Nat → Nat) (v : Value) : (tr ad v).category = v.category := by cases v <;> rfl
def fk (t : FieldType) : Nat := match t with
  | .long => 1
  | .object _ => 2
  | .array _ => 2
  | _ => 0
def fv (ad : Nat → Nat) (I : HI) (J : HJ) (R : HR) (p k : Nat) (t : FieldType) : Value := match fk t with
  | 0 => .int (I p k)
  | 1 => .long (J p k)
  | _ => va_rf ((R p k).map ad)
def acn (ad : Nat → Nat) (I : HI) (J : HJ) (R : HR) (p n : Nat) (t : FieldType) : vp_A := match fk t with
  | 0 => (n, .inl (I p))
  | 1 => (n, .inr (.inl (J p)))
  | _ => (n, .inr (.inr (.inr (.inr (fun j => (R p j).map ad)))))
def RC (c : Nat) : String := match c with
  | 0 => RX0 | 1 => RX1 | 2 => RX2 | 3 => RX3 | 4 => RX4 | 5 => RX5 | 6 => RX6 | _ => RX7
def TC (c : Nat) : u_T := match c with
  | 0 => TX0 | 1 => TX1 | 2 => TX2 | 3 => TX3 | 4 => TX4 | 5 => TX5 | 6 => TX6 | _ => TX7
def tyC (c : Nat) : Nat → FieldType := match c with
  | 0 => tyX0 | 1 => tyX1 | 2 => tyX2 | 3 => tyX3 | 4 => tyX4 | 5 => tyX5 | 6 => tyX6 | _ => tyX7
def nC (c : Nat) : Nat := match c with
  | 0 => 8 | 1 => 7 | 2 => 3 | 3 => 6 | 4 => 4 | 5 => 11 | 6 => 10 | _ => 25
theorem c8 {c : Nat} (h : c < 8) : c = 0 ∨ c = 1 ∨ c = 2 ∨ c = 3 ∨ c = 4 ∨ c = 5 ∨ c = 6 ∨ c = 7 := by omega
theorem vwAt {c : Nat} (h : c < 8) : vwCl[c]? = some (RC c, TC c, nC c) := by
  rcases c8 h with rfl | rfl | rfl | rfl | rfl | rfl | rfl | rfl <;> rfl
theorem tyOK {c : Nat} (h : c < 8) : ∀ k, k < nC c → parseFieldDescriptor (TC c k).2.2.1 = some (tyC c k) := by
  rcases c8 h with rfl | rfl | rfl | rfl | rfl | rfl | rfl | rfl
  · exact tyX0_ok
  · exact tyX1_ok
  · exact tyX2_ok
  · exact tyX3_ok
  · exact tyX4_ok
  · exact tyX5_ok
  · exact tyX6_ok
  · exact tyX7_ok
theorem nmOK {c : Nat} (h : c < 8) : ∀ a, a < nC c → ∀ b, b < nC c → a ≠ b → (TC c a).2.1 ≠ (TC c b).2.1 := by
  rcases c8 h with rfl | rfl | rfl | rfl | rfl | rfl | rfl | rfl
  · exact nmX0
  · exact nmX1
  · exact nmX2
  · exact nmX3
  · exact nmX4
  · exact nmX5
  · exact nmX6
  · exact nmX7
def ALLW : List Cond := lw_tbl.filter goodWord
theorem inA {w : Cond} (i : Nat) (h : lw_tbl[i]? = some w) (hg : goodWord w = true) : w ∈ ALLW := List.mem_filter.mpr ⟨List.mem_of_getElem? h, hg⟩
theorem ALLW_tbl {w : Cond} (h : w ∈ ALLW) : w ∈ lw_tbl := (List.mem_filter.mp h).1
theorem ALLW_good {w : Cond} (h : w ∈ ALLW) : goodWord w = true := (List.mem_filter.mp h).2
theorem u_good {C : String} {T : u_T} {N : Nat} : ∀ w ∈ u_ws C T N, goodWord w = true := by
  intro w hw
  obtain ⟨k, -, rfl⟩ := List.mem_map.mp hw
  unfold u_lay
  split <;> rfl
set_option maxRecDepth 100000 in
theorem uAll {c : Nat} (h : c < 8) : ∀ w ∈ u_ws (RC c) (TC c) (nC c), w ∈ ALLW := by
  intro w hw
  refine List.mem_filter.mpr ⟨?_, u_good w hw⟩
  revert w
  rcases c8 h with rfl | rfl | rfl | rfl | rfl | rfl | rfl | rfl <;> decide +kernel
def isNest (w : Cond) : Bool := match w with
  | .fieldLinkNest _ _ _ _ _ _ => true
  | .methodLinkNest _ _ _ _ => true
  | .arrayOver (.array _) => true
  | _ => false
def nestW : List Cond := lw_tbl.filter isNest
theorem inN {w : Cond} (i : Nat) (h : lw_tbl[i]? = some w) (hg : isNest w = true) : w ∈ nestW := List.mem_filter.mpr ⟨List.mem_of_getElem? h, hg⟩
def NN (U : State) : Prop := ∀ w ∈ nestW, va_Nw w U
theorem NN.warm {s U : State} (hW : s.WarmedH U.vm) (h : NN s) : NN U := by
  intro w hw
  have h1 := h w hw
  have h2 := (List.mem_filter.mp hw).2
  cases w <;> first | (simp [isNest] at h2; done) | exact va_Nw.warmF hW h1 | exact va_Nw.warmM hW h1 | (rename_i t; cases t <;> first | (simp [isNest] at h2; done) | exact over_moved hW.alike h1)
theorem NN.same {u U : State} (e : u.vm = U.vm) (h : NN u) : NN U := by
  intro w hw
  have h1 := h w hw
  have h2 := (List.mem_filter.mp hw).2
  cases w <;> first | (simp [isNest] at h2; done) | exact va_Nw.same rfl e h1 | (rename_i t; cases t <;> first | (simp [isNest] at h2; done) | exact over_moved (by rw [← e]; exact Vm.Alike.refl _) h1)
/-- the cells of a world, out of its shape and contents -/
def en (ad : Nat → Nat) (cA : Nat → ClassId) (I : HI) (J : HJ) (R : HR) (p : Nat) (kd : Kd) : va_E := match kd with
  | .inl c => .inr (c, (List.range (nC c)).map (fun k => fv ad I J R p k (tyC c k)))
  | .inr (t, n) => .inl (cA p, acn ad I J R p n t)
def enc (ad : Nat → Nat) (cA : Nat → ClassId) (sh : List Kd) (I : HI) (J : HJ) (R : HR) : va_W := sh.mapIdx (fun p kd => (ad p, en ad cA I J R p kd))
theorem enc_at {ad : Nat → Nat} {cA : Nat → ClassId} {sh : List Kd} {I : HI} {J : HJ} {R : HR} {p : Nat} {kd : Kd} (h : sh[p]? = some kd) : (enc ad cA sh I J R)[p]? = some (ad p, en ad cA I J R p kd) := by
  unfold enc
  rw [List.getElem?_mapIdx, h]
  rfl
def wr {α : Type} (I : Nat → Nat → α) (p k : Nat) (v : α) : Nat → Nat → α := fun a b => if a = p then (if b = k then v else I a b) else I a b
theorem wr_same {α : Type} (I : Nat → Nat → α) (p k : Nat) (v : α) : wr I p k v p k = v := by simp [wr]
theorem wr_ne {α : Type} {I : Nat → Nat → α} {p k : Nat} {v : α} {q : Nat} (h : q ≠ p) : wr I p k v q = I q := by
  funext b
  simp [wr, h]
theorem wr_nk {α : Type} {I : Nat → Nat → α} {p k : Nat} {v : α} {q j : Nat} (h : j ≠ k) : wr I p k v q j = I q j := by
  simp [wr, h]
theorem enc_set {ad : Nat → Nat} {cA : Nat → ClassId} {sh : List Kd} {I I' : HI} {J J' : HJ} {R R' : HR} {p : Nat} {kd : Kd} {e : va_E} (h : sh[p]? = some kd) (hne : ∀ q kd', q ≠ p → en ad cA I' J' R' q kd' = en ad cA I J R q kd') (he : en ad cA I' J' R' p kd = e) : (enc ad cA sh I J R).set p (ad p, e) = enc ad cA sh I' J' R' := by
  apply List.ext_getElem?
  intro q
  by_cases hq : q = p
  · subst hq
    rw [enc_at h, he, List.getElem?_set_self]
    have := (List.getElem?_eq_some_iff.mp (enc_at (ad := ad) (cA := cA) (I := I) (J := J) (R := R) h)).1
    exact this
  · rw [List.getElem?_set_ne (Ne.symm hq)]
    unfold enc
    rw [List.getElem?_mapIdx, List.getElem?_mapIdx]
    cases sh[q]? with
    | none => rfl
    | some kd' => simp only [Option.map_some, hne q kd' hq]
theorem en_ne {ad : Nat → Nat} {cA : Nat → ClassId} {I I' : HI} {J J' : HJ} {R R' : HR} {q : Nat} (h1 : I' q = I q) (h2 : J' q = J q) (h3 : R' q = R q) (kd : Kd) : en ad cA I' J' R' q kd = en ad cA I J R q kd := by
  unfold en fv acn
  simp only [h1, h2, h3]
theorem range_set {f g : Nat → Value} {n k : Nat} {v : Value} (hg : ∀ j, j < n → g j = if j = k then v else f j) : ((List.range n).map f).set k v = (List.range n).map g := by
  apply List.ext_getElem?
  intro j
  by_cases hj : j < n
  · by_cases e : k = j
    · subst e
      rw [List.getElem?_set_self (by simp [hj]), List.getElem?_map, List.getElem?_range hj]
      simp [hg k hj]
    · rw [List.getElem?_set_ne e, List.getElem?_map, List.getElem?_map, List.getElem?_range hj]
      have := hg j hj
      rw [if_neg (fun q => e q.symm)] at this
      simp [this]
  · rw [List.getElem?_eq_none (by simp; omega), List.getElem?_eq_none (by simp; omega)]
theorem en_setF {ad : Nat → Nat} {cA : Nat → ClassId} {I I' : HI} {J J' : HJ} {R R' : HR} {p c k : Nat} {v : Value} (h : ∀ j, j < nC c → fv ad I' J' R' p j (tyC c j) = if j = k then v else fv ad I J R p j (tyC c j)) : en ad cA I' J' R' p (.inl c) = .inr (c, ((List.range (nC c)).map (fun k => fv ad I J R p k (tyC c k))).set k v) := by
  unfold en
  rw [range_set h]
/-- what the tables say of the world's rows -/
def KK (D : va_G) (cA : Nat → ClassId) (sh : List Kd) (U : State) : Prop := va_K D vwCl [] U ∧ ∀ (p : Nat) (t : FieldType) (n : Nat), sh[p]? = some (.inr (t, n)) → va_K D vwCl [(cA p, t)] U
theorem KK.moved {D : va_G} {cA : Nat → ClassId} {sh : List Kd} {u U : State} (hvm : u.vm.Alike U.vm) (h : KK D cA sh u) : KK D cA sh U := ⟨va_K.moved hvm h.1, fun p t n hp => va_K.moved hvm (h.2 p t n hp)⟩
/-- the locals of a frame -/
def is2 (v : Value) : Bool := match v with
  | .long _ => true
  | .double _ => true
  | _ => false
theorem is2_t {v : Value} (h : is2 v = true) : v.category = 2 := by cases v <;> first | rfl | (simp [is2] at h)
theorem is2_f {v : Value} (h : is2 v = false) : v.category = 1 := by cases v <;> first | rfl | (simp [is2] at h)
def lo (ad : Nat → Nat) (ls : Array Slot) (n : Nat) (L : LO) : Prop := ls.size = n ∧ lv_wf ls ∧ ∀ (i : Nat) (v : Value), L[i]? = some (some v) → ls[i]? = some (.val (tr ad v))
def lvl (ad : Nat → Nat) (L : LO) : List (Nat × Value) := (List.range L.length).filterMap (fun i => match L[i]? with
  | some (some v) => some (i, tr ad v)
  | _ => none)
theorem lvl_in {ad : Nat → Nat} {L : LO} {i : Nat} {v : Value} (h : L[i]? = some (some v)) : (i, tr ad v) ∈ lvl ad L := by
  refine List.mem_filterMap.mpr ⟨i, List.mem_range.mpr (List.getElem?_eq_some_iff.mp h).1, ?_⟩
  simp only [h]
theorem lvl_of {ad : Nat → Nat} {L : LO} {q : Nat × Value} (h : q ∈ lvl ad L) : ∃ v, L[q.1]? = some (some v) ∧ q.2 = tr ad v := by
  obtain ⟨i, -, hi⟩ := List.mem_filterMap.mp h
  split at hi
  · rename_i v hv
    cases hi
    exact ⟨v, hv, rfl⟩
  · cases hi
theorem lo.has {ad : Nat → Nat} {ls : Array Slot} {n : Nat} {L : LO} (h : lo ad ls n L) : lv_has ls n (lvl ad L) := ⟨h.1, h.2.1, fun q hq => by
  obtain ⟨v, h1, h2⟩ := lvl_of hq
  rw [h2]
  exact h.2.2 _ _ h1⟩
def kl2 (L : LO) (i : Nat) : LO := match i with
  | 0 => L
  | j + 1 => match L[j]? with
    | some (some v) => (match is2 v with
      | true => L.set j none
      | false => L)
    | _ => L
def st1 (L : LO) (i : Nat) (v : Value) : LO := (kl2 L i).set i (some v)
def st2 (L : LO) (i : Nat) (v : Value) : LO := ((kl2 L i).set i (some v)).set (i + 1) none
theorem kl2_at {L : LO} {i j : Nat} {w : Value} (h : (kl2 L i)[j]? = some (some w)) : L[j]? = some (some w) ∧ (j + 1 = i → is2 w = false) := by
  cases i with
  | zero => exact ⟨h, fun q => by omega⟩
  | succ i =>
    simp only [kl2] at h
    split at h
    · rename_i v hv
      split at h
      · rename_i h2
        by_cases e : i = j
        · subst e
          have hl := (List.getElem?_eq_some_iff.mp hv).1
          rw [List.getElem?_set_self hl] at h
          cases h
        · rw [List.getElem?_set_ne e] at h
          exact ⟨h, fun q => absurd (by omega) e⟩
      · rename_i h2
        refine ⟨h, fun q => ?_⟩
        have e : j = i := by omega
        subst e
        rw [hv] at h
        cases h
        exact h2
    · rename_i hn
      refine ⟨h, fun q => ?_⟩
      have e : j = i := by omega
      subst e
      exact absurd h (hn w)
theorem st1_at {L : LO} {i j : Nat} {v w : Value} (h : (st1 L i v)[j]? = some (some w)) : (j = i ∧ w = v) ∨ (j ≠ i ∧ L[j]? = some (some w) ∧ (j + 1 = i → is2 w = false)) := by
  unfold st1 at h
  by_cases e : i = j
  · subst e
    by_cases hl : i < (kl2 L i).length
    · rw [List.getElem?_set_self hl] at h
      cases h
      exact Or.inl ⟨rfl, rfl⟩
    · rw [List.getElem?_eq_none (by simp; omega)] at h
      cases h
  · rw [List.getElem?_set_ne e] at h
    exact Or.inr ⟨fun q => e q.symm, kl2_at h⟩
theorem st2_at {L : LO} {i j : Nat} {v w : Value} (h : (st2 L i v)[j]? = some (some w)) : (j = i ∧ w = v) ∨ (j ≠ i ∧ j ≠ i + 1 ∧ L[j]? = some (some w) ∧ (j + 1 = i → is2 w = false)) := by
  unfold st2 at h
  by_cases e : i + 1 = j
  · subst e
    by_cases hl : i + 1 < ((kl2 L i).set i (some v)).length
    · rw [List.getElem?_set_self hl] at h
      cases h
    · rw [List.getElem?_eq_none (by simp at hl ⊢; omega)] at h
      cases h
  · rw [List.getElem?_set_ne e] at h
    rcases st1_at (L := L) (i := i) (v := v) h with q | ⟨q1, q2, q3⟩
    · exact Or.inl q
    · exact Or.inr ⟨q1, fun z => e z.symm, q2, q3⟩
theorem lo.put1 {ad : Nat → Nat} {ls' : Array Slot} {n : Nat} {L : LO} {i : Nat} {v : Value} (h : lv_has ls' n ((i, tr ad v) :: (lvl ad L).filter (fun q => !(q.1 == i) && !(q.1 + 1 == i && q.2.category == 2)))) : lo ad ls' n (st1 L i v) := by
  refine ⟨h.1, h.2.1, fun j w hj => ?_⟩
  rcases st1_at hj with ⟨rfl, rfl⟩ | ⟨h1, h2, h3⟩
  · exact h.2.2 _ List.mem_cons_self
  · refine h.2.2 (j, tr ad w) (List.mem_cons_of_mem _ (List.mem_filter.mpr ⟨lvl_in h2, ?_⟩))
    have e1 : (j == i) = false := by simp [h1]
    have e2 : (j + 1 == i && (tr ad w).category == 2) = false := by
      by_cases q : j + 1 = i
      · have := is2_f (h3 q)
        rw [tr_cat, this]
        simp
      · simp [q]
    simp only [e1, e2]
    rfl
theorem lo.put2 {ad : Nat → Nat} {ls' : Array Slot} {n : Nat} {L : LO} {i : Nat} {v : Value} (h : lv_has ls' n ((i, tr ad v) :: (lvl ad L).filter (fun q => !(q.1 == i) && (!(q.1 == i + 1) && !(q.1 + 1 == i && q.2.category == 2))))) : lo ad ls' n (st2 L i v) := by
  refine ⟨h.1, h.2.1, fun j w hj => ?_⟩
  rcases st2_at hj with ⟨rfl, rfl⟩ | ⟨h1, h0, h2, h3⟩
  · exact h.2.2 _ List.mem_cons_self
  · refine h.2.2 (j, tr ad w) (List.mem_cons_of_mem _ (List.mem_filter.mpr ⟨lvl_in h2, ?_⟩))
    have e1 : (j == i) = false := by simp [h1]
    have e0 : (j == i + 1) = false := by simp [h0]
    have e2 : (j + 1 == i && (tr ad w).category == 2) = false := by
      by_cases q : j + 1 = i
      · have := is2_f (h3 q)
        rw [tr_cat, this]
        simp
      · simp [q]
    simp only [e1, e0, e2]
    rfl
def entA (vs : List Value) : LO := match vs with
  | [] => []
  | v :: vs => match is2 v with
    | true => some v :: none :: entA vs
    | false => some v :: entA vs
def L0 (n : Nat) (vs : List Value) : LO := entA vs ++ List.replicate (n - (entA vs).length) none
theorem entA_at (ad : Nat → Nat) : ∀ (vs : List Value) (k i : Nat) (v : Value), (entA vs)[i]? = some (some v) → (k + i, tr ad v) ∈ lv_args k (vs.map (tr ad))
  | [], k, i, v, h => by simp [entA] at h
  | w :: vs, k, i, v, h => by
    rw [entA] at h
    split at h
    · rename_i h2
      have hc := is2_t h2
      simp only [List.map_cons, lv_args, tr_cat, hc, if_true]
      match i, h with
      | 0, h => cases h; exact List.mem_cons_self
      | 1, h => cases h
      | i + 2, h =>
        have := entA_at ad vs (k + 2) i v (by simpa using h)
        rw [show k + (i + 2) = k + 2 + i by omega]
        exact List.mem_cons_of_mem _ this
    · rename_i h2
      have hc := is2_f h2
      simp only [List.map_cons, lv_args, tr_cat, hc]
      match i, h with
      | 0, h => cases h; exact List.mem_cons_self
      | i + 1, h =>
        have := entA_at ad vs (k + 1) i v (by simpa using h)
        rw [show k + (i + 1) = k + 1 + i by omega]
        exact List.mem_cons_of_mem _ (by simpa using this)
theorem sl_len (ad : Nat → Nat) (vs : List Value) : (lg_sl (vs.map (tr ad))).length = (lg_sl vs).length := by
  induction vs with
  | nil => rfl
  | cons v vs ih =>
    have e : ∀ (x : Value) (xs : List Value), (lg_sl (x :: xs)).length = (if x.category = 2 then 2 else 1) + (lg_sl xs).length := fun x xs => by
      unfold lg_sl
      rw [List.flatMap_cons, List.length_append]
      split <;> rfl
    rw [List.map_cons, e, e, tr_cat, ih]
/-- which frame a walk stands in: the room, the end, and how the addresses of now go with those of the entry -/
abbrev Tg : Type := Room × (List Frame → Array Value → State → va_G → (Nat → Prop) → (Nat → Nat) → (Nat → ClassId) → State → Prop) × (State → Array Value → (Nat → Prop) → (Nat → Nat) → (Nat → ClassId) → (Nat → Nat) → (Nat → ClassId) → Prop)
def Cx (m : MD) (p : Program) (s : State) (mid : MethodId) (args : Array Value) (meth : Method) (c : Code) : Prop :=
  p.tables.exec = Jvm.exec ∧ c.code = m.2.1 ∧ meth.sig.returnType = m.2.2.2 ∧ c.maxLocals = m.2.2.1 ∧ s.vm.findClass m.1.cls = some mid.cls ∧ (∀ w ∈ ALLW, w.before args s = true) ∧ meth.locks = false ∧ (m.1.name = "<init>" → meth.name = "<init>") ∧ NN s
def Sta (m : MD) (T : Tg) (sh : List Kd) (L : LO) (I : HI) (J : HJ) (R : HR) (p : Program) (s : State) (mid : MethodId) (args : Array Value) (meth : Method) (c : Code) (D : va_G) (A : Nat → Prop) (ad0 : Nat → Nat) (cA0 : Nat → ClassId) (ad : Nat → Nat) (cA : Nat → ClassId) (H : Heap) (locs : List Loc) (ls : Array Slot) : Prop :=
  Cx m p s mid args meth c ∧ (∀ q : Nat, s.heap.size ≤ q → A q) ∧ T.2.2 s args A ad0 cA0 ad cA ∧ KK D cA sh s ∧ va_P D vwCl (enc ad cA sh I J R) H ∧ va_D A (enc ad cA sh I J R) ∧ va_S A s.heap H locs ∧ lo ad ls m.2.2.1 L
def Wm (m : MD) (T : Tg) (cells slots : Nat) (sh : List Kd) (pc : Nat) (L : LO) (st : List Value) (I : HI) (J : HJ) (R : HR) : Prop :=
  ∀ (p : Program) (l : Launch) (e : Env) (s : State) (mid : MethodId) (args : Array Value) (below : List Frame) (meth : Method) (c : Code) (D : va_G) (A : Nat → Prop) (ad0 : Nat → Nat) (cA0 : Nat → ClassId) (ad : Nat → Nat) (cA : Nat → ClassId) (H : Heap) (locs : List Loc) (ls : Array Slot),
    Sta m T sh L I J R p s mid args meth c D A ad0 cA0 ad cA H locs ls → W p l e T.1 s mid args below meth c H locs cells slots (T.2.1 below args s D A ad0 cA0) (F0 mid pc ls (st.map (tr ad)))
section MROWS
variable {m : MD} {T : Tg} {cells slots : Nat} {sh : List Kd} {pc : Nat} {L : LO} {st : List Value} {I : HI} {J : HJ} {R : HR}
theorem q_iconst {n : Int} {v : Int32} {q : Nat} (hd : decode m.2.1 pc = .ok (.iconst n, 1)) (hq : pc + 1 = q) (hv : Int32.ofInt n = v) (K : Wm m T cells slots sh q L (.int v :: st) I J R) : Wm m T cells slots sh pc L (st) I J R := by
  subst hq
  intro p l e s mid args below meth c D A ad0 cA0 ad cA H locs ls S
  exact lv_iconst S.1.1 S.1.2.1 hd hv (K p l e s mid args below meth c D A ad0 cA0 ad cA H locs ls S)
theorem q_bipush {n : Int} {v : Int32} {q : Nat} (hd : decode m.2.1 pc = .ok (.bipush n, 2)) (hq : pc + 2 = q) (hv : (Int8.ofInt n).toInt32 = v) (K : Wm m T cells slots sh q L (.int v :: st) I J R) : Wm m T cells slots sh pc L (st) I J R := by
  subst hq
  intro p l e s mid args below meth c D A ad0 cA0 ad cA H locs ls S
  exact lv_bipush S.1.1 S.1.2.1 hd hv (K p l e s mid args below meth c D A ad0 cA0 ad cA H locs ls S)
theorem q_sipush {n : Int} {v : Int32} {q : Nat} (hd : decode m.2.1 pc = .ok (.sipush n, 3)) (hq : pc + 3 = q) (hv : (Int16.ofInt n).toInt32 = v) (K : Wm m T cells slots sh q L (.int v :: st) I J R) : Wm m T cells slots sh pc L (st) I J R := by
  subst hq
  intro p l e s mid args below meth c D A ad0 cA0 ad cA H locs ls S
  exact lv_sipush S.1.1 S.1.2.1 hd hv (K p l e s mid args below meth c D A ad0 cA0 ad cA H locs ls S)
theorem q_lconst {n : Fin 2} {v : Int64} {q : Nat} (hd : decode m.2.1 pc = .ok (.lconst n, 1)) (hq : pc + 1 = q) (hv : Int64.ofNat (n : Nat) = v) (K : Wm m T cells slots sh q L (.long v :: st) I J R) : Wm m T cells slots sh pc L (st) I J R := by
  subst hq
  intro p l e s mid args below meth c D A ad0 cA0 ad cA H locs ls S
  exact lv_lconst S.1.1 S.1.2.1 hd hv (K p l e s mid args below meth c D A ad0 cA0 ad cA H locs ls S)
theorem q_ldc {i : Nat} {v : Int32} {q : Nat} (hd : decode m.2.1 pc = .ok (.ldc i, 2)) (hq : pc + 2 = q) (hw : Cond.constant m.1.cls i v ∈ ALLW) (K : Wm m T cells slots sh q L (.int v :: st) I J R) : Wm m T cells slots sh pc L (st) I J R := by
  subst hq
  intro p l e s mid args below meth c D A ad0 cA0 ad cA H locs ls S
  exact lv_ldc S.1.1 S.1.2.1 S.1.2.2.2.2.1 (S.1.2.2.2.2.2.1 _ hw) hd (K p l e s mid args below meth c D A ad0 cA0 ad cA H locs ls S)
theorem q_ldc2 {i : Nat} {v : Int64} {q : Nat} (hd : decode m.2.1 pc = .ok (.ldc2_w i, 3)) (hq : pc + 3 = q) (hw : Cond.constantLong m.1.cls i v ∈ ALLW) (K : Wm m T cells slots sh q L (.long v :: st) I J R) : Wm m T cells slots sh pc L (st) I J R := by
  subst hq
  intro p l e s mid args below meth c D A ad0 cA0 ad cA H locs ls S
  exact lv_ldc2 S.1.1 S.1.2.1 S.1.2.2.2.2.1 (S.1.2.2.2.2.2.1 _ hw) hd (K p l e s mid args below meth c D A ad0 cA0 ad cA H locs ls S)
theorem q_iload_n {k : Fin 4} {x : Int32} {q : Nat} (hd : decode m.2.1 pc = .ok (.iload_n k, 1)) (hq : pc + 1 = q) (hL : L[(k : Nat)]? = some (some (.int x))) (K : Wm m T cells slots sh q L (.int x :: st) I J R) : Wm m T cells slots sh pc L (st) I J R := by
  subst hq
  intro p l e s mid args below meth c D A ad0 cA0 ad cA H locs ls S
  exact lv_iload_n S.1.1 S.1.2.1 hd rfl (S.2.2.2.2.2.2.2.2.2 _ _ hL) (K p l e s mid args below meth c D A ad0 cA0 ad cA H locs ls S)
theorem q_iload {i : Nat} {x : Int32} {q : Nat} (hd : decode m.2.1 pc = .ok (.iload i, 2)) (hq : pc + 2 = q) (hL : L[i]? = some (some (.int x))) (K : Wm m T cells slots sh q L (.int x :: st) I J R) : Wm m T cells slots sh pc L (st) I J R := by
  subst hq
  intro p l e s mid args below meth c D A ad0 cA0 ad cA H locs ls S
  exact lv_iload S.1.1 S.1.2.1 hd (S.2.2.2.2.2.2.2.2.2 _ _ hL) (K p l e s mid args below meth c D A ad0 cA0 ad cA H locs ls S)
theorem q_lload_n {k : Fin 4} {x : Int64} {q : Nat} (hd : decode m.2.1 pc = .ok (.lload_n k, 1)) (hq : pc + 1 = q) (hL : L[(k : Nat)]? = some (some (.long x))) (K : Wm m T cells slots sh q L (.long x :: st) I J R) : Wm m T cells slots sh pc L (st) I J R := by
  subst hq
  intro p l e s mid args below meth c D A ad0 cA0 ad cA H locs ls S
  exact lv_lload_n S.1.1 S.1.2.1 hd rfl (S.2.2.2.2.2.2.2.2.2 _ _ hL) (K p l e s mid args below meth c D A ad0 cA0 ad cA H locs ls S)
theorem q_lload {i : Nat} {x : Int64} {q : Nat} (hd : decode m.2.1 pc = .ok (.lload i, 2)) (hq : pc + 2 = q) (hL : L[i]? = some (some (.long x))) (K : Wm m T cells slots sh q L (.long x :: st) I J R) : Wm m T cells slots sh pc L (st) I J R := by
  subst hq
  intro p l e s mid args below meth c D A ad0 cA0 ad cA H locs ls S
  exact lv_lload S.1.1 S.1.2.1 hd (S.2.2.2.2.2.2.2.2.2 _ _ hL) (K p l e s mid args below meth c D A ad0 cA0 ad cA H locs ls S)
theorem q_aload_n {k : Fin 4} {x : Nat} {q : Nat} (hd : decode m.2.1 pc = .ok (.aload_n k, 1)) (hq : pc + 1 = q) (hL : L[(k : Nat)]? = some (some (.ref x))) (K : Wm m T cells slots sh q L (.ref x :: st) I J R) : Wm m T cells slots sh pc L (st) I J R := by
  subst hq
  intro p l e s mid args below meth c D A ad0 cA0 ad cA H locs ls S
  exact lv_aload_n S.1.1 S.1.2.1 hd rfl (S.2.2.2.2.2.2.2.2.2 _ _ hL) (K p l e s mid args below meth c D A ad0 cA0 ad cA H locs ls S)
theorem q_aload {i : Nat} {x : Nat} {q : Nat} (hd : decode m.2.1 pc = .ok (.aload i, 2)) (hq : pc + 2 = q) (hL : L[i]? = some (some (.ref x))) (K : Wm m T cells slots sh q L (.ref x :: st) I J R) : Wm m T cells slots sh pc L (st) I J R := by
  subst hq
  intro p l e s mid args below meth c D A ad0 cA0 ad cA H locs ls S
  exact lv_aload S.1.1 S.1.2.1 hd (S.2.2.2.2.2.2.2.2.2 _ _ hL) (K p l e s mid args below meth c D A ad0 cA0 ad cA H locs ls S)
theorem q_iadd {x y : Int32} {q : Nat} (hd : decode m.2.1 pc = .ok (.iadd, 1)) (hq : pc + 1 = q) (K : Wm m T cells slots sh q L (.int (x + y) :: st) I J R) : Wm m T cells slots sh pc L (.int y :: .int x :: st) I J R := by
  subst hq
  intro p l e s mid args below meth c D A ad0 cA0 ad cA H locs ls S
  exact lv_iadd S.1.1 S.1.2.1 hd (K p l e s mid args below meth c D A ad0 cA0 ad cA H locs ls S)
theorem q_isub {x y : Int32} {q : Nat} (hd : decode m.2.1 pc = .ok (.isub, 1)) (hq : pc + 1 = q) (K : Wm m T cells slots sh q L (.int (x - y) :: st) I J R) : Wm m T cells slots sh pc L (.int y :: .int x :: st) I J R := by
  subst hq
  intro p l e s mid args below meth c D A ad0 cA0 ad cA H locs ls S
  exact lv_isub S.1.1 S.1.2.1 hd (K p l e s mid args below meth c D A ad0 cA0 ad cA H locs ls S)
theorem q_imul {x y : Int32} {q : Nat} (hd : decode m.2.1 pc = .ok (.imul, 1)) (hq : pc + 1 = q) (K : Wm m T cells slots sh q L (.int (x * y) :: st) I J R) : Wm m T cells slots sh pc L (.int y :: .int x :: st) I J R := by
  subst hq
  intro p l e s mid args below meth c D A ad0 cA0 ad cA H locs ls S
  exact lv_imul S.1.1 S.1.2.1 hd (K p l e s mid args below meth c D A ad0 cA0 ad cA H locs ls S)
theorem q_iand {x y : Int32} {q : Nat} (hd : decode m.2.1 pc = .ok (.iand, 1)) (hq : pc + 1 = q) (K : Wm m T cells slots sh q L (.int (x &&& y) :: st) I J R) : Wm m T cells slots sh pc L (.int y :: .int x :: st) I J R := by
  subst hq
  intro p l e s mid args below meth c D A ad0 cA0 ad cA H locs ls S
  exact lv_iand S.1.1 S.1.2.1 hd (K p l e s mid args below meth c D A ad0 cA0 ad cA H locs ls S)
theorem q_ior {x y : Int32} {q : Nat} (hd : decode m.2.1 pc = .ok (.ior, 1)) (hq : pc + 1 = q) (K : Wm m T cells slots sh q L (.int (x ||| y) :: st) I J R) : Wm m T cells slots sh pc L (.int y :: .int x :: st) I J R := by
  subst hq
  intro p l e s mid args below meth c D A ad0 cA0 ad cA H locs ls S
  exact lv_ior S.1.1 S.1.2.1 hd (K p l e s mid args below meth c D A ad0 cA0 ad cA H locs ls S)
theorem q_ixor {x y : Int32} {q : Nat} (hd : decode m.2.1 pc = .ok (.ixor, 1)) (hq : pc + 1 = q) (K : Wm m T cells slots sh q L (.int (x ^^^ y) :: st) I J R) : Wm m T cells slots sh pc L (.int y :: .int x :: st) I J R := by
  subst hq
  intro p l e s mid args below meth c D A ad0 cA0 ad cA H locs ls S
  exact lv_ixor S.1.1 S.1.2.1 hd (K p l e s mid args below meth c D A ad0 cA0 ad cA H locs ls S)
theorem q_ishl {x y : Int32} {q : Nat} (hd : decode m.2.1 pc = .ok (.ishl, 1)) (hq : pc + 1 = q) (K : Wm m T cells slots sh q L (.int (x <<< (y &&& 31)) :: st) I J R) : Wm m T cells slots sh pc L (.int y :: .int x :: st) I J R := by
  subst hq
  intro p l e s mid args below meth c D A ad0 cA0 ad cA H locs ls S
  exact lv_ishl S.1.1 S.1.2.1 hd (K p l e s mid args below meth c D A ad0 cA0 ad cA H locs ls S)
theorem q_ishr {x y : Int32} {q : Nat} (hd : decode m.2.1 pc = .ok (.ishr, 1)) (hq : pc + 1 = q) (K : Wm m T cells slots sh q L (.int (x >>> (y &&& 31)) :: st) I J R) : Wm m T cells slots sh pc L (.int y :: .int x :: st) I J R := by
  subst hq
  intro p l e s mid args below meth c D A ad0 cA0 ad cA H locs ls S
  exact lv_ishr S.1.1 S.1.2.1 hd (K p l e s mid args below meth c D A ad0 cA0 ad cA H locs ls S)
theorem q_ladd {x y : Int64} {q : Nat} (hd : decode m.2.1 pc = .ok (.ladd, 1)) (hq : pc + 1 = q) (K : Wm m T cells slots sh q L (.long (x + y) :: st) I J R) : Wm m T cells slots sh pc L (.long y :: .long x :: st) I J R := by
  subst hq
  intro p l e s mid args below meth c D A ad0 cA0 ad cA H locs ls S
  exact lv_ladd S.1.1 S.1.2.1 hd (K p l e s mid args below meth c D A ad0 cA0 ad cA H locs ls S)
theorem q_lsub {x y : Int64} {q : Nat} (hd : decode m.2.1 pc = .ok (.lsub, 1)) (hq : pc + 1 = q) (K : Wm m T cells slots sh q L (.long (x - y) :: st) I J R) : Wm m T cells slots sh pc L (.long y :: .long x :: st) I J R := by
  subst hq
  intro p l e s mid args below meth c D A ad0 cA0 ad cA H locs ls S
  exact lv_lsub S.1.1 S.1.2.1 hd (K p l e s mid args below meth c D A ad0 cA0 ad cA H locs ls S)
theorem q_lmul {x y : Int64} {q : Nat} (hd : decode m.2.1 pc = .ok (.lmul, 1)) (hq : pc + 1 = q) (K : Wm m T cells slots sh q L (.long (x * y) :: st) I J R) : Wm m T cells slots sh pc L (.long y :: .long x :: st) I J R := by
  subst hq
  intro p l e s mid args below meth c D A ad0 cA0 ad cA H locs ls S
  exact lv_lmul S.1.1 S.1.2.1 hd (K p l e s mid args below meth c D A ad0 cA0 ad cA H locs ls S)
theorem q_land {x y : Int64} {q : Nat} (hd : decode m.2.1 pc = .ok (.land, 1)) (hq : pc + 1 = q) (K : Wm m T cells slots sh q L (.long (x &&& y) :: st) I J R) : Wm m T cells slots sh pc L (.long y :: .long x :: st) I J R := by
  subst hq
  intro p l e s mid args below meth c D A ad0 cA0 ad cA H locs ls S
  exact lv_land S.1.1 S.1.2.1 hd (K p l e s mid args below meth c D A ad0 cA0 ad cA H locs ls S)
theorem q_lor {x y : Int64} {q : Nat} (hd : decode m.2.1 pc = .ok (.lor, 1)) (hq : pc + 1 = q) (K : Wm m T cells slots sh q L (.long (x ||| y) :: st) I J R) : Wm m T cells slots sh pc L (.long y :: .long x :: st) I J R := by
  subst hq
  intro p l e s mid args below meth c D A ad0 cA0 ad cA H locs ls S
  exact lv_lor S.1.1 S.1.2.1 hd (K p l e s mid args below meth c D A ad0 cA0 ad cA H locs ls S)
theorem q_idiv {x y : Int32} {q : Nat} (hd : decode m.2.1 pc = .ok (.idiv, 1)) (hq : pc + 1 = q) (hne : ¬ y = 0) (K : Wm m T cells slots sh q L (.int (x / y) :: st) I J R) : Wm m T cells slots sh pc L (.int y :: .int x :: st) I J R := by
  subst hq
  intro p l e s mid args below meth c D A ad0 cA0 ad cA H locs ls S
  exact lv_idiv S.1.1 S.1.2.1 hd hne (K p l e s mid args below meth c D A ad0 cA0 ad cA H locs ls S)
theorem q_irem {x y : Int32} {q : Nat} (hd : decode m.2.1 pc = .ok (.irem, 1)) (hq : pc + 1 = q) (hne : ¬ y = 0) (K : Wm m T cells slots sh q L (.int (x - x / y * y) :: st) I J R) : Wm m T cells slots sh pc L (.int y :: .int x :: st) I J R := by
  subst hq
  intro p l e s mid args below meth c D A ad0 cA0 ad cA H locs ls S
  exact lv_irem S.1.1 S.1.2.1 hd hne (K p l e s mid args below meth c D A ad0 cA0 ad cA H locs ls S)
theorem q_ldiv {x y : Int64} {q : Nat} (hd : decode m.2.1 pc = .ok (.ldiv, 1)) (hq : pc + 1 = q) (hne : ¬ y = 0) (K : Wm m T cells slots sh q L (.long (x / y) :: st) I J R) : Wm m T cells slots sh pc L (.long y :: .long x :: st) I J R := by
  subst hq
  intro p l e s mid args below meth c D A ad0 cA0 ad cA H locs ls S
  exact lv_ldiv S.1.1 S.1.2.1 hd hne (K p l e s mid args below meth c D A ad0 cA0 ad cA H locs ls S)
theorem q_lrem {x y : Int64} {q : Nat} (hd : decode m.2.1 pc = .ok (.lrem, 1)) (hq : pc + 1 = q) (hne : ¬ y = 0) (K : Wm m T cells slots sh q L (.long (x - x / y * y) :: st) I J R) : Wm m T cells slots sh pc L (.long y :: .long x :: st) I J R := by
  subst hq
  intro p l e s mid args below meth c D A ad0 cA0 ad cA H locs ls S
  exact lv_lrem S.1.1 S.1.2.1 hd hne (K p l e s mid args below meth c D A ad0 cA0 ad cA H locs ls S)
theorem q_ineg {x : Int32} {q : Nat} (hd : decode m.2.1 pc = .ok (.ineg, 1)) (hq : pc + 1 = q) (K : Wm m T cells slots sh q L (.int (-x) :: st) I J R) : Wm m T cells slots sh pc L (.int x :: st) I J R := by
  subst hq
  intro p l e s mid args below meth c D A ad0 cA0 ad cA H locs ls S
  exact lv_ineg S.1.1 S.1.2.1 hd (K p l e s mid args below meth c D A ad0 cA0 ad cA H locs ls S)
theorem q_lshl {x : Int64} {y : Int32} {q : Nat} (hd : decode m.2.1 pc = .ok (.lshl, 1)) (hq : pc + 1 = q) (K : Wm m T cells slots sh q L (.long (x <<< (y.toInt64 &&& 63)) :: st) I J R) : Wm m T cells slots sh pc L (.int y :: .long x :: st) I J R := by
  subst hq
  intro p l e s mid args below meth c D A ad0 cA0 ad cA H locs ls S
  exact lv_lshl S.1.1 S.1.2.1 hd rfl (K p l e s mid args below meth c D A ad0 cA0 ad cA H locs ls S)
theorem q_lshr {x : Int64} {y : Int32} {q : Nat} (hd : decode m.2.1 pc = .ok (.lshr, 1)) (hq : pc + 1 = q) (K : Wm m T cells slots sh q L (.long (x >>> (y.toInt64 &&& 63)) :: st) I J R) : Wm m T cells slots sh pc L (.int y :: .long x :: st) I J R := by
  subst hq
  intro p l e s mid args below meth c D A ad0 cA0 ad cA H locs ls S
  exact lv_lshr S.1.1 S.1.2.1 hd rfl (K p l e s mid args below meth c D A ad0 cA0 ad cA H locs ls S)
theorem q_lushr {x : Int64} {y : Int32} {q : Nat} (hd : decode m.2.1 pc = .ok (.lushr, 1)) (hq : pc + 1 = q) (K : Wm m T cells slots sh q L (.long ((x.toUInt64 >>> (y.toInt64.toUInt64 &&& Int64.toUInt64 63)).toInt64) :: st) I J R) : Wm m T cells slots sh pc L (.int y :: .long x :: st) I J R := by
  subst hq
  intro p l e s mid args below meth c D A ad0 cA0 ad cA H locs ls S
  exact lv_lushr S.1.1 S.1.2.1 hd rfl (K p l e s mid args below meth c D A ad0 cA0 ad cA H locs ls S)
theorem q_i2l {x : Int32} {q : Nat} (hd : decode m.2.1 pc = .ok (.i2l, 1)) (hq : pc + 1 = q) (K : Wm m T cells slots sh q L (.long x.toInt64 :: st) I J R) : Wm m T cells slots sh pc L (.int x :: st) I J R := by
  subst hq
  intro p l e s mid args below meth c D A ad0 cA0 ad cA H locs ls S
  exact lv_i2l S.1.1 S.1.2.1 hd rfl (K p l e s mid args below meth c D A ad0 cA0 ad cA H locs ls S)
theorem q_l2i {x : Int64} {q : Nat} (hd : decode m.2.1 pc = .ok (.l2i, 1)) (hq : pc + 1 = q) (K : Wm m T cells slots sh q L (.int x.toInt32 :: st) I J R) : Wm m T cells slots sh pc L (.long x :: st) I J R := by
  subst hq
  intro p l e s mid args below meth c D A ad0 cA0 ad cA H locs ls S
  exact lv_l2i S.1.1 S.1.2.1 hd rfl (K p l e s mid args below meth c D A ad0 cA0 ad cA H locs ls S)
theorem q_i2b {x : Int32} {q : Nat} (hd : decode m.2.1 pc = .ok (.i2b, 1)) (hq : pc + 1 = q) (K : Wm m T cells slots sh q L (.int x.toInt8.toInt32 :: st) I J R) : Wm m T cells slots sh pc L (.int x :: st) I J R := by
  subst hq
  intro p l e s mid args below meth c D A ad0 cA0 ad cA H locs ls S
  exact lv_i2b S.1.1 S.1.2.1 hd rfl (K p l e s mid args below meth c D A ad0 cA0 ad cA H locs ls S)
theorem q_lcmp {x y : Int64} {q : Nat} (hd : decode m.2.1 pc = .ok (.lcmp, 1)) (hq : pc + 1 = q) (K : Wm m T cells slots sh q L (.int (lg_cmp x y) :: st) I J R) : Wm m T cells slots sh pc L (.long y :: .long x :: st) I J R := by
  subst hq
  intro p l e s mid args below meth c D A ad0 cA0 ad cA H locs ls S
  exact W.lcmp S.1.1 S.1.2.1 hd (K p l e s mid args below meth c D A ad0 cA0 ad cA H locs ls S)
theorem q_dup {v : Value} {q : Nat} (hd : decode m.2.1 pc = .ok (.dup, 1)) (hq : pc + 1 = q) (hv : v.category = 1) (K : Wm m T cells slots sh q L (v :: v :: st) I J R) : Wm m T cells slots sh pc L (v :: st) I J R := by
  subst hq
  intro p l e s mid args below meth c D A ad0 cA0 ad cA H locs ls S
  exact lv_dup S.1.1 S.1.2.1 hd ((tr_cat ad v).trans hv) (K p l e s mid args below meth c D A ad0 cA0 ad cA H locs ls S)
theorem q_pop {v : Value} {q : Nat} (hd : decode m.2.1 pc = .ok (.pop, 1)) (hq : pc + 1 = q) (hv : v.category = 1) (K : Wm m T cells slots sh q L (st) I J R) : Wm m T cells slots sh pc L (v :: st) I J R := by
  subst hq
  intro p l e s mid args below meth c D A ad0 cA0 ad cA H locs ls S
  exact lv_pop S.1.1 S.1.2.1 hd ((tr_cat ad v).trans hv) (K p l e s mid args below meth c D A ad0 cA0 ad cA H locs ls S)
theorem q_dup2 {v w : Value} {q : Nat} (hd : decode m.2.1 pc = .ok (.dup2, 1)) (hq : pc + 1 = q) (hv : v.category = 1) (hw : w.category = 1) (K : Wm m T cells slots sh q L (v :: w :: v :: w :: st) I J R) : Wm m T cells slots sh pc L (v :: w :: st) I J R := by
  subst hq
  intro p l e s mid args below meth c D A ad0 cA0 ad cA H locs ls S
  exact lv_dup2_11 S.1.1 S.1.2.1 hd ((tr_cat ad v).trans hv) ((tr_cat ad w).trans hw) (K p l e s mid args below meth c D A ad0 cA0 ad cA H locs ls S)
theorem q_dup_x1 {v w : Value} {q : Nat} (hd : decode m.2.1 pc = .ok (.dup_x1, 1)) (hq : pc + 1 = q) (hv : v.category = 1) (hw : w.category = 1) (K : Wm m T cells slots sh q L (v :: w :: v :: st) I J R) : Wm m T cells slots sh pc L (v :: w :: st) I J R := by
  subst hq
  intro p l e s mid args below meth c D A ad0 cA0 ad cA H locs ls S
  exact lv_dup_x1 S.1.1 S.1.2.1 hd ((tr_cat ad v).trans hv) ((tr_cat ad w).trans hw) (K p l e s mid args below meth c D A ad0 cA0 ad cA H locs ls S)
theorem q_goto {off : Int} {q : Nat} (hd : decode m.2.1 pc = .ok (.goto off, 3)) (ht : (pc : Int) + off = (q : Int)) (K : Wm m T cells slots sh q L st I J R) : Wm m T cells slots sh pc L st I J R := by
  intro p l e s mid args below meth c D A ad0 cA0 ad cA H locs ls S
  exact lv_goto S.1.1 S.1.2.1 hd ht (K p l e s mid args below meth c D A ad0 cA0 ad cA H locs ls S)
theorem q_if_eq {x : Int32} {off : Int} {q q2 : Nat} (hd : decode m.2.1 pc = .ok (.ifCond .eq off, 3)) (ht : (pc : Int) + off = (q : Int)) (hq : pc + 3 = q2) (kt : x = 0 → Wm m T cells slots sh q L st I J R) (kf : ¬ x = 0 → Wm m T cells slots sh q2 L st I J R) : Wm m T cells slots sh pc L (.int x :: st) I J R := by
  subst hq
  intro p l e s mid args below meth c D A ad0 cA0 ad cA H locs ls S
  exact lv_if_eq S.1.1 S.1.2.1 hd ht (fun z => kt (z) p l e s mid args below meth c D A ad0 cA0 ad cA H locs ls S) (fun z => kf (z) p l e s mid args below meth c D A ad0 cA0 ad cA H locs ls S)
theorem q_icmp_eq {x y : Int32} {off : Int} {q q2 : Nat} (hd : decode m.2.1 pc = .ok (.if_icmp .eq off, 3)) (ht : (pc : Int) + off = (q : Int)) (hq : pc + 3 = q2) (kt : x = y → Wm m T cells slots sh q L st I J R) (kf : ¬ x = y → Wm m T cells slots sh q2 L st I J R) : Wm m T cells slots sh pc L (.int y :: .int x :: st) I J R := by
  subst hq
  intro p l e s mid args below meth c D A ad0 cA0 ad cA H locs ls S
  exact lv_icmp_eq S.1.1 S.1.2.1 hd ht (fun z => kt (z) p l e s mid args below meth c D A ad0 cA0 ad cA H locs ls S) (fun z => kf (z) p l e s mid args below meth c D A ad0 cA0 ad cA H locs ls S)
theorem q_if_ne {x : Int32} {off : Int} {q q2 : Nat} (hd : decode m.2.1 pc = .ok (.ifCond .ne off, 3)) (ht : (pc : Int) + off = (q : Int)) (hq : pc + 3 = q2) (kt : ¬ x = 0 → Wm m T cells slots sh q L st I J R) (kf : x = 0 → Wm m T cells slots sh q2 L st I J R) : Wm m T cells slots sh pc L (.int x :: st) I J R := by
  subst hq
  intro p l e s mid args below meth c D A ad0 cA0 ad cA H locs ls S
  exact lv_if_ne S.1.1 S.1.2.1 hd ht (fun z => kt (z) p l e s mid args below meth c D A ad0 cA0 ad cA H locs ls S) (fun z => kf (z) p l e s mid args below meth c D A ad0 cA0 ad cA H locs ls S)
theorem q_icmp_ne {x y : Int32} {off : Int} {q q2 : Nat} (hd : decode m.2.1 pc = .ok (.if_icmp .ne off, 3)) (ht : (pc : Int) + off = (q : Int)) (hq : pc + 3 = q2) (kt : ¬ x = y → Wm m T cells slots sh q L st I J R) (kf : x = y → Wm m T cells slots sh q2 L st I J R) : Wm m T cells slots sh pc L (.int y :: .int x :: st) I J R := by
  subst hq
  intro p l e s mid args below meth c D A ad0 cA0 ad cA H locs ls S
  exact lv_icmp_ne S.1.1 S.1.2.1 hd ht (fun z => kt (z) p l e s mid args below meth c D A ad0 cA0 ad cA H locs ls S) (fun z => kf (z) p l e s mid args below meth c D A ad0 cA0 ad cA H locs ls S)
theorem q_if_lt {x : Int32} {off : Int} {q q2 : Nat} (hd : decode m.2.1 pc = .ok (.ifCond .lt off, 3)) (ht : (pc : Int) + off = (q : Int)) (hq : pc + 3 = q2) (kt : x < 0 → Wm m T cells slots sh q L st I J R) (kf : ¬ x < 0 → Wm m T cells slots sh q2 L st I J R) : Wm m T cells slots sh pc L (.int x :: st) I J R := by
  subst hq
  intro p l e s mid args below meth c D A ad0 cA0 ad cA H locs ls S
  exact lv_if_lt S.1.1 S.1.2.1 hd ht (fun z => kt (z) p l e s mid args below meth c D A ad0 cA0 ad cA H locs ls S) (fun z => kf (z) p l e s mid args below meth c D A ad0 cA0 ad cA H locs ls S)
theorem q_icmp_lt {x y : Int32} {off : Int} {q q2 : Nat} (hd : decode m.2.1 pc = .ok (.if_icmp .lt off, 3)) (ht : (pc : Int) + off = (q : Int)) (hq : pc + 3 = q2) (kt : x < y → Wm m T cells slots sh q L st I J R) (kf : ¬ x < y → Wm m T cells slots sh q2 L st I J R) : Wm m T cells slots sh pc L (.int y :: .int x :: st) I J R := by
  subst hq
  intro p l e s mid args below meth c D A ad0 cA0 ad cA H locs ls S
  exact lv_icmp_lt S.1.1 S.1.2.1 hd ht (fun z => kt (z) p l e s mid args below meth c D A ad0 cA0 ad cA H locs ls S) (fun z => kf (z) p l e s mid args below meth c D A ad0 cA0 ad cA H locs ls S)
theorem q_if_ge {x : Int32} {off : Int} {q q2 : Nat} (hd : decode m.2.1 pc = .ok (.ifCond .ge off, 3)) (ht : (pc : Int) + off = (q : Int)) (hq : pc + 3 = q2) (kt : 0 ≤ x → Wm m T cells slots sh q L st I J R) (kf : ¬ 0 ≤ x → Wm m T cells slots sh q2 L st I J R) : Wm m T cells slots sh pc L (.int x :: st) I J R := by
  subst hq
  intro p l e s mid args below meth c D A ad0 cA0 ad cA H locs ls S
  exact lv_if_ge S.1.1 S.1.2.1 hd ht (fun z => kt (z) p l e s mid args below meth c D A ad0 cA0 ad cA H locs ls S) (fun z => kf (z) p l e s mid args below meth c D A ad0 cA0 ad cA H locs ls S)
theorem q_icmp_ge {x y : Int32} {off : Int} {q q2 : Nat} (hd : decode m.2.1 pc = .ok (.if_icmp .ge off, 3)) (ht : (pc : Int) + off = (q : Int)) (hq : pc + 3 = q2) (kt : y ≤ x → Wm m T cells slots sh q L st I J R) (kf : ¬ y ≤ x → Wm m T cells slots sh q2 L st I J R) : Wm m T cells slots sh pc L (.int y :: .int x :: st) I J R := by
  subst hq
  intro p l e s mid args below meth c D A ad0 cA0 ad cA H locs ls S
  exact lv_icmp_ge S.1.1 S.1.2.1 hd ht (fun z => kt (z) p l e s mid args below meth c D A ad0 cA0 ad cA H locs ls S) (fun z => kf (z) p l e s mid args below meth c D A ad0 cA0 ad cA H locs ls S)
theorem q_if_gt {x : Int32} {off : Int} {q q2 : Nat} (hd : decode m.2.1 pc = .ok (.ifCond .gt off, 3)) (ht : (pc : Int) + off = (q : Int)) (hq : pc + 3 = q2) (kt : 0 < x → Wm m T cells slots sh q L st I J R) (kf : ¬ 0 < x → Wm m T cells slots sh q2 L st I J R) : Wm m T cells slots sh pc L (.int x :: st) I J R := by
  subst hq
  intro p l e s mid args below meth c D A ad0 cA0 ad cA H locs ls S
  exact lv_if_gt S.1.1 S.1.2.1 hd ht (fun z => kt (z) p l e s mid args below meth c D A ad0 cA0 ad cA H locs ls S) (fun z => kf (z) p l e s mid args below meth c D A ad0 cA0 ad cA H locs ls S)
theorem q_icmp_gt {x y : Int32} {off : Int} {q q2 : Nat} (hd : decode m.2.1 pc = .ok (.if_icmp .gt off, 3)) (ht : (pc : Int) + off = (q : Int)) (hq : pc + 3 = q2) (kt : y < x → Wm m T cells slots sh q L st I J R) (kf : ¬ y < x → Wm m T cells slots sh q2 L st I J R) : Wm m T cells slots sh pc L (.int y :: .int x :: st) I J R := by
  subst hq
  intro p l e s mid args below meth c D A ad0 cA0 ad cA H locs ls S
  exact lv_icmp_gt S.1.1 S.1.2.1 hd ht (fun z => kt (z) p l e s mid args below meth c D A ad0 cA0 ad cA H locs ls S) (fun z => kf (z) p l e s mid args below meth c D A ad0 cA0 ad cA H locs ls S)
theorem q_if_le {x : Int32} {off : Int} {q q2 : Nat} (hd : decode m.2.1 pc = .ok (.ifCond .le off, 3)) (ht : (pc : Int) + off = (q : Int)) (hq : pc + 3 = q2) (kt : x ≤ 0 → Wm m T cells slots sh q L st I J R) (kf : ¬ x ≤ 0 → Wm m T cells slots sh q2 L st I J R) : Wm m T cells slots sh pc L (.int x :: st) I J R := by
  subst hq
  intro p l e s mid args below meth c D A ad0 cA0 ad cA H locs ls S
  exact lv_if_le S.1.1 S.1.2.1 hd ht (fun z => kt (z) p l e s mid args below meth c D A ad0 cA0 ad cA H locs ls S) (fun z => kf (z) p l e s mid args below meth c D A ad0 cA0 ad cA H locs ls S)
theorem q_icmp_le {x y : Int32} {off : Int} {q q2 : Nat} (hd : decode m.2.1 pc = .ok (.if_icmp .le off, 3)) (ht : (pc : Int) + off = (q : Int)) (hq : pc + 3 = q2) (kt : x ≤ y → Wm m T cells slots sh q L st I J R) (kf : ¬ x ≤ y → Wm m T cells slots sh q2 L st I J R) : Wm m T cells slots sh pc L (.int y :: .int x :: st) I J R := by
  subst hq
  intro p l e s mid args below meth c D A ad0 cA0 ad cA H locs ls S
  exact lv_icmp_le S.1.1 S.1.2.1 hd ht (fun z => kt (z) p l e s mid args below meth c D A ad0 cA0 ad cA H locs ls S) (fun z => kf (z) p l e s mid args below meth c D A ad0 cA0 ad cA H locs ls S)
theorem q_istore_n {k : Fin 4} {x : Int32} {q : Nat} (hd : decode m.2.1 pc = .ok (.istore_n k, 1)) (hq : pc + 1 = q) (hn : (k : Nat) < m.2.2.1) (K : Wm m T cells slots sh q (st1 L (k : Nat) (.int x)) st I J R) : Wm m T cells slots sh pc L (.int x :: st) I J R := by
  subst hq
  intro p l e s mid args below meth c D A ad0 cA0 ad cA H locs ls S
  obtain ⟨C, hA, hT, hK, hP, hD, hS, hl⟩ := S
  exact lv_istore_n C.1 C.2.1 hd rfl hl.has hn rfl (fun ls2 h2 => K p l e s mid args below meth c D A ad0 cA0 ad cA H locs ls2 ⟨C, hA, hT, hK, hP, hD, hS, lo.put1 (v := .int x) h2⟩)
theorem q_istore {i : Nat} {x : Int32} {q : Nat} (hd : decode m.2.1 pc = .ok (.istore i, 2)) (hq : pc + 2 = q) (hn : i < m.2.2.1) (K : Wm m T cells slots sh q (st1 L i (.int x)) st I J R) : Wm m T cells slots sh pc L (.int x :: st) I J R := by
  subst hq
  intro p l e s mid args below meth c D A ad0 cA0 ad cA H locs ls S
  obtain ⟨C, hA, hT, hK, hP, hD, hS, hl⟩ := S
  exact lv_istore C.1 C.2.1 hd hl.has hn rfl (fun ls2 h2 => K p l e s mid args below meth c D A ad0 cA0 ad cA H locs ls2 ⟨C, hA, hT, hK, hP, hD, hS, lo.put1 (v := .int x) h2⟩)
theorem q_astore_n {k : Fin 4} {x : Nat} {q : Nat} (hd : decode m.2.1 pc = .ok (.astore_n k, 1)) (hq : pc + 1 = q) (hn : (k : Nat) < m.2.2.1) (K : Wm m T cells slots sh q (st1 L (k : Nat) (.ref x)) st I J R) : Wm m T cells slots sh pc L (.ref x :: st) I J R := by
  subst hq
  intro p l e s mid args below meth c D A ad0 cA0 ad cA H locs ls S
  obtain ⟨C, hA, hT, hK, hP, hD, hS, hl⟩ := S
  exact lv_astore_n C.1 C.2.1 hd rfl hl.has hn rfl (fun ls2 h2 => K p l e s mid args below meth c D A ad0 cA0 ad cA H locs ls2 ⟨C, hA, hT, hK, hP, hD, hS, lo.put1 (v := .ref x) h2⟩)
theorem q_astore {i : Nat} {x : Nat} {q : Nat} (hd : decode m.2.1 pc = .ok (.astore i, 2)) (hq : pc + 2 = q) (hn : i < m.2.2.1) (K : Wm m T cells slots sh q (st1 L i (.ref x)) st I J R) : Wm m T cells slots sh pc L (.ref x :: st) I J R := by
  subst hq
  intro p l e s mid args below meth c D A ad0 cA0 ad cA H locs ls S
  obtain ⟨C, hA, hT, hK, hP, hD, hS, hl⟩ := S
  exact lv_astore C.1 C.2.1 hd hl.has hn rfl (fun ls2 h2 => K p l e s mid args below meth c D A ad0 cA0 ad cA H locs ls2 ⟨C, hA, hT, hK, hP, hD, hS, lo.put1 (v := .ref x) h2⟩)
theorem q_lstore_n {k : Fin 4} {x : Int64} {q : Nat} (hd : decode m.2.1 pc = .ok (.lstore_n k, 1)) (hq : pc + 1 = q) (hn : (k : Nat) + 1 < m.2.2.1) (K : Wm m T cells slots sh q (st2 L (k : Nat) (.long x)) st I J R) : Wm m T cells slots sh pc L (.long x :: st) I J R := by
  subst hq
  intro p l e s mid args below meth c D A ad0 cA0 ad cA H locs ls S
  obtain ⟨C, hA, hT, hK, hP, hD, hS, hl⟩ := S
  exact lv_lstore_n C.1 C.2.1 hd rfl hl.has hn rfl (fun ls2 h2 => K p l e s mid args below meth c D A ad0 cA0 ad cA H locs ls2 ⟨C, hA, hT, hK, hP, hD, hS, lo.put2 (v := .long x) h2⟩)
theorem q_lstore {i : Nat} {x : Int64} {q : Nat} (hd : decode m.2.1 pc = .ok (.lstore i, 2)) (hq : pc + 2 = q) (hn : i + 1 < m.2.2.1) (K : Wm m T cells slots sh q (st2 L i (.long x)) st I J R) : Wm m T cells slots sh pc L (.long x :: st) I J R := by
  subst hq
  intro p l e s mid args below meth c D A ad0 cA0 ad cA H locs ls S
  obtain ⟨C, hA, hT, hK, hP, hD, hS, hl⟩ := S
  exact lv_lstore C.1 C.2.1 hd hl.has hn rfl (fun ls2 h2 => K p l e s mid args below meth c D A ad0 cA0 ad cA H locs ls2 ⟨C, hA, hT, hK, hP, hD, hS, lo.put2 (v := .long x) h2⟩)
theorem q_iinc {i : Nat} {n : Int} {x v : Int32} {q : Nat} (hd : decode m.2.1 pc = .ok (.iinc i n, 3)) (hq : pc + 3 = q) (hL : L[i]? = some (some (.int x))) (hv : x + Int32.ofInt n = v) (hn : i < m.2.2.1) (K : Wm m T cells slots sh q (st1 L i (.int v)) st I J R) : Wm m T cells slots sh pc L st I J R := by
  subst hq
  intro p l e s mid args below meth c D A ad0 cA0 ad cA H locs ls S
  obtain ⟨C, hA, hT, hK, hP, hD, hS, hl⟩ := S
  obtain ⟨k, hk⟩ := List.getElem?_of_mem (lvl_in (ad := ad) hL)
  exact lv_iinc C.1 C.2.1 hd hl.has hk hv hn rfl (fun ls2 h2 => K p l e s mid args below meth c D A ad0 cA0 ad cA H locs ls2 ⟨C, hA, hT, hK, hP, hD, hS, lo.put1 (v := .int v) h2⟩)
theorem q_lookup {dflt : Int} {ps : Array (Int × Int)} {len : Nat} {x : Int32} {off : Int} {q : Nat} (hd : decode m.2.1 pc = .ok (.lookupswitch dflt ps, len)) (hp : (ps.toList.zip (ps.toList.drop 1)).all (fun (a, next) => a.1 < next.1) = true) (ho : Op.lookupswitch.offset ps.toList dflt x.toInt = off) (ht : (pc : Int) + off = (q : Int)) (K : Wm m T cells slots sh q L st I J R) : Wm m T cells slots sh pc L (.int x :: st) I J R := by
  intro p l e s mid args below meth c D A ad0 cA0 ad cA H locs ls S
  exact lv_lookup S.1.1 S.1.2.1 hd hp ho ht (K p l e s mid args below meth c D A ad0 cA0 ad cA H locs ls S)
theorem q_tableOut {dflt lo hi : Int} {offs : Array Int} {len : Nat} {x : Int32} {q : Nat} (hd : decode m.2.1 pc = .ok (.tableswitch dflt lo hi offs, len)) (h : x.toInt < lo ∨ hi < x.toInt) (ht : (pc : Int) + dflt = (q : Int)) (K : Wm m T cells slots sh q L st I J R) : Wm m T cells slots sh pc L (.int x :: st) I J R := by
  intro p l e s mid args below meth c D A ad0 cA0 ad cA H locs ls S
  exact lv_tableOut S.1.1 S.1.2.1 hd h ht (K p l e s mid args below meth c D A ad0 cA0 ad cA H locs ls S)
theorem q_tableIn {dflt lo hi : Int} {offs : Array Int} {len : Nat} {x : Int32} {off : Int} {q : Nat} (hd : decode m.2.1 pc = .ok (.tableswitch dflt lo hi offs, len)) (h1 : ¬ x.toInt < lo) (h2 : ¬ hi < x.toInt) (ho : offs[(x.toInt - lo).toNat]? = some off) (ht : (pc : Int) + off = (q : Int)) (K : Wm m T cells slots sh q L st I J R) : Wm m T cells slots sh pc L (.int x :: st) I J R := by
  intro p l e s mid args below meth c D A ad0 cA0 ad cA H locs ls S
  exact lv_tableIn S.1.1 S.1.2.1 hd h1 h2 ho ht (K p l e s mid args below meth c D A ad0 cA0 ad cA H locs ls S)
theorem q_widen {k n : Nat} (h1 : cells ≤ k) (h2 : slots ≤ n) (K : Wm m T k n sh pc L st I J R) : Wm m T cells slots sh pc L st I J R := by
  intro p l e s mid args below meth c D A ad0 cA0 ad cA H locs ls S
  exact W.widen h1 h2 (K p l e s mid args below meth c D A ad0 cA0 ad cA H locs ls S)
theorem TC_own {c k : Nat} (h : c < 8) (hk : k < nC c) : (TC c k).1 = RC c := by
  have key : ∀ c, c < 8 → ∀ k, k < nC c → (TC c k).1 = RC c := by decide +kernel
  exact key c h k hk
/-- a field's place in its class, linked at an entry of the pool, of a kind (0 int, 1 long, 2 reference) -/
def FG (own : String) (idx c k kind : Nat) : Prop := c < 8 ∧ k < nC c ∧ fk (tyC c k) = kind ∧ (Cond.fieldLink own idx (RC c) (TC c k).2.1 (TC c k).2.2.1 ∈ ALLW ∨ ∃ host, Cond.fieldLinkNest own idx (RC c) (TC c k).2.1 (TC c k).2.2.1 host ∈ nestW)
theorem W_get {p : Program} {l : Launch} {e : Env} {RR : Room} {s : State} {mid : MethodId} {args : Array Value} {below : List Frame} {meth : Method} {c : Code} {H : Heap} {locs : List Loc} {Q : State → Prop} {D : va_G} {cA : Nat → ClassId} {ad : Nat → Nat} {ls : Array Slot} {rest : List Value} {pl k ci idx kind : Nat}
    (C : Cx m p s mid args meth c) (hK : KK D cA sh s) (hP : va_P D vwCl (enc ad cA sh I J R) H) (hf : FG m.1.cls idx ci k kind) (hs : sh[pl]? = some (.inl ci)) (hd : decode m.2.1 pc = .ok (.getfield idx, 3))
    (kk : W p l e RR s mid args below meth c H locs cells slots Q (F0 mid (pc + 3) ls (fv ad I J R pl k (tyC ci k) :: rest))) : W p l e RR s mid args below meth c H locs cells slots Q (F0 mid pc ls (.ref (ad pl) :: rest)) := by
  obtain ⟨hc, hk, -, hl⟩ := hf
  have he : (enc ad cA sh I J R)[pl]? = some (ad pl, .inr (ci, (List.range (nC ci)).map (fun k => fv ad I J R pl k (tyC ci k)))) := enc_at hs
  have hv : ((List.range (nC ci)).map (fun k => fv ad I J R pl k (tyC ci k)))[k]? = some (fv ad I J R pl k (tyC ci k)) := by
    rw [List.getElem?_map, List.getElem?_range hk]
    rfl
  rcases hl with hl | ⟨host, hl⟩
  · exact va_get (C := RC ci) (T := TC ci) (N := nC ci) C.1 C.2.1 C.2.2.2.2.2.1 (uAll hc) C.2.2.2.2.1 hK.1 hP pl he (vwAt hc) k hk (C.2.2.2.2.2.1 _ hl) (fun _ h => by rw [TC_own hc hk] at h; exact h) hv hd kk
  · exact va_getN (C := RC ci) (T := TC ci) (N := nC ci) C.1 C.2.1 C.2.2.2.2.2.1 (uAll hc) C.2.2.2.2.1 hK.1 hP pl he (vwAt hc) k hk (va_Nw.use rfl (C.2.2.2.2.2.2.2.2 _ hl)) (fun _ h => by rw [TC_own hc hk] at h; exact h) hv hd kk
theorem q_getI {pl k ci idx : Nat} {q : Nat} (hd : decode m.2.1 pc = .ok (.getfield idx, 3)) (hq : pc + 3 = q) (hf : FG m.1.cls idx ci k 0) (hs : sh[pl]? = some (.inl ci)) (K : Wm m T cells slots sh q L (.int (I pl k) :: st) I J R) : Wm m T cells slots sh pc L (.ref pl :: st) I J R := by
  subst hq
  intro p l e s mid args below meth c D A ad0 cA0 ad cA H locs ls S
  refine W_get S.1 S.2.2.2.1 S.2.2.2.2.1 hf hs hd ?_
  have e1 : fv ad I J R pl k (tyC ci k) = .int (I pl k) := by
    unfold fv
    rw [hf.2.2.1]
    rfl
  rw [e1]
  exact K p l e s mid args below meth c D A ad0 cA0 ad cA H locs ls S
theorem q_getJ {pl k ci idx : Nat} {q : Nat} (hd : decode m.2.1 pc = .ok (.getfield idx, 3)) (hq : pc + 3 = q) (hf : FG m.1.cls idx ci k 1) (hs : sh[pl]? = some (.inl ci)) (K : Wm m T cells slots sh q L (.long (J pl k) :: st) I J R) : Wm m T cells slots sh pc L (.ref pl :: st) I J R := by
  subst hq
  intro p l e s mid args below meth c D A ad0 cA0 ad cA H locs ls S
  refine W_get S.1 S.2.2.2.1 S.2.2.2.2.1 hf hs hd ?_
  have e1 : fv ad I J R pl k (tyC ci k) = .long (J pl k) := by
    unfold fv
    rw [hf.2.2.1]
    rfl
  rw [e1]
  exact K p l e s mid args below meth c D A ad0 cA0 ad cA H locs ls S
theorem q_getR {pl k ci idx r : Nat} {q : Nat} (hd : decode m.2.1 pc = .ok (.getfield idx, 3)) (hq : pc + 3 = q) (hf : FG m.1.cls idx ci k 2) (hs : sh[pl]? = some (.inl ci)) (hr : R pl k = some r) (K : Wm m T cells slots sh q L (.ref r :: st) I J R) : Wm m T cells slots sh pc L (.ref pl :: st) I J R := by
  subst hq
  intro p l e s mid args below meth c D A ad0 cA0 ad cA H locs ls S
  refine W_get S.1 S.2.2.2.1 S.2.2.2.2.1 hf hs hd ?_
  have e1 : fv ad I J R pl k (tyC ci k) = .ref (ad r) := by
    unfold fv
    rw [hf.2.2.1, hr]
    rfl
  rw [e1]
  exact K p l e s mid args below meth c D A ad0 cA0 ad cA H locs ls S
/-- a field written: as FG, with its exact type, not of a nest mate -/
def FP (own : String) (idx c k : Nat) (t : FieldType) (fin : Bool) : Prop := c < 8 ∧ k < nC c ∧ tyC c k = t ∧ (TC c k).2.2.2 = fin ∧ (fin = true → RC c = own) ∧ Cond.fieldLink own idx (RC c) (TC c k).2.1 (TC c k).2.2.1 ∈ ALLW
theorem W_put {p : Program} {l : Launch} {e : Env} {RR : Room} {s : State} {mid : MethodId} {args : Array Value} {below : List Frame} {meth : Method} {c : Code} {H : Heap} {locs : List Loc} {Q : State → Prop} {D : va_G} {cA : Nat → ClassId} {ad : Nat → Nat} {ls : Array Slot} {rest : List Value} {pl k ci idx : Nat} {t : FieldType} {fin : Bool} {v : Value} {A : Nat → Prop} {H0 : Heap} {I' : HI} {J' : HJ} {R' : HR}
    (C : Cx m p s mid args meth c) (hK : KK D cA sh s) (hP : va_P D vwCl (enc ad cA sh I J R) H) (hD : va_D A (enc ad cA sh I J R)) (hS : va_S A H0 H locs) (hf : FP m.1.cls idx ci k t fin) (hin : fin = true → m.1.name = "<init>") (hs : sh[pl]? = some (.inl ci)) (hd : decode m.2.1 pc = .ok (.putfield idx, 3)) (hn : narrow t v = v) (hft : fits t v = true)
    (h1 : ∀ a, a ≠ pl → I' a = I a ∧ J' a = J a ∧ R' a = R a) (h2 : ∀ j, j < nC ci → fv ad I' J' R' pl j (tyC ci j) = if j = k then v else fv ad I J R pl j (tyC ci j))
    (kk : ∀ (H1 : Heap) (locs1 : List Loc), va_P D vwCl (enc ad cA sh I' J' R') H1 → va_D A (enc ad cA sh I' J' R') → va_S A H0 H1 locs1 → W p l e RR s mid args below meth c H1 locs1 cells slots Q (F0 mid (pc + 3) ls rest)) : W p l e RR s mid args below meth c H locs cells slots Q (F0 mid pc ls (v :: .ref (ad pl) :: rest)) := by
  obtain ⟨hc, hk, hty, hfin, how, hl⟩ := hf
  have he : (enc ad cA sh I J R)[pl]? = some (ad pl, .inr (ci, (List.range (nC ci)).map (fun k => fv ad I J R pl k (tyC ci k)))) := enc_at hs
  have hset : (enc ad cA sh I J R).set pl (ad pl, .inr (ci, ((List.range (nC ci)).map (fun k => fv ad I J R pl k (tyC ci k))).set k v)) = enc ad cA sh I' J' R' :=
    enc_set hs (fun a kd ha => en_ne (h1 a ha).1 (h1 a ha).2.1 (h1 a ha).2.2 kd) (en_setF h2)
  have kk2 : ∀ (H1 : Heap) (locs1 : List Loc), va_P D vwCl ((enc ad cA sh I J R).set pl (ad pl, .inr (ci, ((List.range (nC ci)).map (fun k => fv ad I J R pl k (tyC ci k))).set k v))) H1 → va_D A ((enc ad cA sh I J R).set pl (ad pl, .inr (ci, ((List.range (nC ci)).map (fun k => fv ad I J R pl k (tyC ci k))).set k v))) → va_S A H0 H1 locs1 → W p l e RR s mid args below meth c H1 locs1 cells slots Q (F0 mid (pc + 3) ls rest) := by
    rw [hset]
    exact kk
  have hlen : k < ((List.range (nC ci)).map (fun k => fv ad I J R pl k (tyC ci k))).length := by simp; exact hk
  have hpd : parseFieldDescriptor (TC ci k).2.2.1 = some t := by rw [tyOK hc k hk, hty]
  cases fin with
  | false => exact va_put (C := RC ci) (T := TC ci) (N := nC ci) C.1 C.2.1 C.2.2.2.2.2.1 (uAll hc) (tyC ci) (tyOK hc) (nmOK hc) C.2.2.2.2.1 hK.1 hP hD hS pl he (vwAt hc) k hk (C.2.2.2.2.2.1 _ hl) (fun _ h => by rw [TC_own hc hk] at h; exact h) hfin hpd hn hft hlen hd kk2
  | true => exact va_putF (C := RC ci) (T := TC ci) (N := nC ci) C.1 C.2.1 C.2.2.2.2.2.1 (uAll hc) (tyC ci) (tyOK hc) (nmOK hc) C.2.2.2.2.1 hK.1 hP hD hS pl he (vwAt hc) k hk (C.2.2.2.2.2.1 _ hl) (fun _ h => by rw [TC_own hc hk] at h; exact h) hfin (C.2.2.2.2.2.2.2.1 (hin rfl)) ((TC_own hc hk).trans (how rfl)) hpd hn hft hlen hd kk2
theorem fv_wrI {ad : Nat → Nat} {pl k ci : Nat} {v : Int32} (hk : fk (tyC ci k) = 0) (j : Nat) : fv ad (wr I pl k v) J R pl j (tyC ci j) = if j = k then .int v else fv ad I J R pl j (tyC ci j) := by
  by_cases e : j = k
  · subst e
    rw [if_pos rfl]
    unfold fv
    rw [hk]
    simp [wr]
  · rw [if_neg e]
    unfold fv
    rw [wr_nk e]
theorem fv_wrJ {ad : Nat → Nat} {pl k ci : Nat} {v : Int64} (hk : fk (tyC ci k) = 1) (j : Nat) : fv ad I (wr J pl k v) R pl j (tyC ci j) = if j = k then .long v else fv ad I J R pl j (tyC ci j) := by
  by_cases e : j = k
  · subst e
    rw [if_pos rfl]
    unfold fv
    rw [hk]
    simp [wr]
  · rw [if_neg e]
    unfold fv
    rw [wr_nk e]
theorem fv_wrR {ad : Nat → Nat} {pl k ci : Nat} {r : Nat} (hk : fk (tyC ci k) = 2) (j : Nat) : fv ad I J (wr R pl k (some r)) pl j (tyC ci j) = if j = k then .ref (ad r) else fv ad I J R pl j (tyC ci j) := by
  by_cases e : j = k
  · subst e
    rw [if_pos rfl]
    unfold fv
    rw [hk]
    simp [wr, va_rf]
  · rw [if_neg e]
    unfold fv
    rw [wr_nk e]
theorem q_putI {pl k ci idx : Nat} {v : Int32} {q : Nat} (hd : decode m.2.1 pc = .ok (.putfield idx, 3)) (hq : pc + 3 = q) (hf : FP m.1.cls idx ci k .int false) (hs : sh[pl]? = some (.inl ci)) (K : Wm m T cells slots sh q L st (wr I pl k v) J R) : Wm m T cells slots sh pc L (.int v :: .ref pl :: st) I J R := by
  subst hq
  intro p l e s mid args below meth c D A ad0 cA0 ad cA H locs ls S
  obtain ⟨C, hA, hT, hK, hP, hD, hS, hl⟩ := S
  have hk : fk (tyC ci k) = 0 := by rw [hf.2.2.1]; rfl
  exact W_put C hK hP hD hS hf (fun z => by cases z) hs hd rfl rfl (fun a ha => ⟨wr_ne ha, rfl, rfl⟩) (fun j _ => fv_wrI hk j) (fun H1 locs1 hP hD hS => K p l e s mid args below meth c D A ad0 cA0 ad cA H1 locs1 ls ⟨C, hA, hT, hK, hP, hD, hS, hl⟩)
theorem q_putJ {pl k ci idx : Nat} {v : Int64} {q : Nat} (hd : decode m.2.1 pc = .ok (.putfield idx, 3)) (hq : pc + 3 = q) (hf : FP m.1.cls idx ci k .long false) (hs : sh[pl]? = some (.inl ci)) (K : Wm m T cells slots sh q L st I (wr J pl k v) R) : Wm m T cells slots sh pc L (.long v :: .ref pl :: st) I J R := by
  subst hq
  intro p l e s mid args below meth c D A ad0 cA0 ad cA H locs ls S
  obtain ⟨C, hA, hT, hK, hP, hD, hS, hl⟩ := S
  have hk : fk (tyC ci k) = 1 := by rw [hf.2.2.1]; rfl
  exact W_put C hK hP hD hS hf (fun z => by cases z) hs hd rfl rfl (fun a ha => ⟨rfl, wr_ne ha, rfl⟩) (fun j _ => fv_wrJ hk j) (fun H1 locs1 hP hD hS => K p l e s mid args below meth c D A ad0 cA0 ad cA H1 locs1 ls ⟨C, hA, hT, hK, hP, hD, hS, hl⟩)
theorem q_putR {pl k ci idx r : Nat} {t : FieldType} {fin : Bool} {q : Nat} (hd : decode m.2.1 pc = .ok (.putfield idx, 3)) (hq : pc + 3 = q) (hf : FP m.1.cls idx ci k t fin) (ht : fk t = 2) (hin : fin = true → m.1.name = "<init>") (hs : sh[pl]? = some (.inl ci)) (K : Wm m T cells slots sh q L st I J (wr R pl k (some r))) : Wm m T cells slots sh pc L (.ref r :: .ref pl :: st) I J R := by
  subst hq
  intro p l e s mid args below meth c D A ad0 cA0 ad cA H locs ls S
  obtain ⟨C, hA, hT, hK, hP, hD, hS, hl⟩ := S
  have hk : fk (tyC ci k) = 2 := by rw [hf.2.2.1]; exact ht
  have hn : narrow t (.ref (ad r)) = .ref (ad r) := by cases t <;> first | rfl | (simp [fk] at ht)
  have hft : fits t (.ref (ad r)) = true := by cases t <;> first | rfl | (simp [fk] at ht)
  exact W_put C hK hP hD hS hf hin hs hd hn hft (fun a ha => ⟨rfl, rfl, wr_ne ha⟩) (fun j _ => fv_wrR hk j) (fun H1 locs1 hP hD hS => K p l e s mid args below meth c D A ad0 cA0 ad cA H1 locs1 ls ⟨C, hA, hT, hK, hP, hD, hS, hl⟩)
theorem vpn {j n : Nat} (hj : j < n) (hn : n < 2 ^ 31) : vp_in (nI j) n := vp_in_nI hj hn
theorem ncl {j n : Nat} (hj : j < n) (hn : n < 2 ^ 31) : (nI j).toNatClampNeg = j := nI_clamp (by omega)
theorem upd_wr {p k : Nat} {v : Int32} : upd (I p) k v = wr I p k v p := by
  funext b
  simp [upd, wr]
theorem updL_wr {p k : Nat} {v : Int64} : vp_updL (J p) k v = wr J p k v p := by
  funext b
  simp [vp_updL, wr]
theorem q_iald {pl j n : Nat} {q : Nat} (hd : decode m.2.1 pc = .ok (.iaload, 1)) (hq : pc + 1 = q) (hs : sh[pl]? = some (.inr (.int, n))) (hj : j < n) (hn : n < 2 ^ 31) (K : Wm m T cells slots sh q L (.int (I pl j) :: st) I J R) : Wm m T cells slots sh pc L (.int (nI j) :: .ref pl :: st) I J R := by
  subst hq
  intro p l e s mid args below meth c D A ad0 cA0 ad cA H locs ls S
  have K2 := K p l e s mid args below meth c D A ad0 cA0 ad cA H locs ls S
  have he := enc_at (ad := ad) (cA := cA) (I := I) (J := J) (R := R) hs
  refine va_iald S.1.1 S.1.2.1 (S.2.2.2.1.2 pl _ _ hs) S.2.2.2.2.1 pl 0 he rfl (vpn hj hn) hd ?_
  rw [ncl hj hn]
  exact K2
theorem q_bald {pl j n : Nat} {q : Nat} (hd : decode m.2.1 pc = .ok (.baload, 1)) (hq : pc + 1 = q) (hs : sh[pl]? = some (.inr (.byte, n))) (hj : j < n) (hn : n < 2 ^ 31) (K : Wm m T cells slots sh q L (.int (I pl j) :: st) I J R) : Wm m T cells slots sh pc L (.int (nI j) :: .ref pl :: st) I J R := by
  subst hq
  intro p l e s mid args below meth c D A ad0 cA0 ad cA H locs ls S
  have K2 := K p l e s mid args below meth c D A ad0 cA0 ad cA H locs ls S
  have he := enc_at (ad := ad) (cA := cA) (I := I) (J := J) (R := R) hs
  refine va_bald S.1.1 S.1.2.1 (S.2.2.2.1.2 pl _ _ hs) S.2.2.2.2.1 pl 0 he rfl (vpn hj hn) hd ?_
  rw [ncl hj hn]
  exact K2
theorem q_lald {pl j n : Nat} {q : Nat} (hd : decode m.2.1 pc = .ok (.laload, 1)) (hq : pc + 1 = q) (hs : sh[pl]? = some (.inr (.long, n))) (hj : j < n) (hn : n < 2 ^ 31) (K : Wm m T cells slots sh q L (.long (J pl j) :: st) I J R) : Wm m T cells slots sh pc L (.int (nI j) :: .ref pl :: st) I J R := by
  subst hq
  intro p l e s mid args below meth c D A ad0 cA0 ad cA H locs ls S
  have K2 := K p l e s mid args below meth c D A ad0 cA0 ad cA H locs ls S
  have he := enc_at (ad := ad) (cA := cA) (I := I) (J := J) (R := R) hs
  refine va_lald S.1.1 S.1.2.1 (S.2.2.2.1.2 pl _ _ hs) S.2.2.2.2.1 pl 0 he rfl (vpn hj hn) hd ?_
  rw [ncl hj hn]
  exact K2
theorem q_iast {pl j n : Nat} {v : Int32} {q : Nat} (hd : decode m.2.1 pc = .ok (.iastore, 1)) (hq : pc + 1 = q) (hs : sh[pl]? = some (.inr (.int, n))) (hj : j < n) (hn : n < 2 ^ 31) (K : Wm m T cells slots sh q L st (wr I pl j v) J R) : Wm m T cells slots sh pc L (.int v :: .int (nI j) :: .ref pl :: st) I J R := by
  subst hq
  intro p l e s mid args below meth c D A ad0 cA0 ad cA H locs ls S
  obtain ⟨C, hA, hT, hK, hP, hD, hS, hl⟩ := S
  have he := enc_at (ad := ad) (cA := cA) (I := I) (J := J) (R := R) hs
  refine va_iast C.1 C.2.1 (hK.2 pl _ _ hs) hP hD hS pl 0 he rfl (vpn hj hn) hd (fun H1 locs1 hP hD hS => ?_)
  have e2 : (enc ad cA sh I J R).set pl (ad pl, .inl (cA pl, n, .inl ((wr I pl j v) pl))) = enc ad cA sh (wr I pl j v) J R := enc_set hs (fun a kd ha => en_ne (wr_ne ha) rfl rfl kd) rfl
  rw [ncl hj hn, upd_wr, e2] at hP hD
  exact K p l e s mid args below meth c D A ad0 cA0 ad cA H1 locs1 ls ⟨C, hA, hT, hK, hP, hD, hS, hl⟩
theorem q_bast {pl j n : Nat} {v : Int32} {q : Nat} (hd : decode m.2.1 pc = .ok (.bastore, 1)) (hq : pc + 1 = q) (hs : sh[pl]? = some (.inr (.byte, n))) (hj : j < n) (hn : n < 2 ^ 31) (K : Wm m T cells slots sh q L st (wr I pl j (vp_nar .byte v)) J R) : Wm m T cells slots sh pc L (.int v :: .int (nI j) :: .ref pl :: st) I J R := by
  subst hq
  intro p l e s mid args below meth c D A ad0 cA0 ad cA H locs ls S
  obtain ⟨C, hA, hT, hK, hP, hD, hS, hl⟩ := S
  have he := enc_at (ad := ad) (cA := cA) (I := I) (J := J) (R := R) hs
  refine va_bast C.1 C.2.1 (hK.2 pl _ _ hs) hP hD hS pl 0 he rfl (vpn hj hn) hd (fun H1 locs1 hP hD hS => ?_)
  have e2 : (enc ad cA sh I J R).set pl (ad pl, .inl (cA pl, n, .inl ((wr I pl j (vp_nar .byte v)) pl))) = enc ad cA sh (wr I pl j (vp_nar .byte v)) J R := enc_set hs (fun a kd ha => en_ne (wr_ne ha) rfl rfl kd) rfl
  rw [ncl hj hn, upd_wr, e2] at hP hD
  exact K p l e s mid args below meth c D A ad0 cA0 ad cA H1 locs1 ls ⟨C, hA, hT, hK, hP, hD, hS, hl⟩
theorem q_last {pl j n : Nat} {v : Int64} {q : Nat} (hd : decode m.2.1 pc = .ok (.lastore, 1)) (hq : pc + 1 = q) (hs : sh[pl]? = some (.inr (.long, n))) (hj : j < n) (hn : n < 2 ^ 31) (K : Wm m T cells slots sh q L st I (wr J pl j v) R) : Wm m T cells slots sh pc L (.long v :: .int (nI j) :: .ref pl :: st) I J R := by
  subst hq
  intro p l e s mid args below meth c D A ad0 cA0 ad cA H locs ls S
  obtain ⟨C, hA, hT, hK, hP, hD, hS, hl⟩ := S
  have he := enc_at (ad := ad) (cA := cA) (I := I) (J := J) (R := R) hs
  refine va_last C.1 C.2.1 (hK.2 pl _ _ hs) hP hD hS pl 0 he rfl (vpn hj hn) hd (fun H1 locs1 hP hD hS => ?_)
  have e2 : (enc ad cA sh I J R).set pl (ad pl, .inl (cA pl, n, .inr (.inl (wr J pl j v pl)))) = enc ad cA sh I (wr J pl j v) R := enc_set hs (fun a kd ha => en_ne rfl (wr_ne ha) rfl kd) rfl
  rw [ncl hj hn, updL_wr, e2] at hP hD
  exact K p l e s mid args below meth c D A ad0 cA0 ad cA H1 locs1 ls ⟨C, hA, hT, hK, hP, hD, hS, hl⟩
theorem q_alen {pl n : Nat} {t : FieldType} {q : Nat} (hd : decode m.2.1 pc = .ok (.arraylength, 1)) (hq : pc + 1 = q) (hs : sh[pl]? = some (.inr (t, n))) (K : Wm m T cells slots sh q L (.int (nI n) :: st) I J R) : Wm m T cells slots sh pc L (.ref pl :: st) I J R := by
  subst hq
  intro p l e s mid args below meth c D A ad0 cA0 ad cA H locs ls S
  have he := enc_at (ad := ad) (cA := cA) (I := I) (J := J) (R := R) hs
  refine va_alen S.1.1 S.1.2.1 (S.2.2.2.1.2 pl _ _ hs) S.2.2.2.2.1 pl 0 he rfl (v := nI n) ?_ hd (K p l e s mid args below meth c D A ad0 cA0 ad cA H locs ls S)
  unfold acn
  split <;> rfl
theorem q_aald {pl j n r : Nat} {t : FieldType} {q : Nat} (hd : decode m.2.1 pc = .ok (.aaload, 1)) (hq : pc + 1 = q) (hs : sh[pl]? = some (.inr (.array t, n))) (hj : j < n) (hn : n < 2 ^ 31) (hr : R pl j = some r) (K : Wm m T cells slots sh q L (.ref r :: st) I J R) : Wm m T cells slots sh pc L (.int (nI j) :: .ref pl :: st) I J R := by
  subst hq
  intro p l e s mid args below meth c D A ad0 cA0 ad cA H locs ls S
  have K2 := K p l e s mid args below meth c D A ad0 cA0 ad cA H locs ls S
  have he := enc_at (ad := ad) (cA := cA) (I := I) (J := J) (R := R) hs
  have hin : vp_in (nI j) n := vpn hj hn
  have hlt : (nI j).toNatClampNeg < n := Nat.not_le.mp fun z => hin (Or.inr z)
  refine W.aald (v := .ref (ad r)) (ty := .array t) S.1.1 S.1.2.1 (S.2.2.2.2.1 pl _ he) (((S.2.2.2.1.2 pl _ _ hs).2 0 _ rfl).1 n (fun j => va_rf ((R pl j).map ad))) rfl (fun z => by cases z) (by show ¬ (nI j < 0 ∨ (arrV _ _ _).slots.size ≤ _); rw [arrV_size]; exact hin) ?_ rfl rfl hd K2
  show (arrV (cA pl) n (fun j => va_rf ((R pl j).map ad))).slots[(nI j).toNatClampNeg]? = some (.ref (ad r))
  rw [arrV_read _ _ hlt, ncl hj hn, hr]
  rfl
end MROWS
