/-! the constructors: rules for what is made, in the order of the world's places -/
def scVb (n : Nat) (v : Value) : Bool := match v with
  | .ref p => decide (p < n) || decide (SCR ≤ p)
  | _ => true
def scOb (n : Nat) (o : Option Value) : Bool := match o with
  | some v => scVb n v
  | none => true
def scLb (n : Nat) (L : LO) : Bool := L.all (scOb n)
def scSb (n : Nat) (st : List Value) : Bool := st.all (scVb n)
theorem scV_b {n : Nat} {v : Value} (h : scVb n v = true) : scV n v := by
  cases v <;> first | exact trivial | (simp only [scVb, Bool.or_eq_true, decide_eq_true_eq] at h; exact h)
theorem scL_b {n : Nat} {L : LO} (h : scLb n L = true) : scL n L := fun v hv => scV_b (List.all_eq_true.mp h (some v) hv)
theorem scS_b {n : Nat} {st : List Value} (h : scSb n st = true) : scS n st := fun v hv => scV_b (List.all_eq_true.mp h v hv)
/-- nothing lies at n or behind it -/
def ZW (n : Nat) (I : HI) (J : HJ) (R : HR) : Prop := (∀ a, n ≤ a → I a = fun _ => 0) ∧ (∀ a, n ≤ a → J a = fun _ => 0) ∧ (∀ a, n ≤ a → R a = fun _ => none) ∧ ∀ a b r, R a b = some r → r < n
theorem ZW.up {n k : Nat} {I : HI} {J : HJ} {R : HR} (h : ZW n I J R) (hk : n ≤ k) : ZW k I J R := ⟨fun a ha => h.1 a (by omega), fun a ha => h.2.1 a (by omega), fun a ha => h.2.2.1 a (by omega), fun a b r hr => by have := h.2.2.2 a b r hr; omega⟩
theorem ZW.zr {n : Nat} {I : HI} {J : HJ} {R : HR} (h : ZW n I J R) : zr I n 0 = I ∧ zr J n 0 = J ∧ zr R n none = R := by
  refine ⟨?_, ?_, ?_⟩
  · funext a b
    by_cases e : a = n
    · subst e
      rw [zr_same, h.1 _ (Nat.le_refl _)]
    · rw [zr_ne e]
  · funext a b
    by_cases e : a = n
    · subst e
      rw [zr_same, h.2.1 _ (Nat.le_refl _)]
    · rw [zr_ne e]
  · funext a b
    by_cases e : a = n
    · subst e
      rw [zr_same, h.2.2.1 _ (Nat.le_refl _)]
    · rw [zr_ne e]
theorem ZW.wI {n p k : Nat} {I : HI} {J : HJ} {R : HR} {v : Int32} (h : ZW n I J R) (hp : p < n) : ZW n (wr I p k v) J R := ⟨fun a ha => by rw [wr_ne (by omega)]; exact h.1 a ha, h.2⟩
theorem ZW.wJ {n p k : Nat} {I : HI} {J : HJ} {R : HR} {v : Int64} (h : ZW n I J R) (hp : p < n) : ZW n I (wr J p k v) R := ⟨h.1, fun a ha => by rw [wr_ne (by omega)]; exact h.2.1 a ha, h.2.2⟩
theorem ZW.wR {n p k r : Nat} {I : HI} {J : HJ} {R : HR} (h : ZW n I J R) (hp : p < n) (hr : r < n) : ZW n I J (wr R p k (some r)) := ⟨h.1, h.2.1, fun a ha => by rw [wr_ne (by omega)]; exact h.2.2.1 a ha, fun a b r' he => by
  unfold wr at he
  split at he
  · split at he
    · cases he
      exact hr
    · exact h.2.2.2 a b r' he
  · exact h.2.2.2 a b r' he⟩
theorem take_len {n : Nat} (h : n ≤ 64) : (shA.take n).length = n := by
  rw [List.length_take, shA_len]
  omega
theorem take_one {n : Nat} {kd : Kd} (h : shA[n]? = some kd) : shA.take n ++ [kd] = shA.take (n + 1) := by
  rw [List.take_succ, h]
  rfl
def CoP (n2 : Nat) (I2 : HI) (J2 : HJ) (R2 : HR) : PO := fun sh' v I' J' R' => sh' = shA.take n2 ∧ v = none ∧ I' = I2 ∧ J' = J2 ∧ R' = R2 ∧ ZW n2 I2 J2 R2
section CROWS
variable {m : MD} {T : Tg} {cells slots : Nat} {pc : Nat} {L : LO} {st : List Value} {I : HI} {J : HJ} {R : HR}
theorem q_newN {n ci idx q c2 s2 : Nat} (hd : decode m.2.1 pc = .ok (.new idx, 3)) (hq : pc + 3 = q) (hs : shA[n]? = some (.inl ci)) (hci : ci < 8) (hn : n < 64) (hw : Cond.classLink m.1.cls idx (RC ci) ∈ ALLW ∧ Cond.instantiable (RC ci) (nC ci) ∈ ALLW ∧ Cond.initialized (RC ci) ∈ ALLW) (hx : Tx T n) (hL : scLb n L = true) (hst : scSb n st = true) (hz : ZW n I J R) (hcs : cells + 1 = c2 ∧ slots + nC ci = s2) (hT : c2 ≤ T.1.cells ∧ s2 ≤ T.1.slots)
    (K : ZW (n + 1) I J R → Wm m T c2 s2 (shA.take (n + 1)) q L (.ref n :: st) I J R) : Wm m T cells slots (shA.take n) pc L st I J R := by
  obtain ⟨rfl, rfl⟩ := hcs
  have hl := take_len (Nat.le_of_lt hn)
  obtain ⟨z1, z2, z3⟩ := hz.zr
  refine q_new (sh := shA.take n) hd hq hci hw (by rw [hl]; exact hx) (by rw [hl]; exact Nat.lt_trans hn (by decide)) (by rw [hl]; exact scL_b hL) (by rw [hl]; exact scS_b hst) (by rw [hl]; exact fun p k r _ hr => hz.2.2.2 p k r hr) hT.1 hT.2 ?_
  rw [hl, z1, z2, z3, take_one hs]
  exact K (hz.up (Nat.le_succ n))
theorem q_newaN {at_ : ArrayType} {t : FieldType} {v : Int32} {k n q c2 s2 : Nat} (hd : decode m.2.1 pc = .ok (.newarray at_, 2)) (hq : pc + 2 = q) (ht : newarray.typeOf at_ = t) (hs : shA[n]? = some (.inr (t, k))) (hn : n < 64) (hw : Cond.arrayClass (newarray.typeOf at_) ∈ ALLW) (h0 : ¬ v < 0) (hk : v.toNatClampNeg = k) (hb : k * componentBytes t ≤ 536870912) (hv : ∀ (cA : ClassId) (p : Nat), vp_cell cA (acn (fun x => x) (fun _ _ => 0) (fun _ _ => 0) (fun _ _ => none) p k t) = arrV cA k (fun _ => defaultValue t)) (hx : Tx T n) (hL : scLb n L = true) (hst : scSb n st = true) (hz : ZW n I J R) (hcs : cells + 1 = c2 ∧ slots + k = s2) (hT : c2 ≤ T.1.cells ∧ s2 ≤ T.1.slots)
    (K : ZW (n + 1) I J R → Wm m T c2 s2 (shA.take (n + 1)) q L (.ref n :: st) I J R) : Wm m T cells slots (shA.take n) pc L (.int v :: st) I J R := by
  obtain ⟨rfl, rfl⟩ := hcs
  have hl := take_len (Nat.le_of_lt hn)
  obtain ⟨z1, z2, z3⟩ := hz.zr
  refine q_newa (sh := shA.take n) hd hq ht hw h0 hk hb hv (by rw [hl]; exact hx) (by rw [hl]; exact Nat.lt_trans hn (by decide)) (by rw [hl]; exact scL_b hL) (by rw [hl]; exact scS_b hst) (by rw [hl]; exact fun p k r _ hr => hz.2.2.2 p k r hr) hT.1 hT.2 ?_
  rw [hl, z1, z2, z3, take_one hs]
  exact K (hz.up (Nat.le_succ n))
theorem q_initN {y : MD} {idx dd pl n n2 mc ms q c2 s2 : Nat} {rest st0 : List Value} {I2 : HI} {J2 : HJ} {R2 : HR} (hM : Mt y dd mc ms true [.ref pl] (shA.take n) I J R (CoP n2 I2 J2 R2)) (hd : decode m.2.1 pc = .ok (.invokespecial idx, 3)) (hq : pc + 3 = q) (hn : n ≤ 64) (hl : ML m.1.cls idx y) (hm : MF y 2 0 0) (hst : st0 = .ref pl :: rest) (hr : (rest.map fun v => v.category).sum ≤ 8) (hR : dd + 1 ≤ T.1.frames ∧ 31 * (dd + 1) ≤ T.1.locals) (hcs : cells + mc = c2 ∧ slots + ms = s2) (hT : c2 ≤ T.1.cells ∧ s2 ≤ T.1.slots) (hpl : (shA.take n)[pl]?.isSome = true) (hx : Tx T n) (hL : scLb n L = true) (hsr : scSb n rest = true)
    (K : ZW n2 I2 J2 R2 → Wm m T c2 s2 (shA.take n2) q L rest I2 J2 R2) : Wm m T cells slots (shA.take n) pc L st0 I J R := by
  obtain ⟨rfl, rfl⟩ := hcs
  subst hst
  have hln := take_len hn
  refine q_afterA hq (run_I (As := []) (sh := shA.take n) hd hl hm rfl hr hR hT hM) (by rw [hln]; exact hx) (by rw [hln]; exact scL_b hL) (by rw [hln]; exact scS_b hsr) (fun sh' I' J' R' hp => ?_) (fun sh' v I' J' R' hp => hp.2.1)
  obtain ⟨rfl, -, rfl, rfl, rfl, hz⟩ := hp
  exact K hz
/-- contents that agree where the world looks are the same world -/
theorem q_conv {sh : List Kd} {R' : HR} (hR : ∀ p k, R p k = R' p k) (K : Wm m T cells slots sh pc L st I J R') : Wm m T cells slots sh pc L st I J R := by
  have : R = R' := by
    funext p k
    exact hR p k
  rw [this]
  exact K
end CROWS
theorem arrV_cg {c : ClassId} {N : Nat} {f g : Nat → Value} (h : ∀ j, j < N → f j = g j) : arrV c N f = arrV c N g := by
  unfold arrV
  congr 2
  funext j
  exact h j.val j.isLt
theorem outer_form (c : ClassId) (N h0 : Nat) : ∀ i, ∃ sl, Jvm.Free.Multi.outerC c N h0 i = { cls := c, slots := sl, vm := .none } := by
  intro i
  induction i with
  | zero => exact ⟨_, rfl⟩
  | succ i ih =>
    obtain ⟨sl, h⟩ := ih
    refine ⟨sl.setIfInBounds i (.ref (h0 + 1 + i)), ?_⟩
    show (Jvm.Free.Multi.outerC c N h0 i).setSlot i (.ref (h0 + 1 + i)) = _
    rw [h]
    rfl
theorem outer_arrV (c : ClassId) (N h0 : Nat) : Jvm.Free.Multi.outerC c N h0 N = arrV c N (fun j => .ref (h0 + 1 + j)) := by
  obtain ⟨a, b, d⟩ := Jvm.Free.Multi.outerC_facts c N h0 N
  have hs : (Jvm.Free.Multi.outerC c N h0 N).slots = (arrV c N (fun j => .ref (h0 + 1 + j))).slots := by
    apply Array.ext_getElem?
    intro j
    by_cases hj : j < N
    · rw [Jvm.Free.Multi.outerC_slot c N h0 N j hj, if_pos hj, arrV_read _ _ hj]
    · rw [Array.getElem?_eq_none (by omega), Array.getElem?_eq_none (by rw [arrV_size]; omega)]
  obtain ⟨sl, hc⟩ := outer_form c N h0 N
  rw [hc] at hs ⊢
  have hs' : sl = (arrV c N (fun j => .ref (h0 + 1 + j))).slots := hs
  rw [hs']
  rfl
section MULTI
variable {p : Program} {l : Launch} {e : Env} {R : Room} {s : State} {m : MethodId} {args : Array Value} {below : List Frame} {meth : Method} {c : Code} {H : Heap} {locs : List Loc} {cells slots : Nat} {Q : State → Prop}
theorem W_multi {cc : ByteArray} (hexec : p.tables.exec = Jvm.exec) (hb : c.code = cc) {own : String} {index : Nat} (hown : s.vm.findClass own = some m.cls) (hclink : (Cond.classLink own index "[[I").before args s = true) (hover : (Cond.arrayOver (.array .int)).before args s = true) (harr : (Cond.arrayClass .int).before args s = true)
    {pc : Nat} {ls : Array Slot} {rest : List Value} {n k : Int32} {N K : Nat} (hn : n.toNatClampNeg = N) (hk : k.toNatClampNeg = K) (hn0 : ¬ n < 0) (hk0 : ¬ k < 0) (hNs : N ≤ 1000) (hKs : K ≤ 1000) (hdg : decode cc pc = .ok (.multianewarray index 2, 4)) (hcells : cells + (1 + N) ≤ R.cells) (hslots : slots + (N + N * K) ≤ R.slots)
    (kk : ∀ (H' : Heap) (cA comp : ClassId), H'[H.size]? = some (arrV cA N (fun j => .ref (H.size + 1 + j))) → (∀ j, j < N → H'[H.size + 1 + j]? = some (arrV comp K (fun _ => .int 0))) → H'.size = H.size + 1 + N → (∀ q, q < H.size → H'[q]? = H[q]?) → ArrOfT s cA (.array .int) → s.vm.findClass "[[I" = some cA → ArrOfT s comp .int → s.vm.findClass "[I" = some comp →
      W p l e R s m args below meth c H' locs (cells + 1 + N) (slots + N + N * K) Q (F0 m (pc + 4) ls (.ref H.size :: rest))) : W p l e R s m args below meth c H locs cells slots Q (F0 m pc ls (.int k :: .int n :: rest)) := by
  intro T hT X
  subst hT
  subst hb
  subst hn
  subst hk
  obtain ⟨vm₁, cA, comp, hW1, hfA, hfC, hO, hI, X1, step⟩ := X.multianewarray2F hexec (own := own) (index := index) (ty := .int) hown hclink hover harr
    (g := F0 m pc ls (.int k :: .int n :: rest)) rfl hdg (n := n) (k := k) (rest := rest) rfl hn0 hk0 (by omega) (by show k.toNatClampNeg * 4 ≤ _; omega) (by omega) rfl rfl hcells hslots
  obtain ⟨f1, f2, f3, f4⟩ := Jvm.Free.Multi.fill_facts (T.setVm vm₁) cA comp n.toNatClampNeg k.toNatClampNeg (defaultValue .int) n.toNatClampNeg
  have hsz : (T.setVm vm₁).heap = T.heap := rfl
  rw [hsz] at f1 f2
  obtain ⟨t, a1, b1⟩ := kk _ cA comp (by rw [f2, outer_arrV]) (fun j hj => by
    have := Jvm.Free.Multi.fill_inner (T.setVm vm₁) cA comp n.toNatClampNeg k.toNatClampNeg (defaultValue .int) n.toNatClampNeg j hj
    rw [hsz] at this
    rw [this, ← arrV_new]
    rfl) f1 (fun q hq => by rw [Jvm.Free.Multi.fill_old (T.setVm vm₁) cA comp _ _ _ hq, hsz]) (fun N' z => (hO N' 0 0).1.imp (fun h1 k h => by cases h) (fun h => by
      obtain ⟨kA, hk1, hk2⟩ := h
      rw [(Jvm.Free.Multi.outerC_facts cA N' 0 0).1] at hk1
      exact ⟨kA, hk1, hk2⟩)) hfA (fun N' z => (hI N' .null).1.imp (fun h1 k h => by cases h) (fun h => h)) hfC _ rfl X1
  exact ⟨t, step t a1, b1⟩
end MULTI
