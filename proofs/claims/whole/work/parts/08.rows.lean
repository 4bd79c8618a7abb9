/-! rows over counters and truth values; contracts by what they answer -/
theorem wr_hit {α : Type} {I : Nat → Nat → α} {p k : Nat} {v : α} : wr I p k v p k = v := wr_same I p k v
theorem wr_p {α : Type} {I : Nat → Nat → α} {p k : Nat} {v : α} {q j : Nat} (h : q ≠ p) : wr I p k v q j = I q j := by rw [wr_ne h]
theorem wr_k {α : Type} {I : Nat → Nat → α} {p k : Nat} {v : α} {q j : Nat} (h : j ≠ k) : wr I p k v q j = I q j := wr_nk h
theorem nI_s1 (n : Nat) : nI (n + 1) - nI 1 = nI n := nI_pred n
theorem loopN {P : Nat → Prop} {n : Nat} (h : ∀ i, i ≤ n → (i < n → P (i + 1)) → P i) : ∀ i, i ≤ n → P i := by
  have key : ∀ k i, i + k = n → P i := by
    intro k
    induction k with
    | zero => exact fun i hi => h i (by omega) (fun z => absurd z (by omega))
    | succ k ih => exact fun i hi => h i (by omega) (fun _ => ih (i + 1) (by omega))
  exact fun i hi => key (n - i) i (by omega)
def subL (a b : LO) : Prop := match a, b with
  | [], _ => True
  | none :: a, [] => subL a []
  | none :: a, _ :: b => subL a b
  | some _ :: _, [] => False
  | some v :: a, o :: b => o = some v ∧ subL a b
theorem subL_at : ∀ (a b : LO), subL a b → ∀ (i : Nat) (v : Value), a[i]? = some (some v) → b[i]? = some (some v)
  | [], b, _, i, v, hi => by simp at hi
  | none :: a, [], h, 0, v, hi => by simp at hi
  | none :: a, [], h, i + 1, v, hi => by
    have := subL_at a [] (by simpa [subL] using h) i v (by simpa using hi)
    simp at this
  | none :: a, _ :: b, h, 0, v, hi => by simp at hi
  | none :: a, _ :: b, h, i + 1, v, hi => by
    have := subL_at a b (by simpa [subL] using h) i v (by simpa using hi)
    simpa using this
  | some w :: a, [], h, i, v, hi => by simp [subL] at h
  | some w :: a, o :: b, h, 0, v, hi => by
    simp only [subL] at h
    rw [h.1]
    simpa using hi
  | some w :: a, o :: b, h, i + 1, v, hi => by
    simp only [subL] at h
    have := subL_at a b h.2 i v (by simpa using hi)
    simpa using this
def Off (lo hi : Nat) (I I' : HI) : Prop := ∀ a, (a < lo ∨ hi ≤ a) → I' a = I a
theorem Off.rf {lo hi : Nat} {I : HI} : Off lo hi I I := fun _ _ => rfl
theorem Off.wr {lo hi p k : Nat} {I I' : HI} {v : Int32} (h : Off lo hi I I') (h1 : lo ≤ p) (h2 : p < hi) : Off lo hi I (wr I' p k v) := fun a ha => by
  rw [wr_ne (by omega)]
  exact h a ha
theorem Off.trans {lo hi : Nat} {I I' I'' : HI} (h : Off lo hi I I') (h2 : Off lo hi I' I'') : Off lo hi I I'' := fun a ha => (h2 a ha).trans (h a ha)
theorem Off.wide {lo hi lo' hi' : Nat} {I I' : HI} (h : Off lo hi I I') (h1 : lo' ≤ lo) (h2 : hi ≤ hi') : Off lo' hi' I I' := fun a ha => h a (by omega)
def bI (b : Bool) : Int32 := match b with
  | true => 1
  | false => 0
theorem bI_01 (b : Bool) : bI b = 0 ∨ bI b = 1 := by cases b <;> simp [bI]
theorem bI_t : bI true = nI 1 := rfl
theorem bI_f : bI false = nI 0 := rfl
theorem bI_ne {b : Bool} : (¬ bI b = 0) ↔ b = true := by cases b <;> simp [bI]
theorem bI_eq {b : Bool} : bI b = 0 ↔ b = false := by cases b <;> simp [bI]
section NROWS
variable {m : MD} {T : Tg} {cells slots : Nat} {sh : List Kd} {pc : Nat} {L : LO} {st : List Value} {I : HI} {J : HJ} {R : HR}
theorem q_icmp_eq_n {a b : Nat} {off : Int} {q q2 : Nat} (ha : a < 2 ^ 31) (hb : b < 2 ^ 31) (hd : decode m.2.1 pc = .ok (.if_icmp .eq off, 3)) (ht : (pc : Int) + off = (q : Int)) (hq : pc + 3 = q2) (kt : a = b → Wm m T cells slots sh q L st I J R) (kf : a ≠ b → Wm m T cells slots sh q2 L st I J R) : Wm m T cells slots sh pc L (.int (nI b) :: .int (nI a) :: st) I J R := q_icmp_eq hd ht hq (fun z => kt ((nI_eq ha hb).mp z)) (fun z => kf (fun w => z ((nI_eq ha hb).mpr w)))
theorem q_icmp_ne_n {a b : Nat} {off : Int} {q q2 : Nat} (ha : a < 2 ^ 31) (hb : b < 2 ^ 31) (hd : decode m.2.1 pc = .ok (.if_icmp .ne off, 3)) (ht : (pc : Int) + off = (q : Int)) (hq : pc + 3 = q2) (kt : a ≠ b → Wm m T cells slots sh q L st I J R) (kf : a = b → Wm m T cells slots sh q2 L st I J R) : Wm m T cells slots sh pc L (.int (nI b) :: .int (nI a) :: st) I J R := q_icmp_ne hd ht hq (fun z => kt (fun w => z ((nI_eq ha hb).mpr w))) (fun z => kf ((nI_eq ha hb).mp z))
theorem q_icmp_lt_n {a b : Nat} {off : Int} {q q2 : Nat} (ha : a < 2 ^ 31) (hb : b < 2 ^ 31) (hd : decode m.2.1 pc = .ok (.if_icmp .lt off, 3)) (ht : (pc : Int) + off = (q : Int)) (hq : pc + 3 = q2) (kt : a < b → Wm m T cells slots sh q L st I J R) (kf : b ≤ a → Wm m T cells slots sh q2 L st I J R) : Wm m T cells slots sh pc L (.int (nI b) :: .int (nI a) :: st) I J R := q_icmp_lt hd ht hq (fun z => kt ((nI_ltI ha hb).mp z)) (fun z => kf (Nat.not_lt.mp (fun w => z ((nI_ltI ha hb).mpr w))))
theorem q_icmp_ge_n {a b : Nat} {off : Int} {q q2 : Nat} (ha : a < 2 ^ 31) (hb : b < 2 ^ 31) (hd : decode m.2.1 pc = .ok (.if_icmp .ge off, 3)) (ht : (pc : Int) + off = (q : Int)) (hq : pc + 3 = q2) (kt : b ≤ a → Wm m T cells slots sh q L st I J R) (kf : a < b → Wm m T cells slots sh q2 L st I J R) : Wm m T cells slots sh pc L (.int (nI b) :: .int (nI a) :: st) I J R := q_icmp_ge hd ht hq (fun z => kt ((nI_leI hb ha).mp z)) (fun z => kf (Nat.not_le.mp (fun w => z ((nI_leI hb ha).mpr w))))
theorem q_icmp_gt_n {a b : Nat} {off : Int} {q q2 : Nat} (ha : a < 2 ^ 31) (hb : b < 2 ^ 31) (hd : decode m.2.1 pc = .ok (.if_icmp .gt off, 3)) (ht : (pc : Int) + off = (q : Int)) (hq : pc + 3 = q2) (kt : b < a → Wm m T cells slots sh q L st I J R) (kf : a ≤ b → Wm m T cells slots sh q2 L st I J R) : Wm m T cells slots sh pc L (.int (nI b) :: .int (nI a) :: st) I J R := q_icmp_gt hd ht hq (fun z => kt ((nI_ltI hb ha).mp z)) (fun z => kf (Nat.not_lt.mp (fun w => z ((nI_ltI hb ha).mpr w))))
theorem q_icmp_le_n {a b : Nat} {off : Int} {q q2 : Nat} (ha : a < 2 ^ 31) (hb : b < 2 ^ 31) (hd : decode m.2.1 pc = .ok (.if_icmp .le off, 3)) (ht : (pc : Int) + off = (q : Int)) (hq : pc + 3 = q2) (kt : a ≤ b → Wm m T cells slots sh q L st I J R) (kf : b < a → Wm m T cells slots sh q2 L st I J R) : Wm m T cells slots sh pc L (.int (nI b) :: .int (nI a) :: st) I J R := q_icmp_le hd ht hq (fun z => kt ((nI_leI ha hb).mp z)) (fun z => kf (Nat.not_le.mp (fun w => z ((nI_leI ha hb).mpr w))))
theorem q_if_eq_n {a : Nat} {off : Int} {q q2 : Nat} (ha : a < 2 ^ 31) (hd : decode m.2.1 pc = .ok (.ifCond .eq off, 3)) (ht : (pc : Int) + off = (q : Int)) (hq : pc + 3 = q2) (kt : a = 0 → Wm m T cells slots sh q L st I J R) (kf : a ≠ 0 → Wm m T cells slots sh q2 L st I J R) : Wm m T cells slots sh pc L (.int (nI a) :: st) I J R := q_if_eq hd ht hq (fun z => kt ((nI_eq ha (by decide)).mp (z.trans nI_0.symm))) (fun z => kf (fun w => z (by rw [w]; exact nI_0)))
theorem q_if_ne_n {a : Nat} {off : Int} {q q2 : Nat} (ha : a < 2 ^ 31) (hd : decode m.2.1 pc = .ok (.ifCond .ne off, 3)) (ht : (pc : Int) + off = (q : Int)) (hq : pc + 3 = q2) (kt : a ≠ 0 → Wm m T cells slots sh q L st I J R) (kf : a = 0 → Wm m T cells slots sh q2 L st I J R) : Wm m T cells slots sh pc L (.int (nI a) :: st) I J R := q_if_ne hd ht hq (fun z => kt (fun w => z (by rw [w]; exact nI_0))) (fun z => kf ((nI_eq ha (by decide)).mp (z.trans nI_0.symm)))
theorem q_if_gt_n {a : Nat} {off : Int} {q q2 : Nat} (ha : a < 2 ^ 31) (hd : decode m.2.1 pc = .ok (.ifCond .gt off, 3)) (ht : (pc : Int) + off = (q : Int)) (hq : pc + 3 = q2) (kt : 0 < a → Wm m T cells slots sh q L st I J R) (kf : a = 0 → Wm m T cells slots sh q2 L st I J R) : Wm m T cells slots sh pc L (.int (nI a) :: st) I J R := q_if_gt hd ht hq (fun z => kt ((nI_ltI (a := 0) (by decide) ha).mp z)) (fun z => kf (Nat.le_zero.mp (Nat.not_lt.mp (fun w => z ((nI_ltI (a := 0) (by decide) ha).mpr w)))))
theorem q_if_le_n {a : Nat} {off : Int} {q q2 : Nat} (ha : a < 2 ^ 31) (hd : decode m.2.1 pc = .ok (.ifCond .le off, 3)) (ht : (pc : Int) + off = (q : Int)) (hq : pc + 3 = q2) (kt : a = 0 → Wm m T cells slots sh q L st I J R) (kf : 0 < a → Wm m T cells slots sh q2 L st I J R) : Wm m T cells slots sh pc L (.int (nI a) :: st) I J R := q_if_le hd ht hq (fun z => kt (Nat.le_zero.mp ((nI_leI (b := 0) ha (by decide)).mp z))) (fun z => kf (Nat.not_le.mp (fun w => z ((nI_leI (b := 0) ha (by decide)).mpr w))))
theorem q_if_eq_b {b : Bool} {off : Int} {q q2 : Nat} (hd : decode m.2.1 pc = .ok (.ifCond .eq off, 3)) (ht : (pc : Int) + off = (q : Int)) (hq : pc + 3 = q2) (kt : b = false → Wm m T cells slots sh q L st I J R) (kf : b = true → Wm m T cells slots sh q2 L st I J R) : Wm m T cells slots sh pc L (.int (bI b) :: st) I J R := q_if_eq hd ht hq (fun z => kt (bI_eq.mp z)) (fun z => kf (bI_ne.mp z))
theorem q_if_ne_b {b : Bool} {off : Int} {q q2 : Nat} (hd : decode m.2.1 pc = .ok (.ifCond .ne off, 3)) (ht : (pc : Int) + off = (q : Int)) (hq : pc + 3 = q2) (kt : b = true → Wm m T cells slots sh q L st I J R) (kf : b = false → Wm m T cells slots sh q2 L st I J R) : Wm m T cells slots sh pc L (.int (bI b) :: st) I J R := q_if_ne hd ht hq (fun z => kt (bI_ne.mp z)) (fun z => kf (bI_eq.mp z))
theorem q_iinc1 {i a : Nat} {q : Nat} (hd : decode m.2.1 pc = .ok (.iinc i 1, 3)) (hq : pc + 3 = q) (hL : L[i]? = some (some (.int (nI a)))) (hn : i < m.2.2.1) (K : Wm m T cells slots sh q (st1 L i (.int (nI (a + 1)))) st I J R) : Wm m T cells slots sh pc L st I J R := q_iinc hd hq hL (nI_1 a) hn K
/-- contracts: an int, a long, nothing, a reference answered; p: nothing written -/
def MI (m : MD) (d : Nat) (args : List Value) (sh : List Kd) (I : HI) (J : HJ) (R : HR) (Po : Int32 → HI → HJ → Prop) : Prop := Mt m d 0 0 false args sh I J R (fun sh' v I' J' R' => sh' = sh ∧ R' = R ∧ ∃ x : Int32, v = some (.int x) ∧ Po x I' J')
def MG (m : MD) (d : Nat) (args : List Value) (sh : List Kd) (I : HI) (J : HJ) (R : HR) (Po : Int64 → HI → HJ → Prop) : Prop := Mt m d 0 0 false args sh I J R (fun sh' v I' J' R' => sh' = sh ∧ R' = R ∧ ∃ x : Int64, v = some (.long x) ∧ Po x I' J')
def MV (m : MD) (d : Nat) (args : List Value) (sh : List Kd) (I : HI) (J : HJ) (R : HR) (Po : HI → HJ → Prop) : Prop := Mt m d 0 0 false args sh I J R (fun sh' v I' J' R' => sh' = sh ∧ R' = R ∧ v = none ∧ Po I' J')
def MRf (m : MD) (d : Nat) (args : List Value) (sh : List Kd) (I : HI) (J : HJ) (R : HR) (Po : Nat → HI → HJ → Prop) : Prop := Mt m d 0 0 false args sh I J R (fun sh' v I' J' R' => sh' = sh ∧ R' = R ∧ ∃ x : Nat, v = some (.ref x) ∧ Po x I' J')
def MIp (m : MD) (d : Nat) (args : List Value) (sh : List Kd) (I : HI) (J : HJ) (R : HR) (x : Int32) : Prop := MI m d args sh I J R (fun y I' J' => y = x ∧ I' = I ∧ J' = J)
def MGp (m : MD) (d : Nat) (args : List Value) (sh : List Kd) (I : HI) (J : HJ) (R : HR) (x : Int64) : Prop := MG m d args sh I J R (fun y I' J' => y = x ∧ I' = I ∧ J' = J)
def MRfp (m : MD) (d : Nat) (args : List Value) (sh : List Kd) (I : HI) (J : HJ) (R : HR) (x : Nat) : Prop := MRf m d args sh I J R (fun y I' J' => y = x ∧ I' = I ∧ J' = J)
theorem q_after2 {Po : PO} {st0 rest : List Value} {q : Nat} (hq : pc + 3 = q) (hr : MRun m T cells slots sh pc st0 rest I J R 0 0 false Po)
    (K : ∀ (sh' : List Kd) (v : Option Value) (I' : HI) (J' : HJ) (R' : HR), Po sh' v I' J' R' → Wm m T cells slots sh' q L (v.toList ++ rest) I' J' R') : Wm m T cells slots sh pc L st0 I J R := by
  subst hq
  intro p l e s mid args below meth c D A ad0 cA0 ad cA H locs ls S
  obtain ⟨C, hA, hT, hK, hP, hD, hS, hl⟩ := S
  obtain ⟨a, hrun⟩ := hr p l e s mid args below meth c D A ad cA H locs ls C hK hP hD hl.1
  have hF := enc_free hD hS hA
  refine W_call hrun hS (fun q _ h => hF q h) hF (fun v sh' I' J' R' ad' cA' t H1 locs1 ht hvm hg hp hk hpp hdd hS1 => ?_)
  obtain ⟨rfl, rfl⟩ := hg
  have := K sh' v I' J' R' hp p l e s mid args below meth c D A ad0 cA0 ad' cA' H1 locs1 ls ⟨C, hA, hT, KK.moved hvm.symm hk, hpp, hdd.weaken (fun _ q _ h => hF q.1 h), hS1, hl⟩
  rw [List.map_append] at this
  cases v <;> exact this
theorem q_callVI {y : MD} {idx ci n dd pl : Nat} {As rest st0 : List Value} {Po : Int32 → HI → HJ → Prop} {q : Nat} (hM : MI y dd (.ref pl :: As) sh I J R Po) (hd : decode m.2.1 pc = .ok (.invokevirtual idx, 3)) (hq : pc + 3 = q) (hl : ML m.1.cls idx y) (hm : MF y 0 ci n) (hs : sh[pl]? = some (.inl ci)) (hst : st0 = As.reverse ++ .ref pl :: rest) (hn : As.length = n) (hr : (rest.map fun v => v.category).sum ≤ 8) (hR : dd + 1 ≤ T.1.frames ∧ 31 * (dd + 1) ≤ T.1.locals) (hc : cells + 0 ≤ T.1.cells ∧ slots + 0 ≤ T.1.slots)
    (K : ∀ (x : Int32) (I' : HI) (J' : HJ), Po x I' J' → Wm m T cells slots sh q L (.int x :: rest) I' J' R) : Wm m T cells slots sh pc L st0 I J R := by
  subst hst
  refine q_after2 hq (run_V hd hl hm hs hn hr hR ⟨hc.1, hc.2⟩ hM) (fun sh' v I' J' R' hp => ?_)
  obtain ⟨rfl, rfl, x, rfl, hp⟩ := hp
  exact K x _ _ hp
theorem q_callVIp {y : MD} {idx ci n dd pl : Nat} {As rest st0 : List Value} {x : Int32} {q : Nat} (hM : MIp y dd (.ref pl :: As) sh I J R x) (hd : decode m.2.1 pc = .ok (.invokevirtual idx, 3)) (hq : pc + 3 = q) (hl : ML m.1.cls idx y) (hm : MF y 0 ci n) (hs : sh[pl]? = some (.inl ci)) (hst : st0 = As.reverse ++ .ref pl :: rest) (hn : As.length = n) (hr : (rest.map fun v => v.category).sum ≤ 8) (hR : dd + 1 ≤ T.1.frames ∧ 31 * (dd + 1) ≤ T.1.locals) (hc : cells + 0 ≤ T.1.cells ∧ slots + 0 ≤ T.1.slots)
    (K : Wm m T cells slots sh q L (.int x :: rest) I J R) : Wm m T cells slots sh pc L st0 I J R := by
  refine q_callVI hM hd hq hl hm hs hst hn hr hR hc (fun y I' J' hp => ?_)
  obtain ⟨rfl, rfl, rfl⟩ := hp
  exact K
theorem q_callSI {y : MD} {idx ci n dd : Nat} {As rest st0 : List Value} {Po : Int32 → HI → HJ → Prop} {q : Nat} (hM : MI y dd As sh I J R Po) (hd : decode m.2.1 pc = .ok (.invokestatic idx, 3)) (hq : pc + 3 = q) (hl : ML m.1.cls idx y) (hm : MF y 1 ci n) (hst : st0 = As.reverse ++ rest) (hn : As.length = n) (hr : (rest.map fun v => v.category).sum ≤ 8) (hR : dd + 1 ≤ T.1.frames ∧ 31 * (dd + 1) ≤ T.1.locals) (hc : cells + 0 ≤ T.1.cells ∧ slots + 0 ≤ T.1.slots)
    (K : ∀ (x : Int32) (I' : HI) (J' : HJ), Po x I' J' → Wm m T cells slots sh q L (.int x :: rest) I' J' R) : Wm m T cells slots sh pc L st0 I J R := by
  subst hst
  refine q_after2 hq (run_S hd hl hm hn hr hR ⟨hc.1, hc.2⟩ hM) (fun sh' v I' J' R' hp => ?_)
  obtain ⟨rfl, rfl, x, rfl, hp⟩ := hp
  exact K x _ _ hp
theorem q_callSIp {y : MD} {idx ci n dd : Nat} {As rest st0 : List Value} {x : Int32} {q : Nat} (hM : MIp y dd As sh I J R x) (hd : decode m.2.1 pc = .ok (.invokestatic idx, 3)) (hq : pc + 3 = q) (hl : ML m.1.cls idx y) (hm : MF y 1 ci n) (hst : st0 = As.reverse ++ rest) (hn : As.length = n) (hr : (rest.map fun v => v.category).sum ≤ 8) (hR : dd + 1 ≤ T.1.frames ∧ 31 * (dd + 1) ≤ T.1.locals) (hc : cells + 0 ≤ T.1.cells ∧ slots + 0 ≤ T.1.slots)
    (K : Wm m T cells slots sh q L (.int x :: rest) I J R) : Wm m T cells slots sh pc L st0 I J R := by
  refine q_callSI hM hd hq hl hm hst hn hr hR hc (fun y I' J' hp => ?_)
  obtain ⟨rfl, rfl, rfl⟩ := hp
  exact K
theorem q_callVG {y : MD} {idx ci n dd pl : Nat} {As rest st0 : List Value} {Po : Int64 → HI → HJ → Prop} {q : Nat} (hM : MG y dd (.ref pl :: As) sh I J R Po) (hd : decode m.2.1 pc = .ok (.invokevirtual idx, 3)) (hq : pc + 3 = q) (hl : ML m.1.cls idx y) (hm : MF y 0 ci n) (hs : sh[pl]? = some (.inl ci)) (hst : st0 = As.reverse ++ .ref pl :: rest) (hn : As.length = n) (hr : (rest.map fun v => v.category).sum ≤ 8) (hR : dd + 1 ≤ T.1.frames ∧ 31 * (dd + 1) ≤ T.1.locals) (hc : cells + 0 ≤ T.1.cells ∧ slots + 0 ≤ T.1.slots)
    (K : ∀ (x : Int64) (I' : HI) (J' : HJ), Po x I' J' → Wm m T cells slots sh q L (.long x :: rest) I' J' R) : Wm m T cells slots sh pc L st0 I J R := by
  subst hst
  refine q_after2 hq (run_V hd hl hm hs hn hr hR ⟨hc.1, hc.2⟩ hM) (fun sh' v I' J' R' hp => ?_)
  obtain ⟨rfl, rfl, x, rfl, hp⟩ := hp
  exact K x _ _ hp
theorem q_callVGp {y : MD} {idx ci n dd pl : Nat} {As rest st0 : List Value} {x : Int64} {q : Nat} (hM : MGp y dd (.ref pl :: As) sh I J R x) (hd : decode m.2.1 pc = .ok (.invokevirtual idx, 3)) (hq : pc + 3 = q) (hl : ML m.1.cls idx y) (hm : MF y 0 ci n) (hs : sh[pl]? = some (.inl ci)) (hst : st0 = As.reverse ++ .ref pl :: rest) (hn : As.length = n) (hr : (rest.map fun v => v.category).sum ≤ 8) (hR : dd + 1 ≤ T.1.frames ∧ 31 * (dd + 1) ≤ T.1.locals) (hc : cells + 0 ≤ T.1.cells ∧ slots + 0 ≤ T.1.slots)
    (K : Wm m T cells slots sh q L (.long x :: rest) I J R) : Wm m T cells slots sh pc L st0 I J R := by
  refine q_callVG hM hd hq hl hm hs hst hn hr hR hc (fun y I' J' hp => ?_)
  obtain ⟨rfl, rfl, rfl⟩ := hp
  exact K
theorem q_callSG {y : MD} {idx ci n dd : Nat} {As rest st0 : List Value} {Po : Int64 → HI → HJ → Prop} {q : Nat} (hM : MG y dd As sh I J R Po) (hd : decode m.2.1 pc = .ok (.invokestatic idx, 3)) (hq : pc + 3 = q) (hl : ML m.1.cls idx y) (hm : MF y 1 ci n) (hst : st0 = As.reverse ++ rest) (hn : As.length = n) (hr : (rest.map fun v => v.category).sum ≤ 8) (hR : dd + 1 ≤ T.1.frames ∧ 31 * (dd + 1) ≤ T.1.locals) (hc : cells + 0 ≤ T.1.cells ∧ slots + 0 ≤ T.1.slots)
    (K : ∀ (x : Int64) (I' : HI) (J' : HJ), Po x I' J' → Wm m T cells slots sh q L (.long x :: rest) I' J' R) : Wm m T cells slots sh pc L st0 I J R := by
  subst hst
  refine q_after2 hq (run_S hd hl hm hn hr hR ⟨hc.1, hc.2⟩ hM) (fun sh' v I' J' R' hp => ?_)
  obtain ⟨rfl, rfl, x, rfl, hp⟩ := hp
  exact K x _ _ hp
theorem q_callSGp {y : MD} {idx ci n dd : Nat} {As rest st0 : List Value} {x : Int64} {q : Nat} (hM : MGp y dd As sh I J R x) (hd : decode m.2.1 pc = .ok (.invokestatic idx, 3)) (hq : pc + 3 = q) (hl : ML m.1.cls idx y) (hm : MF y 1 ci n) (hst : st0 = As.reverse ++ rest) (hn : As.length = n) (hr : (rest.map fun v => v.category).sum ≤ 8) (hR : dd + 1 ≤ T.1.frames ∧ 31 * (dd + 1) ≤ T.1.locals) (hc : cells + 0 ≤ T.1.cells ∧ slots + 0 ≤ T.1.slots)
    (K : Wm m T cells slots sh q L (.long x :: rest) I J R) : Wm m T cells slots sh pc L st0 I J R := by
  refine q_callSG hM hd hq hl hm hst hn hr hR hc (fun y I' J' hp => ?_)
  obtain ⟨rfl, rfl, rfl⟩ := hp
  exact K
theorem q_callVV {y : MD} {idx ci n dd pl : Nat} {As rest st0 : List Value} {Po : HI → HJ → Prop} {q : Nat} (hM : MV y dd (.ref pl :: As) sh I J R Po) (hd : decode m.2.1 pc = .ok (.invokevirtual idx, 3)) (hq : pc + 3 = q) (hl : ML m.1.cls idx y) (hm : MF y 0 ci n) (hs : sh[pl]? = some (.inl ci)) (hst : st0 = As.reverse ++ .ref pl :: rest) (hn : As.length = n) (hr : (rest.map fun v => v.category).sum ≤ 8) (hR : dd + 1 ≤ T.1.frames ∧ 31 * (dd + 1) ≤ T.1.locals) (hc : cells + 0 ≤ T.1.cells ∧ slots + 0 ≤ T.1.slots)
    (K : ∀ (I' : HI) (J' : HJ), Po I' J' → Wm m T cells slots sh q L rest I' J' R) : Wm m T cells slots sh pc L st0 I J R := by
  subst hst
  refine q_after2 hq (run_V hd hl hm hs hn hr hR ⟨hc.1, hc.2⟩ hM) (fun sh' v I' J' R' hp => ?_)
  obtain ⟨rfl, rfl, rfl, hp⟩ := hp
  exact K _ _ hp
theorem q_callSV {y : MD} {idx ci n dd : Nat} {As rest st0 : List Value} {Po : HI → HJ → Prop} {q : Nat} (hM : MV y dd As sh I J R Po) (hd : decode m.2.1 pc = .ok (.invokestatic idx, 3)) (hq : pc + 3 = q) (hl : ML m.1.cls idx y) (hm : MF y 1 ci n) (hst : st0 = As.reverse ++ rest) (hn : As.length = n) (hr : (rest.map fun v => v.category).sum ≤ 8) (hR : dd + 1 ≤ T.1.frames ∧ 31 * (dd + 1) ≤ T.1.locals) (hc : cells + 0 ≤ T.1.cells ∧ slots + 0 ≤ T.1.slots)
    (K : ∀ (I' : HI) (J' : HJ), Po I' J' → Wm m T cells slots sh q L rest I' J' R) : Wm m T cells slots sh pc L st0 I J R := by
  subst hst
  refine q_after2 hq (run_S hd hl hm hn hr hR ⟨hc.1, hc.2⟩ hM) (fun sh' v I' J' R' hp => ?_)
  obtain ⟨rfl, rfl, rfl, hp⟩ := hp
  exact K _ _ hp
theorem q_callVR {y : MD} {idx ci n dd pl : Nat} {As rest st0 : List Value} {Po : Nat → HI → HJ → Prop} {q : Nat} (hM : MRf y dd (.ref pl :: As) sh I J R Po) (hd : decode m.2.1 pc = .ok (.invokevirtual idx, 3)) (hq : pc + 3 = q) (hl : ML m.1.cls idx y) (hm : MF y 0 ci n) (hs : sh[pl]? = some (.inl ci)) (hst : st0 = As.reverse ++ .ref pl :: rest) (hn : As.length = n) (hr : (rest.map fun v => v.category).sum ≤ 8) (hR : dd + 1 ≤ T.1.frames ∧ 31 * (dd + 1) ≤ T.1.locals) (hc : cells + 0 ≤ T.1.cells ∧ slots + 0 ≤ T.1.slots)
    (K : ∀ (x : Nat) (I' : HI) (J' : HJ), Po x I' J' → Wm m T cells slots sh q L (.ref x :: rest) I' J' R) : Wm m T cells slots sh pc L st0 I J R := by
  subst hst
  refine q_after2 hq (run_V hd hl hm hs hn hr hR ⟨hc.1, hc.2⟩ hM) (fun sh' v I' J' R' hp => ?_)
  obtain ⟨rfl, rfl, x, rfl, hp⟩ := hp
  exact K x _ _ hp
theorem q_callVRp {y : MD} {idx ci n dd pl : Nat} {As rest st0 : List Value} {x : Nat} {q : Nat} (hM : MRfp y dd (.ref pl :: As) sh I J R x) (hd : decode m.2.1 pc = .ok (.invokevirtual idx, 3)) (hq : pc + 3 = q) (hl : ML m.1.cls idx y) (hm : MF y 0 ci n) (hs : sh[pl]? = some (.inl ci)) (hst : st0 = As.reverse ++ .ref pl :: rest) (hn : As.length = n) (hr : (rest.map fun v => v.category).sum ≤ 8) (hR : dd + 1 ≤ T.1.frames ∧ 31 * (dd + 1) ≤ T.1.locals) (hc : cells + 0 ≤ T.1.cells ∧ slots + 0 ≤ T.1.slots)
    (K : Wm m T cells slots sh q L (.ref x :: rest) I J R) : Wm m T cells slots sh pc L st0 I J R := by
  refine q_callVR hM hd hq hl hm hs hst hn hr hR hc (fun y I' J' hp => ?_)
  obtain ⟨rfl, rfl, rfl⟩ := hp
  exact K
theorem q_callSR {y : MD} {idx ci n dd : Nat} {As rest st0 : List Value} {Po : Nat → HI → HJ → Prop} {q : Nat} (hM : MRf y dd As sh I J R Po) (hd : decode m.2.1 pc = .ok (.invokestatic idx, 3)) (hq : pc + 3 = q) (hl : ML m.1.cls idx y) (hm : MF y 1 ci n) (hst : st0 = As.reverse ++ rest) (hn : As.length = n) (hr : (rest.map fun v => v.category).sum ≤ 8) (hR : dd + 1 ≤ T.1.frames ∧ 31 * (dd + 1) ≤ T.1.locals) (hc : cells + 0 ≤ T.1.cells ∧ slots + 0 ≤ T.1.slots)
    (K : ∀ (x : Nat) (I' : HI) (J' : HJ), Po x I' J' → Wm m T cells slots sh q L (.ref x :: rest) I' J' R) : Wm m T cells slots sh pc L st0 I J R := by
  subst hst
  refine q_after2 hq (run_S hd hl hm hn hr hR ⟨hc.1, hc.2⟩ hM) (fun sh' v I' J' R' hp => ?_)
  obtain ⟨rfl, rfl, x, rfl, hp⟩ := hp
  exact K x _ _ hp
theorem q_callSRp {y : MD} {idx ci n dd : Nat} {As rest st0 : List Value} {x : Nat} {q : Nat} (hM : MRfp y dd As sh I J R x) (hd : decode m.2.1 pc = .ok (.invokestatic idx, 3)) (hq : pc + 3 = q) (hl : ML m.1.cls idx y) (hm : MF y 1 ci n) (hst : st0 = As.reverse ++ rest) (hn : As.length = n) (hr : (rest.map fun v => v.category).sum ≤ 8) (hR : dd + 1 ≤ T.1.frames ∧ 31 * (dd + 1) ≤ T.1.locals) (hc : cells + 0 ≤ T.1.cells ∧ slots + 0 ≤ T.1.slots)
    (K : Wm m T cells slots sh q L (.ref x :: rest) I J R) : Wm m T cells slots sh pc L st0 I J R := by
  refine q_callSR hM hd hq hl hm hst hn hr hR hc (fun y I' J' hp => ?_)
  obtain ⟨rfl, rfl, rfl⟩ := hp
  exact K
theorem q_forget {L' : LO} (h : subL L' L) (K : Wm m T cells slots sh pc L' st I J R) : Wm m T cells slots sh pc L st I J R := by
  intro p l e s mid args below meth c D A ad0 cA0 ad cA H locs ls S
  obtain ⟨C, hA, hT, hK, hP, hD, hS, hl⟩ := S
  exact K p l e s mid args below meth c D A ad0 cA0 ad cA H locs ls ⟨C, hA, hT, hK, hP, hD, hS, hl.1, hl.2.1, fun i v hi => hl.2.2 i v (subL_at L' L h i v hi)⟩
variable {d mc ms n0 : Nat} {al : Bool} {Po : PO}
theorem TM_math {dd : Nat} (h1 : cells ≤ mc) (h2 : slots ≤ ms) : 1 ≤ (TM (dd + 1) mc ms al n0 Po).1.frames ∧ 21 ≤ (TM (dd + 1) mc ms al n0 Po).1.locals ∧ cells ≤ (TM (dd + 1) mc ms al n0 Po).1.cells ∧ slots ≤ (TM (dd + 1) mc ms al n0 Po).1.slots :=
  ⟨Nat.le_add_left 1 dd, by show 21 ≤ 31 * (dd + 1); omega, h1, h2⟩
theorem TM_cs : 0 + 0 ≤ (TM d 0 0 al n0 Po).1.cells ∧ 0 + 0 ≤ (TM d 0 0 al n0 Po).1.slots := ⟨Nat.le_refl _, Nat.le_refl _⟩
end NROWS
/-- the shape of the whole world: the class's cells from 0, the reference's from 44 -/
def shA : List Kd := [.inl 6, .inl 3, .inr (.byte, 400), .inr (.int, 4),
  .inl 5, .inr (.int, 12), .inr (.int, 12), .inr (.int, 12), .inr (.int, 12), .inr (.int, 100),
  .inl 5, .inr (.int, 12), .inr (.int, 12), .inr (.int, 12), .inr (.int, 12), .inr (.int, 100),
  .inl 0, .inr (.int, 12), .inr (.int, 12), .inr (.int, 8), .inr (.int, 8), .inr (.int, 8),
  .inl 0, .inr (.int, 12), .inr (.int, 12), .inr (.int, 8), .inr (.int, 8), .inr (.int, 8),
  .inl 0, .inr (.int, 12), .inr (.int, 12), .inr (.int, 8), .inr (.int, 8), .inr (.int, 8),
  .inl 2, .inr (.int, 14), .inr (.int, 15),
  .inl 4, .inr (.array .int, 3), .inr (.int, 7), .inr (.int, 7), .inr (.int, 7),
  .inl 1, .inr (.int, 100),
  .inl 7, .inr (.byte, 400), .inr (.int, 10), .inr (.int, 2), .inr (.int, 96), .inr (.int, 200), .inr (.int, 3), .inr (.int, 36), .inr (.int, 36), .inr (.long, 3), .inr (.int, 3), .inr (.int, 72), .inr (.int, 14), .inr (.int, 12), .inr (.int, 6), .inr (.int, 6), .inr (.int, 12), .inr (.int, 12), .inr (.int, 225), .inr (.int, 4)]
/-- where the references lie -/
def RA : HR := fun p k => (([[some 1, some 4, some 10, some 16, some 22, some 28, none, some 34, some 37, some 42], [some 2, none, some 3], [], [],
  [none, none, none, none, none, none, some 5, some 6, some 7, some 8, some 9], [], [], [], [], [], [none, none, none, none, none, none, some 11, some 12, some 13, some 14, some 15], [], [], [], [], [],
  [none, some 17, some 18, none, none, some 19, some 20, some 21], [], [], [], [], [], [none, some 23, some 24, none, none, some 25, some 26, some 27], [], [], [], [], [], [none, some 29, some 30, none, none, some 31, some 32, some 33], [], [], [], [], [],
  [some 35, none, some 36], [], [], [some 38], [some 39, some 40, some 41], [], [], [], [some 43], [],
  [none, some 45, none, some 46, some 47, some 48, some 49, some 50, some 51, some 52, some 53, some 54, some 55, none, none, some 56, some 57, some 58, some 59, some 60, some 61, some 62, none, none, some 63]] : List (List (Option Nat))).getD p []).getD k none
theorem shA_len : shA.length = 64 := rfl
