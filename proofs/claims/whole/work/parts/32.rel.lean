/-! the class's places beside the reference's: the relation that every call keeps -/
theorem sI_cg {f g : Nat → Int32} {n : Nat} (h : ∀ i, i < n → f i = g i) : sI f n = sI g n := by
  induction n with
  | zero => rfl
  | succ n ih =>
    unfold sI
    rw [ih (fun i hi => h i (by omega)), h n (by omega)]
theorem sJ_cg {f g : Nat → Int64} {n : Nat} (h : ∀ i, i < n → f i = g i) : sJ f n = sJ g n := by
  induction n with
  | zero => rfl
  | succ n ih =>
    unfold sJ
    rw [ih (fun i hi => h i (by omega)), h n (by omega)]
def sN (f : Nat → Nat) (n : Nat) : Nat := match n with
  | 0 => 0
  | n + 1 => sN f n + f n
theorem sI_N {f : Nat → Int32} {g : Nat → Nat} {n : Nat} (h : ∀ i, i < n → f i = nI (g i)) : sI f n = nI (sN g n) := by
  induction n with
  | zero => rfl
  | succ n ih =>
    unfold sI sN
    rw [ih (fun i hi => h i (by omega)), h n (by omega), nI_add]
theorem sN_le {g : Nat → Nat} {n b : Nat} (h : ∀ i, i < n → g i ≤ b) : sN g n ≤ n * b := by
  induction n with
  | zero => exact Nat.zero_le _
  | succ n ih =>
    unfold sN
    have h1 := ih (fun i hi => h i (by omega))
    have h2 := h n (by omega)
    rw [Nat.succ_mul]
    omega
/-- the text -/
def TextR (I : HI) : Prop := ∃ len : Nat, len ≤ 400 ∧ I 1 1 = nI len ∧ I 44 0 = nI len ∧ ∀ i, i < len → I 2 i = I 45 i
/-- what counts: falls, costs, the barn's build -/
def LaidR (I : HI) (nf : Nat) (yr : Nat → Nat) : Prop := 1 ≤ nf ∧ nf ≤ 12 ∧ I 4 5 = nI nf ∧ I 47 0 = nI nf ∧
  (∀ i, i < nf → I 5 i = nI (yr i) ∧ I 48 (4 * i) = nI (yr i) ∧ yr i < 100) ∧
  (∀ i j, i < j → j < nf → yr i ≤ yr j) ∧
  (∀ i, i < nf → I 48 (4 * i + 1) = I 6 i ∧ ∃ x, 1 ≤ x ∧ x ≤ 20 ∧ I 6 i = nI x) ∧
  (∀ i, i < nf → I 48 (4 * i + 2) = I 7 i ∧ ∃ x, 1 ≤ x ∧ x ≤ 9 ∧ I 7 i = nI x) ∧
  (∀ i, i < nf → I 48 (4 * i + 3) = I 8 i ∧ ∃ x, x ≤ 9 ∧ I 8 i = nI x) ∧
  (∀ y, y < 100 → I 49 y = I 9 y ∧ ∃ x, x ≤ 99 ∧ I 9 y = nI x) ∧
  (∀ k, k < 5 → I 46 k = I 4 k) ∧ (∃ x, 1 ≤ x ∧ x ≤ 999 ∧ I 4 0 = nI x) ∧ (∃ x, 1 ≤ x ∧ x ≤ 99 ∧ I 4 1 = nI x) ∧ (∃ x, 1 ≤ x ∧ x ≤ 50 ∧ I 4 2 = nI x) ∧ (∃ x, x ≤ 4 ∧ I 4 3 = nI x) ∧ (∃ x, x ≤ 9 ∧ I 4 4 = nI x)
/-- what is out of layer i by sales that can be undone -/
def outN (l q : Nat → Nat) (i n : Nat) : Nat := sN (fun s => if l s = i then q s else 0) n
/-- a barn: the class's at place p, the reference's block b -/
def BarnR (I : HI) (J : HJ) (nf p b : Nat) : Prop := ∃ (n ns : Nat) (t l q : Nat → Nat), n ≤ nf ∧ ns ≤ 8 ∧ I p 0 = nI n ∧ I 50 b = nI n ∧ I p 3 = (J 53 b).toInt32 ∧ I p 4 = nI ns ∧ I 54 b = nI ns ∧
  (∀ i, i < n → I (p + 1) i = nI (t i) ∧ I 51 (12 * b + i) = nI (t i) ∧ I 52 (12 * b + i) = I (p + 2) i ∧ t i + outN l q i ns ≤ 200) ∧
  (∀ s, s < ns → l s < n ∧ I (p + 3) s = nI (l s) ∧ I 55 (24 * b + 3 * s) = nI (l s) ∧ I (p + 4) s = nI (q s) ∧ I 55 (24 * b + (3 * s + 1)) = nI (q s) ∧ I 55 (24 * b + (3 * s + 2)) = I (p + 5) s)
def MarksR (I : HI) : Prop := ∃ nm : Nat, nm ≤ 14 ∧ I 34 1 = nI nm ∧ I 44 14 = nI nm ∧ ∀ i, i < nm → I 35 i = I 56 i
def Rel (I : HI) (J : HJ) : Prop := ∃ (nf nk : Nat) (yr : Nat → Nat), TextR I ∧ LaidR I nf yr ∧ BarnR I J nf 16 0 ∧ MarksR I ∧ nk ≤ 2 ∧ I 0 6 = nI nk ∧ I 44 13 = nI nk ∧ ∀ b, 1 ≤ b → b ≤ nk → BarnR I J nf (16 + 6 * b) b
theorem TextR.cg {I I' : HI} (h : TextR I) (h1 : I' 1 1 = I 1 1) (h2 : I' 2 = I 2) (h3 : I' 44 0 = I 44 0) (h4 : I' 45 = I 45) : TextR I' := by
  obtain ⟨len, a, b, c, d⟩ := h
  exact ⟨len, a, h1.trans b, h3.trans c, fun i hi => by rw [h2, h4]; exact d i hi⟩
theorem LaidR.cg {I I' : HI} {nf : Nat} {yr : Nat → Nat} (h : LaidR I nf yr) (h4 : ∀ k, k < 6 → I' 4 k = I 4 k) (h5 : I' 5 = I 5) (h6 : I' 6 = I 6) (h7 : I' 7 = I 7) (h8 : I' 8 = I 8) (h9 : I' 9 = I 9) (h46 : ∀ k, k < 5 → I' 46 k = I 46 k) (h47 : I' 47 0 = I 47 0) (h48 : ∀ k, k < 48 → I' 48 k = I 48 k) (h49 : ∀ k, k < 100 → I' 49 k = I 49 k) : LaidR I' nf yr := by
  obtain ⟨a1, a2, a3, a4, a5, a6, a7, a8, a9, a10, a11, a12, a13, a14, a15, a16⟩ := h
  refine ⟨a1, a2, (h4 5 (by omega)).trans a3, h47.trans a4, fun i hi => ?_, a6, fun i hi => ?_, fun i hi => ?_, fun i hi => ?_, fun y hy => ?_, fun k hk => ?_, ?_, ?_, ?_, ?_, ?_⟩
  · rw [h5, h48 _ (by omega)]; exact a5 i hi
  · rw [h6, h48 _ (by omega)]; exact a7 i hi
  · rw [h7, h48 _ (by omega)]; exact a8 i hi
  · rw [h8, h48 _ (by omega)]; exact a9 i hi
  · rw [h9, h49 _ hy]; exact a10 y hy
  · rw [h4 k (by omega), h46 k hk]; exact a11 k hk
  · rw [h4 0 (by omega)]; exact a12
  · rw [h4 1 (by omega)]; exact a13
  · rw [h4 2 (by omega)]; exact a14
  · rw [h4 3 (by omega)]; exact a15
  · rw [h4 4 (by omega)]; exact a16
theorem BarnR.cg {I I' : HI} {J J' : HJ} {nf p b : Nat} (h : BarnR I J nf p b) (hnf : nf ≤ 12) (hp : ∀ a, p ≤ a → a < p + 6 → I' a = I a) (h50 : I' 50 b = I 50 b) (h51 : ∀ i, i < 12 → I' 51 (12 * b + i) = I 51 (12 * b + i)) (h52 : ∀ i, i < 12 → I' 52 (12 * b + i) = I 52 (12 * b + i)) (h54 : I' 54 b = I 54 b) (h55 : ∀ k, k < 24 → I' 55 (24 * b + k) = I 55 (24 * b + k)) (hJ : J' 53 b = J 53 b) : BarnR I' J' nf p b := by
  obtain ⟨n, ns, t, l, q, a1, a2, a3, a4, a5, a6, a7, a8, a9⟩ := h
  refine ⟨n, ns, t, l, q, a1, a2, ?_, h50.trans a4, ?_, ?_, h54.trans a7, fun i hi => ?_, fun s hs => ?_⟩
  · rw [hp p (by omega) (by omega)]; exact a3
  · rw [hp p (by omega) (by omega), hJ]; exact a5
  · rw [hp p (by omega) (by omega)]; exact a6
  · rw [hp (p + 1) (by omega) (by omega), hp (p + 2) (by omega) (by omega), h51 i (by omega), h52 i (by omega)]; exact a8 i hi
  · rw [hp (p + 3) (by omega) (by omega), hp (p + 4) (by omega) (by omega), hp (p + 5) (by omega) (by omega), h55 (3 * s) (by omega), h55 (3 * s + 1) (by omega), h55 (3 * s + 2) (by omega)]; exact a9 s hs
theorem MarksR.cg {I I' : HI} (h : MarksR I) (h1 : I' 34 1 = I 34 1) (h2 : I' 35 = I 35) (h3 : I' 44 14 = I 44 14) (h4 : I' 56 = I 56) : MarksR I' := by
  obtain ⟨nm, a, b, c, d⟩ := h
  exact ⟨nm, a, h1.trans b, h3.trans c, fun i hi => by rw [h2, h4]; exact d i hi⟩
/-- places that no answer of a later call hangs on -/
def scr (a b : Nat) : Prop := (a = 1 ∧ 3 ≤ b) ∨ a = 3 ∨ (10 ≤ a ∧ a < 16) ∨ (36 ≤ a ∧ a < 44) ∨ drt a b ∨ 57 ≤ a
def Qt (I I' : HI) : Prop := ∀ a b, ¬ scr a b → I' a b = I a b
theorem Qt.rf {I : HI} : Qt I I := fun _ _ _ => rfl
theorem Qt.tr {I I' I'' : HI} (h : Qt I I') (h2 : Qt I' I'') : Qt I I'' := fun a b x => (h2 a b x).trans (h a b x)
theorem Qt.row {I I' : HI} (h : Qt I I') {a : Nat} (ha : ∀ b, ¬ scr a b) : I' a = I a := by
  funext b
  exact h a b (ha b)
theorem Fr.qt {I I' : HI} (h : Fr I I') : Qt I I' := fun a b x => h a b (fun z => x (Or.inr (Or.inr (Or.inr (Or.inr (Or.inl z))))))
theorem Off.qt {lo hi : Nat} {I I' : HI} (h : Off lo hi I I') (hq : ∀ a, lo ≤ a → a < hi → (10 ≤ a ∧ a < 16) ∨ (36 ≤ a ∧ a < 44) ∨ 57 ≤ a) : Qt I I' := fun a b x => by
  have h1 : a < lo ∨ hi ≤ a := by
    rcases Nat.lt_or_ge a lo with z | z
    · exact Or.inl z
    · rcases Nat.lt_or_ge a hi with z2 | z2
      · exact absurd (hq a z z2) (fun w => x (by rcases w with w | w | w; exact Or.inr (Or.inr (Or.inl w)); exact Or.inr (Or.inr (Or.inr (Or.inl w))); exact Or.inr (Or.inr (Or.inr (Or.inr (Or.inr w))))))
      · exact Or.inr z2
  rw [h a h1]
theorem Rel.qt {I I' : HI} {J J' : HJ} (h : Rel I J) (hq : Qt I I') (hJ : ∀ b, J' 53 b = J 53 b) : Rel I' J' := by
  obtain ⟨nf, nk, yr, ht, hl, hb, hm, a1, a2, a3, a4⟩ := h
  have r : ∀ a, (a = 2 ∨ a = 5 ∨ a = 6 ∨ a = 7 ∨ a = 8 ∨ a = 9 ∨ a = 35 ∨ a = 45 ∨ a = 56 ∨ (16 ≤ a ∧ a < 34)) → I' a = I a := fun a ha => hq.row (fun b => by unfold scr drt; omega)
  have hnf : nf ≤ 12 := hl.2.1
  refine ⟨nf, nk, yr, ht.cg (hq 1 1 (by unfold scr drt; omega)) (r 2 (by omega)) (hq 44 0 (by unfold scr drt; omega)) (r 45 (by omega)), hl.cg (fun k hk => hq 4 k (by unfold scr drt; omega)) (r 5 (by omega)) (r 6 (by omega)) (r 7 (by omega)) (r 8 (by omega)) (r 9 (by omega)) (fun k hk => hq 46 k (by unfold scr drt; omega)) (hq 47 0 (by unfold scr drt; omega)) (fun k hk => hq 48 k (by unfold scr drt; omega)) (fun k hk => hq 49 k (by unfold scr drt; omega)), ?_, hm.cg (hq 34 1 (by unfold scr drt; omega)) (r 35 (by omega)) (hq 44 14 (by unfold scr drt; omega)) (r 56 (by omega)), a1, (hq 0 6 (by unfold scr drt; omega)).trans a2, (hq 44 13 (by unfold scr drt; omega)).trans a3, fun b h1 h2 => ?_⟩
  · exact hb.cg hnf (fun a h1 h2 => r a (by omega)) (hq 50 0 (by unfold scr drt; omega)) (fun i hi => hq 51 _ (by unfold scr drt; omega)) (fun i hi => hq 52 _ (by unfold scr drt; omega)) (hq 54 0 (by unfold scr drt; omega)) (fun k hk => hq 55 _ (by unfold scr drt; omega)) (hJ 0)
  · exact (a4 b h1 h2).cg hnf (fun a h1 h2 => r a (by omega)) (hq 50 b (by unfold scr drt; omega)) (fun i hi => hq 51 _ (by unfold scr drt; omega)) (fun i hi => hq 52 _ (by unfold scr drt; omega)) (hq 54 b (by unfold scr drt; omega)) (fun k hk => hq 55 _ (by unfold scr drt; omega)) (hJ b)
/-- class and reference, called one after the other, answer alike and stay related -/
def Both (mc mm : MD) (as : List Value) (I : HI) (J : HJ) : Prop := ∃ Po, MI mc 7 (.ref 0 :: as) shA I J RA Po ∧ ∀ x I1 J1, Po x I1 J1 → ∃ Po2, MI mm 7 (.ref 44 :: as) shA I1 J1 RA Po2 ∧ ∀ y I2 J2, Po2 y I2 J2 → y = x ∧ Rel I2 J2
theorem Both.pure {mc mm : MD} {as : List Value} {I : HI} {J : HJ} {x : Int32} (hr : Rel I J) (h1 : MIp mc 7 (.ref 0 :: as) shA I J RA x) (h2 : MIp mm 7 (.ref 44 :: as) shA I J RA x) : Both mc mm as I J := by
  refine ⟨_, h1, fun x' I1 J1 hp => ?_⟩
  obtain ⟨e1, e2, e3⟩ := hp
  rw [e2, e3]
  refine ⟨_, h2, fun y I2 J2 hp2 => ?_⟩
  obtain ⟨f1, f2, f3⟩ := hp2
  rw [f1, f2, f3, e1]
  exact ⟨rfl, hr⟩
