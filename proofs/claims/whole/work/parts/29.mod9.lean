/-! the reference: what the barn shows, far and odd -/
def shS (t : Nat → Int32) (i : Nat) : Nat × (Nat → Nat) := match i with
  | 0 => (0, fun _ => 0)
  | i + 1 => if 0 < t i then ((shS t i).1 + 1, fun j => if j = (shS t i).1 then i else (shS t i).2 j) else shS t i
theorem shS_le (t : Nat → Int32) : ∀ i, (shS t i).1 ≤ i := by
  intro i
  induction i with
  | zero => exact Nat.le_refl _
  | succ i ih =>
    unfold shS
    split
    · show (shS t i).1 + 1 ≤ i + 1
      omega
    · omega
theorem shS_lt (t : Nat → Int32) : ∀ i j, j < (shS t i).1 → (shS t i).2 j < i := by
  intro i
  induction i with
  | zero => intro j h; exact absurd h (Nat.not_lt_zero j)
  | succ i ih =>
    intro j h
    by_cases ht : 0 < t i
    · have e : shS t (i + 1) = ((shS t i).1 + 1, fun j => if j = (shS t i).1 then i else (shS t i).2 j) := if_pos ht
      rw [e] at h ⊢
      show (if j = (shS t i).1 then i else (shS t i).2 j) < i + 1
      split
      · omega
      · have h' : j < (shS t i).1 + 1 := h
        have := ih j (by omega)
        omega
    · have e : shS t (i + 1) = shS t i := if_neg ht
      rw [e] at h ⊢
      have := ih j h
      omega
def showP (I : HI) (n : Nat) (I' : HI) : Prop := Off 60 62 I I' ∧ ∀ j, j < (shS (I 51) n).1 → I' 60 j = I 52 ((shS (I 51) n).2 j) ∧ I' 61 j = nI ((shS (I 51) n).2 j)
theorem S_shows {d n : Nat} {I : HI} {J : HJ} (hn : I 50 0 = nI n) (h12 : n ≤ 12) : MI mX7_shows d [.ref 44] shA I J RA (fun x I' J' => x = nI (shS (I 51) n).1 ∧ showP I n I' ∧ J' = J) := by
  have loop : ∀ (i : Nat), i ≤ n → ∀ I', showP I i I' → Wm mX7_shows (TM d 0 0 false shA.length (fun sh' w I' J' R' => sh' = shA ∧ R' = RA ∧ ∃ x : Int32, w = some (.int x) ∧ (x = nI (shS (I 51) n).1 ∧ showP I n I' ∧ J' = J))) 0 0 shA 4 [some (.ref 44), some (.int (nI (shS (I 51) i).1)), some (.int (nI i))] [] I' J RA := by
    refine loopN (fun i hi ih => ?_)
    intro I' hp
    obtain ⟨ho, hs⟩ := hp
    have hn' : I' 50 0 = nI n := by rw [ho 50 (by omega), hn]
    have h51 : I' 51 = I 51 := ho 51 (by omega)
    have h52 : I' 52 = I 52 := ho 52 (by omega)
    refine q_iload_n dX7_shows_4 (rfl : 4 + 1 = 5) rfl ?_
    refine q_aload_n dX7_shows_5 (rfl : 5 + 1 = 6) rfl ?_
    refine q_getR dX7_shows_6 (rfl : 6 + 3 = 9) fX7_26 (by first | rfl | assumption) (by first | rfl | assumption) ?_
    refine q_iconst (v := nI 0) dX7_shows_9 (rfl : 9 + 1 = 10) (by decide) ?_
    refine q_iald (j := 0) dX7_shows_10 (rfl : 10 + 1 = 11) (by first | rfl | assumption) (by decide) (by decide) ?_
    try simp (disch := omega) only [wr_hit, wr_p, wr_k, nI_add, pk_mul, nI_1, nI_s1, pk_sub, Nat.add_sub_cancel, hn']
    refine q_icmp_ge_n (q := 51) (by omega) (by omega) dX7_shows_11 (by decide) (rfl : 11 + 3 = 14) (fun h => ?_) (fun h => ?_)
    ·
      obtain rfl : i = n := by omega
      refine q_iload_n dX7_shows_51 (rfl : 51 + 1 = 52) rfl ?_
      refine q_iret rfl dX7_shows_52 ⟨rfl, rfl, _, rfl, ?_⟩
      exact ⟨rfl, ⟨ho, hs⟩, rfl⟩
    ·
      have hi36 : i < 36 := by omega
      have hle := shS_le (I 51) i
      have hc : (shS (I 51) i).1 < 12 := by omega
      refine q_aload_n dX7_shows_14 (rfl : 14 + 1 = 15) rfl ?_
      refine q_getR dX7_shows_15 (rfl : 15 + 3 = 18) fX7_29 (by first | rfl | assumption) (by first | rfl | assumption) ?_
      refine q_iload_n dX7_shows_18 (rfl : 18 + 1 = 19) rfl ?_
      refine q_iald dX7_shows_19 (rfl : 19 + 1 = 20) (by first | rfl | assumption) (by first | assumption | omega) (by decide) ?_
      rw [h51]
      refine q_if_le (q := 45) dX7_shows_20 (by decide) (rfl : 20 + 3 = 23) (fun hp => ?_) (fun hp => ?_)
      ·
        have e : shS (I 51) (i + 1) = shS (I 51) i := if_neg (Int32.not_lt.mpr hp)
        have key := ih h I' ⟨ho, by rw [e]; exact hs⟩
        rw [e] at key
        first | refine q_iinc1 dX7_shows_45 (rfl : 45 + 3 = 48) rfl (by decide) ?_ | refine q_iinc dX7_shows_45 (rfl : 45 + 3 = 48) rfl rfl (by decide) ?_
        refine q_goto (q := 4) dX7_shows_48 (by decide) ?_
        exact key
      ·
        have hp' : 0 < I 51 i := Int32.not_le.mp hp
        have e : shS (I 51) (i + 1) = ((shS (I 51) i).1 + 1, fun j => if j = (shS (I 51) i).1 then i else (shS (I 51) i).2 j) := if_pos hp'
        refine q_aload_n dX7_shows_23 (rfl : 23 + 1 = 24) rfl ?_
        refine q_getR dX7_shows_24 (rfl : 24 + 3 = 27) fX7_57 (by first | rfl | assumption) (by first | rfl | assumption) ?_
        refine q_iload_n dX7_shows_27 (rfl : 27 + 1 = 28) rfl ?_
        refine q_aload_n dX7_shows_28 (rfl : 28 + 1 = 29) rfl ?_
        refine q_getR dX7_shows_29 (rfl : 29 + 3 = 32) fX7_32 (by first | rfl | assumption) (by first | rfl | assumption) ?_
        refine q_iload_n dX7_shows_32 (rfl : 32 + 1 = 33) rfl ?_
        refine q_iald dX7_shows_33 (rfl : 33 + 1 = 34) (by first | rfl | assumption) (by first | assumption | omega) (by decide) ?_
        refine q_iast dX7_shows_34 (rfl : 34 + 1 = 35) (by first | rfl | assumption) (by first | assumption | omega) (by decide) ?_
        refine q_aload_n dX7_shows_35 (rfl : 35 + 1 = 36) rfl ?_
        refine q_getR dX7_shows_36 (rfl : 36 + 3 = 39) fX7_60 (by first | rfl | assumption) (by first | rfl | assumption) ?_
        refine q_iload_n dX7_shows_39 (rfl : 39 + 1 = 40) rfl ?_
        refine q_iload_n dX7_shows_40 (rfl : 40 + 1 = 41) rfl ?_
        refine q_iast dX7_shows_41 (rfl : 41 + 1 = 42) (by first | rfl | assumption) (by first | assumption | omega) (by decide) ?_
        first | refine q_iinc1 dX7_shows_42 (rfl : 42 + 3 = 45) rfl (by decide) ?_ | refine q_iinc dX7_shows_42 (rfl : 42 + 3 = 45) rfl rfl (by decide) ?_
        first | refine q_iinc1 dX7_shows_45 (rfl : 45 + 3 = 48) rfl (by decide) ?_ | refine q_iinc dX7_shows_45 (rfl : 45 + 3 = 48) rfl rfl (by decide) ?_
        refine q_goto (q := 4) dX7_shows_48 (by decide) ?_
        rw [h52]
        have key := ih h (wr (wr I' 60 (shS (I 51) i).1 (I 52 i)) 61 (shS (I 51) i).1 (nI i)) ⟨(ho.wr (by omega) (by omega)).wr (by omega) (by omega), fun j hj => by
          rw [e] at hj ⊢
          have hj' : j < (shS (I 51) i).1 + 1 := hj
          show wr (wr I' 60 (shS (I 51) i).1 (I 52 i)) 61 (shS (I 51) i).1 (nI i) 60 j = I 52 (if j = (shS (I 51) i).1 then i else (shS (I 51) i).2 j) ∧ wr (wr I' 60 (shS (I 51) i).1 (I 52 i)) 61 (shS (I 51) i).1 (nI i) 61 j = nI (if j = (shS (I 51) i).1 then i else (shS (I 51) i).2 j)
          rw [wr_ne (show (60 : Nat) ≠ 61 by omega)]
          by_cases ej : j = (shS (I 51) i).1
          · rw [if_pos ej, ej, wr_hit, wr_hit]
            exact ⟨rfl, rfl⟩
          · rw [if_neg ej, wr_nk ej, wr_nk ej, wr_ne (show (61 : Nat) ≠ 60 by omega)]
            exact hs j (by omega)⟩
        rw [e] at key
        exact key
  refine Mt.of (L := [some (.ref 44), none, none]) (by decide +kernel) (Nat.le_of_ble_eq_true rfl) rfl ?_
  refine q_iconst (v := nI 0) dX7_shows_0 (rfl : 0 + 1 = 1) (by decide) ?_
  refine q_istore_n dX7_shows_1 (rfl : 1 + 1 = 2) (by decide) ?_
  refine q_iconst (v := nI 0) dX7_shows_2 (rfl : 2 + 1 = 3) (by decide) ?_
  refine q_istore_n dX7_shows_3 (rfl : 3 + 1 = 4) (by decide) ?_
  exact loop 0 (by omega) I ⟨Off.rf, fun j hj => absurd hj (Nat.not_lt_zero j)⟩
def eIn (prev : Nat → Nat) (m : Int32) (ow : Nat → Int32) (a1 b : Nat) : Nat := match b with
  | 0 => a1
  | b + 1 =>
    if eIn prev m ow a1 b + 1 < (if prev (b + 1) + 1 < prev b + (if m = ow b then 0 else 1) then prev (b + 1) + 1 else prev b + (if m = ow b then 0 else 1)) then eIn prev m ow a1 b + 1
    else if prev (b + 1) + 1 < prev b + (if m = ow b then 0 else 1) then prev (b + 1) + 1 else prev b + (if m = ow b then 0 else 1)
def eR (mk ow : Nat → Int32) (a : Nat) : Nat → Nat := match a with
  | 0 => fun b => b
  | a + 1 => fun b => eIn (eR mk ow a) (mk a) ow (a + 1) b
theorem eIn_le {prev : Nat → Nat} {m : Int32} {ow : Nat → Int32} {a : Nat} (hp : ∀ b, prev b ≤ a + b) : ∀ b, eIn prev m ow (a + 1) b ≤ a + 1 + b := by
  intro b
  induction b with
  | zero => exact Nat.le_refl _
  | succ b ih =>
    have h1 := hp b
    have h2 := hp (b + 1)
    unfold eIn
    repeat' split
    all_goals omega
theorem eR_le (mk ow : Nat → Int32) : ∀ a b, eR mk ow a b ≤ a + b := by
  intro a
  induction a with
  | zero => intro b; show b ≤ 0 + b; omega
  | succ a ih => exact eIn_le ih
def farI (mk ow : Nat → Int32) (n a b : Nat) (I : HI) : Prop := (∀ a' b', a' < a → b' ≤ n → I 62 (15 * a' + b') = nI (eR mk ow a' b')) ∧ (∀ b', b' < b → I 62 (15 * a + b') = nI (eR mk ow a b'))
theorem S_mfar {d m n : Nat} {I : HI} {J : HJ} (hn : I 50 0 = nI n) (h12 : n ≤ 12) (hm : I 44 14 = nI m) (h14 : m ≤ 14) : MI mX7_far (d + 1) [.ref 44] shA I J RA (fun x I' J' => x = nI (eR (I 56) (fun j => I 52 ((shS (I 51) n).2 j)) m (shS (I 51) n).1) ∧ Off 60 63 I I' ∧ J' = J) := by
  obtain ⟨k, hk⟩ : ∃ k, k = (shS (I 51) n).1 := ⟨_, rfl⟩
  have hk12 : k ≤ 12 := by
    have := shS_le (I 51) n
    omega
  obtain ⟨ow, how⟩ : ∃ ow : Nat → Int32, ow = (fun j => I 52 ((shS (I 51) n).2 j)) := ⟨_, rfl⟩
  have inner : ∀ (a : Nat), a ≤ m → (∀ I', Off 60 63 I I' → (∀ j, j < k → I' 60 j = ow j) → farI (I 56) ow k (a + 1) 0 I' → Wm mX7_far (TM (d + 1) 0 0 false shA.length (fun sh' w I' J' R' => sh' = shA ∧ R' = RA ∧ ∃ x : Int32, w = some (.int x) ∧ (x = nI (eR (I 56) (fun j => I 52 ((shS (I 51) n).2 j)) m (shS (I 51) n).1) ∧ Off 60 63 I I' ∧ J' = J))) 0 0 shA 191 [some (.ref 44), some (.int (nI k)), some (.int (nI a)), none, none] [] I' J RA) →
      ∀ (b : Nat), b ≤ k + 1 → ∀ I', Off 60 63 I I' → (∀ j, j < k → I' 60 j = ow j) → farI (I 56) ow k a b I' → Wm mX7_far (TM (d + 1) 0 0 false shA.length (fun sh' w I' J' R' => sh' = shA ∧ R' = RA ∧ ∃ x : Int32, w = some (.int x) ∧ (x = nI (eR (I 56) (fun j => I 52 ((shS (I 51) n).2 j)) m (shS (I 51) n).1) ∧ Off 60 63 I I' ∧ J' = J))) 0 0 shA 17 [some (.ref 44), some (.int (nI k)), some (.int (nI a)), some (.int (nI b)), none] [] I' J RA := by
    intro a ha K
    refine loopN (fun b hb ih => ?_)
    intro I' ho hO hF
    obtain ⟨f1, f2⟩ := hF
    have h56 : I' 56 = I 56 := ho 56 (by omega)
    refine q_iload_n dX7_far_17 (rfl : 17 + 1 = 18) rfl ?_
    refine q_iload_n dX7_far_18 (rfl : 18 + 1 = 19) rfl ?_
    refine q_icmp_gt_n (q := 191) (by omega) (by omega) dX7_far_19 (by decide) (rfl : 19 + 3 = 22) (fun h => ?_) (fun h => ?_)
    ·
      obtain rfl : b = k + 1 := by omega
      refine q_forget (L' := [some (.ref 44), some (.int (nI k)), some (.int (nI a)), none, none]) (by repeat (first | exact trivial | refine And.intro rfl ?_)) ?_
      refine K I' ho hO ⟨fun a' b' h1 h2 => ?_, fun b' z => by omega⟩
      rcases Nat.lt_or_ge a' a with q | q
      · exact f1 a' b' q h2
      · obtain rfl : a' = a := by omega
        exact f2 b' (by omega)
    ·
      have hbk : b ≤ k := by omega
      have hix : 15 * a + b < 225 := by omega
      have store : ∀ v : Nat, v = eR (I 56) ow a b → Wm mX7_far (TM (d + 1) 0 0 false shA.length (fun sh' w I' J' R' => sh' = shA ∧ R' = RA ∧ ∃ x : Int32, w = some (.int x) ∧ (x = nI (eR (I 56) (fun j => I 52 ((shS (I 51) n).2 j)) m (shS (I 51) n).1) ∧ Off 60 63 I I' ∧ J' = J))) 0 0 shA 172 [some (.ref 44), some (.int (nI k)), some (.int (nI a)), some (.int (nI b)), some (.int (nI v))] [] I' J RA := by
        intro v hv
        subst hv
        refine q_aload_n dX7_far_172 (rfl : 172 + 1 = 173) rfl ?_
        refine q_getR dX7_far_173 (rfl : 173 + 3 = 176) fX7_63 (by first | rfl | assumption) (by first | rfl | assumption) ?_
        refine q_bipush (v := nI 15) dX7_far_176 (rfl : 176 + 2 = 178) (by decide) ?_
        refine q_iload_n dX7_far_178 (rfl : 178 + 1 = 179) rfl ?_
        refine q_imul dX7_far_179 (rfl : 179 + 1 = 180) ?_
        try simp (disch := omega) only [wr_hit, wr_p, wr_k, nI_add, pk_mul, nI_1, nI_s1, pk_sub, Nat.add_sub_cancel]
        refine q_iload_n dX7_far_180 (rfl : 180 + 1 = 181) rfl ?_
        refine q_iadd dX7_far_181 (rfl : 181 + 1 = 182) ?_
        try simp (disch := omega) only [wr_hit, wr_p, wr_k, nI_add, pk_mul, nI_1, nI_s1, pk_sub, Nat.add_sub_cancel]
        refine q_iload dX7_far_182 (rfl : 182 + 2 = 184) rfl ?_
        refine q_iast dX7_far_184 (rfl : 184 + 1 = 185) (by first | rfl | assumption) (by first | assumption | omega) (by decide) ?_
        first | refine q_iinc1 dX7_far_185 (rfl : 185 + 3 = 188) rfl (by decide) ?_ | refine q_iinc dX7_far_185 (rfl : 185 + 3 = 188) rfl rfl (by decide) ?_
        refine q_goto (q := 17) dX7_far_188 (by decide) ?_
        refine q_forget (L' := [some (.ref 44), some (.int (nI k)), some (.int (nI a)), some (.int (nI (b + 1))), none]) (by repeat (first | exact trivial | refine And.intro rfl ?_)) ?_
        refine ih (by omega) _ (ho.wr (by omega) (by omega)) (fun j hj => by rw [wr_ne (by omega)]; exact hO j hj) ⟨fun a' b' h1 h2 => ?_, fun b' h2 => ?_⟩
        · rw [wr_nk (by omega)]
          exact f1 a' b' h1 h2
        · by_cases eb : b' = b
          · rw [eb, wr_hit]
          · rw [wr_nk (by omega)]
            exact f2 b' (by omega)
      refine q_iload_n dX7_far_22 (rfl : 22 + 1 = 23) rfl ?_
      refine q_if_ne_n (q := 30) (by omega) dX7_far_23 (by decide) (rfl : 23 + 3 = 26) (fun ha0 => ?_) (fun ha0 => ?_)
      ·
        obtain ⟨a0, rfl⟩ : ∃ a0, a = a0 + 1 := ⟨a - 1, by omega⟩
        refine q_iload_n dX7_far_30 (rfl : 30 + 1 = 31) rfl ?_
        refine q_if_ne_n (q := 38) (by omega) dX7_far_31 (by decide) (rfl : 31 + 3 = 34) (fun hb0 => ?_) (fun hb0 => ?_)
        ·
          obtain ⟨b0, rfl⟩ : ∃ b0, b = b0 + 1 := ⟨b - 1, by omega⟩
          have i1 : 15 * a0 + b0 < 225 := by omega
          have i2 : 15 * a0 + (b0 + 1) < 225 := by omega
          have i3 : 15 * (a0 + 1) + b0 < 225 := by omega
          have i4 : a0 < 14 := by omega
          have i5 : b0 < 12 := by omega
          have p1 : I' 62 (15 * a0 + b0) = nI (eR (I 56) ow a0 b0) := f1 a0 b0 (by omega) (by omega)
          have p2 : I' 62 (15 * a0 + (b0 + 1)) = nI (eR (I 56) ow a0 (b0 + 1)) := f1 a0 (b0 + 1) (by omega) (by omega)
          have p3 : I' 62 (15 * (a0 + 1) + b0) = nI (eR (I 56) ow (a0 + 1) b0) := f2 b0 (by omega)
          have q1 := eR_le (I 56) ow a0 b0
          have q2 := eR_le (I 56) ow a0 (b0 + 1)
          have q3 := eR_le (I 56) ow (a0 + 1) b0
          have x1 : (nI 15 * (nI (a0 + 1) - nI 1) + nI (b0 + 1) - nI 1) = nI (15 * a0 + b0) := by
            rw [nI_s1, pk_mul, nI_add, pk_sub (by omega)]
            congr 1
          have x2 : (nI 15 * (nI (a0 + 1) - nI 1) + nI (b0 + 1)) = nI (15 * a0 + (b0 + 1)) := by
            rw [nI_s1, pk_mul, nI_add]
          have x3 : (nI 15 * nI (a0 + 1) + nI (b0 + 1) - nI 1) = nI (15 * (a0 + 1) + b0) := by
            rw [pk_mul, nI_add, pk_sub (by omega)]
            congr 1
          have un : eR (I 56) ow (a0 + 1) (b0 + 1) = (if eR (I 56) ow (a0 + 1) b0 + 1 < (if eR (I 56) ow a0 (b0 + 1) + 1 < eR (I 56) ow a0 b0 + (if I 56 a0 = ow b0 then 0 else 1) then eR (I 56) ow a0 (b0 + 1) + 1 else eR (I 56) ow a0 b0 + (if I 56 a0 = ow b0 then 0 else 1)) then eR (I 56) ow (a0 + 1) b0 + 1
            else if eR (I 56) ow a0 (b0 + 1) + 1 < eR (I 56) ow a0 b0 + (if I 56 a0 = ow b0 then 0 else 1) then eR (I 56) ow a0 (b0 + 1) + 1 else eR (I 56) ow a0 b0 + (if I 56 a0 = ow b0 then 0 else 1)) := rfl
          have third : ∀ v : Nat, v ≤ 100 → v = (if eR (I 56) ow a0 (b0 + 1) + 1 < eR (I 56) ow a0 b0 + (if I 56 a0 = ow b0 then 0 else 1) then eR (I 56) ow a0 (b0 + 1) + 1 else eR (I 56) ow a0 b0 + (if I 56 a0 = ow b0 then 0 else 1)) → Wm mX7_far (TM (d + 1) 0 0 false shA.length (fun sh' w I' J' R' => sh' = shA ∧ R' = RA ∧ ∃ x : Int32, w = some (.int x) ∧ (x = nI (eR (I 56) (fun j => I 52 ((shS (I 51) n).2 j)) m (shS (I 51) n).1) ∧ Off 60 63 I I' ∧ J' = J))) 0 0 shA 128 [some (.ref 44), some (.int (nI k)), some (.int (nI (a0 + 1))), some (.int (nI (b0 + 1))), none] [.int (nI v)] I' J RA := by
            intro v hv100 hv
            rw [← hv] at un
            refine q_istore dX7_far_128 (rfl : 128 + 2 = 130) (by decide) ?_
            refine q_aload_n dX7_far_130 (rfl : 130 + 1 = 131) rfl ?_
            refine q_getR dX7_far_131 (rfl : 131 + 3 = 134) fX7_63 (by first | rfl | assumption) (by first | rfl | assumption) ?_
            refine q_bipush (v := nI 15) dX7_far_134 (rfl : 134 + 2 = 136) (by decide) ?_
            refine q_iload_n dX7_far_136 (rfl : 136 + 1 = 137) rfl ?_
            refine q_imul dX7_far_137 (rfl : 137 + 1 = 138) ?_
            refine q_iload_n dX7_far_138 (rfl : 138 + 1 = 139) rfl ?_
            refine q_iadd dX7_far_139 (rfl : 139 + 1 = 140) ?_
            refine q_iconst (v := nI 1) dX7_far_140 (rfl : 140 + 1 = 141) (by decide) ?_
            refine q_isub dX7_far_141 (rfl : 141 + 1 = 142) ?_
            rw [x3]
            refine q_iald dX7_far_142 (rfl : 142 + 1 = 143) (by first | rfl | assumption) (by first | assumption | omega) (by decide) ?_
            rw [p3]
            refine q_iconst (v := nI 1) dX7_far_143 (rfl : 143 + 1 = 144) (by decide) ?_
            refine q_iadd dX7_far_144 (rfl : 144 + 1 = 145) ?_
            refine q_iload dX7_far_145 (rfl : 145 + 2 = 147) rfl ?_
            rw [nI_add]
            refine q_icmp_ge_n (q := 168) (by omega) (by omega) dX7_far_147 (by decide) (rfl : 147 + 3 = 150) (fun c1 => ?_) (fun c1 => ?_)
            ·
              rw [if_neg (by omega)] at un
              refine q_iload dX7_far_168 (rfl : 168 + 2 = 170) rfl ?_
              refine q_istore dX7_far_170 (rfl : 170 + 2 = 172) (by decide) ?_
              exact store v un.symm
            ·
              rw [if_pos (by omega)] at un
              refine q_aload_n dX7_far_150 (rfl : 150 + 1 = 151) rfl ?_
              refine q_getR dX7_far_151 (rfl : 151 + 3 = 154) fX7_63 (by first | rfl | assumption) (by first | rfl | assumption) ?_
              refine q_bipush (v := nI 15) dX7_far_154 (rfl : 154 + 2 = 156) (by decide) ?_
              refine q_iload_n dX7_far_156 (rfl : 156 + 1 = 157) rfl ?_
              refine q_imul dX7_far_157 (rfl : 157 + 1 = 158) ?_
              refine q_iload_n dX7_far_158 (rfl : 158 + 1 = 159) rfl ?_
              refine q_iadd dX7_far_159 (rfl : 159 + 1 = 160) ?_
              refine q_iconst (v := nI 1) dX7_far_160 (rfl : 160 + 1 = 161) (by decide) ?_
              refine q_isub dX7_far_161 (rfl : 161 + 1 = 162) ?_
              rw [x3]
              refine q_iald dX7_far_162 (rfl : 162 + 1 = 163) (by first | rfl | assumption) (by first | assumption | omega) (by decide) ?_
              rw [p3]
              refine q_iconst (v := nI 1) dX7_far_163 (rfl : 163 + 1 = 164) (by decide) ?_
              refine q_iadd dX7_far_164 (rfl : 164 + 1 = 165) ?_
              rw [nI_add]
              refine q_goto (q := 170) dX7_far_165 (by decide) ?_
              refine q_istore dX7_far_170 (rfl : 170 + 2 = 172) (by decide) ?_
              exact store _ un.symm
          have second : ∀ v : Nat, v = eR (I 56) ow a0 b0 + (if I 56 a0 = ow b0 then 0 else 1) → Wm mX7_far (TM (d + 1) 0 0 false shA.length (fun sh' w I' J' R' => sh' = shA ∧ R' = RA ∧ ∃ x : Int32, w = some (.int x) ∧ (x = nI (eR (I 56) (fun j => I 52 ((shS (I 51) n).2 j)) m (shS (I 51) n).1) ∧ Off 60 63 I I' ∧ J' = J))) 0 0 shA 78 [some (.ref 44), some (.int (nI k)), some (.int (nI (a0 + 1))), some (.int (nI (b0 + 1))), none] [.int (nI v)] I' J RA := by
            intro v hv
            have hv100 : v ≤ 100 := by
              rw [hv]
              split <;> omega
            rw [← hv] at third
            refine q_istore dX7_far_78 (rfl : 78 + 2 = 80) (by decide) ?_
            refine q_iload_n dX7_far_80 (rfl : 80 + 1 = 81) rfl ?_
            refine q_if_le_n (q := 172) (by omega) dX7_far_81 (by decide) (rfl : 81 + 3 = 84) (fun c1 => ?_) (fun c1 => ?_)
            ·
              omega
            ·
              refine q_iload_n dX7_far_84 (rfl : 84 + 1 = 85) rfl ?_
              refine q_if_le_n (q := 172) (by omega) dX7_far_85 (by decide) (rfl : 85 + 3 = 88) (fun c2 => ?_) (fun c2 => ?_)
              ·
                omega
              ·
                refine q_aload_n dX7_far_88 (rfl : 88 + 1 = 89) rfl ?_
                refine q_getR dX7_far_89 (rfl : 89 + 3 = 92) fX7_63 (by first | rfl | assumption) (by first | rfl | assumption) ?_
                refine q_bipush (v := nI 15) dX7_far_92 (rfl : 92 + 2 = 94) (by decide) ?_
                refine q_iload_n dX7_far_94 (rfl : 94 + 1 = 95) rfl ?_
                refine q_iconst (v := nI 1) dX7_far_95 (rfl : 95 + 1 = 96) (by decide) ?_
                refine q_isub dX7_far_96 (rfl : 96 + 1 = 97) ?_
                refine q_imul dX7_far_97 (rfl : 97 + 1 = 98) ?_
                refine q_iload_n dX7_far_98 (rfl : 98 + 1 = 99) rfl ?_
                refine q_iadd dX7_far_99 (rfl : 99 + 1 = 100) ?_
                rw [x2]
                refine q_iald dX7_far_100 (rfl : 100 + 1 = 101) (by first | rfl | assumption) (by first | assumption | omega) (by decide) ?_
                rw [p2]
                refine q_iconst (v := nI 1) dX7_far_101 (rfl : 101 + 1 = 102) (by decide) ?_
                refine q_iadd dX7_far_102 (rfl : 102 + 1 = 103) ?_
                refine q_iload dX7_far_103 (rfl : 103 + 2 = 105) rfl ?_
                rw [nI_add]
                refine q_icmp_ge_n (q := 126) (by omega) (by omega) dX7_far_105 (by decide) (rfl : 105 + 3 = 108) (fun c3 => ?_) (fun c3 => ?_)
                ·
                  refine q_iload dX7_far_126 (rfl : 126 + 2 = 128) rfl ?_
                  refine q_forget (L' := [some (.ref 44), some (.int (nI k)), some (.int (nI (a0 + 1))), some (.int (nI (b0 + 1))), none]) (by repeat (first | exact trivial | refine And.intro rfl ?_)) ?_
                  exact third v hv100 (by rw [if_neg (by omega)])
                ·
                  refine q_aload_n dX7_far_108 (rfl : 108 + 1 = 109) rfl ?_
                  refine q_getR dX7_far_109 (rfl : 109 + 3 = 112) fX7_63 (by first | rfl | assumption) (by first | rfl | assumption) ?_
                  refine q_bipush (v := nI 15) dX7_far_112 (rfl : 112 + 2 = 114) (by decide) ?_
                  refine q_iload_n dX7_far_114 (rfl : 114 + 1 = 115) rfl ?_
                  refine q_iconst (v := nI 1) dX7_far_115 (rfl : 115 + 1 = 116) (by decide) ?_
                  refine q_isub dX7_far_116 (rfl : 116 + 1 = 117) ?_
                  refine q_imul dX7_far_117 (rfl : 117 + 1 = 118) ?_
                  refine q_iload_n dX7_far_118 (rfl : 118 + 1 = 119) rfl ?_
                  refine q_iadd dX7_far_119 (rfl : 119 + 1 = 120) ?_
                  rw [x2]
                  refine q_iald dX7_far_120 (rfl : 120 + 1 = 121) (by first | rfl | assumption) (by first | assumption | omega) (by decide) ?_
                  rw [p2]
                  refine q_iconst (v := nI 1) dX7_far_121 (rfl : 121 + 1 = 122) (by decide) ?_
                  refine q_iadd dX7_far_122 (rfl : 122 + 1 = 123) ?_
                  rw [nI_add]
                  refine q_goto (q := 128) dX7_far_123 (by decide) ?_
                  refine q_forget (L' := [some (.ref 44), some (.int (nI k)), some (.int (nI (a0 + 1))), some (.int (nI (b0 + 1))), none]) (by repeat (first | exact trivial | refine And.intro rfl ?_)) ?_
                  exact third _ (by omega) (by rw [if_pos (by omega)])
          refine q_aload_n dX7_far_38 (rfl : 38 + 1 = 39) rfl ?_
          refine q_getR dX7_far_39 (rfl : 39 + 3 = 42) fX7_63 (by first | rfl | assumption) (by first | rfl | assumption) ?_
          refine q_bipush (v := nI 15) dX7_far_42 (rfl : 42 + 2 = 44) (by decide) ?_
          refine q_iload_n dX7_far_44 (rfl : 44 + 1 = 45) rfl ?_
          refine q_iconst (v := nI 1) dX7_far_45 (rfl : 45 + 1 = 46) (by decide) ?_
          refine q_isub dX7_far_46 (rfl : 46 + 1 = 47) ?_
          refine q_imul dX7_far_47 (rfl : 47 + 1 = 48) ?_
          refine q_iload_n dX7_far_48 (rfl : 48 + 1 = 49) rfl ?_
          refine q_iadd dX7_far_49 (rfl : 49 + 1 = 50) ?_
          refine q_iconst (v := nI 1) dX7_far_50 (rfl : 50 + 1 = 51) (by decide) ?_
          refine q_isub dX7_far_51 (rfl : 51 + 1 = 52) ?_
          rw [x1]
          refine q_iald dX7_far_52 (rfl : 52 + 1 = 53) (by first | rfl | assumption) (by first | assumption | omega) (by decide) ?_
          refine q_aload_n dX7_far_53 (rfl : 53 + 1 = 54) rfl ?_
          refine q_getR dX7_far_54 (rfl : 54 + 3 = 57) fX7_45 (by first | rfl | assumption) (by first | rfl | assumption) ?_
          refine q_iload_n dX7_far_57 (rfl : 57 + 1 = 58) rfl ?_
          refine q_iconst (v := nI 1) dX7_far_58 (rfl : 58 + 1 = 59) (by decide) ?_
          rw [p1]
          refine q_isub dX7_far_59 (rfl : 59 + 1 = 60) ?_
          rw [nI_s1]
          refine q_iald dX7_far_60 (rfl : 60 + 1 = 61) (by first | rfl | assumption) (by first | assumption | omega) (by decide) ?_
          refine q_aload_n dX7_far_61 (rfl : 61 + 1 = 62) rfl ?_
          refine q_getR dX7_far_62 (rfl : 62 + 3 = 65) fX7_57 (by first | rfl | assumption) (by first | rfl | assumption) ?_
          refine q_iload_n dX7_far_65 (rfl : 65 + 1 = 66) rfl ?_
          refine q_iconst (v := nI 1) dX7_far_66 (rfl : 66 + 1 = 67) (by decide) ?_
          rw [h56]
          refine q_isub dX7_far_67 (rfl : 67 + 1 = 68) ?_
          rw [nI_s1]
          refine q_iald dX7_far_68 (rfl : 68 + 1 = 69) (by first | rfl | assumption) (by first | assumption | omega) (by decide) ?_
          rw [hO b0 (by omega)]
          refine q_icmp_ne (q := 76) dX7_far_69 (by decide) (rfl : 69 + 3 = 72) (fun c0 => ?_) (fun c0 => ?_)
          ·
            refine q_iconst (v := nI 1) dX7_far_76 (rfl : 76 + 1 = 77) (by decide) ?_
            refine q_iadd dX7_far_77 (rfl : 77 + 1 = 78) ?_
            rw [nI_add]
            exact second _ (by rw [if_neg c0])
          ·
            refine q_iconst (v := nI 0) dX7_far_72 (rfl : 72 + 1 = 73) (by decide) ?_
            refine q_goto (q := 77) dX7_far_73 (by decide) ?_
            refine q_iadd dX7_far_77 (rfl : 77 + 1 = 78) ?_
            rw [nI_add]
            exact second _ (by rw [if_pos c0])
        ·
          subst hb0
          refine q_iload_n dX7_far_34 (rfl : 34 + 1 = 35) rfl ?_
          refine q_goto (q := 78) dX7_far_35 (by decide) ?_
          refine q_istore dX7_far_78 (rfl : 78 + 2 = 80) (by decide) ?_
          refine q_iload_n dX7_far_80 (rfl : 80 + 1 = 81) rfl ?_
          refine q_if_le_n (q := 172) (by omega) dX7_far_81 (by decide) (rfl : 81 + 3 = 84) (fun c1 => ?_) (fun c1 => ?_)
          ·
            omega
          ·
            refine q_iload_n dX7_far_84 (rfl : 84 + 1 = 85) rfl ?_
            refine q_if_le_n (q := 172) (by omega) dX7_far_85 (by decide) (rfl : 85 + 3 = 88) (fun c2 => ?_) (fun c2 => ?_)
            ·
              exact store (a0 + 1) rfl
            ·
              omega
      ·
        subst ha0
        refine q_iload_n dX7_far_26 (rfl : 26 + 1 = 27) rfl ?_
        refine q_goto (q := 78) dX7_far_27 (by decide) ?_
        refine q_istore dX7_far_78 (rfl : 78 + 2 = 80) (by decide) ?_
        refine q_iload_n dX7_far_80 (rfl : 80 + 1 = 81) rfl ?_
        refine q_if_le_n (q := 172) (by omega) dX7_far_81 (by decide) (rfl : 81 + 3 = 84) (fun c1 => ?_) (fun c1 => ?_)
        ·
          exact store b rfl
        ·
          omega
  have outer : ∀ (a : Nat), a ≤ m + 1 → ∀ I', Off 60 63 I I' → (∀ j, j < k → I' 60 j = ow j) → farI (I 56) ow k a 0 I' → Wm mX7_far (TM (d + 1) 0 0 false shA.length (fun sh' w I' J' R' => sh' = shA ∧ R' = RA ∧ ∃ x : Int32, w = some (.int x) ∧ (x = nI (eR (I 56) (fun j => I 52 ((shS (I 51) n).2 j)) m (shS (I 51) n).1) ∧ Off 60 63 I I' ∧ J' = J))) 0 0 shA 7 [some (.ref 44), some (.int (nI k)), some (.int (nI a)), none, none] [] I' J RA := by
    refine loopN (fun a ha ih => ?_)
    intro I' ho hO hF
    have hm' : I' 44 14 = nI m := by rw [ho 44 (by omega), hm]
    refine q_iload_n dX7_far_7 (rfl : 7 + 1 = 8) rfl ?_
    refine q_aload_n dX7_far_8 (rfl : 8 + 1 = 9) rfl ?_
    refine q_getI dX7_far_9 (rfl : 9 + 3 = 12) fX7_110 (by first | rfl | assumption) ?_
    try simp (disch := omega) only [wr_hit, wr_p, wr_k, nI_add, pk_mul, nI_1, nI_s1, pk_sub, Nat.add_sub_cancel, hm']
    refine q_icmp_gt_n (q := 197) (by omega) (by omega) dX7_far_12 (by decide) (rfl : 12 + 3 = 15) (fun h => ?_) (fun h => ?_)
    ·
      obtain rfl : a = m + 1 := by omega
      have e := hF.1 m k (by omega) (Nat.le_refl _)
      have hix : 15 * m + k < 225 := by omega
      refine q_aload_n dX7_far_197 (rfl : 197 + 1 = 198) rfl ?_
      refine q_getR dX7_far_198 (rfl : 198 + 3 = 201) fX7_63 (by first | rfl | assumption) (by first | rfl | assumption) ?_
      refine q_bipush (v := nI 15) dX7_far_201 (rfl : 201 + 2 = 203) (by decide) ?_
      refine q_aload_n dX7_far_203 (rfl : 203 + 1 = 204) rfl ?_
      refine q_getI dX7_far_204 (rfl : 204 + 3 = 207) fX7_110 (by first | rfl | assumption) ?_
      try simp (disch := omega) only [wr_hit, wr_p, wr_k, nI_add, pk_mul, nI_1, nI_s1, pk_sub, Nat.add_sub_cancel, hm']
      refine q_imul dX7_far_207 (rfl : 207 + 1 = 208) ?_
      try simp (disch := omega) only [wr_hit, wr_p, wr_k, nI_add, pk_mul, nI_1, nI_s1, pk_sub, Nat.add_sub_cancel, hm']
      refine q_iload_n dX7_far_208 (rfl : 208 + 1 = 209) rfl ?_
      refine q_iadd dX7_far_209 (rfl : 209 + 1 = 210) ?_
      try simp (disch := omega) only [wr_hit, wr_p, wr_k, nI_add, pk_mul, nI_1, nI_s1, pk_sub, Nat.add_sub_cancel, hm']
      refine q_iald dX7_far_210 (rfl : 210 + 1 = 211) (by first | rfl | assumption) (by first | assumption | omega) (by decide) ?_
      try simp (disch := omega) only [wr_hit, wr_p, wr_k, nI_add, pk_mul, nI_1, nI_s1, pk_sub, Nat.add_sub_cancel, hm']
      rw [e]
      refine q_iret rfl dX7_far_211 ⟨rfl, rfl, _, rfl, ?_⟩
      refine ⟨?_, ho, rfl⟩
      rw [how, hk]
    ·
      refine q_iconst (v := nI 0) dX7_far_15 (rfl : 15 + 1 = 16) (by decide) ?_
      refine q_istore_n dX7_far_16 (rfl : 16 + 1 = 17) (by decide) ?_
      refine inner a (by omega) (fun I2 ho2 hO2 hF2 => ?_) 0 (by omega) I' ho hO hF
      first | refine q_iinc1 dX7_far_191 (rfl : 191 + 3 = 194) rfl (by decide) ?_ | refine q_iinc dX7_far_191 (rfl : 191 + 3 = 194) rfl rfl (by decide) ?_
      refine q_goto (q := 7) dX7_far_194 (by decide) ?_
      exact ih (by omega) I2 ho2 hO2 hF2
  refine Mt.of (L := [some (.ref 44), none, none, none, none]) (by decide +kernel) (Nat.le_of_ble_eq_true rfl) rfl ?_
  refine q_aload_n dX7_far_0 (rfl : 0 + 1 = 1) rfl ?_
  refine q_callVI (S_shows (d := d) hn h12) dX7_far_1 (rfl : 1 + 3 = 4) lX7_192 vX7_shows (by first | rfl | assumption) rfl rfl (Nat.le_of_ble_eq_true rfl) TM_room TM_cs ?_
  intro x I1 J1 hp
  obtain ⟨rfl, ⟨ho, hs⟩, rfl⟩ := hp
  refine q_istore_n dX7_far_4 (rfl : 4 + 1 = 5) (by decide) ?_
  refine q_iconst (v := nI 0) dX7_far_5 (rfl : 5 + 1 = 6) (by decide) ?_
  refine q_istore_n dX7_far_6 (rfl : 6 + 1 = 7) (by decide) ?_
  rw [← hk] at hs
  have key := outer 0 (by omega) I1 (ho.wide (by omega) (by omega)) (fun j hj => by rw [how]; exact (hs j hj).1) ⟨fun a' b' z => by omega, fun b' z => by omega⟩
  rw [hk] at key
  exact key
def pfN (mk ow : Nat → Int32) (j i : Nat) : Nat := match j with
  | 0 => i
  | j + 1 => if mk i = ow i then pfN mk ow j (i + 1) else i
theorem pfN_le (mk ow : Nat → Int32) : ∀ j i, i ≤ pfN mk ow j i ∧ pfN mk ow j i ≤ i + j := by
  intro j
  induction j with
  | zero => intro i; exact ⟨Nat.le_refl _, Nat.le_refl _⟩
  | succ j ih =>
    intro i
    unfold pfN
    have := ih (i + 1)
    split <;> omega
def moddX (I : HI) (m n : Nat) : Int32 := if eR (I 56) (fun j => I 52 ((shS (I 51) n).2 j)) m (shS (I 51) n).1 = 0 then -4 else (if pfN (I 56) (fun j => I 52 ((shS (I 51) n).2 j)) (min m (shS (I 51) n).1) 0 < (shS (I 51) n).1 then nI ((shS (I 51) n).2 (pfN (I 56) (fun j => I 52 ((shS (I 51) n).2 j)) (min m (shS (I 51) n).1) 0)) else nI n)
theorem L_odd {T : Tg} {I : HI} {J : HJ} {m k : Nat} {ow : Nat → Int32} (hm : I 44 14 = nI m) (h14 : m ≤ 14) (hk : k ≤ 12) (hO : ∀ j, j < k → I 60 j = ow j)
    (K : Wm mX7_odd T 0 0 shA 51 [some (.ref 44), some (.int (nI k)), some (.int (nI (pfN (I 56) ow (min m k) 0)))] [] I J RA) :
    ∀ (j i : Nat), i + j = min m k → pfN (I 56) ow j i = pfN (I 56) ow (min m k) 0 → Wm mX7_odd T 0 0 shA 17 [some (.ref 44), some (.int (nI k)), some (.int (nI i))] [] I J RA := by
  intro j
  induction j with
  | zero =>
    intro i hi e
    have e0 : pfN (I 56) ow 0 i = i := rfl
    rw [e0] at e
    rw [← e] at K
    refine q_iload_n dX7_odd_17 (rfl : 17 + 1 = 18) rfl ?_
    refine q_aload_n dX7_odd_18 (rfl : 18 + 1 = 19) rfl ?_
    refine q_getI dX7_odd_19 (rfl : 19 + 3 = 22) fX7_110 (by first | rfl | assumption) ?_
    try simp (disch := omega) only [wr_hit, wr_p, wr_k, nI_add, pk_mul, nI_1, nI_s1, pk_sub, Nat.add_sub_cancel, hm]
    refine q_icmp_ge_n (q := 51) (by omega) (by omega) dX7_odd_22 (by decide) (rfl : 22 + 3 = 25) (fun h => ?_) (fun h => ?_)
    ·
      exact K
    ·
      refine q_iload_n dX7_odd_25 (rfl : 25 + 1 = 26) rfl ?_
      refine q_iload_n dX7_odd_26 (rfl : 26 + 1 = 27) rfl ?_
      refine q_icmp_ge_n (q := 51) (by omega) (by omega) dX7_odd_27 (by decide) (rfl : 27 + 3 = 30) (fun h2 => ?_) (fun h2 => ?_)
      ·
        exact K
      ·
        omega
  | succ j ih =>
    intro i hi e
    have i14 : i < 14 := by omega
    have i12 : i < 12 := by omega
    refine q_iload_n dX7_odd_17 (rfl : 17 + 1 = 18) rfl ?_
    refine q_aload_n dX7_odd_18 (rfl : 18 + 1 = 19) rfl ?_
    refine q_getI dX7_odd_19 (rfl : 19 + 3 = 22) fX7_110 (by first | rfl | assumption) ?_
    try simp (disch := omega) only [wr_hit, wr_p, wr_k, nI_add, pk_mul, nI_1, nI_s1, pk_sub, Nat.add_sub_cancel, hm]
    refine q_icmp_ge_n (q := 51) (by omega) (by omega) dX7_odd_22 (by decide) (rfl : 22 + 3 = 25) (fun h => ?_) (fun h => ?_)
    · omega
    ·
      refine q_iload_n dX7_odd_25 (rfl : 25 + 1 = 26) rfl ?_
      refine q_iload_n dX7_odd_26 (rfl : 26 + 1 = 27) rfl ?_
      refine q_icmp_ge_n (q := 51) (by omega) (by omega) dX7_odd_27 (by decide) (rfl : 27 + 3 = 30) (fun h2 => ?_) (fun h2 => ?_)
      · omega
      ·
        refine q_aload_n dX7_odd_30 (rfl : 30 + 1 = 31) rfl ?_
        refine q_getR dX7_odd_31 (rfl : 31 + 3 = 34) fX7_45 (by first | rfl | assumption) (by first | rfl | assumption) ?_
        refine q_iload_n dX7_odd_34 (rfl : 34 + 1 = 35) rfl ?_
        refine q_iald dX7_odd_35 (rfl : 35 + 1 = 36) (by first | rfl | assumption) (by first | assumption | omega) (by decide) ?_
        refine q_aload_n dX7_odd_36 (rfl : 36 + 1 = 37) rfl ?_
        refine q_getR dX7_odd_37 (rfl : 37 + 3 = 40) fX7_57 (by first | rfl | assumption) (by first | rfl | assumption) ?_
        refine q_iload_n dX7_odd_40 (rfl : 40 + 1 = 41) rfl ?_
        refine q_iald dX7_odd_41 (rfl : 41 + 1 = 42) (by first | rfl | assumption) (by first | assumption | omega) (by decide) ?_
        rw [hO i h2]
        refine q_icmp_ne (q := 51) dX7_odd_42 (by decide) (rfl : 42 + 3 = 45) (fun q => ?_) (fun q => ?_)
        ·
          have e0 : pfN (I 56) ow (j + 1) i = i := if_neg q
          rw [e0] at e
          rw [← e] at K
          exact K
        ·
          have e0 : pfN (I 56) ow (j + 1) i = pfN (I 56) ow j (i + 1) := if_pos q
          rw [e0] at e
          first | refine q_iinc1 dX7_odd_45 (rfl : 45 + 3 = 48) rfl (by decide) ?_ | refine q_iinc dX7_odd_45 (rfl : 45 + 3 = 48) rfl rfl (by decide) ?_
          refine q_goto (q := 17) dX7_odd_48 (by decide) ?_
          exact ih (i + 1) (by omega) e
theorem S_modd {d m n : Nat} {I : HI} {J : HJ} (hn : I 50 0 = nI n) (h12 : n ≤ 12) (hm : I 44 14 = nI m) (h14 : m ≤ 14) : MI mX7_odd (d + 2) [.ref 44] shA I J RA (fun x I' J' => x = moddX I m n ∧ Off 60 63 I I' ∧ J' = J) := by
  have hb := eR_le (I 56) (fun j => I 52 ((shS (I 51) n).2 j)) m (shS (I 51) n).1
  have hsl := shS_le (I 51) n
  refine Mt.of (L := [some (.ref 44), none, none]) (by decide +kernel) (Nat.le_of_ble_eq_true rfl) rfl ?_
  refine q_aload_n dX7_odd_0 (rfl : 0 + 1 = 1) rfl ?_
  refine q_callVI (S_mfar (d := d) hn h12 hm h14) dX7_odd_1 (rfl : 1 + 3 = 4) lX7_195 vX7_far (by first | rfl | assumption) rfl rfl (Nat.le_of_ble_eq_true rfl) TM_room TM_cs ?_
  intro x I1 J1 hp
  obtain ⟨rfl, ho, rfl⟩ := hp
  refine q_if_ne_n (q := 10) (by omega) dX7_odd_4 (by decide) (rfl : 4 + 3 = 7) (fun hz => ?_) (fun hz => ?_)
  ·
    have n1 : I1 50 0 = nI n := by rw [ho 50 (by omega), hn]
    refine q_aload_n dX7_odd_10 (rfl : 10 + 1 = 11) rfl ?_
    refine q_callVI (S_shows (d := d + 1) n1 h12) dX7_odd_11 (rfl : 11 + 3 = 14) lX7_192 vX7_shows (by first | rfl | assumption) rfl rfl (Nat.le_of_ble_eq_true rfl) TM_room TM_cs ?_
    intro x I2 J2 hp
    obtain ⟨rfl, ⟨ho2, hs2⟩, rfl⟩ := hp
    rw [ho 51 (by omega), ho 52 (by omega)] at hs2
    rw [ho 51 (by omega)]
    have ho3 : Off 60 63 I I2 := ho.trans (ho2.wide (by omega) (by omega))
    have m2 : I2 44 14 = nI m := by rw [ho3 44 (by omega), hm]
    have n2 : I2 50 0 = nI n := by rw [ho3 50 (by omega), hn]
    have e56 : I2 56 = I 56 := ho3 56 (by omega)
    have hpf := pfN_le (I 56) (fun j => I 52 ((shS (I 51) n).2 j)) (min m (shS (I 51) n).1) 0
    refine q_istore_n dX7_odd_14 (rfl : 14 + 1 = 15) (by decide) ?_
    refine q_iconst (v := nI 0) dX7_odd_15 (rfl : 15 + 1 = 16) (by decide) ?_
    refine q_istore_n dX7_odd_16 (rfl : 16 + 1 = 17) (by decide) ?_
    refine L_odd (ow := fun j => I 52 ((shS (I 51) n).2 j)) (m := m) m2 h14 (by omega) (fun j hj => (hs2 j hj).1) ?_ (min m (shS (I 51) n).1) 0 (by omega) rfl
    rw [e56]
    refine q_iload_n dX7_odd_51 (rfl : 51 + 1 = 52) rfl ?_
    refine q_iload_n dX7_odd_52 (rfl : 52 + 1 = 53) rfl ?_
    refine q_icmp_ge_n (q := 65) (by omega) (by omega) dX7_odd_53 (by decide) (rfl : 53 + 3 = 56) (fun hc => ?_) (fun hc => ?_)
    ·
      refine q_aload_n dX7_odd_65 (rfl : 65 + 1 = 66) rfl ?_
      refine q_getR dX7_odd_66 (rfl : 66 + 3 = 69) fX7_26 (by first | rfl | assumption) (by first | rfl | assumption) ?_
      refine q_iconst (v := nI 0) dX7_odd_69 (rfl : 69 + 1 = 70) (by decide) ?_
      refine q_iald (j := 0) dX7_odd_70 (rfl : 70 + 1 = 71) (by first | rfl | assumption) (by decide) (by decide) ?_
      try simp (disch := omega) only [wr_hit, wr_p, wr_k, nI_add, pk_mul, nI_1, nI_s1, pk_sub, Nat.add_sub_cancel, n2]
      refine q_iret rfl dX7_odd_71 ⟨rfl, rfl, _, rfl, ?_⟩
      refine ⟨?_, ho3, rfl⟩
      unfold moddX
      rw [if_neg hz, if_neg (by omega)]
    ·
      have i12 : pfN (I 56) (fun j => I 52 ((shS (I 51) n).2 j)) (min m (shS (I 51) n).1) 0 < 12 := by omega
      refine q_aload_n dX7_odd_56 (rfl : 56 + 1 = 57) rfl ?_
      refine q_getR dX7_odd_57 (rfl : 57 + 3 = 60) fX7_60 (by first | rfl | assumption) (by first | rfl | assumption) ?_
      refine q_iload_n dX7_odd_60 (rfl : 60 + 1 = 61) rfl ?_
      refine q_iald dX7_odd_61 (rfl : 61 + 1 = 62) (by first | rfl | assumption) (by first | assumption | omega) (by decide) ?_
      refine q_goto (q := 71) dX7_odd_62 (by decide) ?_
      rw [(hs2 _ hc).2]
      refine q_iret rfl dX7_odd_71 ⟨rfl, rfl, _, rfl, ?_⟩
      refine ⟨?_, ho3, rfl⟩
      unfold moddX
      rw [if_neg hz, if_pos hc]
  ·
    refine q_bipush (v := -4) dX7_odd_7 (rfl : 7 + 2 = 9) (by decide) ?_
    refine q_iret rfl dX7_odd_9 ⟨rfl, rfl, _, rfl, ?_⟩
    refine ⟨?_, ho, rfl⟩
    unfold moddX
    rw [if_pos hz]
