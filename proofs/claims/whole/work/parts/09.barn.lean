/-! the class's barn -/
def sI (f : Nat → Int32) (n : Nat) : Int32 := match n with
  | 0 => 0
  | n + 1 => sI f n + f n
def mnI (x y : Int32) : Int32 := if y < x then y else x
def inr (n a b : Int32) : Bool := decide (a ≤ n) && decide (n ≤ b)
theorem S_inside {d : Nat} {sh : List Kd} {I : HI} {J : HJ} {R : HR} {n a b : Int32} : MIp mX6_inside d [.int n, .int a, .int b] sh I J R (bI (inr n a b)) := by
  refine Mt.of (L := [some (.int n), some (.int a), some (.int b)]) (by decide +kernel) (Nat.le_of_ble_eq_true rfl) rfl ?_
  refine q_iload_n dX6_inside_0 (rfl : 0 + 1 = 1) rfl ?_
  refine q_iload_n dX6_inside_1 (rfl : 1 + 1 = 2) rfl ?_
  refine q_icmp_lt (q := 14) dX6_inside_2 (by decide) (rfl : 2 + 3 = 5) (fun h => ?_) (fun h => ?_)
  ·
    refine q_iconst (v := nI 0) dX6_inside_14 (rfl : 14 + 1 = 15) (by decide) ?_
    refine q_zret rfl dX6_inside_15 (by first | exact bI_01 _ | exact Or.inl rfl | exact Or.inr rfl) ⟨rfl, rfl, _, rfl, ?_⟩
    have e : inr n a b = false := by unfold inr; simp [Int32.not_le.mpr h]
    rw [e]
    exact ⟨rfl, rfl, rfl⟩
  ·
    refine q_iload_n dX6_inside_5 (rfl : 5 + 1 = 6) rfl ?_
    refine q_iload_n dX6_inside_6 (rfl : 6 + 1 = 7) rfl ?_
    refine q_icmp_gt (q := 14) dX6_inside_7 (by decide) (rfl : 7 + 3 = 10) (fun h2 => ?_) (fun h2 => ?_)
    ·
      refine q_iconst (v := nI 0) dX6_inside_14 (rfl : 14 + 1 = 15) (by decide) ?_
      refine q_zret rfl dX6_inside_15 (by first | exact bI_01 _ | exact Or.inl rfl | exact Or.inr rfl) ⟨rfl, rfl, _, rfl, ?_⟩
      have e : inr n a b = false := by unfold inr; simp [Int32.not_le.mpr h2]
      rw [e]
      exact ⟨rfl, rfl, rfl⟩
    ·
      refine q_iconst (v := nI 1) dX6_inside_10 (rfl : 10 + 1 = 11) (by decide) ?_
      refine q_goto (q := 15) dX6_inside_11 (by decide) ?_
      refine q_zret rfl dX6_inside_15 (by first | exact bI_01 _ | exact Or.inl rfl | exact Or.inr rfl) ⟨rfl, rfl, _, rfl, ?_⟩
      have e : inr n a b = true := by unfold inr; simp [Int32.not_lt.mp h, Int32.not_lt.mp h2]
      rw [e]
      exact ⟨rfl, rfl, rfl⟩
theorem S_has {d : Nat} {I : HI} {J : HJ} {i : Int32} {n : Nat} (hn : I 16 0 = nI n) : MIp mX0_has (d + 1) [.ref 16, .int i] shA I J RA (bI (inr i (nI 0) (nI n - nI 1))) := by
  refine Mt.of (L := [some (.ref 16), some (.int i)]) (by decide +kernel) (Nat.le_of_ble_eq_true rfl) rfl ?_
  refine q_iload_n dX0_has_0 (rfl : 0 + 1 = 1) rfl ?_
  refine q_iconst (v := nI 0) dX0_has_1 (rfl : 1 + 1 = 2) (by decide) ?_
  refine q_aload_n dX0_has_2 (rfl : 2 + 1 = 3) rfl ?_
  refine q_getI dX0_has_3 (rfl : 3 + 3 = 6) fX0_9 (by first | rfl | assumption) ?_
  refine q_iconst (v := nI 1) dX0_has_6 (rfl : 6 + 1 = 7) (by decide) ?_
  refine q_isub dX0_has_7 (rfl : 7 + 1 = 8) ?_
  rw [hn]
  refine q_callSIp S_inside dX0_has_8 (rfl : 8 + 3 = 11) lX0_37 vX6_inside rfl rfl (Nat.le_of_ble_eq_true rfl) TM_room TM_cs ?_
  refine q_zret rfl dX0_has_11 (by first | exact bI_01 _ | exact Or.inl rfl | exact Or.inr rfl) ⟨rfl, rfl, _, rfl, ?_⟩
  exact ⟨rfl, rfl, rfl⟩
theorem L_high {T : Tg} {I : HI} {J : HJ} {n : Nat} (hn : I 16 0 = nI n) (h12 : n ≤ 12) (K : Wm mX0_high T 0 0 shA 27 [some (.ref 16), some (.int (sI (I 17) n)), some (.int (nI n))] [] I J RA) :
    ∀ (i : Nat), i ≤ n → Wm mX0_high T 0 0 shA 4 [some (.ref 16), some (.int (sI (I 17) i)), some (.int (nI i))] [] I J RA := by
  refine loopN (fun i hi ih => ?_)
  refine q_iload_n dX0_high_4 (rfl : 4 + 1 = 5) rfl ?_
  refine q_aload_n dX0_high_5 (rfl : 5 + 1 = 6) rfl ?_
  refine q_getI dX0_high_6 (rfl : 6 + 3 = 9) fX0_9 (by first | rfl | assumption) ?_
  rw [hn]
  refine q_icmp_ge_n (q := 27) (by omega) (by omega) dX0_high_9 (by decide) (rfl : 9 + 3 = 12) (fun hc => ?_) (fun hc => ?_)
  · obtain rfl : i = n := by omega
    exact K
  · refine q_iload_n dX0_high_12 (rfl : 12 + 1 = 13) rfl ?_
    refine q_aload_n dX0_high_13 (rfl : 13 + 1 = 14) rfl ?_
    refine q_getR dX0_high_14 (rfl : 14 + 3 = 17) fX0_15 (by first | rfl | assumption) (by first | rfl | assumption) ?_
    refine q_iload_n dX0_high_17 (rfl : 17 + 1 = 18) rfl ?_
    refine q_iald dX0_high_18 (rfl : 18 + 1 = 19) (by first | rfl | assumption) (by first | assumption | omega) (by decide) ?_
    refine q_iadd dX0_high_19 (rfl : 19 + 1 = 20) ?_
    refine q_istore_n dX0_high_20 (rfl : 20 + 1 = 21) (by decide) ?_
    first | refine q_iinc1 dX0_high_21 (rfl : 21 + 3 = 24) rfl (by decide) ?_ | refine q_iinc dX0_high_21 (rfl : 21 + 3 = 24) rfl rfl (by decide) ?_
    refine q_goto (q := 4) dX0_high_24 (by decide) ?_
    exact ih hc
theorem S_high {d : Nat} {I : HI} {J : HJ} {n : Nat} (hn : I 16 0 = nI n) (h12 : n ≤ 12) : MIp mX0_high d [.ref 16] shA I J RA (sI (I 17) n) := by
  refine Mt.of (L := [some (.ref 16), none, none]) (by decide +kernel) (Nat.le_of_ble_eq_true rfl) rfl ?_
  refine q_iconst (v := nI 0) dX0_high_0 (rfl : 0 + 1 = 1) (by decide) ?_
  refine q_istore_n dX0_high_1 (rfl : 1 + 1 = 2) (by decide) ?_
  refine q_iconst (v := nI 0) dX0_high_2 (rfl : 2 + 1 = 3) (by decide) ?_
  refine q_istore_n dX0_high_3 (rfl : 3 + 1 = 4) (by decide) ?_
  refine L_high hn h12 ?_ 0 (by omega)
  refine q_iload_n dX0_high_27 (rfl : 27 + 1 = 28) rfl ?_
  refine q_iret rfl dX0_high_28 ⟨rfl, rfl, _, rfl, ?_⟩
  exact ⟨rfl, rfl, rfl⟩
theorem L_load {T : Tg} {I : HI} {J : HJ} {n : Nat} (hn : I 16 0 = nI n) (h12 : n ≤ 12) (K : Wm mX0_load T 0 0 shA 34 [some (.ref 16), some (.ref 4), some (.int (sI (fun j => I 17 j * I 7 j) n)), some (.int (nI n))] [] I J RA) :
    ∀ (i : Nat), i ≤ n → Wm mX0_load T 0 0 shA 4 [some (.ref 16), some (.ref 4), some (.int (sI (fun j => I 17 j * I 7 j) i)), some (.int (nI i))] [] I J RA := by
  refine loopN (fun i hi ih => ?_)
  refine q_iload_n dX0_load_4 (rfl : 4 + 1 = 5) rfl ?_
  refine q_aload_n dX0_load_5 (rfl : 5 + 1 = 6) rfl ?_
  refine q_getI dX0_load_6 (rfl : 6 + 3 = 9) fX0_9 (by first | rfl | assumption) ?_
  rw [hn]
  refine q_icmp_ge_n (q := 34) (by omega) (by omega) dX0_load_9 (by decide) (rfl : 9 + 3 = 12) (fun hc => ?_) (fun hc => ?_)
  · obtain rfl : i = n := by omega
    exact K
  · refine q_iload_n dX0_load_12 (rfl : 12 + 1 = 13) rfl ?_
    refine q_aload_n dX0_load_13 (rfl : 13 + 1 = 14) rfl ?_
    refine q_getR dX0_load_14 (rfl : 14 + 3 = 17) fX0_15 (by first | rfl | assumption) (by first | rfl | assumption) ?_
    refine q_iload_n dX0_load_17 (rfl : 17 + 1 = 18) rfl ?_
    refine q_iald dX0_load_18 (rfl : 18 + 1 = 19) (by first | rfl | assumption) (by first | assumption | omega) (by decide) ?_
    refine q_aload_n dX0_load_19 (rfl : 19 + 1 = 20) rfl ?_
    refine q_getR dX0_load_20 (rfl : 20 + 3 = 23) fX0_41 (by first | rfl | assumption) (by first | rfl | assumption) ?_
    refine q_iload_n dX0_load_23 (rfl : 23 + 1 = 24) rfl ?_
    refine q_iald dX0_load_24 (rfl : 24 + 1 = 25) (by first | rfl | assumption) (by first | assumption | omega) (by decide) ?_
    refine q_imul dX0_load_25 (rfl : 25 + 1 = 26) ?_
    refine q_iadd dX0_load_26 (rfl : 26 + 1 = 27) ?_
    refine q_istore_n dX0_load_27 (rfl : 27 + 1 = 28) (by decide) ?_
    first | refine q_iinc1 dX0_load_28 (rfl : 28 + 3 = 31) rfl (by decide) ?_ | refine q_iinc dX0_load_28 (rfl : 28 + 3 = 31) rfl rfl (by decide) ?_
    refine q_goto (q := 4) dX0_load_31 (by decide) ?_
    exact ih hc
theorem S_load {d : Nat} {I : HI} {J : HJ} {n : Nat} (hn : I 16 0 = nI n) (h12 : n ≤ 12) : MIp mX0_load d [.ref 16, .ref 4] shA I J RA (sI (fun j => I 17 j * I 7 j) n) := by
  refine Mt.of (L := [some (.ref 16), some (.ref 4), none, none]) (by decide +kernel) (Nat.le_of_ble_eq_true rfl) rfl ?_
  refine q_iconst (v := nI 0) dX0_load_0 (rfl : 0 + 1 = 1) (by decide) ?_
  refine q_istore_n dX0_load_1 (rfl : 1 + 1 = 2) (by decide) ?_
  refine q_iconst (v := nI 0) dX0_load_2 (rfl : 2 + 1 = 3) (by decide) ?_
  refine q_istore_n dX0_load_3 (rfl : 3 + 1 = 4) (by decide) ?_
  refine L_load hn h12 ?_ 0 (by omega)
  refine q_iload_n dX0_load_34 (rfl : 34 + 1 = 35) rfl ?_
  refine q_iret rfl dX0_load_35 ⟨rfl, rfl, _, rfl, ?_⟩
  exact ⟨rfl, rfl, rfl⟩
theorem S_doorOf {d : Nat} {I : HI} {J : HJ} {n i : Nat} (hn : I 16 0 = nI n) (h12 : n ≤ 12) (hi : i < n) : MIp mX0_doorOf (d + 1) [.ref 16, .int (nI i)] shA I J RA (nI (3 * i / n)) := by
  refine Mt.of (L := [some (.ref 16), some (.int (nI i))]) (by decide +kernel) (Nat.le_of_ble_eq_true rfl) rfl ?_
  refine q_iconst (v := nI 3) dX0_doorOf_0 (rfl : 0 + 1 = 1) (by decide) ?_
  refine q_iload_n dX0_doorOf_1 (rfl : 1 + 1 = 2) rfl ?_
  refine q_imul dX0_doorOf_2 (rfl : 2 + 1 = 3) ?_
  try simp (disch := omega) only [wr_hit, wr_p, wr_k, nI_add, pk_mul, nI_1, nI_s1, pk_sub, Nat.add_sub_cancel, hn]
  refine q_iconst (v := nI 1) dX0_doorOf_3 (rfl : 3 + 1 = 4) (by decide) ?_
  refine q_aload_n dX0_doorOf_4 (rfl : 4 + 1 = 5) rfl ?_
  refine q_getI dX0_doorOf_5 (rfl : 5 + 3 = 8) fX0_9 (by first | rfl | assumption) ?_
  try simp (disch := omega) only [wr_hit, wr_p, wr_k, nI_add, pk_mul, nI_1, nI_s1, pk_sub, Nat.add_sub_cancel, hn]
  refine q_max dX0_doorOf_8 (rfl : 8 + 3 = 11) lX0_46 w_max (Nat.le_of_ble_eq_true rfl) (TM_math (Nat.le_refl _) (Nat.le_refl _)) ?_
  have e1 : (if nI 1 < nI n then nI n else nI 1) = nI n := by
    by_cases h : n = 1
    · subst h; rfl
    · rw [if_pos ((nI_ltI (by decide) (by omega)).mpr (by omega))]
  have e2 : ¬ nI n = 0 := nI_ne0 (by omega) (by omega)
  rw [e1]
  refine q_idiv dX0_doorOf_11 (rfl : 11 + 1 = 12) (by first | assumption | decide) ?_
  refine q_iret rfl dX0_doorOf_12 ⟨rfl, rfl, _, rfl, ?_⟩
  exact ⟨pk_div (by omega) (by omega) (by omega), rfl, rfl⟩
/-- what a thaw by a door takes of layer i -/
def lessI (t : Nat → Int32) (n : Nat) (door most : Int32) (i : Nat) : Int32 := if nI (3 * i / n) = door then mnI (t i) most else 0
def meltH (I : HI) (n : Nat) (door most : Int32) (i : Nat) : HI := fun a b => if a = 17 ∧ b < i then I 17 b - lessI (I 17) n door most b else I a b
theorem meltH_0 (I : HI) (n : Nat) (door most : Int32) : meltH I n door most 0 = I := by
  funext a b
  simp [meltH]
theorem meltH_s (I : HI) (n : Nat) (door most : Int32) (i : Nat) (h : nI (3 * i / n) = door) : wr (meltH I n door most i) 17 i (I 17 i - mnI (I 17 i) most) = meltH I n door most (i + 1) := by
  funext a b
  unfold wr meltH
  by_cases ha : a = 17
  · subst ha
    by_cases hb : b = i
    · subst hb
      simp [lessI, h]
    · simp only [if_true, hb, if_false, true_and]
      by_cases h1 : b < i
      · rw [if_pos h1, if_pos (by omega)]
      · rw [if_neg h1, if_neg (by omega)]
  · simp [ha]
theorem meltH_n (I : HI) (n : Nat) (door most : Int32) (i : Nat) (h : ¬ nI (3 * i / n) = door) : meltH I n door most i = meltH I n door most (i + 1) := by
  funext a b
  unfold meltH
  by_cases ha : a = 17 ∧ b = i
  · obtain ⟨rfl, rfl⟩ := ha
    simp [lessI, h]
  · by_cases h1 : a = 17 ∧ b < i
    · rw [if_pos h1, if_pos ⟨h1.1, by omega⟩]
    · rw [if_neg h1, if_neg (by omega)]
theorem meltH_at (I : HI) (n : Nat) (door most : Int32) (i : Nat) : meltH I n door most i 17 i = I 17 i := by simp [meltH]
theorem meltH_16 (I : HI) (n : Nat) (door most : Int32) (i k : Nat) : meltH I n door most i 16 k = I 16 k := by simp [meltH]
theorem L_melt {d n0 : Nat} {Po : PO} {I : HI} {J : HJ} {n : Nat} {door most : Int32} (hn : I 16 0 = nI n) (h12 : n ≤ 12) (K : Wm mX0_melt (TM (d + 2) 0 0 false n0 Po) 0 0 shA 60 [some (.ref 16), some (.int door), some (.int most), some (.int (sI (lessI (I 17) n door most) n)), some (.int (nI n)), none] [] (meltH I n door most n) J RA) :
    ∀ (i : Nat), i ≤ n → Wm mX0_melt (TM (d + 2) 0 0 false n0 Po) 0 0 shA 5 [some (.ref 16), some (.int door), some (.int most), some (.int (sI (lessI (I 17) n door most) i)), some (.int (nI i)), none] [] (meltH I n door most i) J RA := by
  refine loopN (fun i hi ih => ?_)
  have hn' : meltH I n door most i 16 0 = nI n := by rw [meltH_16]; exact hn
  refine q_iload dX0_melt_5 (rfl : 5 + 2 = 7) rfl ?_
  refine q_aload_n dX0_melt_7 (rfl : 7 + 1 = 8) rfl ?_
  refine q_getI dX0_melt_8 (rfl : 8 + 3 = 11) fX0_9 (by first | rfl | assumption) ?_
  rw [hn']
  refine q_icmp_ge_n (q := 60) (by omega) (by omega) dX0_melt_11 (by decide) (rfl : 11 + 3 = 14) (fun hc => ?_) (fun hc => ?_)
  · obtain rfl : i = n := by omega
    exact K
  · refine q_aload_n dX0_melt_14 (rfl : 14 + 1 = 15) rfl ?_
    refine q_iload dX0_melt_15 (rfl : 15 + 2 = 17) rfl ?_
    refine q_callVIp (S_doorOf (d := d) hn' h12 hc) dX0_melt_17 (rfl : 17 + 3 = 20) lX0_52 vX0_doorOf (by first | rfl | assumption) rfl rfl (Nat.le_of_ble_eq_true rfl) TM_room TM_cs ?_
    refine q_iload_n dX0_melt_20 (rfl : 20 + 1 = 21) rfl ?_
    refine q_icmp_ne (q := 54) dX0_melt_21 (by decide) (rfl : 21 + 3 = 24) (fun e => ?_) (fun e => ?_)
    ·
      first | refine q_iinc1 dX0_melt_54 (rfl : 54 + 3 = 57) rfl (by decide) ?_ | refine q_iinc dX0_melt_54 (rfl : 54 + 3 = 57) rfl rfl (by decide) ?_
      refine q_goto (q := 5) dX0_melt_57 (by decide) ?_
      rw [meltH_n I n door most i e]
      have e3 : sI (lessI (I 17) n door most) (i + 1) = sI (lessI (I 17) n door most) i := by simp [sI, lessI, e]
      rw [← e3]
      exact ih hc
    ·
      refine q_aload_n dX0_melt_24 (rfl : 24 + 1 = 25) rfl ?_
      refine q_getR dX0_melt_25 (rfl : 25 + 3 = 28) fX0_15 (by first | rfl | assumption) (by first | rfl | assumption) ?_
      refine q_iload dX0_melt_28 (rfl : 28 + 2 = 30) rfl ?_
      refine q_iald dX0_melt_30 (rfl : 30 + 1 = 31) (by first | rfl | assumption) (by first | assumption | omega) (by decide) ?_
      try simp (disch := omega) only [wr_hit, wr_p, wr_k, nI_add, pk_mul, nI_1, nI_s1, pk_sub, Nat.add_sub_cancel, meltH_at, meltH_16]
      refine q_iload_n dX0_melt_31 (rfl : 31 + 1 = 32) rfl ?_
      refine q_min dX0_melt_32 (rfl : 32 + 3 = 35) lX0_56 w_min (Nat.le_of_ble_eq_true rfl) (TM_math (Nat.le_refl _) (Nat.le_refl _)) ?_
      refine q_istore dX0_melt_35 (rfl : 35 + 2 = 37) (by decide) ?_
      refine q_aload_n dX0_melt_37 (rfl : 37 + 1 = 38) rfl ?_
      refine q_getR dX0_melt_38 (rfl : 38 + 3 = 41) fX0_15 (by first | rfl | assumption) (by first | rfl | assumption) ?_
      refine q_iload dX0_melt_41 (rfl : 41 + 2 = 43) rfl ?_
      refine q_dup2 dX0_melt_43 (rfl : 43 + 1 = 44) rfl rfl ?_
      refine q_iald dX0_melt_44 (rfl : 44 + 1 = 45) (by first | rfl | assumption) (by first | assumption | omega) (by decide) ?_
      try simp (disch := omega) only [wr_hit, wr_p, wr_k, nI_add, pk_mul, nI_1, nI_s1, pk_sub, Nat.add_sub_cancel, meltH_at, meltH_16]
      refine q_iload dX0_melt_45 (rfl : 45 + 2 = 47) rfl ?_
      refine q_isub dX0_melt_47 (rfl : 47 + 1 = 48) ?_
      try simp (disch := omega) only [wr_hit, wr_p, wr_k, nI_add, pk_mul, nI_1, nI_s1, pk_sub, Nat.add_sub_cancel, meltH_at, meltH_16]
      refine q_iast dX0_melt_48 (rfl : 48 + 1 = 49) (by first | rfl | assumption) (by first | assumption | omega) (by decide) ?_
      refine q_iload_n dX0_melt_49 (rfl : 49 + 1 = 50) rfl ?_
      refine q_iload dX0_melt_50 (rfl : 50 + 2 = 52) rfl ?_
      refine q_iadd dX0_melt_52 (rfl : 52 + 1 = 53) ?_
      try simp (disch := omega) only [wr_hit, wr_p, wr_k, nI_add, pk_mul, nI_1, nI_s1, pk_sub, Nat.add_sub_cancel, meltH_at, meltH_16]
      refine q_istore_n dX0_melt_53 (rfl : 53 + 1 = 54) (by decide) ?_
      first | refine q_iinc1 dX0_melt_54 (rfl : 54 + 3 = 57) rfl (by decide) ?_ | refine q_iinc dX0_melt_54 (rfl : 54 + 3 = 57) rfl rfl (by decide) ?_
      refine q_goto (q := 5) dX0_melt_57 (by decide) ?_
      have e4 : (if most < I 17 i then most else I 17 i) = mnI (I 17 i) most := rfl
      rw [e4, meltH_s I n door most i e]
      have e3 : sI (lessI (I 17) n door most) (i + 1) = sI (lessI (I 17) n door most) i + mnI (I 17 i) most := by simp [sI, lessI, e]
      rw [← e3]
      refine q_forget (L' := [some (.ref 16), some (.int door), some (.int most), some (.int (sI (lessI (I 17) n door most) (i + 1))), some (.int (nI (i + 1))), none]) (by repeat (first | exact trivial | refine And.intro rfl ?_)) ?_
      exact ih hc
theorem S_melt {d : Nat} {I : HI} {J : HJ} {n : Nat} {door most : Int32} (hn : I 16 0 = nI n) (h12 : n ≤ 12) : MI mX0_melt (d + 2) [.ref 16, .int door, .int most] shA I J RA (fun x I' J' => x = sI (lessI (I 17) n door most) n ∧ I' = meltH I n door most n ∧ J' = J) := by
  refine Mt.of (L := [some (.ref 16), some (.int door), some (.int most), none, none, none]) (by decide +kernel) (Nat.le_of_ble_eq_true rfl) rfl ?_
  refine q_iconst (v := nI 0) dX0_melt_0 (rfl : 0 + 1 = 1) (by decide) ?_
  refine q_istore_n dX0_melt_1 (rfl : 1 + 1 = 2) (by decide) ?_
  refine q_iconst (v := nI 0) dX0_melt_2 (rfl : 2 + 1 = 3) (by decide) ?_
  refine q_istore dX0_melt_3 (rfl : 3 + 2 = 5) (by decide) ?_
  have := L_melt (d := d) (n0 := shA.length) (J := J) (door := door) (most := most) (Po := fun sh' v I' J' R' => sh' = shA ∧ R' = RA ∧ ∃ x : Int32, v = some (.int x) ∧ (x = sI (lessI (I 17) n door most) n ∧ I' = meltH I n door most n ∧ J' = J)) hn h12 ?_ 0 (by omega)
  · rw [meltH_0] at this
    exact this
  refine q_iload_n dX0_melt_60 (rfl : 60 + 1 = 61) rfl ?_
  refine q_iret rfl dX0_melt_61 ⟨rfl, rfl, _, rfl, ?_⟩
  exact ⟨rfl, rfl, rfl⟩
