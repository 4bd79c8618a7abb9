/-! the reference: items, the text, what it lays -/
def Eqx (I I' : HI) : Prop := ∀ a b, a ≠ 63 → ¬ (a = 44 ∧ b = 2) → I' a b = I a b
theorem Eqx.rf {I : HI} : Eqx I I := fun _ _ _ _ => rfl
theorem Eqx.tr {I I' I'' : HI} (h : Eqx I I') (h2 : Eqx I' I'') : Eqx I I'' := fun a b x y => (h2 a b x y).trans (h a b x y)
theorem Eqx.row {I I' : HI} (h : Eqx I I') {a : Nat} (h1 : a ≠ 63) (h2 : a ≠ 44) : I' a = I a := by
  funext b
  exact h a b h1 (fun z => h2 z.1)
theorem Eqx.at2 {I I' : HI} {v : Int32} (h : Eqx I I') : Eqx I (wr I' 44 2 v) := by
  intro a b x y
  rw [← h a b x y]
  unfold wr
  by_cases h1 : a = 44
  · by_cases h2 : b = 2
    · exact absurd ⟨h1, h2⟩ y
    · simp [h1, h2]
  · simp [h1]
theorem Eqx.got {I I' : HI} {k : Nat} {v : Int32} (h : Eqx I I') : Eqx I (wr I' 63 k v) := by
  intro a b x y
  rw [← h a b x y]
  unfold wr
  simp [x]
theorem Eqx.both {I I' : HI} {p k : Nat} {v : Int32} (h : Eqx I I') : Eqx (wr I p k v) (wr I' p k v) := by
  intro a b x y
  unfold wr
  rw [h a b x y]
theorem Eqx.fr {I I' : HI} (h : Eqx I I') : Fr I I' := fun a b hd => h a b (fun z => hd (Or.inr (Or.inr (Or.inr (Or.inr (Or.inl z)))))) (fun z => hd (Or.inr (Or.inr (Or.inr (Or.inr (Or.inr z))))))
def updF (acc : Nat → Nat) (c v : Nat) : Nat → Nat := fun j => if j = c then v else acc j
def numsF (f : Nat → Int32) (len m c p : Nat) (acc : Nat → Nat) : Option (Nat × (Nat → Nat)) := match m with
  | 0 => some (p, acc)
  | m + 1 =>
    if c = 0 ∨ (p < len ∧ f p = nI 44) then
      (if 1 ≤ (numF f (len - (if c = 0 then p else p + 1)) (if c = 0 then p else p + 1) 0 0).2.1 ∧ (numF f (len - (if c = 0 then p else p + 1)) (if c = 0 then p else p + 1) 0 0).2.1 ≤ 3 then
        numsF f len m (c + 1) (numF f (len - (if c = 0 then p else p + 1)) (if c = 0 then p else p + 1) 0 0).2.2 (updF acc c (numF f (len - (if c = 0 then p else p + 1)) (if c = 0 then p else p + 1) 0 0).1)
      else none)
    else none
theorem L_item {d n0 N len : Nat} {Po : PO} {J : HJ} {f : Nat → Int32} {l : Int32} {I0 : HI} (h400 : len ≤ 400) (hN : N ≤ 4) (hf : I0 45 = f) (hl : I0 44 0 = nI len) :
    ∀ (m k p : Nat) (acc : Nat → Nat) (I : HI), k + m = N → p ≤ len → Eqx I0 I → I 44 2 = nI p → (∀ j, j < k → I 63 j = nI (acc j)) →
      (∀ I', Eqx I0 I' → numsF f len m k p acc = none → Wm mX7_isItem (TM (d + 2) 0 0 false n0 Po) 0 0 shA 144 [some (.ref 44), some (.int l), some (.int (nI N)), some (.int (nI 0)), none] [] I' J RA) →
      (∀ I' q acc', Eqx I0 I' → numsF f len m k p acc = some (q, acc') → q ≤ len → I' 44 2 = nI q → (∀ j, j < N → I' 63 j = nI (acc' j)) → Wm mX7_isItem (TM (d + 2) 0 0 false n0 Po) 0 0 shA 144 [some (.ref 44), some (.int l), some (.int (nI N)), some (.int (nI 1)), none] [] I' J RA) →
      Wm mX7_isItem (TM (d + 2) 0 0 false n0 Po) 0 0 shA 38 [some (.ref 44), some (.int l), some (.int (nI N)), some (.int (nI 1)), some (.int (nI k))] [] I J RA := by
  intro m
  induction m with
  | zero =>
    intro k p acc I hk hp hx hat hgot K0 K1
    obtain rfl : k = N := by omega
    refine q_iload dX7_isItem_38 (rfl : 38 + 2 = 40) rfl ?_
    refine q_iload_n dX7_isItem_40 (rfl : 40 + 1 = 41) rfl ?_
    refine q_icmp_ge_n (q := 144) (by omega) (by omega) dX7_isItem_41 (by decide) (rfl : 41 + 3 = 44) (fun h => ?_) (fun h => ?_)
    ·
      refine q_forget (L' := [some (.ref 44), some (.int l), some (.int (nI k)), some (.int (nI 1)), none]) (by repeat (first | exact trivial | refine And.intro rfl ?_)) ?_
      exact K1 I p acc hx rfl hp hat hgot
    ·
      omega
  | succ m ih =>
    intro k p acc I hk hp hx hat hgot K0 K1
    have hl' : I 44 0 = nI len := (hx 44 0 (by omega) (by omega)).trans hl
    have hf' : I 45 = f := (hx.row (by omega) (by omega)).trans hf
    have off38 : ∀ (k' : Nat) I', k' ≤ N → Eqx I0 I' → numsF f len (m + 1) k p acc = none → Wm mX7_isItem (TM (d + 2) 0 0 false n0 Po) 0 0 shA 38 [some (.ref 44), some (.int l), some (.int (nI N)), some (.int (nI 0)), some (.int (nI k'))] [] I' J RA := by
      intro k' I' hk' hx' hn
      refine q_iload dX7_isItem_38 (rfl : 38 + 2 = 40) rfl ?_
      refine q_iload_n dX7_isItem_40 (rfl : 40 + 1 = 41) rfl ?_
      refine q_icmp_ge_n (q := 144) (by omega) (by omega) dX7_isItem_41 (by decide) (rfl : 41 + 3 = 44) (fun h => ?_) (fun h => ?_)
      ·
        refine q_forget (L' := [some (.ref 44), some (.int l), some (.int (nI N)), some (.int (nI 0)), none]) (by repeat (first | exact trivial | refine And.intro rfl ?_)) ?_
        exact K0 I' hx' hn
      ·
        refine q_iload_n dX7_isItem_44 (rfl : 44 + 1 = 45) rfl ?_
        refine q_if_eq (q := 144) dX7_isItem_45 (by decide) (rfl : 45 + 3 = 48) (fun h2 => ?_) (fun h2 => ?_)
        ·
          refine q_forget (L' := [some (.ref 44), some (.int l), some (.int (nI N)), some (.int (nI 0)), none]) (by repeat (first | exact trivial | refine And.intro rfl ?_)) ?_
          exact K0 I' hx' hn
        ·
          exact absurd rfl h2
    have bad83 : k ≠ 0 → numsF f len (m + 1) k p acc = none → Wm mX7_isItem (TM (d + 2) 0 0 false n0 Po) 0 0 shA 83 [some (.ref 44), some (.int l), some (.int (nI N)), some (.int (nI 1)), some (.int (nI k))] [.int (nI 0)] I J RA := by
      intro h0 hn
      refine q_istore_n dX7_isItem_83 (rfl : 83 + 1 = 84) (by decide) ?_
      refine q_aload_n dX7_isItem_84 (rfl : 84 + 1 = 85) rfl ?_
      refine q_dup dX7_isItem_85 (rfl : 85 + 1 = 86) rfl ?_
      refine q_getI dX7_isItem_86 (rfl : 86 + 3 = 89) fX7_85 (by first | rfl | assumption) ?_
      refine q_iload dX7_isItem_89 (rfl : 89 + 2 = 91) rfl ?_
      refine q_if_ne_n (q := 98) (by omega) dX7_isItem_91 (by decide) (rfl : 91 + 3 = 94) (fun h => ?_) (fun h => ?_)
      ·
        refine q_iconst (v := nI 1) dX7_isItem_98 (rfl : 98 + 1 = 99) (by decide) ?_
        refine q_iadd dX7_isItem_99 (rfl : 99 + 1 = 100) ?_
        refine q_putI dX7_isItem_100 (rfl : 100 + 3 = 103) pX7_85 (by first | rfl | assumption) ?_
        refine q_aload_n dX7_isItem_103 (rfl : 103 + 1 = 104) rfl ?_
        refine q_getR dX7_isItem_104 (rfl : 104 + 3 = 107) fX7_66 (by first | rfl | assumption) (by first | rfl | assumption) ?_
        refine q_iload dX7_isItem_107 (rfl : 107 + 2 = 109) rfl ?_
        refine q_iload_n dX7_isItem_109 (rfl : 109 + 1 = 110) rfl ?_
        refine q_if_eq (q := 120) dX7_isItem_110 (by decide) (rfl : 110 + 3 = 113) (fun h2 => ?_) (fun h2 => ?_)
        ·
          refine q_iconst (v := -1) dX7_isItem_120 (rfl : 120 + 1 = 121) (by decide) ?_
          refine q_iast dX7_isItem_121 (rfl : 121 + 1 = 122) (by first | rfl | assumption) (by first | assumption | omega) (by decide) ?_
          refine q_aload_n dX7_isItem_122 (rfl : 122 + 1 = 123) rfl ?_
          refine q_getR dX7_isItem_123 (rfl : 123 + 3 = 126) fX7_66 (by first | rfl | assumption) (by first | rfl | assumption) ?_
          refine q_iload dX7_isItem_126 (rfl : 126 + 2 = 128) rfl ?_
          refine q_iald dX7_isItem_128 (rfl : 128 + 1 = 129) (by first | rfl | assumption) (by first | assumption | omega) (by decide) ?_
          rw [wr_hit]
          refine q_if_lt (q := 136) dX7_isItem_129 (by decide) (rfl : 129 + 3 = 132) (fun h3 => ?_) (fun h3 => ?_)
          ·
            refine q_iconst (v := nI 0) dX7_isItem_136 (rfl : 136 + 1 = 137) (by decide) ?_
            refine q_istore_n dX7_isItem_137 (rfl : 137 + 1 = 138) (by decide) ?_
            first | refine q_iinc1 dX7_isItem_138 (rfl : 138 + 3 = 141) rfl (by decide) ?_ | refine q_iinc dX7_isItem_138 (rfl : 138 + 3 = 141) rfl rfl (by decide) ?_
            refine q_goto (q := 38) dX7_isItem_141 (by decide) ?_
            exact off38 (k + 1) _ (by omega) hx.at2.got hn
          ·
            exact absurd (by decide) h3
        ·
          exact absurd rfl h2
      ·
        exact absurd h h0
    have good103 : ∀ p2, p2 = (if k = 0 then p else p + 1) → (k = 0 ∨ (p < len ∧ f p = nI 44)) → Wm mX7_isItem (TM (d + 2) 0 0 false n0 Po) 0 0 shA 103 [some (.ref 44), some (.int l), some (.int (nI N)), some (.int (nI 1)), some (.int (nI k))] [] (wr I 44 2 (nI p2)) J RA := by
      intro p2 hp2 hg
      have hle : p2 ≤ len := by
        rw [hp2]
        split <;> omega
      have h1 : wr I 44 2 (nI p2) 44 0 = nI len := by rw [wr_nk (by omega), hl']
      have h2 : wr I 44 2 (nI p2) 45 = f := by rw [wr_ne (by omega), hf']
      have un : numsF f len (m + 1) k p acc = (if 1 ≤ (numF f (len - p2) p2 0 0).2.1 ∧ (numF f (len - p2) p2 0 0).2.1 ≤ 3 then numsF f len m (k + 1) (numF f (len - p2) p2 0 0).2.2 (updF acc k (numF f (len - p2) p2 0 0).1) else none) := by
        rw [hp2]
        exact if_pos hg
      have pp := numF_p (f := f) (len - p2) p2 0 0
      refine q_aload_n dX7_isItem_103 (rfl : 103 + 1 = 104) rfl ?_
      refine q_getR dX7_isItem_104 (rfl : 104 + 3 = 107) fX7_66 (by first | rfl | assumption) (by first | rfl | assumption) ?_
      refine q_iload dX7_isItem_107 (rfl : 107 + 2 = 109) rfl ?_
      refine q_iload_n dX7_isItem_109 (rfl : 109 + 1 = 110) rfl ?_
      refine q_if_eq (q := 120) dX7_isItem_110 (by decide) (rfl : 110 + 3 = 113) (fun h3 => ?_) (fun h3 => ?_)
      ·
        exact absurd h3 (by decide)
      ·
        refine q_aload_n dX7_isItem_113 (rfl : 113 + 1 = 114) rfl ?_
        refine q_callVI (S_number (d := d) h1 h400 (wr_hit) hle) dX7_isItem_114 (rfl : 114 + 3 = 117) lX7_98 vX7_number (by first | rfl | assumption) rfl rfl (Nat.le_of_ble_eq_true rfl) TM_room TM_cs ?_
        intro x I1 J1 hp
        obtain ⟨rfl, rfl, rfl⟩ := hp
        rw [h2, wr_wr]
        refine q_goto (q := 121) dX7_isItem_117 (by decide) ?_
        refine q_iast dX7_isItem_121 (rfl : 121 + 1 = 122) (by first | rfl | assumption) (by first | assumption | omega) (by decide) ?_
        refine q_aload_n dX7_isItem_122 (rfl : 122 + 1 = 123) rfl ?_
        refine q_getR dX7_isItem_123 (rfl : 123 + 3 = 126) fX7_66 (by first | rfl | assumption) (by first | rfl | assumption) ?_
        refine q_iload dX7_isItem_126 (rfl : 126 + 2 = 128) rfl ?_
        refine q_iald dX7_isItem_128 (rfl : 128 + 1 = 129) (by first | rfl | assumption) (by first | assumption | omega) (by decide) ?_
        rw [wr_hit]
        refine q_if_lt (q := 136) dX7_isItem_129 (by decide) (rfl : 129 + 3 = 132) (fun h4 => ?_) (fun h4 => ?_)
        ·
          have hno := numX_pos.mp h4
          rw [if_neg hno] at un
          refine q_iconst (v := nI 0) dX7_isItem_136 (rfl : 136 + 1 = 137) (by decide) ?_
          refine q_istore_n dX7_isItem_137 (rfl : 137 + 1 = 138) (by decide) ?_
          first | refine q_iinc1 dX7_isItem_138 (rfl : 138 + 3 = 141) rfl (by decide) ?_ | refine q_iinc dX7_isItem_138 (rfl : 138 + 3 = 141) rfl rfl (by decide) ?_
          refine q_goto (q := 38) dX7_isItem_141 (by decide) ?_
          exact off38 (k + 1) _ (by omega) hx.at2.got un
        ·
          have hyes : 1 ≤ (numF f (len - p2) p2 0 0).2.1 ∧ (numF f (len - p2) p2 0 0).2.1 ≤ 3 := Decidable.byContradiction (fun z => h4 (numX_pos.mpr z))
          rw [if_pos hyes] at un
          refine q_iconst (v := nI 1) dX7_isItem_132 (rfl : 132 + 1 = 133) (by decide) ?_
          refine q_goto (q := 137) dX7_isItem_133 (by decide) ?_
          refine q_istore_n dX7_isItem_137 (rfl : 137 + 1 = 138) (by decide) ?_
          first | refine q_iinc1 dX7_isItem_138 (rfl : 138 + 3 = 141) rfl (by decide) ?_ | refine q_iinc dX7_isItem_138 (rfl : 138 + 3 = 141) rfl rfl (by decide) ?_
          refine q_goto (q := 38) dX7_isItem_141 (by decide) ?_
          refine ih (k + 1) (numF f (len - p2) p2 0 0).2.2 (updF acc k (numF f (len - p2) p2 0 0).1) _ (by omega) (by omega) hx.at2.got ?_ ?_ (fun I' a b => K0 I' a (un.trans b)) (fun I' q acc' a b => K1 I' q acc' a (un.trans b))
          · rw [wr_ne (by omega), wr_hit]
          · intro j hj
            unfold updF
            by_cases e : j = k
            · subst e
              rw [wr_hit, if_pos rfl]
              unfold numX
              rw [if_pos hyes]
            · rw [wr_nk e, wr_ne (by omega), if_neg e]
              exact hgot j (by omega)
    have good83 : (k = 0 ∨ (p < len ∧ f p = nI 44)) → Wm mX7_isItem (TM (d + 2) 0 0 false n0 Po) 0 0 shA 83 [some (.ref 44), some (.int l), some (.int (nI N)), some (.int (nI 1)), some (.int (nI k))] [.int (nI 1)] I J RA := by
      intro hg
      refine q_istore_n dX7_isItem_83 (rfl : 83 + 1 = 84) (by decide) ?_
      refine q_aload_n dX7_isItem_84 (rfl : 84 + 1 = 85) rfl ?_
      refine q_dup dX7_isItem_85 (rfl : 85 + 1 = 86) rfl ?_
      refine q_getI dX7_isItem_86 (rfl : 86 + 3 = 89) fX7_85 (by first | rfl | assumption) ?_
      try simp (disch := omega) only [wr_hit, wr_p, wr_k, nI_add, pk_mul, nI_1, nI_s1, pk_sub, Nat.add_sub_cancel, hat]
      refine q_iload dX7_isItem_89 (rfl : 89 + 2 = 91) rfl ?_
      refine q_if_ne_n (q := 98) (by omega) dX7_isItem_91 (by decide) (rfl : 91 + 3 = 94) (fun h => ?_) (fun h => ?_)
      ·
        refine q_iconst (v := nI 1) dX7_isItem_98 (rfl : 98 + 1 = 99) (by decide) ?_
        refine q_iadd dX7_isItem_99 (rfl : 99 + 1 = 100) ?_
        try simp (disch := omega) only [wr_hit, wr_p, wr_k, nI_add, pk_mul, nI_1, nI_s1, pk_sub, Nat.add_sub_cancel, hat]
        refine q_putI dX7_isItem_100 (rfl : 100 + 3 = 103) pX7_85 (by first | rfl | assumption) ?_
        exact good103 (p + 1) (by rw [if_neg h]) hg
      ·
        refine q_iconst (v := nI 0) dX7_isItem_94 (rfl : 94 + 1 = 95) (by decide) ?_
        refine q_goto (q := 99) dX7_isItem_95 (by decide) ?_
        refine q_iadd dX7_isItem_99 (rfl : 99 + 1 = 100) ?_
        try simp (disch := omega) only [wr_hit, wr_p, wr_k, nI_add, pk_mul, nI_1, nI_s1, pk_sub, Nat.add_sub_cancel, hat]
        refine q_putI dX7_isItem_100 (rfl : 100 + 3 = 103) pX7_85 (by first | rfl | assumption) ?_
        exact good103 p (by rw [if_pos h]) hg
    refine q_iload dX7_isItem_38 (rfl : 38 + 2 = 40) rfl ?_
    refine q_iload_n dX7_isItem_40 (rfl : 40 + 1 = 41) rfl ?_
    refine q_icmp_ge_n (q := 144) (by omega) (by omega) dX7_isItem_41 (by decide) (rfl : 41 + 3 = 44) (fun h => ?_) (fun h => ?_)
    ·
      omega
    ·
      refine q_iload_n dX7_isItem_44 (rfl : 44 + 1 = 45) rfl ?_
      refine q_if_eq (q := 144) dX7_isItem_45 (by decide) (rfl : 45 + 3 = 48) (fun h2 => ?_) (fun h2 => ?_)
      ·
        exact absurd h2 (by decide)
      ·
        refine q_iload dX7_isItem_48 (rfl : 48 + 2 = 50) rfl ?_
        refine q_if_eq_n (q := 78) (by omega) dX7_isItem_50 (by decide) (rfl : 50 + 3 = 53) (fun h3 => ?_) (fun h3 => ?_)
        ·
          refine q_iconst (v := nI 1) dX7_isItem_78 (rfl : 78 + 1 = 79) (by decide) ?_
          refine q_goto (q := 83) dX7_isItem_79 (by decide) ?_
          exact good83 (Or.inl h3)
        ·
          refine q_aload_n dX7_isItem_53 (rfl : 53 + 1 = 54) rfl ?_
          refine q_getI dX7_isItem_54 (rfl : 54 + 3 = 57) fX7_85 (by first | rfl | assumption) ?_
          try simp (disch := omega) only [wr_hit, wr_p, wr_k, nI_add, pk_mul, nI_1, nI_s1, pk_sub, Nat.add_sub_cancel, hat, hl']
          refine q_aload_n dX7_isItem_57 (rfl : 57 + 1 = 58) rfl ?_
          refine q_getI dX7_isItem_58 (rfl : 58 + 3 = 61) fX7_81 (by first | rfl | assumption) ?_
          try simp (disch := omega) only [wr_hit, wr_p, wr_k, nI_add, pk_mul, nI_1, nI_s1, pk_sub, Nat.add_sub_cancel, hat, hl']
          refine q_icmp_ge_n (q := 82) (by omega) (by omega) dX7_isItem_61 (by decide) (rfl : 61 + 3 = 64) (fun h4 => ?_) (fun h4 => ?_)
          ·
            refine q_iconst (v := nI 0) dX7_isItem_82 (rfl : 82 + 1 = 83) (by decide) ?_
            refine bad83 h3 ?_
            unfold numsF
            rw [if_neg]
            omega
          ·
            refine q_aload_n dX7_isItem_64 (rfl : 64 + 1 = 65) rfl ?_
            refine q_getR dX7_isItem_65 (rfl : 65 + 3 = 68) fX7_7 (by first | rfl | assumption) (by first | rfl | assumption) ?_
            refine q_aload_n dX7_isItem_68 (rfl : 68 + 1 = 69) rfl ?_
            refine q_getI dX7_isItem_69 (rfl : 69 + 3 = 72) fX7_85 (by first | rfl | assumption) ?_
            try simp (disch := omega) only [wr_hit, wr_p, wr_k, nI_add, pk_mul, nI_1, nI_s1, pk_sub, Nat.add_sub_cancel, hat, hl']
            refine q_bald dX7_isItem_72 (rfl : 72 + 1 = 73) (by first | rfl | assumption) (by first | assumption | omega) (by decide) ?_
            refine q_bipush (v := nI 44) dX7_isItem_73 (rfl : 73 + 2 = 75) (by decide) ?_
            rw [hf']
            refine q_icmp_ne (q := 82) dX7_isItem_75 (by decide) (rfl : 75 + 3 = 78) (fun h5 => ?_) (fun h5 => ?_)
            ·
              refine q_iconst (v := nI 0) dX7_isItem_82 (rfl : 82 + 1 = 83) (by decide) ?_
              refine bad83 h3 ?_
              unfold numsF
              rw [if_neg]
              intro z
              rcases z with z | z
              · exact h3 z
              · exact h5 z.2
            ·
              refine q_iconst (v := nI 1) dX7_isItem_78 (rfl : 78 + 1 = 79) (by decide) ?_
              refine q_goto (q := 83) dX7_isItem_79 (by decide) ?_
              exact good83 (Or.inr ⟨h4, h5⟩)
def itemF (f : Nat → Int32) (len p : Nat) : Option (Nat × (Nat → Nat)) :=
  if partsF (f p) = 0 then none else match numsF f len (partsF (f p)) 0 (p + 1) (fun _ => 0) with
  | none => none
  | some r => if r.1 < len ∧ f r.1 = nI 59 then some (r.1 + 1, r.2) else none
def itemP (I : HI) (J : HJ) (n len p : Nat) : Int32 → HI → HJ → Prop := fun x I' J' => J' = J ∧ Fr I I' ∧ (itemF (I 45) len p = none → x = bI false) ∧ (∀ q acc, itemF (I 45) len p = some (q, acc) → x = bI (goodB I n (I 45 p) (fun j => nI (acc j))) ∧ (goodB I n (I 45 p) (fun j => nI (acc j)) = true → I' 44 2 = nI q ∧ Eqx (goodH I n (I 45 p) (fun j => nI (acc j))) I'))
theorem partsF_le (l : Int32) : partsF l ≤ 4 := by
  unfold partsF
  repeat' split
  all_goals omega
theorem goodB_g {I : HI} {n : Nat} {l : Int32} {g g' : Nat → Int32} (h0 : 0 < partsF l) (h : ∀ j, j < partsF l → g j = g' j) : goodB I n l g = goodB I n l g' := by
  unfold goodB
  by_cases h98 : l = nI 98
  · subst h98
    rw [if_pos rfl, if_pos rfl, h 0 (by decide), h 1 (by decide)]
  · rw [if_neg h98, if_neg h98]
    by_cases h102 : l = nI 102
    · subst h102
      rw [if_pos rfl, if_pos rfl, h 0 (by decide), h 1 (by decide), h 2 (by decide), h 3 (by decide)]
    · rw [if_neg h102, if_neg h102]
      by_cases h112 : l = nI 112
      · subst h112
        rw [if_pos rfl, if_pos rfl, h 0 (by decide), h 1 (by decide)]
      · rw [if_neg h112, if_neg h112, h 0 h0]
theorem goodH_g {I : HI} {n : Nat} {l : Int32} {g g' : Nat → Int32} (h0 : 0 < partsF l) (h : ∀ j, j < partsF l → g j = g' j) : goodH I n l g = goodH I n l g' := by
  unfold goodH
  by_cases h98 : l = nI 98
  · subst h98
    rw [if_pos rfl, if_pos rfl, h 0 (by decide), h 1 (by decide)]
  · rw [if_neg h98, if_neg h98]
    by_cases h102 : l = nI 102
    · subst h102
      rw [if_pos rfl, if_pos rfl]
      congr 1
      funext a b
      unfold mfH
      split
      · rename_i z
        exact h _ (show b - (48 + 4 * n) < 4 by omega)
      · rfl
    · rw [if_neg h102, if_neg h102]
      by_cases h112 : l = nI 112
      · subst h112
        rw [if_pos rfl, if_pos rfl, h 0 (by decide), h 1 (by decide)]
      · rw [if_neg h112, if_neg h112, h 0 h0]
theorem goodB_x {I I' : HI} {n : Nat} {l : Int32} {g : Nat → Int32} (h : Eqx I I') : goodB I' n l g = goodB I n l g := by
  unfold goodB leastF
  rw [h.row (a := 48) (by omega) (by omega)]
theorem goodH_x {I I' : HI} {n : Nat} {l : Int32} {g : Nat → Int32} (h : Eqx I I') : Eqx (goodH I n l g) (goodH I' n l g) := by
  have hm : Eqx (mfH I n g 4) (mfH I' n g 4) := by
    intro a b x y
    unfold mfH
    rw [h a b x y]
  unfold goodH
  repeat' split
  · exact h.both.both
  · exact hm.both
  · exact h.both
  all_goals exact h.both
theorem S_isItem {d n len p : Nat} {I : HI} {J : HJ} (hl : I 44 0 = nI len) (h400 : len ≤ 400) (hn : I 47 1 = nI n) (h12 : n ≤ 12) (hp : I 44 2 = nI p) (hlt : p < len) : MI mX7_isItem (d + 3) [.ref 44] shA I J RA (itemP I J n len p) := by
  have hp4 : p < 400 := by omega
  refine Mt.of (L := [some (.ref 44), none, none, none, none]) (by decide +kernel) (Nat.le_of_ble_eq_true rfl) rfl ?_
  refine q_aload_n dX7_isItem_0 (rfl : 0 + 1 = 1) rfl ?_
  refine q_getR dX7_isItem_1 (rfl : 1 + 3 = 4) fX7_7 (by first | rfl | assumption) (by first | rfl | assumption) ?_
  refine q_aload_n dX7_isItem_4 (rfl : 4 + 1 = 5) rfl ?_
  refine q_getI dX7_isItem_5 (rfl : 5 + 3 = 8) fX7_85 (by first | rfl | assumption) ?_
  try simp (disch := omega) only [wr_hit, wr_p, wr_k, nI_add, pk_mul, nI_1, nI_s1, pk_sub, Nat.add_sub_cancel, hp]
  refine q_bald dX7_isItem_8 (rfl : 8 + 1 = 9) (by first | rfl | assumption) (by first | assumption | omega) (by decide) ?_
  refine q_istore_n dX7_isItem_9 (rfl : 9 + 1 = 10) (by decide) ?_
  refine q_aload_n dX7_isItem_10 (rfl : 10 + 1 = 11) rfl ?_
  refine q_dup dX7_isItem_11 (rfl : 11 + 1 = 12) rfl ?_
  refine q_getI dX7_isItem_12 (rfl : 12 + 3 = 15) fX7_85 (by first | rfl | assumption) ?_
  try simp (disch := omega) only [wr_hit, wr_p, wr_k, nI_add, pk_mul, nI_1, nI_s1, pk_sub, Nat.add_sub_cancel, hp]
  refine q_iconst (v := nI 1) dX7_isItem_15 (rfl : 15 + 1 = 16) (by decide) ?_
  refine q_iadd dX7_isItem_16 (rfl : 16 + 1 = 17) ?_
  try simp (disch := omega) only [wr_hit, wr_p, wr_k, nI_add, pk_mul, nI_1, nI_s1, pk_sub, Nat.add_sub_cancel, hp]
  refine q_putI dX7_isItem_17 (rfl : 17 + 3 = 20) pX7_85 (by first | rfl | assumption) ?_
  refine q_iload_n dX7_isItem_20 (rfl : 20 + 1 = 21) rfl ?_
  refine q_callSIp (S_parts (d := d + 2)) dX7_isItem_21 (rfl : 21 + 3 = 24) lX7_94 vX7_parts rfl rfl (Nat.le_of_ble_eq_true rfl) TM_room TM_cs ?_
  refine q_istore_n dX7_isItem_24 (rfl : 24 + 1 = 25) (by decide) ?_
  refine q_iload_n dX7_isItem_25 (rfl : 25 + 1 = 26) rfl ?_
  have hN := partsF_le (I 45 p)
  have tail : ∀ (I' : HI) (c : Bool) (q : Nat) (acc : Nat → Nat), Eqx I I' → (c = true → itemF (I 45) len p = some (q + 1, acc) ∧ I' 44 2 = nI q ∧ (∀ j, j < partsF (I 45 p) → I' 63 j = nI (acc j)) ∧ 0 < partsF (I 45 p)) → (c = false → itemF (I 45) len p = none) → Wm mX7_isItem (TM (d + 3) 0 0 false shA.length (fun sh' w I' J' R' => sh' = shA ∧ R' = RA ∧ ∃ x : Int32, w = some (.int x) ∧ itemP I J n len p x I' J')) 0 0 shA 178 [some (.ref 44), some (.int (I 45 p)), some (.int (nI (partsF (I 45 p)))), none, none] [.int (bI c)] I' J RA := by
    intro I' c q acc hx ht hf
    refine q_istore_n dX7_isItem_178 (rfl : 178 + 1 = 179) (by decide) ?_
    refine q_aload_n dX7_isItem_179 (rfl : 179 + 1 = 180) rfl ?_
    refine q_dup dX7_isItem_180 (rfl : 180 + 1 = 181) rfl ?_
    refine q_getI dX7_isItem_181 (rfl : 181 + 3 = 184) fX7_85 (by first | rfl | assumption) ?_
    refine q_iconst (v := nI 1) dX7_isItem_184 (rfl : 184 + 1 = 185) (by decide) ?_
    refine q_iadd dX7_isItem_185 (rfl : 185 + 1 = 186) ?_
    refine q_putI dX7_isItem_186 (rfl : 186 + 3 = 189) pX7_85 (by first | rfl | assumption) ?_
    refine q_iload_n dX7_isItem_189 (rfl : 189 + 1 = 190) rfl ?_
    refine q_if_eq_b (q := 205) dX7_isItem_190 (by decide) (rfl : 190 + 3 = 193) (fun hc => ?_) (fun hc => ?_)
    ·
      refine q_iconst (v := nI 0) dX7_isItem_205 (rfl : 205 + 1 = 206) (by decide) ?_
      refine q_zret rfl dX7_isItem_206 (by first | exact bI_01 _ | exact Or.inl rfl | exact Or.inr rfl) ⟨rfl, rfl, _, rfl, ?_⟩
      refine ⟨rfl, hx.at2.fr, fun _ => rfl, fun q acc z => ?_⟩
      rw [hf hc] at z
      cases z
    ·
      obtain ⟨a1, a2, a3, a4⟩ := ht hc
      have hx2 : Eqx I (wr I' 44 2 (I' 44 2 + nI 1)) := hx.at2
      have hn2 : wr I' 44 2 (I' 44 2 + nI 1) 47 1 = nI n := (hx2 47 1 (by omega) (by omega)).trans hn
      have g1 : goodB (wr I' 44 2 (I' 44 2 + nI 1)) n (I 45 p) (wr I' 44 2 (I' 44 2 + nI 1) 63) = goodB I n (I 45 p) (fun j => nI (acc j)) := by
        rw [goodB_x hx2, wr_ne (by omega)]
        exact goodB_g a4 a3
      have e2 : wr I' 44 2 (I' 44 2 + nI 1) 44 2 = nI (q + 1) := by rw [wr_hit, a2, nI_add]
      have post : ∀ (y : Bool) I2, y = goodB I n (I 45 p) (fun j => nI (acc j)) → goodP (wr I' 44 2 (I' 44 2 + nI 1)) J n (I 45 p) (bI y) I2 J → itemP I J n len p (bI y) I2 J := by
        intro y I2 hy hg
        obtain ⟨-, b2, -, b4⟩ := hg
        rw [g1] at b4
        refine ⟨rfl, hx2.fr.trans b2, (fun z => absurd (a1.symm.trans z) (fun w => by cases w)), fun q' acc' z => ?_⟩
        rw [a1] at z
        cases z
        refine ⟨by rw [hy], fun t => ?_⟩
        rw [b4 t]
        constructor
        · rw [← e2]
          unfold goodH
          repeat' split
          · rw [wr_ne (by omega), wr_ne (by omega)]
          · rw [wr_ne (by omega), mfH_o _ _ _ _ _ (by omega)]
          · rw [wr_ne (by omega)]
          all_goals rw [wr_ne (by omega)]
        · have := goodH_x (n := n) (l := I 45 p) (g := fun j => nI (acc j)) hx2
          rw [wr_ne (by omega), goodH_g a4 a3]
          exact this
      refine q_aload_n dX7_isItem_193 (rfl : 193 + 1 = 194) rfl ?_
      refine q_iload_n dX7_isItem_194 (rfl : 194 + 1 = 195) rfl ?_
      refine q_callVI (S_isGood (d := d) hn2 h12) dX7_isItem_195 (rfl : 195 + 3 = 198) lX7_102 vX7_isGood (by first | rfl | assumption) rfl rfl (Nat.le_of_ble_eq_true rfl) TM_room TM_cs ?_
      intro x I1 J1 hg
      obtain ⟨b1, b2, rfl, b4⟩ := hg
      rw [b1, g1]
      refine q_if_eq_b (q := 205) dX7_isItem_198 (by decide) (rfl : 198 + 3 = 201) (fun hb => ?_) (fun hb => ?_)
      ·
        refine q_iconst (v := nI 0) dX7_isItem_205 (rfl : 205 + 1 = 206) (by decide) ?_
        refine q_zret rfl dX7_isItem_206 (by first | exact bI_01 _ | exact Or.inl rfl | exact Or.inr rfl) ⟨rfl, rfl, _, rfl, ?_⟩
        exact post false I1 hb.symm ⟨by rw [g1, hb], b2, rfl, b4⟩
      ·
        refine q_iconst (v := nI 1) dX7_isItem_201 (rfl : 201 + 1 = 202) (by decide) ?_
        refine q_goto (q := 206) dX7_isItem_202 (by decide) ?_
        refine q_zret rfl dX7_isItem_206 (by first | exact bI_01 _ | exact Or.inl rfl | exact Or.inr rfl) ⟨rfl, rfl, _, rfl, ?_⟩
        exact post true I1 hb.symm ⟨by rw [g1, hb], b2, rfl, b4⟩
  refine q_if_le_n (q := 33) (by omega) dX7_isItem_26 (by decide) (rfl : 26 + 3 = 29) (fun hpos => ?_) (fun hpos => ?_)
  ·
    have hz : itemF (I 45) len p = none := by
      unfold itemF
      rw [if_pos (by omega)]
    refine q_iconst (v := nI 0) dX7_isItem_33 (rfl : 33 + 1 = 34) (by decide) ?_
    refine q_istore_n dX7_isItem_34 (rfl : 34 + 1 = 35) (by decide) ?_
    refine q_iconst (v := nI 0) dX7_isItem_35 (rfl : 35 + 1 = 36) (by decide) ?_
    refine q_istore dX7_isItem_36 (rfl : 36 + 2 = 38) (by decide) ?_
    refine q_iload dX7_isItem_38 (rfl : 38 + 2 = 40) rfl ?_
    refine q_iload_n dX7_isItem_40 (rfl : 40 + 1 = 41) rfl ?_
    refine q_icmp_ge_n (q := 144) (by omega) (by omega) dX7_isItem_41 (by decide) (rfl : 41 + 3 = 44) (fun hz2 => ?_) (fun hz2 => ?_)
    ·
      refine q_iload_n dX7_isItem_144 (rfl : 144 + 1 = 145) rfl ?_
      refine q_if_eq (q := 177) dX7_isItem_145 (by decide) (rfl : 145 + 3 = 148) (fun hq => ?_) (fun hq => ?_)
      ·
        refine q_iconst (v := nI 0) dX7_isItem_177 (rfl : 177 + 1 = 178) (by decide) ?_
        refine q_forget (L' := [some (.ref 44), some (.int (I 45 p)), some (.int (nI (partsF (I 45 p)))), none, none]) (by repeat (first | exact trivial | refine And.intro rfl ?_)) ?_
        exact tail _ false 0 (fun _ => 0) Eqx.rf.at2 (fun z => by cases z) (fun _ => hz)
      ·
        exact absurd rfl hq
    ·
      omega
  ·
    have i0 : itemF (I 45) len p = (match numsF (I 45) len (partsF (I 45 p)) 0 (p + 1) (fun _ => 0) with
      | none => none
      | some r => if r.1 < len ∧ I 45 r.1 = nI 59 then some (r.1 + 1, r.2) else none) := by
      unfold itemF
      rw [if_neg (by omega)]
    refine q_iconst (v := nI 1) dX7_isItem_29 (rfl : 29 + 1 = 30) (by decide) ?_
    refine q_goto (q := 34) dX7_isItem_30 (by decide) ?_
    refine q_istore_n dX7_isItem_34 (rfl : 34 + 1 = 35) (by decide) ?_
    refine q_iconst (v := nI 0) dX7_isItem_35 (rfl : 35 + 1 = 36) (by decide) ?_
    refine q_istore dX7_isItem_36 (rfl : 36 + 2 = 38) (by decide) ?_
    have hl2 : wr I 44 2 (nI (p + 1)) 44 0 = nI len := by rw [wr_nk (by omega), hl]
    refine L_item (d := d + 1) (I0 := I) h400 hN rfl hl (partsF (I 45 p)) 0 (p + 1) (fun _ => 0) _ (by omega) (by omega) Eqx.rf.at2 wr_hit (fun j hj => absurd hj (by omega)) ?_ ?_
    · intro I' hx hno
      rw [hno] at i0
      refine q_iload_n dX7_isItem_144 (rfl : 144 + 1 = 145) rfl ?_
      refine q_if_eq (q := 177) dX7_isItem_145 (by decide) (rfl : 145 + 3 = 148) (fun hq => ?_) (fun hq => ?_)
      ·
        refine q_iconst (v := nI 0) dX7_isItem_177 (rfl : 177 + 1 = 178) (by decide) ?_
        refine q_forget (L' := [some (.ref 44), some (.int (I 45 p)), some (.int (nI (partsF (I 45 p)))), none, none]) (by repeat (first | exact trivial | refine And.intro rfl ?_)) ?_
        exact tail _ false 0 (fun _ => 0) hx (fun z => by cases z) (fun _ => i0)
      ·
        exact absurd rfl hq
    · intro I' q acc hx hsome hq4 hq hgot
      rw [hsome] at i0
      have hl' : I' 44 0 = nI len := (hx 44 0 (by omega) (by omega)).trans hl
      have hf' : I' 45 = I 45 := hx.row (by omega) (by omega)
      have no : ¬ (q < len ∧ I 45 q = nI 59) → Wm mX7_isItem (TM (d + 3) 0 0 false shA.length (fun sh' w I' J' R' => sh' = shA ∧ R' = RA ∧ ∃ x : Int32, w = some (.int x) ∧ itemP I J n len p x I' J')) 0 0 shA 177 [some (.ref 44), some (.int (I 45 p)), some (.int (nI (partsF (I 45 p)))), some (.int (nI 1)), none] [] I' J RA := by
        intro hno
        refine q_iconst (v := nI 0) dX7_isItem_177 (rfl : 177 + 1 = 178) (by decide) ?_
        refine q_forget (L' := [some (.ref 44), some (.int (I 45 p)), some (.int (nI (partsF (I 45 p)))), none, none]) (by repeat (first | exact trivial | refine And.intro rfl ?_)) ?_
        exact tail _ false 0 (fun _ => 0) hx (fun z => by cases z) (fun _ => by rw [i0]; exact if_neg hno)
      refine q_iload_n dX7_isItem_144 (rfl : 144 + 1 = 145) rfl ?_
      refine q_if_eq (q := 177) dX7_isItem_145 (by decide) (rfl : 145 + 3 = 148) (fun h1 => ?_) (fun h1 => ?_)
      ·
        exact absurd h1 (by decide)
      ·
        refine q_aload_n dX7_isItem_148 (rfl : 148 + 1 = 149) rfl ?_
        refine q_getI dX7_isItem_149 (rfl : 149 + 3 = 152) fX7_85 (by first | rfl | assumption) ?_
        try simp (disch := omega) only [wr_hit, wr_p, wr_k, nI_add, pk_mul, nI_1, nI_s1, pk_sub, Nat.add_sub_cancel, hq, hl']
        refine q_aload_n dX7_isItem_152 (rfl : 152 + 1 = 153) rfl ?_
        refine q_getI dX7_isItem_153 (rfl : 153 + 3 = 156) fX7_81 (by first | rfl | assumption) ?_
        try simp (disch := omega) only [wr_hit, wr_p, wr_k, nI_add, pk_mul, nI_1, nI_s1, pk_sub, Nat.add_sub_cancel, hq, hl']
        refine q_icmp_ge_n (q := 177) (by omega) (by omega) dX7_isItem_156 (by decide) (rfl : 156 + 3 = 159) (fun h2 => ?_) (fun h2 => ?_)
        ·
          exact no (by omega)
        ·
          refine q_aload_n dX7_isItem_159 (rfl : 159 + 1 = 160) rfl ?_
          refine q_getR dX7_isItem_160 (rfl : 160 + 3 = 163) fX7_7 (by first | rfl | assumption) (by first | rfl | assumption) ?_
          refine q_aload_n dX7_isItem_163 (rfl : 163 + 1 = 164) rfl ?_
          refine q_getI dX7_isItem_164 (rfl : 164 + 3 = 167) fX7_85 (by first | rfl | assumption) ?_
          try simp (disch := omega) only [wr_hit, wr_p, wr_k, nI_add, pk_mul, nI_1, nI_s1, pk_sub, Nat.add_sub_cancel, hq, hl']
          refine q_bald dX7_isItem_167 (rfl : 167 + 1 = 168) (by first | rfl | assumption) (by first | assumption | omega) (by decide) ?_
          refine q_bipush (v := nI 59) dX7_isItem_168 (rfl : 168 + 2 = 170) (by decide) ?_
          rw [hf']
          refine q_icmp_ne (q := 177) dX7_isItem_170 (by decide) (rfl : 170 + 3 = 173) (fun h3 => ?_) (fun h3 => ?_)
          ·
            exact no (fun z => h3 z.2)
          ·
            refine q_iconst (v := nI 1) dX7_isItem_173 (rfl : 173 + 1 = 174) (by decide) ?_
            refine q_goto (q := 178) dX7_isItem_174 (by decide) ?_
            refine q_forget (L' := [some (.ref 44), some (.int (I 45 p)), some (.int (nI (partsF (I 45 p)))), none, none]) (by repeat (first | exact trivial | refine And.intro rfl ?_)) ?_
            exact tail _ true q acc hx (fun _ => ⟨by rw [i0]; exact if_pos ⟨h2, h3⟩, hq, hgot, by omega⟩) (fun z => by cases z)
