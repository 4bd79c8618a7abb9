/-! the class's telling of a text, byte by byte -/
def scanC (f : Nat → Int32) (len k : Nat) (X : HI) (p start c g n : Nat) : Int32 × HI := match k with
  | 0 => (if start = len then -4 else nI start, X)
  | k + 1 =>
    if p = start then scanC f len k (startH X) (p + 1) start 0 0 n
    else if nI 48 ≤ f p ∧ f p ≤ nI 57 then
      (if g < 3 then scanC f len k (figH X g (f p - nI 48)) (p + 1) start c (g + 1) n else (nI start, X))
    else if f p = nI 44 ∨ f p = nI 59 then
      (if g ≠ 0 ∧ c < 4 then
        (if f p = nI 59 then
          (if takeB (endH X c) n (f start) (c + 1) = true then scanC f len k (takeH (endH X c) n (f start)) (p + 1) (p + 1) (c + 1) 0 (if f start = nI 102 then n + 1 else n) else (nI start, endH X c))
        else scanC f len k (endH X c) (p + 1) start (c + 1) 0 n)
      else (nI start, X))
    else (nI start, X)
theorem takeH_low {X : HI} {n : Nat} {l : Int32} {a : Nat} (h : a < 10) : takeH X n l a = X a := by
  unfold takeH
  repeat' split
  · unfold setBarnH; rw [wr_ne (by omega), wr_ne (by omega)]
  · unfold addFallH; rw [wr_ne (by omega), wr_ne (by omega), wr_ne (by omega), wr_ne (by omega), wr_ne (by omega)]
  · rw [wr_ne (by omega)]
  · rw [wr_ne (by omega)]
theorem takeH_n {X : HI} {n : Nat} {l : Int32} (hn : X 10 5 = nI n) : takeH X n l 10 5 = nI (if l = nI 102 then n + 1 else n) := by
  unfold takeH
  by_cases h98 : l = nI 98
  · subst h98
    rw [if_pos rfl, if_neg (by decide)]
    simp [setBarnH, wr, hn]
  · rw [if_neg h98]
    by_cases h102 : l = nI 102
    · subst h102
      rw [if_pos rfl, if_pos rfl]
      simp [addFallH, wr]
    · rw [if_neg h102, if_neg h102]
      by_cases h112 : l = nI 112
      · rw [if_pos h112]
        simp [wr, hn]
      · rw [if_neg h112]
        have : setOneK l ≠ 5 := by
          unfold setOneK
          repeat' split
          all_goals decide
        simp [wr, hn, this.symm]
theorem takeB_n {X : HI} {n : Nat} {l : Int32} {c : Nat} (h12 : n ≤ 12) (h : takeB X n l c = true) : (if l = nI 102 then n + 1 else n) ≤ 12 := by
  by_cases h102 : l = nI 102
  · subst h102
    rw [if_pos rfl]
    have e : takeB X n (nI 102) c = (decide (c = 4) && addFallB X 10 n (X 3 0) (X 3 1) (X 3 2) (X 3 3)) := by simp [takeB, show ¬ nI 102 = nI 98 by decide]
    rw [e] at h
    unfold addFallB at h
    simp only [Bool.and_eq_true, decide_eq_true_eq] at h
    omega
  · rw [if_neg h102]
    exact h12
theorem startH_o {X : HI} {a b : Nat} (h : ¬ (a = 1 ∧ (b = 3 ∨ b = 4 ∨ b = 5))) : startH X a b = X a b := by
  unfold startH wr
  by_cases ha : a = 1
  · subst ha
    simp only [true_and] at h
    simp [show b ≠ 3 by omega, show b ≠ 4 by omega, show b ≠ 5 by omega]
  · simp [ha]
theorem figH_o {X : HI} {g : Nat} {x : Int32} {a b : Nat} (h : ¬ (a = 1 ∧ (b = 4 ∨ b = 5))) : figH X g x a b = X a b := by
  unfold figH wr
  by_cases ha : a = 1
  · subst ha
    simp only [true_and] at h
    simp [show b ≠ 4 by omega, show b ≠ 5 by omega]
  · simp [ha]
theorem endH_o {X : HI} {c : Nat} {a b : Nat} (h : ¬ (a = 1 ∧ (b = 3 ∨ b = 4 ∨ b = 5))) (h3 : a ≠ 3) : endH X c a b = X a b := by
  unfold endH wr
  by_cases ha : a = 1
  · subst ha
    simp only [true_and] at h
    simp [show b ≠ 3 by omega, show b ≠ 4 by omega, show b ≠ 5 by omega]
  · simp [ha, h3]
/-- what holds while a text is told -/
def TellI (f : Nat → Int32) (len : Nat) (X : HI) (p start c g n : Nat) : Prop := X 2 = f ∧ X 1 1 = nI len ∧ X 10 5 = nI n ∧ n ≤ 12 ∧ start ≤ p ∧ (start < p → X 1 3 = nI c ∧ X 1 4 = nI g) ∧ c ≤ 4 ∧ g ≤ 3
theorem L_tellTo {d n0 : Nat} {Po : PO} {J : HJ} {f : Nat → Int32} {len : Nat} (h400 : len ≤ 400) :
    ∀ (k : Nat) (X : HI) (p start c g n : Nat), p + k = len → TellI f len X p start c g n → Po shA (some (.int (scanC f len k X p start c g n).1)) (scanC f len k X p start c g n).2 J RA →
      Wm mX3_tellTo (TM (d + 5) 0 0 false n0 Po) 0 0 shA 8 [some (.ref 1), some (.ref 10), some (.int (nI start)), some (.int (nI p)), none] [] X J RA := by
  intro k
  induction k with
  | zero =>
    intro X p start c g n hk ⟨h2, hl, hn, h12, hsp, hcg, hc4, hg3⟩ hPo
    obtain rfl : p = len := by omega
    refine q_iload_n dX3_tellTo_8 (rfl : 8 + 1 = 9) rfl ?_
    refine q_aload_n dX3_tellTo_9 (rfl : 9 + 1 = 10) rfl ?_
    refine q_getI dX3_tellTo_10 (rfl : 10 + 3 = 13) fX3_15 (by first | rfl | assumption) ?_
    rw [hl]
    refine q_icmp_ge_n (q := 127) (by omega) (by omega) dX3_tellTo_13 (by decide) (rfl : 13 + 3 = 16) (fun h => ?_) (fun h => ?_)
    ·
      refine q_iload_n dX3_tellTo_127 (rfl : 127 + 1 = 128) rfl ?_
      refine q_aload_n dX3_tellTo_128 (rfl : 128 + 1 = 129) rfl ?_
      refine q_getI dX3_tellTo_129 (rfl : 129 + 3 = 132) fX3_15 (by first | rfl | assumption) ?_
      rw [hl]
      refine q_icmp_ne_n (q := 140) (by omega) (by omega) dX3_tellTo_132 (by decide) (rfl : 132 + 3 = 135) (fun hs => ?_) (fun hs => ?_)
      ·
        refine q_iload_n dX3_tellTo_140 (rfl : 140 + 1 = 141) rfl ?_
        have e : scanC f p 0 X p start c g n = (nI start, X) := by simp [scanC, hs]
        rw [e] at hPo
        exact q_iret rfl dX3_tellTo_141 hPo
      ·
        refine q_bipush (v := -4) dX3_tellTo_135 (rfl : 135 + 2 = 137) (by decide) ?_
        refine q_goto (q := 141) dX3_tellTo_137 (by decide) ?_
        have e : scanC f p 0 X p start c g n = (-4, X) := by simp [scanC, hs]
        rw [e] at hPo
        exact q_iret rfl dX3_tellTo_141 hPo
    ·
      omega
  | succ k ih =>
    intro X p start c g n hk ⟨h2, hl, hn, h12, hsp, hcg, hc4, hg3⟩ hPo
    refine q_iload_n dX3_tellTo_8 (rfl : 8 + 1 = 9) rfl ?_
    refine q_aload_n dX3_tellTo_9 (rfl : 9 + 1 = 10) rfl ?_
    refine q_getI dX3_tellTo_10 (rfl : 10 + 3 = 13) fX3_15 (by first | rfl | assumption) ?_
    rw [hl]
    refine q_icmp_ge_n (q := 127) (by omega) (by omega) dX3_tellTo_13 (by decide) (rfl : 13 + 3 = 16) (fun h => ?_) (fun h => ?_)
    · omega
    ·
      have hp400 : p < 400 := by omega
      refine q_aload_n dX3_tellTo_16 (rfl : 16 + 1 = 17) rfl ?_
      refine q_getR dX3_tellTo_17 (rfl : 17 + 3 = 20) fX3_9 (by first | rfl | assumption) (by first | rfl | assumption) ?_
      refine q_iload_n dX3_tellTo_20 (rfl : 20 + 1 = 21) rfl ?_
      refine q_bald dX3_tellTo_21 (rfl : 21 + 1 = 22) (by first | rfl | assumption) (by first | assumption | omega) (by decide) ?_
      refine q_istore dX3_tellTo_22 (rfl : 22 + 2 = 24) (by decide) ?_
      refine q_iload_n dX3_tellTo_24 (rfl : 24 + 1 = 25) rfl ?_
      refine q_iload_n dX3_tellTo_25 (rfl : 25 + 1 = 26) rfl ?_
      rw [h2]
      refine q_icmp_ne_n (q := 36) (by omega) (by omega) dX3_tellTo_26 (by decide) (rfl : 26 + 3 = 29) (fun hs => ?_) (fun hs => ?_)
      ·
        have hlt : start < p := by omega
        obtain ⟨hc, hg⟩ := hcg hlt
        have notdig : ¬ (nI 48 ≤ f p ∧ f p ≤ nI 57) → Wm mX3_tellTo (TM (d + 5) 0 0 false n0 Po) 0 0 shA 64 [some (.ref 1), some (.ref 10), some (.int (nI start)), some (.int (nI p)), some (.int (f p))] [] X J RA := by
          intro hd
          have sep : (f p = nI 44 ∨ f p = nI 59) → Wm mX3_tellTo (TM (d + 5) 0 0 false n0 Po) 0 0 shA 78 [some (.ref 1), some (.ref 10), some (.int (nI start)), some (.int (nI p)), some (.int (f p))] [] X J RA := by
            intro hsep
            refine q_aload_n dX3_tellTo_78 (rfl : 78 + 1 = 79) rfl ?_
            refine q_callVI (S_endNumber (d := d + 4) hg hg3 hc hc4) dX3_tellTo_79 (rfl : 79 + 3 = 82) lX3_44 vX3_endNumber (by first | rfl | assumption) rfl rfl (Nat.le_of_ble_eq_true rfl) TM_room TM_cs ?_
            intro x I1 J1 hp
            obtain ⟨rfl, rfl, rfl⟩ := hp
            refine q_if_ne_b (q := 87) dX3_tellTo_82 (by decide) (rfl : 82 + 3 = 85) (fun hb => ?_) (fun hb => ?_)
            ·
              have hb2 : g ≠ 0 ∧ c < 4 := by simpa using hb
              rw [hb]
              show Wm _ _ _ _ _ _ _ _ (endH X c) _ _
              refine q_iload dX3_tellTo_87 (rfl : 87 + 2 = 89) rfl ?_
              refine q_bipush (v := nI 59) dX3_tellTo_89 (rfl : 89 + 2 = 91) (by decide) ?_
              refine q_icmp_ne (q := 121) dX3_tellTo_91 (by decide) (rfl : 91 + 3 = 94) (fun q59 => ?_) (fun q59 => ?_)
              ·
                first | refine q_iinc1 dX3_tellTo_121 (rfl : 121 + 3 = 124) rfl (by decide) ?_ | refine q_iinc dX3_tellTo_121 (rfl : 121 + 3 = 124) rfl rfl (by decide) ?_
                refine q_goto (q := 8) dX3_tellTo_124 (by decide) ?_
                have e : scanC f len (k + 1) X p start c g n = scanC f len k (endH X c) (p + 1) start (c + 1) 0 n := by
                  simp only [scanC, if_neg hs, if_neg hd, if_pos hsep, if_pos hb2, if_neg q59]
                rw [e] at hPo
                refine q_forget (L' := [some (.ref 1), some (.ref 10), some (.int (nI start)), some (.int (nI (p + 1))), none]) (by repeat (first | exact trivial | refine And.intro rfl ?_)) ?_
                refine ih (endH X c) (p + 1) start (c + 1) 0 n (by omega) ⟨?_, ?_, ?_, h12, by omega, fun _ => ⟨?_, ?_⟩, by omega, by omega⟩ hPo
                · funext b; rw [endH_o (by omega) (by omega), h2]
                · rw [endH_o (by omega) (by omega), hl]
                · rw [endH_o (by omega) (by omega), hn]
                · simp [endH, wr]
                · simp [endH, wr]
              ·
                have hs400 : start < 400 := by omega
                have e2 : endH X c 2 = f := by funext b; rw [endH_o (by omega) (by omega), h2]
                have e3 : endH X c 1 3 = nI (c + 1) := by simp [endH, wr]
                have en : endH X c 10 5 = nI n := by rw [endH_o (by omega) (by omega), hn]
                refine q_aload_n dX3_tellTo_94 (rfl : 94 + 1 = 95) rfl ?_
                refine q_aload_n dX3_tellTo_95 (rfl : 95 + 1 = 96) rfl ?_
                refine q_getR dX3_tellTo_96 (rfl : 96 + 3 = 99) fX3_9 (by first | rfl | assumption) (by first | rfl | assumption) ?_
                refine q_iload_n dX3_tellTo_99 (rfl : 99 + 1 = 100) rfl ?_
                refine q_bald dX3_tellTo_100 (rfl : 100 + 1 = 101) (by first | rfl | assumption) (by first | assumption | omega) (by decide) ?_
                refine q_aload_n dX3_tellTo_101 (rfl : 101 + 1 = 102) rfl ?_
                refine q_getR dX3_tellTo_102 (rfl : 102 + 3 = 105) fX3_19 (by first | rfl | assumption) (by first | rfl | assumption) ?_
                refine q_aload_n dX3_tellTo_105 (rfl : 105 + 1 = 106) rfl ?_
                refine q_getI dX3_tellTo_106 (rfl : 106 + 3 = 109) fX3_23 (by first | rfl | assumption) ?_
                rw [e2, e3]
                refine q_callVI (S_take (d := d) en h12 (show c + 1 ≤ 4 by omega)) dX3_tellTo_109 (rfl : 109 + 3 = 112) lX3_48 vX5_take (by first | rfl | assumption) rfl rfl (Nat.le_of_ble_eq_true rfl) TM_room TM_cs ?_
                intro x I1 J1 hp
                obtain ⟨rfl, rfl, rfl⟩ := hp
                refine q_if_ne_b (q := 117) dX3_tellTo_112 (by decide) (rfl : 112 + 3 = 115) (fun ht => ?_) (fun ht => ?_)
                ·
                  rw [ht]
                  show Wm _ _ _ _ _ _ _ _ (takeH (endH X c) n (f start)) _ _
                  refine q_iload_n dX3_tellTo_117 (rfl : 117 + 1 = 118) rfl ?_
                  refine q_iconst (v := nI 1) dX3_tellTo_118 (rfl : 118 + 1 = 119) (by decide) ?_
                  refine q_iadd dX3_tellTo_119 (rfl : 119 + 1 = 120) ?_
                  refine q_istore_n dX3_tellTo_120 (rfl : 120 + 1 = 121) (by decide) ?_
                  first | refine q_iinc1 dX3_tellTo_121 (rfl : 121 + 3 = 124) rfl (by decide) ?_ | refine q_iinc dX3_tellTo_121 (rfl : 121 + 3 = 124) rfl rfl (by decide) ?_
                  refine q_goto (q := 8) dX3_tellTo_124 (by decide) ?_
                  have e : scanC f len (k + 1) X p start c g n = scanC f len k (takeH (endH X c) n (f start)) (p + 1) (p + 1) (c + 1) 0 (if f start = nI 102 then n + 1 else n) := by
                    simp only [scanC, if_neg hs, if_neg hd, if_pos hsep, if_pos hb2, if_pos q59, if_pos ht]
                  rw [e] at hPo
                  rw [nI_add]
                  refine q_forget (L' := [some (.ref 1), some (.ref 10), some (.int (nI (p + 1))), some (.int (nI (p + 1))), none]) (by repeat (first | exact trivial | refine And.intro rfl ?_)) ?_
                  refine ih _ (p + 1) (p + 1) (c + 1) 0 _ (by omega) ⟨?_, ?_, takeH_n en, takeB_n h12 ht, by omega, fun z => by omega, by omega, by omega⟩ hPo
                  · rw [takeH_low (by omega), e2]
                  · rw [takeH_low (by omega), endH_o (by omega) (by omega), hl]
                ·
                  rw [ht]
                  show Wm _ _ _ _ _ _ _ _ (endH X c) _ _
                  refine q_iload_n dX3_tellTo_115 (rfl : 115 + 1 = 116) rfl ?_
                  have e : scanC f len (k + 1) X p start c g n = (nI start, endH X c) := by
                    simp only [scanC, if_neg hs, if_neg hd, if_pos hsep, if_pos hb2, if_pos q59, if_neg (show ¬ takeB (endH X c) n (f start) (c + 1) = true by simp [ht])]
                  rw [e] at hPo
                  exact q_iret rfl dX3_tellTo_116 hPo
            ·
              have hb2 : ¬ (g ≠ 0 ∧ c < 4) := by simpa using hb
              rw [hb]
              show Wm _ _ _ _ _ _ _ _ X _ _
              refine q_iload_n dX3_tellTo_85 (rfl : 85 + 1 = 86) rfl ?_
              have e : scanC f len (k + 1) X p start c g n = (nI start, X) := by
                simp only [scanC, if_neg hs, if_neg hd, if_pos hsep, if_neg hb2]
              rw [e] at hPo
              exact q_iret rfl dX3_tellTo_86 hPo
          refine q_iload dX3_tellTo_64 (rfl : 64 + 2 = 66) rfl ?_
          refine q_bipush (v := nI 44) dX3_tellTo_66 (rfl : 66 + 2 = 68) (by decide) ?_
          refine q_icmp_eq (q := 78) dX3_tellTo_68 (by decide) (rfl : 68 + 3 = 71) (fun q44 => ?_) (fun q44 => ?_)
          ·
            exact sep (Or.inl q44)
          ·
            refine q_iload dX3_tellTo_71 (rfl : 71 + 2 = 73) rfl ?_
            refine q_bipush (v := nI 59) dX3_tellTo_73 (rfl : 73 + 2 = 75) (by decide) ?_
            refine q_icmp_ne (q := 85) dX3_tellTo_75 (by decide) (rfl : 75 + 3 = 78) (fun q59 => ?_) (fun q59 => ?_)
            ·
              refine q_iload_n dX3_tellTo_85 (rfl : 85 + 1 = 86) rfl ?_
              have e : scanC f len (k + 1) X p start c g n = (nI start, X) := by
                simp only [scanC, if_neg hs, if_neg hd, if_neg (show ¬ (f p = nI 44 ∨ f p = nI 59) from fun z => z.elim q44 q59)]
              rw [e] at hPo
              exact q_iret rfl dX3_tellTo_86 hPo
            ·
              exact sep (Or.inr q59)
        refine q_iload dX3_tellTo_36 (rfl : 36 + 2 = 38) rfl ?_
        refine q_bipush (v := nI 48) dX3_tellTo_38 (rfl : 38 + 2 = 40) (by decide) ?_
        refine q_icmp_lt (q := 64) dX3_tellTo_40 (by decide) (rfl : 40 + 3 = 43) (fun d1 => ?_) (fun d1 => ?_)
        ·
          exact notdig (fun z => absurd z.1 (Int32.not_le.mpr d1))
        ·
          refine q_iload dX3_tellTo_43 (rfl : 43 + 2 = 45) rfl ?_
          refine q_bipush (v := nI 57) dX3_tellTo_45 (rfl : 45 + 2 = 47) (by decide) ?_
          refine q_icmp_gt (q := 64) dX3_tellTo_47 (by decide) (rfl : 47 + 3 = 50) (fun d2 => ?_) (fun d2 => ?_)
          ·
            exact notdig (fun z => absurd z.2 (Int32.not_le.mpr d2))
          ·
            have hd : nI 48 ≤ f p ∧ f p ≤ nI 57 := ⟨Int32.not_lt.mp d1, Int32.not_lt.mp d2⟩
            refine q_aload_n dX3_tellTo_50 (rfl : 50 + 1 = 51) rfl ?_
            refine q_iload dX3_tellTo_51 (rfl : 51 + 2 = 53) rfl ?_
            refine q_bipush (v := nI 48) dX3_tellTo_53 (rfl : 53 + 2 = 55) (by decide) ?_
            refine q_isub dX3_tellTo_55 (rfl : 55 + 1 = 56) ?_
            refine q_callVI (S_addFigure (d := d + 4) hg hg3) dX3_tellTo_56 (rfl : 56 + 3 = 59) lX3_40 vX3_addFigure (by first | rfl | assumption) rfl rfl (Nat.le_of_ble_eq_true rfl) TM_room TM_cs ?_
            intro x I1 J1 hp
            obtain ⟨rfl, rfl, rfl⟩ := hp
            refine q_if_ne_b (q := 121) dX3_tellTo_59 (by decide) (rfl : 59 + 3 = 62) (fun hb => ?_) (fun hb => ?_)
            ·
              have hb2 : g < 3 := by simpa using hb
              rw [hb]
              show Wm _ _ _ _ _ _ _ _ (figH X g (f p - nI 48)) _ _
              first | refine q_iinc1 dX3_tellTo_121 (rfl : 121 + 3 = 124) rfl (by decide) ?_ | refine q_iinc dX3_tellTo_121 (rfl : 121 + 3 = 124) rfl rfl (by decide) ?_
              refine q_goto (q := 8) dX3_tellTo_124 (by decide) ?_
              have e : scanC f len (k + 1) X p start c g n = scanC f len k (figH X g (f p - nI 48)) (p + 1) start c (g + 1) n := by
                simp only [scanC, if_neg hs, if_pos hd, if_pos hb2]
              rw [e] at hPo
              refine q_forget (L' := [some (.ref 1), some (.ref 10), some (.int (nI start)), some (.int (nI (p + 1))), none]) (by repeat (first | exact trivial | refine And.intro rfl ?_)) ?_
              refine ih _ (p + 1) start c (g + 1) n (by omega) ⟨?_, ?_, ?_, h12, by omega, fun _ => ⟨?_, ?_⟩, hc4, by omega⟩ hPo
              · funext b; rw [figH_o (by omega), h2]
              · rw [figH_o (by omega), hl]
              · rw [figH_o (by omega), hn]
              · rw [figH_o (by omega), hc]
              · simp [figH, wr]
            ·
              have hb2 : ¬ g < 3 := by simpa using hb
              rw [hb]
              show Wm _ _ _ _ _ _ _ _ X _ _
              refine q_iload_n dX3_tellTo_62 (rfl : 62 + 1 = 63) rfl ?_
              have e : scanC f len (k + 1) X p start c g n = (nI start, X) := by
                simp only [scanC, if_neg hs, if_pos hd, if_neg hb2]
              rw [e] at hPo
              exact q_iret rfl dX3_tellTo_63 hPo
      ·
        subst hs
        refine q_aload_n dX3_tellTo_29 (rfl : 29 + 1 = 30) rfl ?_
        refine q_callVV (S_startItem (d := d + 4)) dX3_tellTo_30 (rfl : 30 + 3 = 33) lX3_37 vX3_startItem (by first | rfl | assumption) rfl rfl (Nat.le_of_ble_eq_true rfl) TM_room TM_cs ?_
        intro I1 J1 hp
        obtain ⟨rfl, rfl⟩ := hp
        refine q_goto (q := 121) dX3_tellTo_33 (by decide) ?_
        first | refine q_iinc1 dX3_tellTo_121 (rfl : 121 + 3 = 124) rfl (by decide) ?_ | refine q_iinc dX3_tellTo_121 (rfl : 121 + 3 = 124) rfl rfl (by decide) ?_
        refine q_goto (q := 8) dX3_tellTo_124 (by decide) ?_
        have e : scanC f len (k + 1) X p p c g n = scanC f len k (startH X) (p + 1) p 0 0 n := by
          simp only [scanC, if_true]
        rw [e] at hPo
        refine q_forget (L' := [some (.ref 1), some (.ref 10), some (.int (nI p)), some (.int (nI (p + 1))), none]) (by repeat (first | exact trivial | refine And.intro rfl ?_)) ?_
        refine ih _ (p + 1) p 0 0 n (by omega) ⟨?_, ?_, ?_, h12, by omega, fun _ => ⟨?_, ?_⟩, by omega, by omega⟩ hPo
        · funext b; rw [startH_o (by omega), h2]
        · rw [startH_o (by omega), hl]
        · rw [startH_o (by omega), hn]
        · simp [startH, wr]
        · simp [startH, wr]
theorem forgetT_low {I : HI} {t a : Nat} (h : a < t) : forgetT I t a = I a := by
  funext b
  unfold forgetT fillH
  rw [if_neg (by omega), wr_ne (by omega), wr_ne (by omega), wr_ne (by omega), wr_ne (by omega), wr_ne (by omega), wr_ne (by omega)]
theorem forgetT_5 {I : HI} {t : Nat} : forgetT I t t 5 = nI 0 := by
  unfold forgetT fillH
  rw [if_neg (by omega)]
  simp [wr]
theorem S_tellTo {d len : Nat} {I : HI} {J : HJ} (hl : I 1 1 = nI len) (h400 : len ≤ 400) : MI mX3_tellTo (d + 5) [.ref 1, .ref 10] shA I J RA (fun x I' J' => (x, I') = scanC (I 2) len len (forgetT I 10) 0 0 0 0 0 ∧ J' = J) := by
  refine Mt.of (L := [some (.ref 1), some (.ref 10), none, none, none]) (by decide +kernel) (Nat.le_of_ble_eq_true rfl) rfl ?_
  refine q_aload_n dX3_tellTo_0 (rfl : 0 + 1 = 1) rfl ?_
  refine q_callVV (S_forget (d := d + 3) toldA10) dX3_tellTo_1 (rfl : 1 + 3 = 4) lX3_32 vX5_forget (by first | rfl | assumption) rfl rfl (Nat.le_of_ble_eq_true rfl) TM_room TM_cs ?_
  intro I1 J1 hp
  obtain ⟨rfl, rfl⟩ := hp
  refine q_iconst (v := nI 0) dX3_tellTo_4 (rfl : 4 + 1 = 5) (by decide) ?_
  refine q_istore_n dX3_tellTo_5 (rfl : 5 + 1 = 6) (by decide) ?_
  refine q_iconst (v := nI 0) dX3_tellTo_6 (rfl : 6 + 1 = 7) (by decide) ?_
  refine q_istore_n dX3_tellTo_7 (rfl : 7 + 1 = 8) (by decide) ?_
  refine q_forget (L' := [some (.ref 1), some (.ref 10), some (.int (nI 0)), some (.int (nI 0)), none]) (by repeat (first | exact trivial | refine And.intro rfl ?_)) ?_
  refine L_tellTo h400 len _ 0 0 0 0 0 (by omega) ⟨forgetT_low (by omega), ?_, forgetT_5, by omega, by omega, fun z => by omega, by omega, by omega⟩ ⟨rfl, rfl, _, rfl, rfl, rfl⟩
  rw [forgetT_low (by omega), hl]
