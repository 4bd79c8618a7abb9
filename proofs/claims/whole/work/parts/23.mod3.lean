/-! the reference: what an item tells -/
def drt (a b : Nat) : Prop := (a = 46 ∧ 5 ≤ b) ∨ (a = 47 ∧ b = 1) ∨ (a = 48 ∧ 48 ≤ b) ∨ (a = 49 ∧ 100 ≤ b) ∨ a = 63 ∨ (a = 44 ∧ b = 2)
def Fr (I I' : HI) : Prop := ∀ a b, ¬ drt a b → I' a b = I a b
theorem Fr.rf {I : HI} : Fr I I := fun _ _ _ => rfl
theorem Fr.st {I I' : HI} {p k : Nat} {v : Int32} (h : Fr I I') (hd : drt p k) : Fr I (wr I' p k v) := by
  intro a b hab
  rw [← h a b hab]
  unfold wr
  by_cases h1 : a = p
  · by_cases h2 : b = k
    · subst h1 h2
      exact absurd hd hab
    · simp [h1, h2]
  · simp [h1]
theorem Fr.trans {I I' I'' : HI} (h : Fr I I') (h2 : Fr I' I'') : Fr I I'' := fun a b hab => (h2 a b hab).trans (h a b hab)
theorem S_isIn {d k : Nat} {I : HI} {J : HJ} {a b : Int32} (hk : k < 4) : MIp mX7_isIn (d + 1) [.ref 44, .int (nI k), .int a, .int b] shA I J RA (bI (inr (I 63 k) a b)) := by
  refine Mt.of (L := [some (.ref 44), some (.int (nI k)), some (.int a), some (.int b)]) (by decide +kernel) (Nat.le_of_ble_eq_true rfl) rfl ?_
  refine q_aload_n dX7_isIn_0 (rfl : 0 + 1 = 1) rfl ?_
  refine q_getR dX7_isIn_1 (rfl : 1 + 3 = 4) fX7_66 (by first | rfl | assumption) (by first | rfl | assumption) ?_
  refine q_iload_n dX7_isIn_4 (rfl : 4 + 1 = 5) rfl ?_
  refine q_iald dX7_isIn_5 (rfl : 5 + 1 = 6) (by first | rfl | assumption) (by first | assumption | omega) (by decide) ?_
  refine q_i2l dX7_isIn_6 (rfl : 6 + 1 = 7) ?_
  refine q_iload_n dX7_isIn_7 (rfl : 7 + 1 = 8) rfl ?_
  refine q_i2l dX7_isIn_8 (rfl : 8 + 1 = 9) ?_
  refine q_iload_n dX7_isIn_9 (rfl : 9 + 1 = 10) rfl ?_
  refine q_i2l dX7_isIn_10 (rfl : 10 + 1 = 11) ?_
  refine q_callSIp (S_inI (x := I 63 k) (a := a) (b := b) rfl rfl rfl) dX7_isIn_11 (rfl : 11 + 3 = 14) lX7_77 vX7_in rfl rfl (Nat.le_of_ble_eq_true rfl) TM_room TM_cs ?_
  refine q_zret rfl dX7_isIn_14 (by first | exact bI_01 _ | exact Or.inl rfl | exact Or.inr rfl) ⟨rfl, rfl, _, rfl, ?_⟩
  exact ⟨rfl, rfl, rfl⟩
def leastF (I : HI) (n : Nat) : Int32 := if n = 0 then nI 0 else I 48 (44 + 4 * n)
def goodB (I : HI) (n : Nat) (l : Int32) (g : Nat → Int32) : Bool :=
  if l = nI 98 then inr (g 0) (nI 1) (nI 999) && inr (g 1) (nI 1) (nI 99)
  else if l = nI 102 then (inr (g 0) (leastF I n) (nI 99) && inr (g 1) (nI 1) (nI 20) && inr (g 2) (nI 1) (nI 9) && inr (g 3) (nI 0) (nI 9)) && decide (n < 12)
  else if l = nI 112 then inr (g 0) (nI 0) (nI 99) && inr (g 1) (nI 0) (nI 99)
  else if l = nI 116 then inr (g 0) (nI 1) (nI 50) else if l = nI 115 then inr (g 0) (nI 0) (nI 4) else inr (g 0) (nI 0) (nI 9)
def mfH (I : HI) (n : Nat) (g : Nat → Int32) (k : Nat) : HI := fun a b => if a = 48 ∧ 48 + 4 * n ≤ b ∧ b < 48 + 4 * n + k then g (b - (48 + 4 * n)) else I a b
theorem mfH_0 (I : HI) (n : Nat) (g : Nat → Int32) : mfH I n g 0 = I := by
  funext a b
  unfold mfH
  rw [if_neg (by omega)]
theorem mfH_s (I : HI) (n : Nat) (g : Nat → Int32) (k : Nat) : wr (mfH I n g k) 48 (48 + 4 * n + k) (g k) = mfH I n g (k + 1) := by
  funext a b
  unfold mfH wr
  by_cases h : a = 48
  · subst h
    by_cases hb : b = 48 + 4 * n + k
    · subst hb
      rw [if_pos rfl, if_pos rfl, if_pos (by omega)]
      congr 1
      omega
    · by_cases h2 : 48 + 4 * n ≤ b ∧ b < 48 + 4 * n + k
      · simp [hb, h2, show b < 48 + 4 * n + (k + 1) by omega]
      · simp [hb, h2, show ¬ (48 + 4 * n ≤ b ∧ b < 48 + 4 * n + (k + 1)) by omega]
  · simp [h]
theorem mfH_o (I : HI) (n : Nat) (g : Nat → Int32) (k a : Nat) (h : a ≠ 48) : mfH I n g k a = I a := by
  funext b
  simp [mfH, h]
theorem mfH_Fr (I : HI) (n : Nat) (g : Nat → Int32) (k : Nat) : Fr I (mfH I n g k) := by
  intro a b h
  unfold mfH
  rw [if_neg]
  intro z
  exact h (Or.inr (Or.inr (Or.inl ⟨z.1, by omega⟩)))
def goodH (I : HI) (n : Nat) (l : Int32) (g : Nat → Int32) : HI :=
  if l = nI 98 then wr (wr I 46 5 (g 0)) 46 6 (g 1)
  else if l = nI 102 then wr (mfH I n g 4) 47 1 (nI (n + 1))
  else if l = nI 112 then wr I 49 (100 + (g 0).toNatClampNeg) (g 1)
  else wr I 46 (if l = nI 116 then 7 else if l = nI 115 then 8 else 9) (g 0)
def goodP (I : HI) (J : HJ) (n : Nat) (l : Int32) : Int32 → HI → HJ → Prop := fun x I' J' => x = bI (goodB I n l (I 63)) ∧ Fr I I' ∧ J' = J ∧ (goodB I n l (I 63) = true → I' = goodH I n l (I 63))
theorem L_good {T : Tg} {I : HI} {J : HJ} {n : Nat} {l c : Int32} (h12 : n < 12) (K : Wm mX7_isGood T 0 0 shA 190 [some (.ref 44), some (.int l), some (.int (nI (48 + 4 * n))), some (.int c), some (.int (nI 4))] [] (mfH I n (I 63) 4) J RA) :
    ∀ (k : Nat), k ≤ 4 → Wm mX7_isGood T 0 0 shA 162 [some (.ref 44), some (.int l), some (.int (nI (48 + 4 * n))), some (.int c), some (.int (nI k))] [] (mfH I n (I 63) k) J RA := by
  refine loopN (fun k hk ih => ?_)
  have e63 : mfH I n (I 63) k 63 = I 63 := mfH_o _ _ _ _ _ (by omega)
  refine q_iload dX7_isGood_162 (rfl : 162 + 2 = 164) rfl ?_
  refine q_iconst (v := nI 4) dX7_isGood_164 (rfl : 164 + 1 = 165) (by decide) ?_
  refine q_icmp_ge_n (q := 190) (by omega) (by omega) dX7_isGood_165 (by decide) (rfl : 165 + 3 = 168) (fun h => ?_) (fun h => ?_)
  · obtain rfl : k = 4 := by omega
    exact K
  ·
    refine q_aload_n dX7_isGood_168 (rfl : 168 + 1 = 169) rfl ?_
    refine q_getR dX7_isGood_169 (rfl : 169 + 3 = 172) fX7_20 (by first | rfl | assumption) (by first | rfl | assumption) ?_
    refine q_iload_n dX7_isGood_172 (rfl : 172 + 1 = 173) rfl ?_
    refine q_iload dX7_isGood_173 (rfl : 173 + 2 = 175) rfl ?_
    refine q_iadd dX7_isGood_175 (rfl : 175 + 1 = 176) ?_
    try simp (disch := omega) only [wr_hit, wr_p, wr_k, nI_add, pk_mul, nI_1, nI_s1, pk_sub, Nat.add_sub_cancel]
    refine q_aload_n dX7_isGood_176 (rfl : 176 + 1 = 177) rfl ?_
    refine q_getR dX7_isGood_177 (rfl : 177 + 3 = 180) fX7_66 (by first | rfl | assumption) (by first | rfl | assumption) ?_
    refine q_iload dX7_isGood_180 (rfl : 180 + 2 = 182) rfl ?_
    refine q_iald dX7_isGood_182 (rfl : 182 + 1 = 183) (by first | rfl | assumption) (by first | assumption | omega) (by decide) ?_
    try simp (disch := omega) only [wr_hit, wr_p, wr_k, nI_add, pk_mul, nI_1, nI_s1, pk_sub, Nat.add_sub_cancel]
    refine q_iast dX7_isGood_183 (rfl : 183 + 1 = 184) (by first | rfl | assumption) (by first | assumption | omega) (by decide) ?_
    first | refine q_iinc1 dX7_isGood_184 (rfl : 184 + 3 = 187) rfl (by decide) ?_ | refine q_iinc dX7_isGood_184 (rfl : 184 + 3 = 187) rfl rfl (by decide) ?_
    refine q_goto (q := 162) dX7_isGood_187 (by decide) ?_
    rw [e63, mfH_s]
    exact ih h
theorem S_isGood {d n : Nat} {I : HI} {J : HJ} {l : Int32} (hn : I 47 1 = nI n) (h12 : n ≤ 12) : MI mX7_isGood (d + 2) [.ref 44, .int l] shA I J RA (goodP I J n l) := by
  refine Mt.of (L := [some (.ref 44), some (.int l), none, none, none]) (by decide +kernel) (Nat.le_of_ble_eq_true rfl) rfl ?_
  refine q_iload_n dX7_isGood_0 (rfl : 0 + 1 = 1) rfl ?_
  refine q_bipush (v := nI 98) dX7_isGood_1 (rfl : 1 + 2 = 3) (by decide) ?_
  refine q_icmp_ne (q := 60) dX7_isGood_3 (by decide) (rfl : 3 + 3 = 6) (fun h98 => ?_) (fun h98 => ?_)
  ·
    refine q_iload_n dX7_isGood_60 (rfl : 60 + 1 = 61) rfl ?_
    refine q_bipush (v := nI 102) dX7_isGood_61 (rfl : 61 + 2 = 63) (by decide) ?_
    refine q_icmp_ne (q := 202) dX7_isGood_63 (by decide) (rfl : 63 + 3 = 66) (fun h102 => ?_) (fun h102 => ?_)
    ·
      refine q_iload_n dX7_isGood_202 (rfl : 202 + 1 = 203) rfl ?_
      refine q_bipush (v := nI 112) dX7_isGood_203 (rfl : 203 + 2 = 205) (by decide) ?_
      refine q_icmp_ne (q := 250) dX7_isGood_205 (by decide) (rfl : 205 + 3 = 208) (fun h112 => ?_) (fun h112 => ?_)
      ·
        have fin : ∀ (k : Nat) (lo hi : Nat), (l = nI 116 ∧ k = 7 ∧ lo = 1 ∧ hi = 50) ∨ (l = nI 115 ∧ k = 8 ∧ lo = 0 ∧ hi = 4) ∨ (¬ l = nI 116 ∧ ¬ l = nI 115 ∧ k = 9 ∧ lo = 0 ∧ hi = 9) → goodP I J n l (bI (inr (wr I 46 k (I 63 0) 63 0) (nI lo) (nI hi))) (wr I 46 k (I 63 0)) J := by
          intro k lo hi h
          have e : wr I 46 k (I 63 0) 63 0 = I 63 0 := by rw [wr_ne (by omega)]
          have e1 : goodB I n l (I 63) = inr (I 63 0) (nI lo) (nI hi) := by
            unfold goodB
            rw [if_neg h98, if_neg h102, if_neg h112]
            rcases h with ⟨rfl, rfl, rfl, rfl⟩ | ⟨rfl, rfl, rfl, rfl⟩ | ⟨a1, a2, rfl, rfl, rfl⟩
            · rw [if_pos rfl]
            · rw [if_neg (by decide), if_pos rfl]
            · rw [if_neg a1, if_neg a2]
          have e2 : goodH I n l (I 63) = wr I 46 k (I 63 0) := by
            unfold goodH
            rw [if_neg h98, if_neg h102, if_neg h112]
            rcases h with ⟨rfl, rfl, rfl, rfl⟩ | ⟨rfl, rfl, rfl, rfl⟩ | ⟨a1, a2, rfl, rfl, rfl⟩
            · rw [if_pos rfl]
            · rw [if_neg (by decide), if_pos rfl]
            · rw [if_neg a1, if_neg a2]
          refine ⟨by rw [e, e1], Fr.rf.st (Or.inl ⟨rfl, ?_⟩), rfl, fun _ => e2.symm⟩
          rcases h with h | h | h <;> omega
        refine q_aload_n dX7_isGood_250 (rfl : 250 + 1 = 251) rfl ?_
        refine q_getR dX7_isGood_251 (rfl : 251 + 3 = 254) fX7_13 (by first | rfl | assumption) (by first | rfl | assumption) ?_
        refine q_iload_n dX7_isGood_254 (rfl : 254 + 1 = 255) rfl ?_
        refine q_bipush (v := nI 116) dX7_isGood_255 (rfl : 255 + 2 = 257) (by decide) ?_
        refine q_icmp_ne (q := 265) dX7_isGood_257 (by decide) (rfl : 257 + 3 = 260) (fun h116 => ?_) (fun h116 => ?_)
        ·
          refine q_iload_n dX7_isGood_265 (rfl : 265 + 1 = 266) rfl ?_
          refine q_bipush (v := nI 115) dX7_isGood_266 (rfl : 266 + 2 = 268) (by decide) ?_
          refine q_icmp_ne (q := 276) dX7_isGood_268 (by decide) (rfl : 268 + 3 = 271) (fun h115 => ?_) (fun h115 => ?_)
          ·
            refine q_bipush (v := nI 9) dX7_isGood_276 (rfl : 276 + 2 = 278) (by decide) ?_
            refine q_aload_n dX7_isGood_278 (rfl : 278 + 1 = 279) rfl ?_
            refine q_getR dX7_isGood_279 (rfl : 279 + 3 = 282) fX7_66 (by first | rfl | assumption) (by first | rfl | assumption) ?_
            refine q_iconst (v := nI 0) dX7_isGood_282 (rfl : 282 + 1 = 283) (by decide) ?_
            refine q_iald (j := 0) dX7_isGood_283 (rfl : 283 + 1 = 284) (by first | rfl | assumption) (by decide) (by decide) ?_
            refine q_iast (j := 9) dX7_isGood_284 (rfl : 284 + 1 = 285) (by first | rfl | assumption) (by decide) (by decide) ?_
            refine q_iload_n dX7_isGood_285 (rfl : 285 + 1 = 286) rfl ?_
            refine q_bipush (v := nI 116) dX7_isGood_286 (rfl : 286 + 2 = 288) (by decide) ?_
            refine q_icmp_ne (q := 302) dX7_isGood_288 (by decide) (rfl : 288 + 3 = 291) (fun g116 => ?_) (fun g116 => ?_)
            ·
              refine q_iload_n dX7_isGood_302 (rfl : 302 + 1 = 303) rfl ?_
              refine q_bipush (v := nI 115) dX7_isGood_303 (rfl : 303 + 2 = 305) (by decide) ?_
              refine q_icmp_ne (q := 318) dX7_isGood_305 (by decide) (rfl : 305 + 3 = 308) (fun g115 => ?_) (fun g115 => ?_)
              ·
                refine q_aload_n dX7_isGood_318 (rfl : 318 + 1 = 319) rfl ?_
                refine q_iconst (v := nI 0) dX7_isGood_319 (rfl : 319 + 1 = 320) (by decide) ?_
                refine q_iconst (v := nI 0) dX7_isGood_320 (rfl : 320 + 1 = 321) (by decide) ?_
                refine q_bipush (v := nI 9) dX7_isGood_321 (rfl : 321 + 2 = 323) (by decide) ?_
                refine q_callVIp (S_isIn (k := 0) (by omega)) dX7_isGood_323 (rfl : 323 + 3 = 326) lX7_106 vX7_isIn (by first | rfl | assumption) rfl rfl (Nat.le_of_ble_eq_true rfl) TM_room TM_cs ?_
                refine q_zret rfl dX7_isGood_326 (bI_01 _) ⟨rfl, rfl, _, rfl, ?_⟩
                exact fin 9 0 9 (Or.inr (Or.inr ⟨h116, h115, rfl, rfl, rfl⟩))
              ·
                exact absurd g115 h115
            ·
              exact absurd g116 h116
          ·
            refine q_bipush (v := nI 8) dX7_isGood_271 (rfl : 271 + 2 = 273) (by decide) ?_
            refine q_goto (q := 278) dX7_isGood_273 (by decide) ?_
            refine q_aload_n dX7_isGood_278 (rfl : 278 + 1 = 279) rfl ?_
            refine q_getR dX7_isGood_279 (rfl : 279 + 3 = 282) fX7_66 (by first | rfl | assumption) (by first | rfl | assumption) ?_
            refine q_iconst (v := nI 0) dX7_isGood_282 (rfl : 282 + 1 = 283) (by decide) ?_
            refine q_iald (j := 0) dX7_isGood_283 (rfl : 283 + 1 = 284) (by first | rfl | assumption) (by decide) (by decide) ?_
            refine q_iast (j := 8) dX7_isGood_284 (rfl : 284 + 1 = 285) (by first | rfl | assumption) (by decide) (by decide) ?_
            refine q_iload_n dX7_isGood_285 (rfl : 285 + 1 = 286) rfl ?_
            refine q_bipush (v := nI 116) dX7_isGood_286 (rfl : 286 + 2 = 288) (by decide) ?_
            refine q_icmp_ne (q := 302) dX7_isGood_288 (by decide) (rfl : 288 + 3 = 291) (fun g116 => ?_) (fun g116 => ?_)
            ·
              refine q_iload_n dX7_isGood_302 (rfl : 302 + 1 = 303) rfl ?_
              refine q_bipush (v := nI 115) dX7_isGood_303 (rfl : 303 + 2 = 305) (by decide) ?_
              refine q_icmp_ne (q := 318) dX7_isGood_305 (by decide) (rfl : 305 + 3 = 308) (fun g115 => ?_) (fun g115 => ?_)
              · exact absurd h115 g115
              ·
                refine q_aload_n dX7_isGood_308 (rfl : 308 + 1 = 309) rfl ?_
                refine q_iconst (v := nI 0) dX7_isGood_309 (rfl : 309 + 1 = 310) (by decide) ?_
                refine q_iconst (v := nI 0) dX7_isGood_310 (rfl : 310 + 1 = 311) (by decide) ?_
                refine q_iconst (v := nI 4) dX7_isGood_311 (rfl : 311 + 1 = 312) (by decide) ?_
                refine q_callVIp (S_isIn (k := 0) (by omega)) dX7_isGood_312 (rfl : 312 + 3 = 315) lX7_106 vX7_isIn (by first | rfl | assumption) rfl rfl (Nat.le_of_ble_eq_true rfl) TM_room TM_cs ?_
                refine q_goto (q := 326) dX7_isGood_315 (by decide) ?_
                refine q_zret rfl dX7_isGood_326 (bI_01 _) ⟨rfl, rfl, _, rfl, ?_⟩
                exact fin 8 0 4 (Or.inr (Or.inl ⟨h115, rfl, rfl, rfl⟩))
            ·
              exact absurd g116 h116
        ·
          refine q_bipush (v := nI 7) dX7_isGood_260 (rfl : 260 + 2 = 262) (by decide) ?_
          refine q_goto (q := 278) dX7_isGood_262 (by decide) ?_
          refine q_aload_n dX7_isGood_278 (rfl : 278 + 1 = 279) rfl ?_
          refine q_getR dX7_isGood_279 (rfl : 279 + 3 = 282) fX7_66 (by first | rfl | assumption) (by first | rfl | assumption) ?_
          refine q_iconst (v := nI 0) dX7_isGood_282 (rfl : 282 + 1 = 283) (by decide) ?_
          refine q_iald (j := 0) dX7_isGood_283 (rfl : 283 + 1 = 284) (by first | rfl | assumption) (by decide) (by decide) ?_
          refine q_iast (j := 7) dX7_isGood_284 (rfl : 284 + 1 = 285) (by first | rfl | assumption) (by decide) (by decide) ?_
          refine q_iload_n dX7_isGood_285 (rfl : 285 + 1 = 286) rfl ?_
          refine q_bipush (v := nI 116) dX7_isGood_286 (rfl : 286 + 2 = 288) (by decide) ?_
          refine q_icmp_ne (q := 302) dX7_isGood_288 (by decide) (rfl : 288 + 3 = 291) (fun g116 => ?_) (fun g116 => ?_)
          · exact absurd h116 g116
          ·
            refine q_aload_n dX7_isGood_291 (rfl : 291 + 1 = 292) rfl ?_
            refine q_iconst (v := nI 0) dX7_isGood_292 (rfl : 292 + 1 = 293) (by decide) ?_
            refine q_iconst (v := nI 1) dX7_isGood_293 (rfl : 293 + 1 = 294) (by decide) ?_
            refine q_bipush (v := nI 50) dX7_isGood_294 (rfl : 294 + 2 = 296) (by decide) ?_
            refine q_callVIp (S_isIn (k := 0) (by omega)) dX7_isGood_296 (rfl : 296 + 3 = 299) lX7_106 vX7_isIn (by first | rfl | assumption) rfl rfl (Nat.le_of_ble_eq_true rfl) TM_room TM_cs ?_
            refine q_goto (q := 326) dX7_isGood_299 (by decide) ?_
            refine q_zret rfl dX7_isGood_326 (bI_01 _) ⟨rfl, rfl, _, rfl, ?_⟩
            exact fin 7 1 50 (Or.inl ⟨h116, rfl, rfl, rfl⟩)
      ·
        have e1 : goodB I n l (I 63) = (inr (I 63 0) (nI 0) (nI 99) && inr (I 63 1) (nI 0) (nI 99)) := by
          unfold goodB
          rw [if_neg h98, if_neg h102, if_pos h112]
        have e2 : goodH I n l (I 63) = wr I 49 (100 + (I 63 0).toNatClampNeg) (I 63 1) := by
          unfold goodH
          rw [if_neg h98, if_neg h102, if_pos h112]
        refine q_aload_n dX7_isGood_208 (rfl : 208 + 1 = 209) rfl ?_
        refine q_iconst (v := nI 0) dX7_isGood_209 (rfl : 209 + 1 = 210) (by decide) ?_
        refine q_iconst (v := nI 0) dX7_isGood_210 (rfl : 210 + 1 = 211) (by decide) ?_
        refine q_bipush (v := nI 99) dX7_isGood_211 (rfl : 211 + 2 = 213) (by decide) ?_
        refine q_callVIp (S_isIn (d := d) (k := 0) (by omega)) dX7_isGood_213 (rfl : 213 + 3 = 216) lX7_106 vX7_isIn (by first | rfl | assumption) rfl rfl (Nat.le_of_ble_eq_true rfl) TM_room TM_cs ?_
        refine q_if_ne_b (q := 221) dX7_isGood_216 (by decide) (rfl : 216 + 3 = 219) (fun h1 => ?_) (fun h1 => ?_)
        ·
          obtain ⟨j, hj, e0⟩ := inr_nI (by decide) h1
          rw [e0, nI_clamp (by omega)] at e2
          refine q_aload_n dX7_isGood_221 (rfl : 221 + 1 = 222) rfl ?_
          refine q_getR dX7_isGood_222 (rfl : 222 + 3 = 225) fX7_23 (by first | rfl | assumption) (by first | rfl | assumption) ?_
          refine q_bipush (v := nI 100) dX7_isGood_225 (rfl : 225 + 2 = 227) (by decide) ?_
          refine q_aload_n dX7_isGood_227 (rfl : 227 + 1 = 228) rfl ?_
          refine q_getR dX7_isGood_228 (rfl : 228 + 3 = 231) fX7_66 (by first | rfl | assumption) (by first | rfl | assumption) ?_
          refine q_iconst (v := nI 0) dX7_isGood_231 (rfl : 231 + 1 = 232) (by decide) ?_
          refine q_iald (j := 0) dX7_isGood_232 (rfl : 232 + 1 = 233) (by first | rfl | assumption) (by decide) (by decide) ?_
          try simp (disch := omega) only [wr_hit, wr_p, wr_k, nI_add, pk_mul, nI_1, nI_s1, pk_sub, Nat.add_sub_cancel, e0]
          refine q_iadd dX7_isGood_233 (rfl : 233 + 1 = 234) ?_
          try simp (disch := omega) only [wr_hit, wr_p, wr_k, nI_add, pk_mul, nI_1, nI_s1, pk_sub, Nat.add_sub_cancel, e0]
          refine q_aload_n dX7_isGood_234 (rfl : 234 + 1 = 235) rfl ?_
          refine q_getR dX7_isGood_235 (rfl : 235 + 3 = 238) fX7_66 (by first | rfl | assumption) (by first | rfl | assumption) ?_
          refine q_iconst (v := nI 1) dX7_isGood_238 (rfl : 238 + 1 = 239) (by decide) ?_
          refine q_iald (j := 1) dX7_isGood_239 (rfl : 239 + 1 = 240) (by first | rfl | assumption) (by decide) (by decide) ?_
          try simp (disch := omega) only [wr_hit, wr_p, wr_k, nI_add, pk_mul, nI_1, nI_s1, pk_sub, Nat.add_sub_cancel, e0]
          refine q_iast dX7_isGood_240 (rfl : 240 + 1 = 241) (by first | rfl | assumption) (by first | assumption | omega) (by decide) ?_
          refine q_aload_n dX7_isGood_241 (rfl : 241 + 1 = 242) rfl ?_
          refine q_iconst (v := nI 1) dX7_isGood_242 (rfl : 242 + 1 = 243) (by decide) ?_
          refine q_iconst (v := nI 0) dX7_isGood_243 (rfl : 243 + 1 = 244) (by decide) ?_
          refine q_bipush (v := nI 99) dX7_isGood_244 (rfl : 244 + 2 = 246) (by decide) ?_
          refine q_callVIp (S_isIn (k := 1) (by omega)) dX7_isGood_246 (rfl : 246 + 3 = 249) lX7_106 vX7_isIn (by first | rfl | assumption) rfl rfl (Nat.le_of_ble_eq_true rfl) TM_room TM_cs ?_
          refine q_zret rfl dX7_isGood_249 (by first | exact bI_01 _ | exact Or.inl rfl | exact Or.inr rfl) ⟨rfl, rfl, _, rfl, ?_⟩
          rw [wr_ne (by omega)]
          refine ⟨by rw [e1, h1]; rfl, Fr.rf.st (Or.inr (Or.inr (Or.inr (Or.inl ⟨rfl, by omega⟩)))), rfl, fun _ => e2.symm⟩
        ·
          refine q_iconst (v := nI 0) dX7_isGood_219 (rfl : 219 + 1 = 220) (by decide) ?_
          refine q_zret rfl dX7_isGood_220 (by first | exact bI_01 _ | exact Or.inl rfl | exact Or.inr rfl) ⟨rfl, rfl, _, rfl, ?_⟩
          refine ⟨by rw [e1, h1]; rfl, Fr.rf, rfl, fun z => ?_⟩
          rw [e1, h1] at z
          cases z
    ·
      have e1 : goodB I n l (I 63) = ((inr (I 63 0) (leastF I n) (nI 99) && inr (I 63 1) (nI 1) (nI 20) && inr (I 63 2) (nI 1) (nI 9) && inr (I 63 3) (nI 0) (nI 9)) && decide (n < 12)) := by
        unfold goodB
        rw [if_neg h98, if_pos h102]
      have e2 : goodH I n l (I 63) = wr (mfH I n (I 63) 4) 47 1 (nI (n + 1)) := by
        unfold goodH
        rw [if_neg h98, if_pos h102]
      have no : goodB I n l (I 63) = false → goodP I J n l (bI false) I J := by
        intro z
        refine ⟨by rw [z], Fr.rf, rfl, fun q => ?_⟩
        rw [z] at q
        cases q
      have rest : Wm mX7_isGood (TM (d + 2) 0 0 false shA.length (fun sh' w I' J' R' => sh' = shA ∧ R' = RA ∧ ∃ x : Int32, w = some (.int x) ∧ goodP I J n l x I' J')) 0 0 shA 101 [some (.ref 44), some (.int l), some (.int (nI (48 + 4 * n))), none, none] [.int (leastF I n)] I J RA := by
        refine q_istore_n dX7_isGood_101 (rfl : 101 + 1 = 102) (by decide) ?_
        refine q_aload_n dX7_isGood_102 (rfl : 102 + 1 = 103) rfl ?_
        refine q_iconst (v := nI 0) dX7_isGood_103 (rfl : 103 + 1 = 104) (by decide) ?_
        refine q_iload_n dX7_isGood_104 (rfl : 104 + 1 = 105) rfl ?_
        refine q_bipush (v := nI 99) dX7_isGood_105 (rfl : 105 + 2 = 107) (by decide) ?_
        have bad : goodB I n l (I 63) = false → Wm mX7_isGood (TM (d + 2) 0 0 false shA.length (fun sh' w I' J' R' => sh' = shA ∧ R' = RA ∧ ∃ x : Int32, w = some (.int x) ∧ goodP I J n l x I' J')) 0 0 shA 157 [some (.ref 44), some (.int l), some (.int (nI (48 + 4 * n))), some (.int (leastF I n)), none] [] I J RA := by
          intro hb
          refine q_iconst (v := nI 0) dX7_isGood_157 (rfl : 157 + 1 = 158) (by decide) ?_
          refine q_zret rfl dX7_isGood_158 (by first | exact bI_01 _ | exact Or.inl rfl | exact Or.inr rfl) ⟨rfl, rfl, _, rfl, ?_⟩
          exact no hb
        refine q_callVIp (S_isIn (d := d) (k := 0) (by omega)) dX7_isGood_107 (rfl : 107 + 3 = 110) lX7_106 vX7_isIn (by first | rfl | assumption) rfl rfl (Nat.le_of_ble_eq_true rfl) TM_room TM_cs ?_
        refine q_if_eq_b (q := 157) dX7_isGood_110 (by decide) (rfl : 110 + 3 = 113) (fun a0 => ?_) (fun a0 => ?_)
        ·
          exact bad (by rw [e1, a0]; rfl)
        ·
          refine q_aload_n dX7_isGood_113 (rfl : 113 + 1 = 114) rfl ?_
          refine q_iconst (v := nI 1) dX7_isGood_114 (rfl : 114 + 1 = 115) (by decide) ?_
          refine q_iconst (v := nI 1) dX7_isGood_115 (rfl : 115 + 1 = 116) (by decide) ?_
          refine q_bipush (v := nI 20) dX7_isGood_116 (rfl : 116 + 2 = 118) (by decide) ?_
          refine q_callVIp (S_isIn (d := d) (k := 1) (by omega)) dX7_isGood_118 (rfl : 118 + 3 = 121) lX7_106 vX7_isIn (by first | rfl | assumption) rfl rfl (Nat.le_of_ble_eq_true rfl) TM_room TM_cs ?_
          refine q_if_eq_b (q := 157) dX7_isGood_121 (by decide) (rfl : 121 + 3 = 124) (fun a1 => ?_) (fun a1 => ?_)
          ·
            exact bad (by rw [e1, a0, a1]; rfl)
          ·
            refine q_aload_n dX7_isGood_124 (rfl : 124 + 1 = 125) rfl ?_
            refine q_iconst (v := nI 2) dX7_isGood_125 (rfl : 125 + 1 = 126) (by decide) ?_
            refine q_iconst (v := nI 1) dX7_isGood_126 (rfl : 126 + 1 = 127) (by decide) ?_
            refine q_bipush (v := nI 9) dX7_isGood_127 (rfl : 127 + 2 = 129) (by decide) ?_
            refine q_callVIp (S_isIn (d := d) (k := 2) (by omega)) dX7_isGood_129 (rfl : 129 + 3 = 132) lX7_106 vX7_isIn (by first | rfl | assumption) rfl rfl (Nat.le_of_ble_eq_true rfl) TM_room TM_cs ?_
            refine q_if_eq_b (q := 157) dX7_isGood_132 (by decide) (rfl : 132 + 3 = 135) (fun a2 => ?_) (fun a2 => ?_)
            ·
              exact bad (by rw [e1, a0, a1, a2]; rfl)
            ·
              refine q_aload_n dX7_isGood_135 (rfl : 135 + 1 = 136) rfl ?_
              refine q_iconst (v := nI 3) dX7_isGood_136 (rfl : 136 + 1 = 137) (by decide) ?_
              refine q_iconst (v := nI 0) dX7_isGood_137 (rfl : 137 + 1 = 138) (by decide) ?_
              refine q_bipush (v := nI 9) dX7_isGood_138 (rfl : 138 + 2 = 140) (by decide) ?_
              refine q_callVIp (S_isIn (d := d) (k := 3) (by omega)) dX7_isGood_140 (rfl : 140 + 3 = 143) lX7_106 vX7_isIn (by first | rfl | assumption) rfl rfl (Nat.le_of_ble_eq_true rfl) TM_room TM_cs ?_
              refine q_if_eq_b (q := 157) dX7_isGood_143 (by decide) (rfl : 143 + 3 = 146) (fun a3 => ?_) (fun a3 => ?_)
              ·
                exact bad (by rw [e1, a0, a1, a2, a3]; rfl)
              ·
                refine q_aload_n dX7_isGood_146 (rfl : 146 + 1 = 147) rfl ?_
                refine q_getR dX7_isGood_147 (rfl : 147 + 3 = 150) fX7_17 (by first | rfl | assumption) (by first | rfl | assumption) ?_
                refine q_iconst (v := nI 1) dX7_isGood_150 (rfl : 150 + 1 = 151) (by decide) ?_
                refine q_iald (j := 1) dX7_isGood_151 (rfl : 151 + 1 = 152) (by first | rfl | assumption) (by decide) (by decide) ?_
                try simp (disch := omega) only [wr_hit, wr_p, wr_k, nI_add, pk_mul, nI_1, nI_s1, pk_sub, Nat.add_sub_cancel, hn]
                refine q_bipush (v := nI 12) dX7_isGood_152 (rfl : 152 + 2 = 154) (by decide) ?_
                refine q_icmp_ne_n (q := 159) (by omega) (by omega) dX7_isGood_154 (by decide) (rfl : 154 + 3 = 157) (fun a4 => ?_) (fun a4 => ?_)
                ·
                  have hlt : n < 12 := by omega
                  refine q_iconst (v := nI 0) dX7_isGood_159 (rfl : 159 + 1 = 160) (by decide) ?_
                  refine q_istore dX7_isGood_160 (rfl : 160 + 2 = 162) (by decide) ?_
                  have key := L_good (T := TM (d + 2) 0 0 false shA.length (fun sh' w I' J' R' => sh' = shA ∧ R' = RA ∧ ∃ x : Int32, w = some (.int x) ∧ goodP I J n l x I' J')) (I := I) (J := J) (l := l) (c := leastF I n) hlt ?_ 0 (by omega)
                  · rw [mfH_0] at key
                    exact key
                  have e47 : mfH I n (I 63) 4 47 1 = nI n := by rw [mfH_o _ _ _ _ _ (by omega), hn]
                  refine q_aload_n dX7_isGood_190 (rfl : 190 + 1 = 191) rfl ?_
                  refine q_getR dX7_isGood_191 (rfl : 191 + 3 = 194) fX7_17 (by first | rfl | assumption) (by first | rfl | assumption) ?_
                  refine q_iconst (v := nI 1) dX7_isGood_194 (rfl : 194 + 1 = 195) (by decide) ?_
                  refine q_dup2 dX7_isGood_195 (rfl : 195 + 1 = 196) rfl rfl ?_
                  refine q_iald (j := 1) dX7_isGood_196 (rfl : 196 + 1 = 197) (by first | rfl | assumption) (by decide) (by decide) ?_
                  try simp (disch := omega) only [wr_hit, wr_p, wr_k, nI_add, pk_mul, nI_1, nI_s1, pk_sub, Nat.add_sub_cancel, e47]
                  refine q_iconst (v := nI 1) dX7_isGood_197 (rfl : 197 + 1 = 198) (by decide) ?_
                  refine q_iadd dX7_isGood_198 (rfl : 198 + 1 = 199) ?_
                  try simp (disch := omega) only [wr_hit, wr_p, wr_k, nI_add, pk_mul, nI_1, nI_s1, pk_sub, Nat.add_sub_cancel, e47]
                  refine q_iast (j := 1) dX7_isGood_199 (rfl : 199 + 1 = 200) (by first | rfl | assumption) (by decide) (by decide) ?_
                  refine q_iconst (v := nI 1) dX7_isGood_200 (rfl : 200 + 1 = 201) (by decide) ?_
                  refine q_zret rfl dX7_isGood_201 (Or.inr rfl) ⟨rfl, rfl, _, rfl, ?_⟩
                  have t : goodB I n l (I 63) = true := by rw [e1, a0, a1, a2, a3]; simp [hlt]
                  refine ⟨by rw [t]; rfl, (mfH_Fr I n (I 63) 4).st (Or.inr (Or.inl ⟨rfl, rfl⟩)), rfl, fun _ => e2.symm⟩
                ·
                  refine q_iconst (v := nI 0) dX7_isGood_157 (rfl : 157 + 1 = 158) (by decide) ?_
                  refine q_zret rfl dX7_isGood_158 (by first | exact bI_01 _ | exact Or.inl rfl | exact Or.inr rfl) ⟨rfl, rfl, _, rfl, ?_⟩
                  exact no (by rw [e1, a4]; simp)
      refine q_bipush (v := nI 48) dX7_isGood_66 (rfl : 66 + 2 = 68) (by decide) ?_
      refine q_iconst (v := nI 4) dX7_isGood_68 (rfl : 68 + 1 = 69) (by decide) ?_
      refine q_aload_n dX7_isGood_69 (rfl : 69 + 1 = 70) rfl ?_
      refine q_getR dX7_isGood_70 (rfl : 70 + 3 = 73) fX7_17 (by first | rfl | assumption) (by first | rfl | assumption) ?_
      refine q_iconst (v := nI 1) dX7_isGood_73 (rfl : 73 + 1 = 74) (by decide) ?_
      refine q_iald (j := 1) dX7_isGood_74 (rfl : 74 + 1 = 75) (by first | rfl | assumption) (by decide) (by decide) ?_
      try simp (disch := omega) only [wr_hit, wr_p, wr_k, nI_add, pk_mul, nI_1, nI_s1, pk_sub, Nat.add_sub_cancel, hn]
      refine q_imul dX7_isGood_75 (rfl : 75 + 1 = 76) ?_
      try simp (disch := omega) only [wr_hit, wr_p, wr_k, nI_add, pk_mul, nI_1, nI_s1, pk_sub, Nat.add_sub_cancel, hn]
      refine q_iadd dX7_isGood_76 (rfl : 76 + 1 = 77) ?_
      try simp (disch := omega) only [wr_hit, wr_p, wr_k, nI_add, pk_mul, nI_1, nI_s1, pk_sub, Nat.add_sub_cancel, hn]
      refine q_istore_n dX7_isGood_77 (rfl : 77 + 1 = 78) (by decide) ?_
      refine q_aload_n dX7_isGood_78 (rfl : 78 + 1 = 79) rfl ?_
      refine q_getR dX7_isGood_79 (rfl : 79 + 3 = 82) fX7_17 (by first | rfl | assumption) (by first | rfl | assumption) ?_
      refine q_iconst (v := nI 1) dX7_isGood_82 (rfl : 82 + 1 = 83) (by decide) ?_
      refine q_iald (j := 1) dX7_isGood_83 (rfl : 83 + 1 = 84) (by first | rfl | assumption) (by decide) (by decide) ?_
      try simp (disch := omega) only [wr_hit, wr_p, wr_k, nI_add, pk_mul, nI_1, nI_s1, pk_sub, Nat.add_sub_cancel, hn]
      refine q_if_ne_n (q := 91) (by omega) dX7_isGood_84 (by decide) (rfl : 84 + 3 = 87) (fun hz => ?_) (fun hz => ?_)
      ·
        obtain ⟨s, rfl⟩ : ∃ s, n = s + 1 := ⟨n - 1, by omega⟩
        have e4 : 48 + 4 * (s + 1) - 4 = 44 + 4 * (s + 1) := by omega
        refine q_aload_n dX7_isGood_91 (rfl : 91 + 1 = 92) rfl ?_
        refine q_getR dX7_isGood_92 (rfl : 92 + 3 = 95) fX7_20 (by first | rfl | assumption) (by first | rfl | assumption) ?_
        refine q_iload_n dX7_isGood_95 (rfl : 95 + 1 = 96) rfl ?_
        refine q_iconst (v := nI 4) dX7_isGood_96 (rfl : 96 + 1 = 97) (by decide) ?_
        refine q_isub dX7_isGood_97 (rfl : 97 + 1 = 98) ?_
        try simp (disch := omega) only [wr_hit, wr_p, wr_k, nI_add, pk_mul, nI_1, nI_s1, pk_sub, Nat.add_sub_cancel]
        refine q_iconst (v := nI 0) dX7_isGood_98 (rfl : 98 + 1 = 99) (by decide) ?_
        refine q_iadd dX7_isGood_99 (rfl : 99 + 1 = 100) ?_
        try simp (disch := omega) only [wr_hit, wr_p, wr_k, nI_add, pk_mul, nI_1, nI_s1, pk_sub, Nat.add_sub_cancel]
        refine q_iald dX7_isGood_100 (rfl : 100 + 1 = 101) (by first | rfl | assumption) (by first | assumption | omega) (by decide) ?_
        try simp (disch := omega) only [wr_hit, wr_p, wr_k, nI_add, pk_mul, nI_1, nI_s1, pk_sub, Nat.add_sub_cancel]
        have e5 : leastF I (s + 1) = I 48 (44 + 4 * (s + 1)) := by simp [leastF]
        rw [e5] at rest
        rw [show 48 + 4 * (s + 1) - 4 + 0 = 44 + 4 * (s + 1) by omega]
        exact rest
      ·
        subst hz
        refine q_iconst (v := nI 0) dX7_isGood_87 (rfl : 87 + 1 = 88) (by decide) ?_
        refine q_goto (q := 101) dX7_isGood_88 (by decide) ?_
        exact rest
  ·
    have e1 : goodB I n l (I 63) = (inr (I 63 0) (nI 1) (nI 999) && inr (I 63 1) (nI 1) (nI 99)) := by
      unfold goodB
      rw [if_pos h98]
    have e2 : goodH I n l (I 63) = wr (wr I 46 5 (I 63 0)) 46 6 (I 63 1) := by
      unfold goodH
      rw [if_pos h98]
    have fr : Fr I (wr (wr I 46 5 (I 63 0)) 46 6 (I 63 1)) := (Fr.rf.st (Or.inl ⟨rfl, by omega⟩)).st (Or.inl ⟨rfl, by omega⟩)
    refine q_aload_n dX7_isGood_6 (rfl : 6 + 1 = 7) rfl ?_
    refine q_getR dX7_isGood_7 (rfl : 7 + 3 = 10) fX7_13 (by first | rfl | assumption) (by first | rfl | assumption) ?_
    refine q_iconst (v := nI 5) dX7_isGood_10 (rfl : 10 + 1 = 11) (by decide) ?_
    refine q_aload_n dX7_isGood_11 (rfl : 11 + 1 = 12) rfl ?_
    refine q_getR dX7_isGood_12 (rfl : 12 + 3 = 15) fX7_66 (by first | rfl | assumption) (by first | rfl | assumption) ?_
    refine q_iconst (v := nI 0) dX7_isGood_15 (rfl : 15 + 1 = 16) (by decide) ?_
    refine q_iald (j := 0) dX7_isGood_16 (rfl : 16 + 1 = 17) (by first | rfl | assumption) (by decide) (by decide) ?_
    refine q_iast (j := 5) dX7_isGood_17 (rfl : 17 + 1 = 18) (by first | rfl | assumption) (by decide) (by decide) ?_
    refine q_aload_n dX7_isGood_18 (rfl : 18 + 1 = 19) rfl ?_
    refine q_getR dX7_isGood_19 (rfl : 19 + 3 = 22) fX7_13 (by first | rfl | assumption) (by first | rfl | assumption) ?_
    refine q_bipush (v := nI 6) dX7_isGood_22 (rfl : 22 + 2 = 24) (by decide) ?_
    refine q_aload_n dX7_isGood_24 (rfl : 24 + 1 = 25) rfl ?_
    refine q_getR dX7_isGood_25 (rfl : 25 + 3 = 28) fX7_66 (by first | rfl | assumption) (by first | rfl | assumption) ?_
    refine q_iconst (v := nI 1) dX7_isGood_28 (rfl : 28 + 1 = 29) (by decide) ?_
    refine q_iald (j := 1) dX7_isGood_29 (rfl : 29 + 1 = 30) (by first | rfl | assumption) (by decide) (by decide) ?_
    refine q_iast (j := 6) dX7_isGood_30 (rfl : 30 + 1 = 31) (by first | rfl | assumption) (by decide) (by decide) ?_
    refine q_aload_n dX7_isGood_31 (rfl : 31 + 1 = 32) rfl ?_
    refine q_iconst (v := nI 0) dX7_isGood_32 (rfl : 32 + 1 = 33) (by decide) ?_
    refine q_iconst (v := nI 1) dX7_isGood_33 (rfl : 33 + 1 = 34) (by decide) ?_
    refine q_sipush (v := nI 999) dX7_isGood_34 (rfl : 34 + 3 = 37) (by decide) ?_
    rw [wr_ne (show (63 : Nat) ≠ 46 by omega)]
    refine q_callVIp (S_isIn (d := d) (k := 0) (by omega)) dX7_isGood_37 (rfl : 37 + 3 = 40) lX7_106 vX7_isIn (by first | rfl | assumption) rfl rfl (Nat.le_of_ble_eq_true rfl) TM_room TM_cs ?_
    rw [wr_ne (show (63 : Nat) ≠ 46 by omega), wr_ne (show (63 : Nat) ≠ 46 by omega)]
    refine q_if_eq_b (q := 58) dX7_isGood_40 (by decide) (rfl : 40 + 3 = 43) (fun a0 => ?_) (fun a0 => ?_)
    ·
      refine q_iconst (v := nI 0) dX7_isGood_58 (rfl : 58 + 1 = 59) (by decide) ?_
      refine q_zret rfl dX7_isGood_59 (by first | exact bI_01 _ | exact Or.inl rfl | exact Or.inr rfl) ⟨rfl, rfl, _, rfl, ?_⟩
      refine ⟨by rw [e1, a0]; rfl, fr, rfl, fun _ => e2.symm⟩
    ·
      refine q_aload_n dX7_isGood_43 (rfl : 43 + 1 = 44) rfl ?_
      refine q_iconst (v := nI 1) dX7_isGood_44 (rfl : 44 + 1 = 45) (by decide) ?_
      refine q_iconst (v := nI 1) dX7_isGood_45 (rfl : 45 + 1 = 46) (by decide) ?_
      refine q_bipush (v := nI 99) dX7_isGood_46 (rfl : 46 + 2 = 48) (by decide) ?_
      refine q_callVIp (S_isIn (d := d) (k := 1) (by omega)) dX7_isGood_48 (rfl : 48 + 3 = 51) lX7_106 vX7_isIn (by first | rfl | assumption) rfl rfl (Nat.le_of_ble_eq_true rfl) TM_room TM_cs ?_
      rw [wr_ne (show (63 : Nat) ≠ 46 by omega), wr_ne (show (63 : Nat) ≠ 46 by omega)]
      refine q_if_eq_b (q := 58) dX7_isGood_51 (by decide) (rfl : 51 + 3 = 54) (fun a1 => ?_) (fun a1 => ?_)
      ·
        refine q_iconst (v := nI 0) dX7_isGood_58 (rfl : 58 + 1 = 59) (by decide) ?_
        refine q_zret rfl dX7_isGood_59 (by first | exact bI_01 _ | exact Or.inl rfl | exact Or.inr rfl) ⟨rfl, rfl, _, rfl, ?_⟩
        refine ⟨by rw [e1, a0, a1]; rfl, fr, rfl, fun _ => e2.symm⟩
      ·
        refine q_iconst (v := nI 1) dX7_isGood_54 (rfl : 54 + 1 = 55) (by decide) ?_
        refine q_goto (q := 59) dX7_isGood_55 (by decide) ?_
        refine q_zret rfl dX7_isGood_59 (by first | exact bI_01 _ | exact Or.inl rfl | exact Or.inr rfl) ⟨rfl, rfl, _, rfl, ?_⟩
        refine ⟨by rw [e1, a0, a1]; rfl, fr, rfl, fun _ => e2.symm⟩
