/-! the law's loop, and its start -/
theorem le_sub5 {a L : Nat} (ha : a ≤ 5000) (hL : L ≤ 2560) (h : ¬ nI L - nI 5 < nI a) : a + 5 ≤ L := by
  rcases Nat.lt_or_ge L 5 with z | z
  · exact absurd (Int32.lt_of_lt_of_le (pk_sneg (by omega) z) (nI_pos' (by omega))) h
  · rw [pk_sub z] at h
    have := (nI_leI (by omega) (by omega)).mp (Int32.not_lt.mp h)
    omega
theorem law_loop {L : Nat} {xs : Nat → Int32} (hL : L ≤ 2560) : ∀ (n k : Nat) (I : HI) (J : HJ), L < 5 * k + n → 5 * k ≤ 2565 → Rel I J → LW L xs k 18 I J := by
  have e5 : ∀ k : Nat, nI (5 * k) + Int32.ofInt 5 = nI (5 * (k + 1)) := fun k => by
    rw [show Int32.ofInt 5 = nI 5 by decide, nI_add]
    rfl
  intro n
  induction n with
  | zero =>
    intro k I J hn hk hr
    refine q_iload_n dL_law_18 (rfl : 18 + 1 = 19) rfl ?_
    refine q_aload_n dL_law_19 (rfl : 19 + 1 = 20) rfl ?_
    refine q_slen dL_law_20 (rfl : 20 + 1 = 21) ?_
    refine q_iconst (v := nI 5) dL_law_21 (rfl : 21 + 1 = 22) (by decide) ?_
    refine q_isub dL_law_22 (rfl : 22 + 1 = 23) ?_
    refine q_icmp_gt (q := 888) dL_law_23 (by decide) (rfl : 23 + 3 = 26) (fun _ => ?_) (fun h => ?_)
    · refine q_iconst (v := 1) dL_law_888 (rfl : 888 + 1 = 889) (by decide) ?_
      exact q_lawret dL_law_889 ⟨Nat.le_of_ble_eq_true rfl, Nat.le_of_ble_eq_true rfl⟩
    · have := le_sub5 (by omega) hL h
      omega
  | succ n ih =>
    intro k I J hn hk hr
    refine q_iload_n dL_law_18 (rfl : 18 + 1 = 19) rfl ?_
    refine q_aload_n dL_law_19 (rfl : 19 + 1 = 20) rfl ?_
    refine q_slen dL_law_20 (rfl : 20 + 1 = 21) ?_
    refine q_iconst (v := nI 5) dL_law_21 (rfl : 21 + 1 = 22) (by decide) ?_
    refine q_isub dL_law_22 (rfl : 22 + 1 = 23) ?_
    refine q_icmp_gt (q := 888) dL_law_23 (by decide) (rfl : 23 + 3 = 26) (fun _ => ?_) (fun h => ?_)
    · refine q_iconst (v := 1) dL_law_888 (rfl : 888 + 1 = 889) (by decide) ?_
      exact q_lawret dL_law_889 ⟨Nat.le_of_ble_eq_true rfl, Nat.le_of_ble_eq_true rfl⟩
    · have hk5 := le_sub5 (by omega) hL h
      refine q_aload_n dL_law_26 (rfl : 26 + 1 = 27) rfl ?_
      refine q_iload_n dL_law_27 (rfl : 27 + 1 = 28) rfl ?_
      refine q_sld dL_law_28 (rfl : 28 + 1 = 29) (by omega) hL ?_
      refine q_bipush (v := nI 31) dL_law_29 (rfl : 29 + 2 = 31) (by decide) ?_
      refine q_iand dL_law_31 (rfl : 31 + 1 = 32) ?_
      obtain ⟨j, hj, ej⟩ := and31 (xs (5 * k))
      rw [ej]
      have K : ∀ I2 J2, Rel I2 J2 → LW L xs k 882 I2 J2 := fun I2 J2 hr2 => by
        refine q_iinc (v := nI (5 * (k + 1))) dL_law_882 (rfl : 882 + 3 = 885) rfl (e5 k) (by decide) ?_
        refine q_goto (q := 18) dL_law_885 (by decide) ?_
        exact ih (k + 1) I2 J2 (by omega) (by omega) hr2
      rcases (show j = 0 ∨ j = 1 ∨ j = 2 ∨ j = 3 ∨ j = 4 ∨ j = 5 ∨ j = 6 ∨ j = 7 ∨ j = 8 ∨ j = 9 ∨ j = 10 ∨ j = 11 ∨ j = 12 ∨ j = 13 ∨ j = 14 ∨ j = 15 ∨ j = 16 ∨ j = 17 ∨ j = 18 ∨ j = 19 ∨ j = 20 ∨ j = 21 ∨ j = 22 ∨ j = 23 ∨ j = 24 ∨ j = 25 ∨ j = 26 ∨ j = 27 ∨ j = 28 ∨ j = 29 ∨ j = 30 ∨ j = 31 by omega) with rfl | rfl | rfl | rfl | rfl | rfl | rfl | rfl | rfl | rfl | rfl | rfl | rfl | rfl | rfl | rfl | rfl | rfl | rfl | rfl | rfl | rfl | rfl | rfl | rfl | rfl | rfl | rfl | rfl | rfl | rfl | rfl
      · refine q_tableIn (off := 132) (q := 164) dL_law_32 (by decide) (by decide) (by decide) (by decide) ?_
        exact law_write hk5 hL hr K
      · refine q_tableIn (off := 195) (q := 227) dL_law_32 (by decide) (by decide) (by decide) (by decide) ?_
        exact law_wipe hk5 hL hr K
      · refine q_tableIn (off := 208) (q := 240) dL_law_32 (by decide) (by decide) (by decide) (by decide) ?_
        exact law_fault hk5 hL hr K
      · refine q_tableIn (off := 221) (q := 253) dL_law_32 (by decide) (by decide) (by decide) (by decide) ?_
        exact law_lay hk5 hL hr K
      · refine q_tableIn (off := 234) (q := 266) dL_law_32 (by decide) (by decide) (by decide) (by decide) ?_
        exact law_falls hk5 hL hr K
      · refine q_tableIn (off := 267) (q := 299) dL_law_32 (by decide) (by decide) (by decide) (by decide) ?_
        exact law_fall hk5 hL hr K
      · refine q_tableIn (off := 280) (q := 312) dL_law_32 (by decide) (by decide) (by decide) (by decide) ?_
        exact law_layer hk5 hL hr K
      · refine q_tableIn (off := 313) (q := 345) dL_law_32 (by decide) (by decide) (by decide) (by decide) ?_
        exact law_firstOut hk5 hL hr K
      · refine q_tableIn (off := 326) (q := 358) dL_law_32 (by decide) (by decide) (by decide) (by decide) ?_
        exact law_thaw hk5 hL hr K
      · refine q_tableIn (off := 349) (q := 381) dL_law_32 (by decide) (by decide) (by decide) (by decide) ?_
        exact law_doors hk5 hL hr K
      · refine q_tableIn (off := 382) (q := 414) dL_law_32 (by decide) (by decide) (by decide) (by decide) ?_
        exact law_sell hk5 hL hr K
      · refine q_tableIn (off := 415) (q := 447) dL_law_32 (by decide) (by decide) (by decide) (by decide) ?_
        exact law_undo hk5 hL hr K
      · refine q_tableIn (off := 428) (q := 460) dL_law_32 (by decide) (by decide) (by decide) (by decide) ?_
        exact law_swap hk5 hL hr K
      · refine q_tableIn (off := 461) (q := 493) dL_law_32 (by decide) (by decide) (by decide) (by decide) ?_
        exact law_letGo hk5 hL hr K
      · refine q_tableIn (off := 504) (q := 536) dL_law_32 (by decide) (by decide) (by decide) (by decide) ?_
        exact law_odds hk5 hL hr K
      · refine q_tableIn (off := 557) (q := 589) dL_law_32 (by decide) (by decide) (by decide) (by decide) ?_
        exact law_likeliest hk5 hL hr K
      · refine q_tableIn (off := 590) (q := 622) dL_law_32 (by decide) (by decide) (by decide) (by decide) ?_
        exact law_mark hk5 hL hr K
      · refine q_tableIn (off := 613) (q := 645) dL_law_32 (by decide) (by decide) (by decide) (by decide) ?_
        exact law_noMarks hk5 hL hr K
      · refine q_tableIn (off := 626) (q := 658) dL_law_32 (by decide) (by decide) (by decide) (by decide) ?_
        exact law_far hk5 hL hr K
      · refine q_tableIn (off := 639) (q := 671) dL_law_32 (by decide) (by decide) (by decide) (by decide) ?_
        exact law_odd hk5 hL hr K
      · refine q_tableIn (off := 652) (q := 684) dL_law_32 (by decide) (by decide) (by decide) (by decide) ?_
        exact law_wish hk5 hL hr K
      · refine q_tableIn (off := 675) (q := 707) dL_law_32 (by decide) (by decide) (by decide) (by decide) ?_
        exact law_nearest hk5 hL hr K
      · refine q_tableIn (off := 708) (q := 740) dL_law_32 (by decide) (by decide) (by decide) (by decide) ?_
        exact law_moved hk5 hL hr K
      · refine q_tableIn (off := 731) (q := 763) dL_law_32 (by decide) (by decide) (by decide) (by decide) ?_
        exact law_rent hk5 hL hr K
      · refine q_tableIn (off := 755) (q := 787) dL_law_32 (by decide) (by decide) (by decide) (by decide) ?_
        exact law_winter hk5 hL hr K
      · refine q_tableIn (off := 778) (q := 810) dL_law_32 (by decide) (by decide) (by decide) (by decide) ?_
        exact law_ten hk5 hL hr K
      · refine q_tableIn (off := 801) (q := 833) dL_law_32 (by decide) (by decide) (by decide) (by decide) ?_
        exact law_keep hk5 hL hr K
      · refine q_tableIn (off := 814) (q := 846) dL_law_32 (by decide) (by decide) (by decide) (by decide) ?_
        exact law_back hk5 hL hr K
      · refine q_tableIn (off := 827) (q := 859) dL_law_32 (by decide) (by decide) (by decide) (by decide) ?_
        exact law_count hk5 hL hr K
      · refine q_tableOut (q := 882) dL_law_32 (by decide) (by decide) ?_
        exact K I J hr
      · refine q_tableOut (q := 882) dL_law_32 (by decide) (by decide) ?_
        exact K I J hr
      · refine q_tableOut (q := 882) dL_law_32 (by decide) (by decide) ?_
        exact K I J hr
theorem law_start {L : Nat} {xs : Nat → Int32} (hL : L ≤ 2560) : Wm mL_law (TL L xs) 0 0 (shA.take 0) 0 [some (.ref SCR), none, none, none] [] (fun _ _ => 0) (fun _ _ => 0) (fun _ _ => none) := by
  have z0 : ZW 0 (fun _ _ => 0) (fun _ _ => 0) (fun _ _ => none) := ⟨fun _ _ => rfl, fun _ _ => rfl, fun _ _ => rfl, fun _ _ _ h => by cases h⟩
  refine q_newN (n := 0) (ci := 6) (c2 := 1) (s2 := 10) dL_law_0 (rfl : 0 + 3 = 3) (rfl : shA[0]? = some (.inl 6)) (by decide) (by decide) nL_7 TL.tx rfl rfl z0 ⟨rfl, rfl⟩ ⟨Nat.le_of_ble_eq_true rfl, Nat.le_of_ble_eq_true rfl⟩ (fun z1 => ?_)
  refine q_dup dL_law_3 (rfl : 3 + 1 = 4) rfl ?_
  refine q_initN (n := 1) (n2 := 44) (c2 := 44) (s2 := 1073) (S_conSnow z1 snow_A snow_5) dL_law_4 (rfl : 4 + 3 = 7) (by decide) lL_9 vX6_init rfl (by decide) TL.room ⟨rfl, rfl⟩ ⟨Nat.le_of_ble_eq_true rfl, Nat.le_of_ble_eq_true rfl⟩ rfl TL.tx rfl rfl (fun z2 => ?_)
  refine q_astore_n dL_law_7 (rfl : 7 + 1 = 8) (by decide) ?_
  rw [coR_Snow_eq] at z2 ⊢
  refine q_newN (n := 44) (ci := 7) (c2 := 45) (s2 := 1098) dL_law_8 (rfl : 8 + 3 = 11) (rfl : shA[44]? = some (.inl 7)) (by decide) (by decide) nL_10 TL.tx rfl rfl z2 ⟨rfl, rfl⟩ ⟨Nat.le_of_ble_eq_true rfl, Nat.le_of_ble_eq_true rfl⟩ (fun z3 => ?_)
  refine q_dup dL_law_11 (rfl : 11 + 1 = 12) rfl ?_
  refine q_initN (n := 45) (n2 := 64) (c2 := 64) (s2 := 2250) (S_conModel z3) dL_law_12 (rfl : 12 + 3 = 15) (by decide) lL_12 vX7_init rfl (by decide) TL.room ⟨rfl, rfl⟩ ⟨Nat.le_of_ble_eq_true rfl, Nat.le_of_ble_eq_true rfl⟩ rfl TL.tx rfl rfl (fun z4 => ?_)
  refine q_astore_n dL_law_15 (rfl : 15 + 1 = 16) (by decide) ?_
  refine q_iconst (v := nI 0) dL_law_16 (rfl : 16 + 1 = 17) (by decide) ?_
  refine q_istore_n dL_law_17 (rfl : 17 + 1 = 18) (by decide) ?_
  rw [take64]
  exact law_loop hL (L + 1) 0 I00 J00 (by omega) (by omega) rel00
theorem whole_start {p : Program} {e : Env} {s : State} {m : MethodId} {below : List Frame} {meth : Method} {c : Code} (l : Launch) (hflags : l.flags = flags0) {b L : Nat} {xs : Nat → Int32} (hL : L ≤ 2560) (C0 : lw_At p s m meth c b L xs) : W p l e room_1 s m #[Value.ref b] below meth c s.heap [] 0 0 (lw_Z below #[Value.ref b] s) (entryFrame m ([Value.ref b] : List Value).toArray 4) := by
  obtain ⟨hx, hb, hr, hml, hown, hts, hX, hbl, hlocks, hgv⟩ := id C0
  have inst : ∀ k, k < 8 → Cond.instantiable (RC k) (nC k) ∈ lw_tbl := fun k hk => by
    rcases c8 hk with rfl | rfl | rfl | rfl | rfl | rfl | rfl | rfl
    · exact ALLW_tbl nX6_26.2.1
    · exact ALLW_tbl nX6_57.2.1
    · exact ALLW_tbl nX6_43.2.1
    · exact ALLW_tbl nX6_7.2.1
    · exact ALLW_tbl nX6_50.2.1
    · exact ALLW_tbl nX6_16.2.1
    · exact ALLW_tbl nL_7.2.1
    · exact ALLW_tbl nL_10.2.1
  have kn : ∀ k, k < 8 → ∃ (q : ClassId × (Nat → Nat)), u_Kn s (RC k) (TC k) (nC k) q.1 q.2 := fun k hk => by
    obtain ⟨c0, iS, h⟩ := u_known (ws := lw_tbl) (C := RC k) (T := TC k) (N := nC k) (n := nC k) hts (fun w hw => ALLW_tbl (uAll hk w hw)) (hts _ (inst k hk))
    exact ⟨(c0, iS), h⟩
  obtain ⟨dd, hd⟩ : ∃ dd : Nat → ClassId × (Nat → Nat), ∀ k, k < 8 → u_Kn s (RC k) (TC k) (nC k) (dd k).1 (dd k).2 :=
    ⟨fun k => if h : k < 8 then (kn k h).choose else (0, fun _ => 0), fun k hk => by
      show u_Kn s (RC k) (TC k) (nC k) (if h : k < 8 then (kn k h).choose else (0, fun _ => 0)).1 (if h : k < 8 then (kn k h).choose else (0, fun _ => 0)).2
      rw [dif_pos hk]
      exact (kn k hk).choose_spec⟩
  have hKc : ∀ (k : Nat) (q : vw_C), vwCl[k]? = some q → u_Kn s q.1 q.2.1 q.2.2 (dd k).1 (dd k).2 := fun k q hq => by
    by_cases hk : k < 8
    · rw [vwAt hk] at hq
      cases hq
      exact hd k hk
    · rw [List.getElem?_eq_none (by show 8 ≤ k; omega)] at hq
      cases hq
  have hNN : NN s := fun w hw => by
    have h1 := hts w (List.mem_filter.mp hw).1
    have h2 := (List.mem_filter.mp hw).2
    cases w <;> first | (simp [isNest] at h2; done) | exact va_Nw.of rfl h1 | (rename_i t; cases t <;> first | (simp [isNest] at h2; done) | exact over_moved (Vm.Alike.refl _) h1)
  have hl := lv_entry ([.ref b]) (n := 4) (Nat.le_of_ble_eq_true rfl)
  rw [lg_entry_eq]
  generalize (lg_sl ([.ref b]) ++ List.replicate (4 - (lg_sl ([.ref b])).length) Slot.unset).toArray = ls at hl ⊢
  have hl : lv_has ls 4 [(0, .ref b)] := hl
  refine law_start (L := L) (xs := xs) hL p l e s m _ below meth c (fun k => (dd k).1, fun k => (dd k).2) (fun q => s.heap.size ≤ q) (fun _ => b) (fun _ => 0) (fun _ => b) (fun _ => 0) s.heap [] ls ⟨⟨hx, hb, hr, hml, hown, fun w hw => hts w (ALLW_tbl hw), hlocks, fun h => absurd h (by decide), hNN⟩, fun q h => h, ⟨rfl, hX, hbl, fun q h => h⟩, ⟨⟨hKc, fun k q h => by simp at h⟩, fun q t n hq => by simp at hq⟩, fun k q hk => by simp [enc] at hk, ⟨fun i j x y hi => by simp [enc] at hi, fun k q hk => by simp [enc] at hk⟩, va_S.rf, hl.1, hl.2.1, fun i v hi => ?_⟩
  match i, hi with
  | 0, hi =>
    cases hi
    exact hl.2.2 (0, .ref b) List.mem_cons_self
  | 1, hi => cases hi
  | 2, hi => cases hi
  | 3, hi => cases hi
  | i + 4, hi => simp at hi
