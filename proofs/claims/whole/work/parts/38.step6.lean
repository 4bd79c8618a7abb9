/-! the bytes of a long, as either side takes them -/
theorem bC_bM (v : Int64) (s : Nat) (h : s < 8) : bC v s = bM v s := by
  unfold bC bM
  congr 1
  congr 1
  have e : ∀ s, s < 8 → ((nI (8 * s)).toInt64 &&& 63).toBitVec = BitVec.ofNat 64 (8 * s) ∧ ((nI (8 * s)).toInt64.toUInt64 &&& Int64.toUInt64 63).toBitVec = BitVec.ofNat 64 (8 * s) ∧ ((BitVec.ofNat 64 (8 * s)).smod 64).toNat = 8 * s ∧ ((BitVec.ofNat 64 (8 * s)) % 64).toNat = 8 * s := by decide +kernel
  obtain ⟨e1, e2, e3, e4⟩ := e s h
  apply Int8.toBitVec_inj.mp
  apply BitVec.eq_of_getLsbD_eq
  intro i hi
  have h64 : 8 * s + i < 64 := by omega
  show (((v.toBitVec >>> (((nI (8 * s)).toInt64.toUInt64 &&& Int64.toUInt64 63).toBitVec % 64)).signExtend 32).signExtend 8).getLsbD i = (((v.toBitVec.sshiftRight (((nI (8 * s)).toInt64 &&& 63).toBitVec.smod 64).toNat).signExtend 32).signExtend 8).getLsbD i
  rw [e1, e2, e3]
  simp only [BitVec.getLsbD_signExtend, BitVec.getLsbD_sshiftRight, BitVec.ushiftRight_eq', BitVec.getLsbD_ushiftRight, e4]
  simp [h64, hi, show i < 32 by omega, show i < 64 by omega]
theorem Z_write {I : HI} {J : HJ} (hr : Rel I J) (n : Int32) (v : Int64) : Both mX6_write mX7_write [.int n, .long v] I J := by
  obtain ⟨nf, nk, yr, ht, -⟩ := id hr
  obtain ⟨len, t1, t2, t3, t4⟩ := ht
  cases hn : inr n (nI 1) (nI 8) with
  | false => exact Both.pure hr (S_write_bad (d := 6) hn) (S_mwrite_bad (d := 6) hn)
  | true =>
    obtain ⟨k, k1, k8, rfl⟩ := inr_nI2 (by decide) hn (by decide)
    refine ⟨_, S_write (d := 6) t2 t1 k1 k8, fun x I1 J1 hp => ?_⟩
    obtain ⟨e1, e2, e3⟩ := hp
    by_cases hle : len + k ≤ 400
    · rw [if_pos hle] at e1 e2
      have r1 : ∀ a b, a ≠ 1 → a ≠ 2 → I1 a b = I a b := fun a b h1 h2 => by
        rw [e2]
        unfold appH
        rw [if_neg (by omega), if_neg (by omega)]
      refine ⟨_, S_mwrite (d := 6) (nt := len) (n := k) (by rw [r1 44 0 (by omega) (by omega), t3]) t1 k1 k8, fun y I2 J2 hp2 => ?_⟩
      obtain ⟨f1, f2, f3⟩ := hp2
      rw [if_pos hle] at f1 f2
      have r2 : ∀ a b, a ≠ 45 → ¬ (a = 44 ∧ b = 0) → I2 a b = I1 a b := fun a b h1 h2 => by
        rw [f2]
        unfold mapH
        rw [if_neg (by omega), if_neg h2]
      rw [f1, f3, e1, e3]
      refine ⟨rfl, hr.text (fun a b h => ?_) ⟨len + k, hle, ?_, ?_, fun i hi => ?_⟩⟩
      · rw [r2 a b (by omega) (by omega), e2]
        unfold appH
        rw [if_neg (by omega), if_neg (by omega)]
      · rw [r2 1 1 (by omega) (by omega), e2]
        exact appH_len
      · rw [f2]
        exact mapH_len
      · rw [r2 2 i (by omega) (by omega), f2, e2]
        unfold mapH
        by_cases hi2 : i < len
        · rw [if_neg (by omega), if_neg (by omega)]
          unfold appH
          rw [if_neg (by omega), if_neg (by omega), if_neg (by omega), if_neg (by omega)]
          exact t4 i hi2
        · rw [if_pos ⟨rfl, by omega, by omega⟩]
          unfold appH
          rw [if_pos ⟨rfl, by omega, by omega⟩]
          exact bC_bM v _ (by omega)
    · rw [if_neg hle] at e1 e2
      refine ⟨_, S_mwrite (d := 6) (nt := len) (n := k) (by rw [e2, t3]) t1 k1 k8, fun y I2 J2 hp2 => ?_⟩
      obtain ⟨f1, f2, f3⟩ := hp2
      rw [if_neg hle] at f1 f2
      rw [f1, f2, f3, e1, e2, e3]
      exact ⟨rfl, hr⟩
