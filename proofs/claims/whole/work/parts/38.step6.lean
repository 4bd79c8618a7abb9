/-! the bytes of a long, as either side takes them -/
theorem bC_bM (v : Int64) (s : Nat) (h : s < 8) : bC v s = bM v s := by
  unfold bC bM
  congr 1
  congr 1
  have e : ∀ s, s < 8 → ((nI (8 * s)).toInt64 &&& 63).toBitVec = BitVec.ofNat 64 (8 * s) ∧ ((nI (8 * s)).toInt64.toUInt64 &&& Int64.toUInt64 63).toBitVec = BitVec.ofNat 64 (8 * s) ∧ ((BitVec.ofNat 64 (8 * s)).smod 64).toNat = 8 * s ∧ ((BitVec.ofNat 64 (8 * s)) % 64).toNat = 8 * s := by decide +kernel
  obtain ⟨e1, e2, e3, e4⟩ := e s h
  apply Int8.toBitVec_inj.mp
  apply BitVec.eq_of_getLsbD_eq
  intro i hi
  have h64 : 8 * s + i < 64 := by omega
  show (((v.toBitVec >>> (((nI (8 * s)).toInt64.toUInt64 &&& Int64.toUInt64 63).toBitVec % 64)).signExtend 32).signExtend 8).getLsbD i = (((v.toBitVec.sshiftRight (((nI (8 * s)).toInt64 &&& 63).toBitVec.smod 64).toNat).signExtend 32).signExtend 8).getLsbD i
  rw [e1, e2, e3]
  simp only [BitVec.getLsbD_signExtend, BitVec.getLsbD_sshiftRight, BitVec.ushiftRight_eq', BitVec.getLsbD_ushiftRight, e4]
  simp [h64, hi, show i < 32 by omega, show i < 64 by omega]
