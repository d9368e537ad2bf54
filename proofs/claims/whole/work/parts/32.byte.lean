/-! the class's byte and the model's -/
theorem sh63 : ∀ k : Fin 8, ((iI (8 * (k.val : Int))).toInt64.toUInt64 &&& Int64.toUInt64 63).toBitVec.toNat % 64 = 8 * k.val ∧ ((((iI (8 * (k.val : Int))).toInt64 &&& 63).toBitVec.smod 64).toNat) = 8 * k.val := by decide +kernel
theorem by_low (y : Int64) (k : Fin 8) : (byL y (8 * (k.val : Int))).toInt32.toInt8 = (y >>> ((iI (8 * (k.val : Int))).toInt64 &&& 63)).toInt32.toInt8 := by
  have hs := sh63 k
  have e1 : (byL y (8 * (k.val : Int))).toBitVec = y.toBitVec >>> (8 * k.val) := by
    show (y.toUInt64 >>> _).toBitVec = _
    rw [UInt64.toBitVec_shiftRight]
    show y.toBitVec >>> ((_ : BitVec 64) % 64) = _
    rw [BitVec.ushiftRight_eq', BitVec.toNat_umod]
    exact congrArg (fun q => y.toBitVec >>> q) hs.1
  have e2 : (y >>> ((iI (8 * (k.val : Int))).toInt64 &&& 63)).toBitVec = y.toBitVec.sshiftRight (8 * k.val) := by
    rw [Int64.toBitVec_shiftRight, BitVec.sshiftRight_eq']
    exact congrArg (fun q => y.toBitVec.sshiftRight q) hs.2
  have hk := k.isLt
  apply Int8.toBitVec_inj.mp
  show ((byL y (8 * (k.val : Int))).toBitVec.signExtend 32).signExtend 8 = ((y >>> ((iI (8 * (k.val : Int))).toInt64 &&& 63)).toBitVec.signExtend 32).signExtend 8
  rw [e1, e2]
  ext i hi
  simp [BitVec.getElem_signExtend, BitVec.getLsbD_ushiftRight, BitVec.getLsbD_sshiftRight, show i < 32 by omega, show i < 64 by omega, show 8 * k.val + i < 64 by omega, hi]
  rw [BitVec.getElem_sshiftRight, dif_pos (show 8 * k.val + i < 64 by omega)]
/-- the class's byte is the model's, without its sign -/
theorem by_mod (x : Int32) : ((x &&& iI 255).toInt ≤ 127 ∧ (x.toInt8.toInt32).toInt = (x &&& iI 255).toInt) ∨ (128 ≤ (x &&& iI 255).toInt ∧ (x.toInt8.toInt32).toInt = (x &&& iI 255).toInt - 256) := by
  have hb := and255 x
  have h1 : (x &&& iI 255).toInt = ((x.toBitVec &&& 255#32).toInt) := rfl
  have h2 : (x.toBitVec &&& 255#32).toNat = x.toBitVec.toNat % 256 := by
    rw [BitVec.toNat_and]
    exact Nat.and_two_pow_sub_one_eq_mod _ 8
  have h3 : (x &&& iI 255).toInt = (x.toBitVec.toNat % 256 : Nat) := by
    rw [h1, BitVec.toInt_eq_toNat_of_lt (by omega), h2]
  have h4 : (x.toInt8.toInt32).toInt = (x.toBitVec.signExtend 8).toInt := by
    rw [Int8.toInt_toInt32]
    rfl
  have h5 : (x.toBitVec.signExtend 8).toInt = (x.toBitVec.toNat : Int).bmod 256 := by
    rw [BitVec.signExtend_eq_setWidth_of_le _ (by omega), BitVec.toInt_setWidth]
  rw [h4, h5, h3, Int.bmod_def]
  split <;> omega
theorem byS_U (y : Int64) {b : Int} (hb : 0 ≤ b ∧ b ≤ 7) : (byU y (8 * b) ≤ 127 ∧ byS y (8 * b) = byU y (8 * b)) ∨ (128 ≤ byU y (8 * b) ∧ byS y (8 * b) = byU y (8 * b) - 256) := by
  have h := by_low y ⟨b.toNat, by omega⟩
  rw [show ((⟨b.toNat, by omega⟩ : Fin 8).val : Int) = b by show ((b.toNat : Nat) : Int) = b; omega] at h
  have h2 := by_mod (byL y (8 * b)).toInt32
  rw [h] at h2
  exact h2
