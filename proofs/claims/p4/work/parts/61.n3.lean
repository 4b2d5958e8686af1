set_option maxHeartbeats 1600000
/-! bits of small numbers -/
theorem bv_nn {x : Int32} (h0 : 0 ≤ x) : x.toInt = x.toBitVec.toNat := by
  have h := Int32.le_iff_toInt_le.mp h0
  rw [Int32.toInt_zero] at h
  have c : x.toInt = if 2 * x.toBitVec.toNat < 2 ^ 32 then (x.toBitVec.toNat : Int) else (x.toBitVec.toNat : Int) - (2 ^ 32 : Nat) := BitVec.toInt_eq_toNat_cond x.toBitVec
  have l : x.toBitVec.toNat < 2 ^ 32 := x.toBitVec.isLt
  split at c <;> omega
theorem and16 {x : Int32} (h0 : 0 ≤ x) : (x &&& 65535).toInt = x.toInt % 65536 ∧ 0 ≤ x &&& 65535 ∧ x &&& 65535 < 65536 := by
  have e : (x &&& 65535).toBitVec.toNat = x.toBitVec.toNat % 65536 := by
    rw [Int32.toBitVec_and, BitVec.toNat_and, show (65535 : Int32).toBitVec.toNat = 2 ^ 16 - 1 from rfl, Nat.and_two_pow_sub_one_eq_mod]
  have t : (x &&& 65535).toInt = ((x &&& 65535).toBitVec.toNat : Int) := BitVec.toInt_eq_toNat_of_lt (by rw [e]; omega)
  have b := bv_nn h0
  have r : (x &&& 65535).toInt = x.toInt % 65536 := by rw [t, e, b]; omega
  refine ⟨r, ?_, ?_⟩
  · rw [Int32.le_iff_toInt_le, Int32.toInt_zero, r]; omega
  · rw [Int32.lt_iff_toInt_lt, r, show (65536 : Int32).toInt = 65536 from rfl]; omega
theorem shr16 {x : Int32} : (x >>> ((16 : Int32) &&& 31)).toInt = x.toInt / 65536 := by
  have e : (x >>> ((16 : Int32) &&& 31)).toBitVec = x.toBitVec.sshiftRight 16 := by
    rw [Int32.toBitVec_shiftRight]
    rfl
  have t : (x >>> ((16 : Int32) &&& 31)).toInt = (x.toBitVec.sshiftRight 16).toInt := by rw [← e]; rfl
  rw [t, BitVec.toInt_sshiftRight, Int.shiftRight_eq_div_pow]
  rfl
