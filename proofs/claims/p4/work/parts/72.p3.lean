set_option maxHeartbeats 1600000
/-! the reference: bits of rows; what leads to what -/
theorem lgc0 {x y : Int64} : lg_cmp x y = 0 ↔ x = y := by
  unfold lg_cmp
  by_cases h : x = y
  · subst h
    rw [if_neg (fun z => absurd z (Int64.lt_irrefl)), if_pos rfl]
    exact ⟨fun _ => rfl, fun _ => rfl⟩
  · refine ⟨fun z => ?_, fun z => absurd z h⟩
    split at z
    · exact absurd z (by decide)
    · exact absurd z (by decide)
/-- the bit for state b in the row of state a -/
def bR (r : Nat → Int64) (a b : Nat) : Bool := (r (16 * a + b / 64)).toBitVec.getLsbD (b % 64)
theorem and63 {b : Int32} (h0 : 0 ≤ b) : (b &&& 63).toBitVec.toNat = b.toNatClampNeg % 64 := by
  rw [Int32.toBitVec_and, BitVec.toNat_and, show (63 : Int32).toBitVec.toNat = 2 ^ 6 - 1 from rfl, Nat.and_two_pow_sub_one_eq_mod]
  have e1 := bv_nn h0
  have e2 := cn_int h0
  omega
theorem ext63 {b : Int32} (h0 : 0 ≤ b) : ((b &&& 63).toInt64).toBitVec.toNat = b.toNatClampNeg % 64 := by
  have e := and63 h0
  rw [Int32.toBitVec_toInt64]
  have m : (b &&& 63).toBitVec.msb = false := by
    rw [BitVec.msb_eq_decide]
    have : b.toNatClampNeg % 64 < 64 := Nat.mod_lt _ (by decide)
    simp only [decide_eq_false_iff_not]
    omega
  rw [BitVec.signExtend_eq_setWidth_of_msb_false m, BitVec.toNat_setWidth, e]
  exact Nat.mod_eq_of_lt (Nat.lt_of_lt_of_le (Nat.mod_lt _ (by decide)) (by decide))
theorem sh63 {b : Int32} (h0 : 0 ≤ b) : ((b &&& 63).toInt64 &&& 63).toBitVec.toNat = b.toNatClampNeg % 64 := by
  rw [Int64.toBitVec_and, BitVec.toNat_and, ext63 h0, show (63 : Int64).toBitVec.toNat = 2 ^ 6 - 1 from rfl, Nat.and_two_pow_sub_one_eq_mod]
  omega
theorem shu63 {b : Int32} (h0 : 0 ≤ b) : ((b &&& 63).toInt64.toUInt64 &&& Int64.toUInt64 63).toBitVec.toNat = b.toNatClampNeg % 64 := by
  rw [UInt64.toBitVec_and, BitVec.toNat_and, Int64.toBitVec_toUInt64, ext63 h0, show (Int64.toUInt64 63).toBitVec.toNat = 2 ^ 6 - 1 from rfl, Nat.and_two_pow_sub_one_eq_mod]
  omega
theorem bit_g {x : Int64} {b : Int32} (h0 : 0 ≤ b) : lg_cmp ((x.toUInt64 >>> ((b &&& 63).toInt64.toUInt64 &&& Int64.toUInt64 63)).toInt64 &&& 1) 1 = 0 ↔ x.toBitVec.getLsbD (b.toNatClampNeg % 64) = true := by
  rw [lgc0]
  have e : (x.toUInt64 >>> ((b &&& 63).toInt64.toUInt64 &&& Int64.toUInt64 63)).toBitVec = x.toBitVec >>> (b.toNatClampNeg % 64) := by
    rw [UInt64.toBitVec_shiftRight, Int64.toBitVec_toUInt64, BitVec.ushiftRight_eq', BitVec.toNat_umod, shu63 h0]
    congr 1
    show b.toNatClampNeg % 64 % 64 = _
    omega
  rw [← Int64.toBitVec_inj, Int64.toBitVec_and, UInt64.toBitVec_toInt64, e]
  constructor
  · intro z
    have := congrArg (fun v => BitVec.getLsbD v 0) z
    simp only [BitVec.getLsbD_and, BitVec.getLsbD_ushiftRight] at this
    rw [Nat.add_zero] at this
    have o : (1 : Int64).toBitVec.getLsbD 0 = true := by decide
    rw [o, Bool.and_true] at this
    exact this
  · intro z
    refine BitVec.eq_of_getLsbD_eq (fun i hi => ?_)
    rw [BitVec.getLsbD_and, BitVec.getLsbD_ushiftRight]
    by_cases h : i = 0
    · subst h
      rw [Nat.add_zero, z]
      rfl
    · have o : (1 : Int64).toBitVec.getLsbD i = false := by
        rw [show (1 : Int64).toBitVec = 1#64 from rfl, BitVec.getLsbD_one]
        simp [h]
      rw [o, Bool.and_false]
theorem bit_s {x : Int64} {b : Int32} {j : Nat} (h0 : 0 ≤ b) (hj : j < 64) : (x ||| ((1 : Int64) <<< ((b &&& 63).toInt64 &&& 63))).toBitVec.getLsbD j = (x.toBitVec.getLsbD j || decide (j = b.toNatClampNeg % 64)) := by
  have hm : b.toNatClampNeg % 64 < 64 := Nat.mod_lt _ (by decide)
  have e : ((1 : Int64) <<< ((b &&& 63).toInt64 &&& 63)).toBitVec = 1#64 <<< (b.toNatClampNeg % 64) := by
    rw [Int64.toBitVec_shiftLeft, BitVec.shiftLeft_eq']
    congr 1
    have s := sh63 h0
    have ms : ((b &&& 63).toInt64 &&& 63).toBitVec.msb = false := by
      rw [BitVec.msb_eq_decide, s]
      simp only [decide_eq_false_iff_not]
      omega
    rw [BitVec.smod_eq, ms, show (BitVec.msb (64 : BitVec 64)) = false from by decide]
    show (((b &&& 63).toInt64 &&& 63).toBitVec.umod 64).toNat = _
    rw [show ((((b &&& 63).toInt64 &&& 63).toBitVec.umod 64).toNat) = ((b &&& 63).toInt64 &&& 63).toBitVec.toNat % 64 from rfl, s]
    omega
  rw [Int64.toBitVec_or, BitVec.getLsbD_or, e, BitVec.getLsbD_shiftLeft, BitVec.getLsbD_one]
  congr 1
  by_cases h : j = b.toNatClampNeg % 64
  · rw [decide_eq_true h]
    simp [h, hm]
  · rw [decide_eq_false h]
    by_cases l : j < b.toNatClampNeg % 64
    · simp [l]
    · have : j - b.toNatClampNeg % 64 ≠ 0 := by omega
      simp [this]
theorem bit_o {x y : Int64} {j : Nat} : (x ||| y).toBitVec.getLsbD j = (x.toBitVec.getLsbD j || y.toBitVec.getLsbD j) := by
  rw [Int64.toBitVec_or, BitVec.getLsbD_or]
theorem shr6 {b : Int32} (h0 : 0 ≤ b) (h1 : b < 1000) : (0 ≤ b >>> ((6 : Int32) &&& 31) ∧ b >>> ((6 : Int32) &&& 31) < 16) ∧ (b >>> ((6 : Int32) &&& 31)).toNatClampNeg = b.toNatClampNeg / 64 := by
  have e : (b >>> ((6 : Int32) &&& 31)).toInt = b.toInt / 64 := by
    have e : (b >>> ((6 : Int32) &&& 31)).toBitVec = b.toBitVec.sshiftRight 6 := by
      rw [Int32.toBitVec_shiftRight]
      rfl
    have t : (b >>> ((6 : Int32) &&& 31)).toInt = (b.toBitVec.sshiftRight 6).toInt := by rw [← e]; rfl
    rw [t, BitVec.toInt_sshiftRight, Int.shiftRight_eq_div_pow]
    rfl
  have b0 := t0 h0
  have b1 := Int32.lt_iff_toInt_lt.mp h1
  rw [show (1000 : Int32).toInt = 1000 from rfl] at b1
  have n0 : 0 ≤ b >>> ((6 : Int32) &&& 31) := Int32.le_iff_toInt_le.mpr (by rw [Int32.toInt_zero, e]; omega)
  have c := cn_int n0
  have d := cn_int h0
  exact ⟨⟨n0, Int32.lt_iff_toInt_lt.mpr (by rw [e, show (16 : Int32).toInt = 16 from rfl]; omega)⟩, by omega⟩
theorem x16 {a w : Int32} (a0 : 0 ≤ a) (a1 : a < 1000) (w0 : 0 ≤ w) (w1 : w < 16) : (0 ≤ 16 * a + w ∧ 16 * a + w < 16000) ∧ (16 * a + w).toNatClampNeg = 16 * a.toNatClampNeg + w.toNatClampNeg := by
  have r : 0 ≤ 16 * a + w ∧ 16 * a + w < 16000 ∧ 0 ≤ 16 * a := by grind
  have e : (16 * a + w).toInt = 16 * a.toInt + w.toInt := by
    have a2 := t0 a0
    have a3 := Int32.lt_iff_toInt_lt.mp a1
    have w2 := t0 w0
    have w3 := Int32.lt_iff_toInt_lt.mp w1
    rw [show (1000 : Int32).toInt = 1000 from rfl] at a3
    rw [show (16 : Int32).toInt = 16 from rfl] at w3
    have m : (16 * a).toInt = 16 * a.toInt := by
      rw [Int32.toInt_mul, show (16 : Int32).toInt = 16 from rfl]
      exact Int.bmod_eq_of_le (by omega) (by omega)
    rw [i_add r.2.2 w0 (by rw [m]; omega), m]
  have c := cn_int r.1
  have d := cn_int a0
  have f := cn_int w0
  exact ⟨⟨r.1, r.2.1⟩, by omega⟩
theorem leads_c {C : rCx} (hC : cOK C)  {σ : rS} {a1 : Int32} {a2 : Int32} {Q : Int32 → rS → Prop} (hp : 0 ≤ a1 ∧ a1 < 1000 ∧ 0 ≤ a2 ∧ a2 < 1000) (h : ∀ (v : Int32), (nb v ∧ (v ≠ 0 ↔ bR (σ.2.2.2 86) a1.toNatClampNeg a2.toNatClampNeg = true)) → Q v σ) : cI C 0 m_leads [.ref (co C), .int a1, .int a2] σ Q := by
  refine m_leads_run hC ?_
  unfold w_leads_0
  obtain ⟨h0, h1, h2, h3⟩ := hp
  have s := shr6 h2 h3
  have x := x16 h0 h1 s.1.1 s.1.2
  refine ⟨ib_16000.mpr ?_, ?_⟩
  · clear h; exact x.1  -- b1
  refine ⟨fun c1 => ?_, fun c1 => ?_⟩
  · skip
    refine h _ ?_
    · clear h; rw [x.2, s.2, bit_g h2] at c1
      exact ⟨nb_0, fun z => absurd rfl z, fun z => absurd z c1⟩
  · skip
    refine h _ ?_
    · clear h; rw [x.2, s.2, bit_g h2] at c1
      exact ⟨nb_1, fun _ => c1, fun _ => by decide⟩
