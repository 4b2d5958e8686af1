set_option maxHeartbeats 1600000
/-! names packed into numbers: eight bytes in 64 bits, four in 32 -/
/-- byte i of eight -/
def b8_5 (x : Int64) (i : Nat) : BitVec 8 := x.toBitVec.extractLsb' (56 - 8 * i) 8
theorem b8_z5 {i : Nat} : b8_5 0 i = 0 := by
  unfold b8_5
  apply BitVec.eq_of_getLsbD_eq
  intro j hj
  simp
/-- eight bytes say the whole number -/
theorem b8_e5 {x y : Int64} (h : ∀ i, i < 8 → b8_5 x i = b8_5 y i) : x = y := by
  apply Int64.toBitVec_inj.mp
  apply BitVec.eq_of_getLsbD_eq
  intro j hj
  have h1 := h (7 - j / 8) (by omega)
  have h2 := congrArg (fun z => BitVec.getLsbD z (j % 8)) h1
  unfold b8_5 at h2
  simp only [BitVec.getLsbD_extractLsb'] at h2
  have e : 56 - 8 * (7 - j / 8) + j % 8 = j := by omega
  have l : j % 8 < 8 := by omega
  rw [e] at h2
  simpa [l] using h2
theorem tb_5 {n p : Nat} (h : n < 256) (hp : 8 ≤ p) : n.testBit p = false := Nat.testBit_lt_two_pow (Nat.lt_of_lt_of_le h (by
  have : 2 ^ 8 ≤ 2 ^ p := Nat.pow_le_pow_right (by decide) hp
  omega))
theorem b8_s5 {x y : Int64} {n k i : Nat} (hn : n < 256) (hk : k < 8) (hi : i < 8) (hy : y.toBitVec = BitVec.ofNat 64 n <<< (56 - 8 * k)) : b8_5 (x ||| y) i = if i = k then b8_5 x i ||| BitVec.ofNat 8 n else b8_5 x i := by
  have hb : ∀ j, j < 8 → (b8_5 (x ||| y) i).getLsbD j = ((b8_5 x i).getLsbD j || (decide (56 - 8 * k ≤ 56 - 8 * i + j) && n.testBit (56 - 8 * i + j - (56 - 8 * k)))) := fun j hj => by
    unfold b8_5
    rw [Int64.toBitVec_or, hy]
    simp only [BitVec.getLsbD_extractLsb', BitVec.getLsbD_or, BitVec.getLsbD_shiftLeft, BitVec.getLsbD_ofNat]
    have l1 : 56 - 8 * i + j < 64 := by omega
    have l2 : 56 - 8 * i + j - (56 - 8 * k) < 64 := by omega
    simp only [hj, l1, l2, decide_true, Bool.true_and]
    by_cases q : 56 - 8 * i + j < 56 - 8 * k
    · have q2 : ¬ 56 - 8 * k ≤ 56 - 8 * i + j := by omega
      simp [q, q2]
    · have q2 : 56 - 8 * k ≤ 56 - 8 * i + j := by omega
      simp [q, q2]
  apply BitVec.eq_of_getLsbD_eq
  intro j hj
  rw [hb j hj]
  by_cases e : i = k
  · subst e
    rw [if_pos rfl, BitVec.getLsbD_or, BitVec.getLsbD_ofNat]
    have q : 56 - 8 * i + j - (56 - 8 * i) = j := by omega
    rw [q]
    simp [hj]
  · rw [if_neg e]
    by_cases l : i < k
    · rw [tb_5 hn (p := 56 - 8 * i + j - (56 - 8 * k)) (by omega)]
      simp
    · have q : ¬ 56 - 8 * k ≤ 56 - 8 * i + j := by omega
      simp [q]
theorem sm_n5 : ∀ n, n < 64 → ((Int64.ofNat n).toBitVec.smod 64).toNat = n := by decide
theorem sh_5 {a : Int64} {n : Nat} (hn : n < 64) : (a <<< (Int64.ofNat n)).toBitVec = a.toBitVec <<< n := by
  rw [Int64.toBitVec_shiftLeft]
  show a.toBitVec <<< ((Int64.ofNat n).toBitVec.smod 64) = _
  rw [BitVec.shiftLeft_eq', sm_n5 n hn]
theorem by_n5 {b : Int32} {n : Nat} (h : b.toInt = n) : b.toInt64.toBitVec = BitVec.ofNat 64 n := by
  have hb := b.toInt_lt
  have e : b.toInt64 = Int64.ofNat n := by
    apply Int64.toInt_inj.mp
    rw [Int32.toInt_toInt64, h, Int64.toInt_ofNat_of_lt (by omega)]
  rw [e]
  rfl
/-- the shifts that a byte's place wants -/
theorem sf_5 : ∀ k, k < 8 → (((56 : Int32) - 8 * Int32.ofNat k).toInt64 &&& 63) = Int64.ofNat (56 - 8 * k) := by decide
theorem b8_b5 {x : Int64} {b v : Int32} {n k i : Nat} (hb : b.toInt = n) (hn : n < 256) (hv : v = Int32.ofNat k) (hk : k < 8) (hi : i < 8) : b8_5 (x ||| (b.toInt64 <<< (((56 : Int32) - 8 * v).toInt64 &&& 63))) i = if i = k then b8_5 x i ||| BitVec.ofNat 8 n else b8_5 x i := by
  refine b8_s5 hn hk hi ?_
  rw [hv, sf_5 k hk, sh_5 (by omega), by_n5 hb]
/-- byte i of four -/
def b4_5 (x : Int32) (i : Nat) : BitVec 8 := x.toBitVec.extractLsb' (24 - 8 * i) 8
theorem b4_z5 {i : Nat} : b4_5 0 i = 0 := by
  unfold b4_5
  apply BitVec.eq_of_getLsbD_eq
  intro j hj
  simp
theorem b4_e5 {x y : Int32} (h : ∀ i, i < 4 → b4_5 x i = b4_5 y i) : x = y := by
  apply Int32.toBitVec_inj.mp
  apply BitVec.eq_of_getLsbD_eq
  intro j hj
  have h1 := h (3 - j / 8) (by omega)
  have h2 := congrArg (fun z => BitVec.getLsbD z (j % 8)) h1
  unfold b4_5 at h2
  simp only [BitVec.getLsbD_extractLsb'] at h2
  have e : 24 - 8 * (3 - j / 8) + j % 8 = j := by omega
  have l : j % 8 < 8 := by omega
  rw [e] at h2
  simpa [l] using h2
theorem b4_s5 {x y : Int32} {n k i : Nat} (hn : n < 256) (hk : k < 4) (hi : i < 4) (hy : y.toBitVec = BitVec.ofNat 32 n <<< (24 - 8 * k)) : b4_5 (x ||| y) i = if i = k then b4_5 x i ||| BitVec.ofNat 8 n else b4_5 x i := by
  have hb : ∀ j, j < 8 → (b4_5 (x ||| y) i).getLsbD j = ((b4_5 x i).getLsbD j || (decide (24 - 8 * k ≤ 24 - 8 * i + j) && n.testBit (24 - 8 * i + j - (24 - 8 * k)))) := fun j hj => by
    unfold b4_5
    rw [Int32.toBitVec_or, hy]
    simp only [BitVec.getLsbD_extractLsb', BitVec.getLsbD_or, BitVec.getLsbD_shiftLeft, BitVec.getLsbD_ofNat]
    have l1 : 24 - 8 * i + j < 32 := by omega
    have l2 : 24 - 8 * i + j - (24 - 8 * k) < 32 := by omega
    simp only [hj, l1, l2, decide_true, Bool.true_and]
    by_cases q : 24 - 8 * i + j < 24 - 8 * k
    · have q2 : ¬ 24 - 8 * k ≤ 24 - 8 * i + j := by omega
      simp [q, q2]
    · have q2 : 24 - 8 * k ≤ 24 - 8 * i + j := by omega
      simp [q, q2]
  apply BitVec.eq_of_getLsbD_eq
  intro j hj
  rw [hb j hj]
  by_cases e : i = k
  · subst e
    rw [if_pos rfl, BitVec.getLsbD_or, BitVec.getLsbD_ofNat]
    have q : 24 - 8 * i + j - (24 - 8 * i) = j := by omega
    rw [q]
    simp [hj]
  · rw [if_neg e]
    by_cases l : i < k
    · rw [tb_5 hn (p := 24 - 8 * i + j - (24 - 8 * k)) (by omega)]
      simp
    · have q : ¬ 24 - 8 * k ≤ 24 - 8 * i + j := by omega
      simp [q]
theorem sm_m5 : ∀ n, n < 32 → ((Int32.ofNat n).toBitVec.smod 32).toNat = n := by decide
theorem sh_45 {a : Int32} {n : Nat} (hn : n < 32) : (a <<< (Int32.ofNat n)).toBitVec = a.toBitVec <<< n := by
  rw [Int32.toBitVec_shiftLeft]
  show a.toBitVec <<< ((Int32.ofNat n).toBitVec.smod 32) = _
  rw [BitVec.shiftLeft_eq', sm_m5 n hn]
theorem by_m5 {b : Int32} {n : Nat} (h : b.toInt = n) : b.toBitVec = BitVec.ofNat 32 n := by
  have hb := b.toInt_lt
  have e : b = Int32.ofNat n := by
    apply Int32.toInt_inj.mp
    rw [h, Int32.toInt_ofNat_of_lt (by omega)]
  rw [e]
  rfl
theorem sf_45 : ∀ k, k < 4 → (((24 : Int32) - 8 * (Int32.ofNat (8 + k) - 8)) &&& 31) = Int32.ofNat (24 - 8 * k) := by decide
theorem b4_b5 {x b v : Int32} {n k i : Nat} (hb : b.toInt = n) (hn : n < 256) (hv : v = Int32.ofNat (8 + k)) (hk : k < 4) (hi : i < 4) : b4_5 (x ||| (b <<< (((24 : Int32) - 8 * (v - 8)) &&& 31))) i = if i = k then b4_5 x i ||| BitVec.ofNat 8 n else b4_5 x i := by
  refine b4_s5 hn hk hi ?_
  rw [hv, sf_45 k hk, sh_45 (by omega), by_m5 hb]
