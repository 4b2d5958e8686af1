/-! numbers of 32 bits as whole numbers; first promises of the reference's methods -/
theorem inb_iff {i : Int32} {n : Nat} : inb i n ↔ 0 ≤ i.toInt ∧ i.toInt < n := by
  unfold inb
  rw [Int32.lt_iff_toInt_lt, Int32.toInt_zero]
  have : i.toNatClampNeg = i.toInt.toNat := rfl
  rw [this]
  omega
theorem inb_lt {i x : Int32} {n : Nat} (h0 : 0 ≤ i) (h1 : i < x) (hx : x.toInt = n) : inb i n := by
  rw [inb_iff]
  rw [Int32.le_iff_toInt_le, Int32.toInt_zero] at h0
  rw [Int32.lt_iff_toInt_lt] at h1
  omega
theorem cn_lt {x y : Int32} (h0 : 0 ≤ x) (h : x < y) : x.toNatClampNeg < y.toNatClampNeg := by
  rw [Int32.le_iff_toInt_le, Int32.toInt_zero] at h0
  rw [Int32.lt_iff_toInt_lt] at h
  have h1 : x.toNatClampNeg = x.toInt.toNat := rfl
  have h2 : y.toNatClampNeg = y.toInt.toNat := rfl
  omega
theorem cn_inj {x y : Int32} (h0 : 0 ≤ x) (h1 : 0 ≤ y) (h : x.toNatClampNeg = y.toNatClampNeg) : x = y := by
  rw [Int32.le_iff_toInt_le, Int32.toInt_zero] at h0 h1
  have h2 : x.toNatClampNeg = x.toInt.toNat := rfl
  have h3 : y.toNatClampNeg = y.toInt.toNat := rfl
  exact Int32.toInt_inj.mp (by omega)
/-- the byte at a place of a tape, -1 behind it -/
def bAt (s : Int32) (r : Nat → Int32) (k : Int32) : Int32 := if s ≤ k then -1 else r k.toNatClampNeg &&& 255
