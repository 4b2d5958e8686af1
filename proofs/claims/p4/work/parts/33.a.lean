/-! 32-bit numbers that stay small, as whole numbers -/
theorem i_sub {x y : Int32} (hx : 0 ≤ x) (hy : 0 ≤ y) : (x - y).toInt = x.toInt - y.toInt := by
  rw [Int32.le_iff_toInt_le, Int32.toInt_zero] at hx hy
  have h1 := Int32.toInt_lt x
  have h2 := Int32.toInt_lt y
  rw [Int32.toInt_sub, Int.bmod_eq_of_le] <;> omega
theorem i_add {x y : Int32} (hx : 0 ≤ x) (hy : 0 ≤ y) (h : x.toInt + y.toInt < 2147483648) : (x + y).toInt = x.toInt + y.toInt := by
  rw [Int32.le_iff_toInt_le, Int32.toInt_zero] at hx hy
  rw [Int32.toInt_add, Int.bmod_eq_of_le] <;> omega
/-- places of tokens: B ≤ A ≤ a ≤ T, within one book -/
def pL (B T A a : Int32) : Prop := 0 ≤ B ∧ B ≤ A ∧ A ≤ a ∧ a ≤ T ∧ T < 131074 ∧ T.toInt - B.toInt ≤ 65536
theorem pL_up {B T A a k : Int32} (h : pL B T A a) (hk : k = 1 ∨ k = 2) (ha : a + k ≤ T) : a - A < a + k - A ∧ a + k - A ≤ 65537 ∧ pL B T A (a + k) := by
  obtain ⟨h1, h2, h3, h4, h5, h6⟩ := h
  have ha0 : 0 ≤ a := Int32.le_trans h1 (Int32.le_trans h2 h3)
  have hA0 : 0 ≤ A := Int32.le_trans h1 h2
  have hk0 : 0 ≤ k := by rcases hk with rfl | rfl <;> decide
  have hk1 : k.toInt = 1 ∨ k.toInt = 2 := by rcases hk with rfl | rfl; exact Or.inl rfl; exact Or.inr rfl
  have ha1 := Int32.le_iff_toInt_le.mp h4
  have hT := Int32.lt_iff_toInt_lt.mp h5
  rw [show (131074 : Int32).toInt = 131074 from rfl] at hT
  have e1 : (a + k).toInt = a.toInt + k.toInt := i_add ha0 hk0 (by omega)
  have hak : 0 ≤ a + k := by rw [Int32.le_iff_toInt_le, Int32.toInt_zero, e1]; have := Int32.le_iff_toInt_le.mp ha0; rw [Int32.toInt_zero] at this; omega
  have e2 := i_sub hak hA0
  have e3 := i_sub ha0 hA0
  have g2 := Int32.le_iff_toInt_le.mp h2
  have g3 := Int32.le_iff_toInt_le.mp h3
  have g4 := Int32.le_iff_toInt_le.mp ha
  refine ⟨?_, ?_, h1, h2, ?_, ha, h5, h6⟩
  · rw [Int32.lt_iff_toInt_lt, e2, e3, e1]; omega
  · rw [Int32.le_iff_toInt_le, e2, e1, show (65537 : Int32).toInt = 65537 from rfl]; omega
  · rw [Int32.le_iff_toInt_le, e1]; omega
