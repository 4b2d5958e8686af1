set_option maxHeartbeats 1600000
/-! the sizes of the fractions of a ring -/
theorem sNt_le {f : Nat → Nat} {a : Nat} : ∀ {n : Nat}, (∀ t, t < n → f t ≤ a) → sNt f n ≤ n * a
  | 0, _ => Nat.zero_le _
  | n + 1, h => by
    have ih := sNt_le (f := f) (a := a) (n := n) (fun t ht => h t (by omega))
    have l := h n (by omega)
    show sNt f n + f n ≤ (n + 1) * a
    rw [Nat.add_mul, Nat.one_mul]
    omega
theorem siz {Z X h0 h1 n : Nat} (h : 2 * Z + 1 ≤ X * (h1 + 1)) (hX : X ^ n ≤ h0) : (2 * Z + 1) ^ n < (h0 + 1) * (h1 + 1) ^ n := by
  have a : (2 * Z + 1) ^ n ≤ (X * (h1 + 1)) ^ n := Nat.pow_le_pow_left h n
  rw [Nat.mul_pow] at a
  have b : X ^ n * (h1 + 1) ^ n ≤ h0 * (h1 + 1) ^ n := Nat.mul_le_mul_right _ hX
  have p : 0 < (h1 + 1) ^ n := Nat.pow_pos (Nat.succ_pos h1)
  rw [Nat.add_mul, Nat.one_mul]
  omega
theorem el_fit {P : Nat → Nat → Rat} {m n H : Nat} {T : Nat → Nat} {N : Nat → Nat → Int} {W : Nat → Int} {B : Nat} {x : Nat → Rat} (h : Mk P m m) (hn : n ≤ m) (hn2 : n ≤ 31) (hH : (2 ^ 29) ^ n ≤ H) (hB : 0 < B) (hT : ∀ r, r < m → 0 < T r) (hN : ∀ r j, r < m → (j < m ∨ j = m) → ((N r j : Int) : Rat) = (T r : Rat) * (dl r j - P r j)) (hW : ∀ j, (j < m ∨ j = m) → ((W j : Int) : Rat) = -((B : Rat) * x j)) (bN : ∀ r j, r < m → (j < m ∨ j = m) → (N r j).natAbs ≤ 2 ^ 23) (bW : ∀ j, (j < m ∨ j = m) → (W j).natAbs ≤ 2 ^ 23) : ∃ c : Nat, 0 < c ∧ c ≤ H ∧ ∀ j, (j < m - n ∨ j = m) → ∃ z : Int, ((c * B : Nat) : Rat) * elX P m x n j = (z : Rat) ∧ z.natAbs ≤ 2 ^ 28 * H := by
  have col : ∀ j, (j < m ∨ j = m) → H * (W j).natAbs + sNt (fun t => H * (N (m - n + t) j).natAbs) n ≤ 2 ^ 28 * H := fun j hj => by
    have a : H * (W j).natAbs ≤ H * 2 ^ 23 := Nat.mul_le_mul_left _ (bW j hj)
    have b : sNt (fun t => H * (N (m - n + t) j).natAbs) n ≤ n * (H * 2 ^ 23) := sNt_le (fun t ht => Nat.mul_le_mul_left _ (bN _ j (by omega) hj))
    have d : n * (H * 2 ^ 23) ≤ 31 * (H * 2 ^ 23) := Nat.mul_le_mul_right _ hn2
    omega
  obtain ⟨c, c1, c2, c3⟩ := el_den h hn hB hT hN hW (fun j hj => col (m - n + j) (by omega)) (siz (X := 2 ^ 29) (h1 := H) (by omega) hH)
  exact ⟨c, c1, c2, fun j hj => by
    obtain ⟨z, z1, z2⟩ := c3 j hj
    exact ⟨z, z1, Nat.le_trans z2 (col j (by omega))⟩⟩
/-- the same for a row whose own numbers reach up to G -/
theorem el_fit2 {P : Nat → Nat → Rat} {m n H G : Nat} {T : Nat → Nat} {N : Nat → Nat → Int} {W : Nat → Int} {B : Nat} {x : Nat → Rat} (h : Mk P m m) (hn : n ≤ m) (hn2 : n ≤ 31) (hH : (2 ^ 31) ^ n ≤ H) (hB : 0 < B) (hT : ∀ r, r < m → 0 < T r) (hN : ∀ r j, r < m → (j < m ∨ j = m) → ((N r j : Int) : Rat) = (T r : Rat) * (dl r j - P r j)) (hW : ∀ j, (j < m ∨ j = m) → ((W j : Int) : Rat) = -((B : Rat) * x j)) (bN : ∀ r j, r < m → (j < m ∨ j = m) → (N r j).natAbs ≤ 2 ^ 23) (bW : ∀ j, (j < m ∨ j = m) → (W j).natAbs ≤ 2 ^ 29 * G) : ∃ c : Nat, 0 < c ∧ c ≤ H ∧ ∀ j, (j < m - n ∨ j = m) → ∃ z : Int, ((c * B : Nat) : Rat) * elX P m x n j = (z : Rat) ∧ z.natAbs ≤ 2 ^ 30 * (H * G) := by
  have col : ∀ j, (j < m ∨ j = m) → H * (W j).natAbs + sNt (fun t => H * G * (N (m - n + t) j).natAbs) n ≤ 2 ^ 30 * (H * G) := fun j hj => by
    have a : H * (W j).natAbs ≤ H * (2 ^ 29 * G) := Nat.mul_le_mul_left _ (bW j hj)
    have b : sNt (fun t => H * G * (N (m - n + t) j).natAbs) n ≤ n * (H * G * 2 ^ 23) := sNt_le (fun t ht => Nat.mul_le_mul_left _ (bN _ j (by omega) hj))
    have d : n * (H * G * 2 ^ 23) ≤ 31 * (H * G * 2 ^ 23) := Nat.mul_le_mul_right _ hn2
    have e : H * (2 ^ 29 * G) = 2 ^ 29 * (H * G) := Nat.mul_left_comm ..
    omega
  obtain ⟨c, c1, c2, c3⟩ := el_den (h0 := H) (h1 := H * G) h hn hB hT hN hW (fun j hj => col (m - n + j) (by omega)) (siz (X := 2 ^ 31) (by omega) hH)
  exact ⟨c, c1, c2, fun j hj => by
    obtain ⟨z, z1, z2⟩ := c3 j hj
    exact ⟨z, z1, Nat.le_trans z2 (col j (by omega))⟩⟩
theorem pwH {n : Nat} (h : n ≤ 31) : (2 ^ 29) ^ n ≤ 2 ^ 899 ∧ (2 ^ 31) ^ n ≤ 2 ^ 961 := by
  rw [← Nat.pow_mul, ← Nat.pow_mul]
  exact ⟨Nat.pow_le_pow_right (by decide) (by omega), Nat.pow_le_pow_right (by decide) (by omega)⟩
theorem pw129 {k : Nat} (h : k < 2064) : 2 ^ k < 65536 ^ 129 := by
  rw [show (65536 : Nat) = 2 ^ 16 from rfl, ← Nat.pow_mul]
  exact Nat.pow_lt_pow_right (by decide) (by omega)
theorem fit_of {q : Rat} {M : Nat} {z : Int} (hM : M ≠ 0) (h : (M : Rat) * q = (z : Rat)) (b1 : M < 65536 ^ 129) (b2 : z.natAbs < 65536 ^ 129) : fit q := by
  have d := den_of hM h
  exact ⟨Nat.lt_of_le_of_lt d.2 b2, Nat.lt_of_le_of_lt (Nat.le_of_dvd (Nat.pos_of_ne_zero hM) d.1) b1⟩
/-- sums within one row -/
theorem row_sum {M : Nat} {f : Nat → Rat} : ∀ {n : Nat}, (∀ j, j < n → ∃ z : Int, (M : Rat) * f j = (z : Rat)) → ∃ z : Int, (M : Rat) * smQ f n = (z : Rat)
  | 0, _ => ⟨0, by show (M : Rat) * 0 = ((0 : Int) : Rat); rw [Rat.mul_zero]; rfl⟩
  | n + 1, h => by
    obtain ⟨a, ha⟩ := row_sum (n := n) (fun j hj => h j (by omega))
    obtain ⟨b, hb⟩ := h n (by omega)
    exact ⟨a + b, by rw [smQ_s, Rat.mul_add, ha, hb, Rat.intCast_add]⟩
