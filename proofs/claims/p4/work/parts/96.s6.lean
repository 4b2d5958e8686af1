set_option maxHeartbeats 1600000
/-! the fractions of a ring have at most 129 places -/
theorem elX_add {P : Nat → Nat → Rat} {m : Nat} {x y : Nat → Rat} : ∀ {n j : Nat}, elX P m (fun j => x j + y j) n j = elX P m x n j + elX P m y n j
  | 0, _ => rfl
  | n + 1, j => by
    show elX P m (fun j => x j + y j) n j + elX P m (fun j => x j + y j) n (m - 1 - n) * elN P m n (m - 1 - n) j * (elS (elN P m n) m (m - 1 - n))⁻¹ = elX P m x n j + elX P m x n (m - 1 - n) * elN P m n (m - 1 - n) j * (elS (elN P m n) m (m - 1 - n))⁻¹ + (elX P m y n j + elX P m y n (m - 1 - n) * elN P m n (m - 1 - n) j * (elS (elN P m n) m (m - 1 - n))⁻¹)
    rw [elX_add (n := n), elX_add (n := n)]
    generalize (elS (elN P m n) m (m - 1 - n))⁻¹ = U
    generalize elN P m n (m - 1 - n) j = A
    grind
theorem elX_mul {P : Nat → Nat → Rat} {m : Nat} {x : Nat → Rat} {c : Rat} : ∀ {n j : Nat}, elX P m (fun j => c * x j) n j = c * elX P m x n j
  | 0, _ => rfl
  | n + 1, j => by
    show elX P m (fun j => c * x j) n j + elX P m (fun j => c * x j) n (m - 1 - n) * elN P m n (m - 1 - n) j * (elS (elN P m n) m (m - 1 - n))⁻¹ = c * (elX P m x n j + elX P m x n (m - 1 - n) * elN P m n (m - 1 - n) j * (elS (elN P m n) m (m - 1 - n))⁻¹)
    rw [elX_mul (n := n), elX_mul (n := n)]
    generalize (elS (elN P m n) m (m - 1 - n))⁻¹ = U
    generalize elN P m n (m - 1 - n) j = A
    grind
theorem elX_sum {P : Nat → Nat → Rat} {m : Nat} {x v : Nat → Rat} {n j : Nat} : ∀ {t : Nat}, elX P m (fun j => x j + smQ (fun r => v r * P r j) t) n j = elX P m x n j + smQ (fun r => v r * elN P m n r j) t
  | 0 => by
    have e : (fun j => x j + smQ (fun r => v r * P r j) 0) = x := funext (fun j => Rat.add_zero (x j))
    rw [e]
    exact (Rat.add_zero _).symm
  | t + 1 => by
    have e : (fun j => x j + smQ (fun r => v r * P r j) (t + 1)) = (fun j => (x j + smQ (fun r => v r * P r j) t) + v t * P t j) := funext (fun j => by rw [smQ_s, Rat.add_assoc])
    rw [e, elX_add (x := fun j => x j + smQ (fun r => v r * P r j) t) (y := fun j => v t * P t j), elX_sum (t := t), elX_mul (x := P t), elX_row, smQ_s, Rat.add_assoc]
/-- whole weights: T the totals, K the weights -/
def whl (P : Nat → Nat → Rat) (m : Nat) (T : Nat → Nat) (K : Nat → Nat → Int) : Prop := (∀ r, r < m → 0 < T r ∧ T r ≤ 2 ^ 23) ∧ ∀ r j, r < m → (j < m ∨ j = m) → ((K r j : Int) : Rat) = (T r : Rat) * P r j ∧ 0 ≤ K r j ∧ K r j ≤ (T r : Int)
def nnI (T : Nat → Nat) (K : Nat → Nat → Int) (r j : Nat) : Int := (if r = j then (T r : Int) else 0) - K r j
theorem nnI_v {P : Nat → Nat → Rat} {m : Nat} {T : Nat → Nat} {K : Nat → Nat → Int} (h : whl P m T K) {r j : Nat} (hr : r < m) (hj : j < m ∨ j = m) : ((nnI T K r j : Int) : Rat) = (T r : Rat) * (dl r j - P r j) ∧ (nnI T K r j).natAbs ≤ 2 ^ 23 := by
  have k := h.2 r j hr hj
  have t := h.1 r hr
  unfold nnI dl
  constructor
  · rw [Rat.intCast_sub, k.1]
    split
    · rw [Rat.intCast_natCast]; grind
    · rw [Rat.intCast_zero]; grind
  · split <;> omega
theorem F1 {P : Nat → Nat → Rat} {m n i : Nat} {T : Nat → Nat} {K : Nat → Nat → Int} (h : Mk P m m) (hw : whl P m T K) (hm : m ≤ 32) (hi : i < m - n) : ∃ M : Nat, 0 < M ∧ M ≤ 2 ^ 922 ∧ ∀ j, (j < m - n ∨ j = m) → ∃ z : Int, (M : Rat) * elN P m n i j = (z : Rat) ∧ z.natAbs ≤ 2 ^ 927 := by
  have t := hw.1 i (by omega)
  obtain ⟨c, c1, c2, c3⟩ := el_fit (x := P i) (W := fun j => -K i j) (B := T i) h (by omega) (by omega) (pwH (by omega : n ≤ 31)).1 t.1 (fun r hr => (hw.1 r hr).1) (fun r j hr hj => (nnI_v hw hr hj).1) (fun j hj => by rw [Rat.intCast_neg, (hw.2 i j (by omega) hj).1]) (fun r j hr hj => (nnI_v hw hr hj).2) (fun j hj => by have := (hw.2 i j (by omega) hj).2; show (-K i j).natAbs ≤ _; omega)
  refine ⟨c * T i, Nat.mul_pos c1 t.1, ?_, fun j hj => ?_⟩
  · have := Nat.mul_le_mul c2 t.2
    rwa [← Nat.pow_add] at this
  · obtain ⟨z, z1, z2⟩ := c3 j hj
    rw [elX_row] at z1
    rw [← Nat.pow_add] at z2
    exact ⟨z, z1, z2⟩
theorem F1f {P : Nat → Nat → Rat} {m n i j : Nat} {T : Nat → Nat} {K : Nat → Nat → Int} (h : Mk P m m) (hw : whl P m T K) (hm : m ≤ 32) (hi : i < m - n) (hj : j < m - n ∨ j = m) : fit (elN P m n i j) := by
  obtain ⟨M, m1, m2, m3⟩ := F1 h hw hm hi
  obtain ⟨z, z1, z2⟩ := m3 j hj
  exact fit_of (by omega) z1 (Nat.lt_of_le_of_lt m2 (pw129 (by omega))) (Nat.lt_of_le_of_lt z2 (pw129 (by omega)))
