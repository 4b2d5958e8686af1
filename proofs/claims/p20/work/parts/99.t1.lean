set_option maxHeartbeats 1600000
/-! the reference: the visits within a ring -/
/-- slots that are kept -/
def kpH (D : Nat → Prop) (σ τ : rS) : Prop := ∀ s q, D s → hL σ s q → hL τ s q
theorem kpH_refl {D : Nat → Prop} {σ : rS} : kpH D σ σ := fun _ _ _ h => h
theorem kpH_tr {D : Nat → Prop} {σ τ υ : rS} (h : kpH D σ τ) (g : kpH D τ υ) : kpH D σ υ := fun s q d z => g s q d (h s q d z)
theorem kpH_K {D : Nat → Prop} {l : List Nat} {σ τ : rS} {s : Nat} (f : frK l (260 * s) (260 * s + 260) σ τ) (hD : ∀ r, D r → r ≠ s) : kpH D σ τ := fun r q d z => hL_K f (by have := hD r d; omega) z
theorem kpH_e {D : Nat → Prop} {σ τ : rS} (h : τ.2.2.1 93 = σ.2.2.1 93) : kpH D σ τ := fun _ _ _ z => hL_e (fun _ _ _ => by rw [h]) z
/-- all slots but the row on the way and the results of a -/
def dOf (a : Nat) (s : Nat) : Prop := s < 1088 ∨ (1120 ≤ s ∧ (s < 1152 + 32 * a ∨ 1152 + 32 * a + 32 ≤ s))
theorem fdJ_kp {a m k : Nat} {σ τ : rS} {P : Nat → Nat → Rat} {F : Nat → Nat → Nat} (hm : m ≤ 32) (h : kpH (dOf a) σ τ) (J : fdJ σ P m F k) : fdJ τ P m F k := ⟨fun i j hi hj => h _ _ (Or.inl (by omega)) (J.1 i j hi hj), fun i hi => h _ _ (Or.inl (by omega)) (J.2.1 i hi), fun l h1 h2 => h _ _ (Or.inl (by omega)) (J.2.2 l h1 h2)⟩
/-- the row on the way: stages by a function -/
def xrJ (τ : rS) (P : Nat → Nat → Rat) (m a : Nat) (F : Nat → Nat) : Prop := ∀ j, j < m → hL τ (1088 + j) (elX P m (dl a) (F j) j)
def xsF (m n t : Nat) : Nat → Nat := fun j => if j < t then n + 1 else min n (m - 1 - j)
theorem ixr {c a b : Int32} (c0 : 0 ≤ c) (c1 : c ≤ 1152) (a0 : 0 ≤ a) (a1 : a < 32) (b0 : 0 ≤ b) (b1 : b < 32) : (0 ≤ c + 32 * a + b ∧ c + 32 * a + b < 2176) ∧ (c + 32 * a + b).toNatClampNeg = c.toNatClampNeg + 32 * a.toNatClampNeg + b.toNatClampNeg := by
  have s := ixs a0 a1 b0 b1
  have x := t0 c0
  have y := ti c1
  rw [show (1152 : Int32).toInt = 1152 from rfl] at y
  have k1 := cn_int c0
  have k2 := cn_int s.1.1
  have f := i_add c0 s.1.1 (by omega)
  have q : 0 ≤ c + (32 * a + b) := Int32.le_iff_toInt_le.mpr (by rw [f, Int32.toInt_zero]; omega)
  have k3 := cn_int q
  rw [Int32.add_assoc]
  exact ⟨⟨q, Int32.lt_iff_toInt_lt.mpr (by rw [f, show (2176 : Int32).toInt = 2176 from rfl]; omega)⟩, by omega⟩
