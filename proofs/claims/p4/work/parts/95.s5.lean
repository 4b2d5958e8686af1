set_option maxHeartbeats 1600000
/-! how often a ring's states are visited -/
theorem rc {a b U : Rat} (h : 0 < U) (e : a * U = b * U) : a = b := by
  have i := inv_s (S := U) (by grind)
  grind
theorem vis {P : Nat → Nat → Rat} {m : Nat} {T : Nat → Nat} {N : Nat → Nat → Int} {W : Nat → Int} {B h0 h1 Z : Nat} {x : Nat → Rat} (h : Mk P m m) (hT : ∀ r, r < m → 0 < T r) (hN : ∀ r j, r < m → (j < m ∨ j = m) → ((N r j : Int) : Rat) = (T r : Rat) * (dl r j - P r j)) (hW : ∀ j, (j < m ∨ j = m) → ((W j : Int) : Rat) = -((B : Rat) * x j)) (hZ : ∀ j, j < m → h0 * (W j).natAbs + sNt (fun t => h1 * (N t j).natAbs) m ≤ Z) (hs : (2 * Z + 1) ^ m < (h0 + 1) * (h1 + 1) ^ m) : ∃ c0 : Nat, ∃ c : Nat → Int, 0 < c0 ∧ c0 ≤ h0 ∧ (∀ r, (c r).natAbs ≤ h1) ∧ ∀ v : Nat → Rat, (∀ k, k < m → v k * elS (elN P m (m - 1 - k)) m k = smQ (fun r => v r * elN P m (m - 1 - k) r k) k + elX P m x (m - 1 - k) k) → ∀ k, k < m → ((c0 * B : Nat) : Rat) * v k = ((c k * T k : Int) : Rat) := by
  obtain ⟨c, c1, c2, c3⟩ := siegel (m := m) (n := m + 1) (N := fun r j => hd1 (W j) (fun t => N t j) r) (h := hd1 h0 (fun _ => h1)) (Z := Z) (fun j hj => by rw [sNt_head]; exact hZ j hj) (by show (2 * Z + 1) ^ m < (h0 + 1) * prd (fun _ => h1) m; rw [prd_c]; exact hs)
  have I : ∀ J, J < m → cmb P (fun r => (c (r + 1) : Rat) * (T r : Rat)) ((c 0 : Rat) * (B : Rat)) x m J = 0 := fun J hJ => by
    unfold cmb
    have e : smQ (fun r => (c (r + 1) : Rat) * (T r : Rat) * (dl r J - P r J)) m = smQ (fun t => ((c (t + 1) * N t J : Int) : Rat)) m := smQ_c (fun t ht => by rw [Rat.intCast_mul, hN t J ht (Or.inl hJ), Rat.mul_assoc])
    have z := c3 J hJ
    rw [sI_head] at z
    have z : c 0 * W J + sI (fun t => c (t + 1) * N t J) m = 0 := z
    have z2 : ((c 0 * W J + sI (fun t => c (t + 1) * N t J) m : Int) : Rat) = 0 := by rw [z]; rfl
    rw [Rat.intCast_add, Rat.intCast_mul, hW J (Or.inl hJ), sI_cast] at z2
    rw [e]
    generalize smQ (fun t => ((c (t + 1) * N t J : Int) : Rat)) m = A at z2 ⊢
    grind
  have ne : c 0 ≠ 0 := fun z => by
    rw [z, Rat.intCast_zero, Rat.zero_mul] at I
    obtain ⟨r, r1, r2⟩ := c1
    match r, r1, r2 with
    | 0, _, r2 => exact r2 z
    | t + 1, r1, r2 =>
      have e := el_z h (Nat.le_refl m) (fun r hr => absurd hr (by omega)) (fun j _ hj => I j hj) (Nat.le_refl t) (by omega)
      rcases Rat.mul_eq_zero.mp e with w | w
      · exact r2 (Rat.intCast_eq_zero_iff.mp w)
      · have := Rat.natCast_eq_zero_iff.mp w
        have := hT t (by omega)
        omega
  have key : ∀ v : Nat → Rat, (∀ k, k < m → v k * elS (elN P m (m - 1 - k)) m k = smQ (fun r => v r * elN P m (m - 1 - k) r k) k + elX P m x (m - 1 - k) k) → ∀ K k, k ≤ K → k < m → (c 0 : Rat) * (B : Rat) * v k = (c (k + 1) : Rat) * (T k : Rat) := fun v hv K => by
    induction K with
    | zero =>
      intro k hK hk
      have M := Mk_n h (n := m - 1 - k) (by omega)
      have q := cmb_n h (n := m - 1 - k) (by omega) (fun j h1 h2 => I j h2) k (Or.inl (by omega))
      rw [show m - (m - 1 - k) = k + 1 by omega] at q M
      rw [I k hk] at q
      have S := Mk_S M
      have a := (cmb_s (m := m) (by have := S.1; grind) S.2 q.symm).1
      have b := hv k hk
      rw [show k = 0 by omega] at a b ⊢
      refine rc (U := elS (elN P m (m - 1 - 0)) m 0) (by have := S.1; rw [show k = 0 by omega] at this; exact this) ?_
      have a : (c (0 + 1) : Rat) * (T 0 : Rat) * elS (elN P m (m - 1 - 0)) m 0 = 0 + (c 0 : Rat) * (B : Rat) * elX P m x (m - 1 - 0) 0 := a
      have b : v 0 * elS (elN P m (m - 1 - 0)) m 0 = 0 + elX P m x (m - 1 - 0) 0 := b
      grind
    | succ K ih =>
      intro k hK hk
      have M := Mk_n h (n := m - 1 - k) (by omega)
      have q := cmb_n h (n := m - 1 - k) (by omega) (fun j h1 h2 => I j h2) k (Or.inl (by omega))
      rw [show m - (m - 1 - k) = k + 1 by omega] at q M
      rw [I k hk] at q
      have S := Mk_S M
      have a := (cmb_s (m := m) (by have := S.1; grind) S.2 q.symm).1
      have b := hv k hk
      refine rc S.1 ?_
      have e : smQ (fun r => (c (r + 1) : Rat) * (T r : Rat) * elN P m (m - 1 - k) r k) k = smQ (fun r => v r * elN P m (m - 1 - k) r k) k * ((c 0 : Rat) * (B : Rat)) := by
        rw [← smQ_mul]
        refine smQ_c (fun r hr => ?_)
        show (c (r + 1) : Rat) * (T r : Rat) * elN P m (m - 1 - k) r k = v r * elN P m (m - 1 - k) r k * ((c 0 : Rat) * (B : Rat))
        rw [← ih r (by omega) (by omega)]
        grind
      have a : (c (k + 1) : Rat) * (T k : Rat) * elS (elN P m (m - 1 - k)) m k = smQ (fun r => (c (r + 1) : Rat) * (T r : Rat) * elN P m (m - 1 - k) r k) k + (c 0 : Rat) * (B : Rat) * elX P m x (m - 1 - k) k := a
      rw [e] at a
      generalize smQ (fun r => v r * elN P m (m - 1 - k) r k) k = A at a b
      generalize elS (elN P m (m - 1 - k)) m k = U at a b ⊢
      generalize elX P m x (m - 1 - k) k = y at a b
      grind
  by_cases p : 0 ≤ c 0
  · refine ⟨(c 0).natAbs, fun r => c (r + 1), by omega, c2 0, fun r => c2 (r + 1), fun v hv k hk => ?_⟩
    have e := key v hv k k (Nat.le_refl k) hk
    rw [Rat.natCast_mul, ← Rat.intCast_natCast (c 0).natAbs, show ((c 0).natAbs : Int) = c 0 by omega, Rat.intCast_mul, Rat.intCast_natCast, e]
  · refine ⟨(c 0).natAbs, fun r => -c (r + 1), by omega, c2 0, fun r => by rw [Int.natAbs_neg]; exact c2 (r + 1), fun v hv k hk => ?_⟩
    have e := key v hv k k (Nat.le_refl k) hk
    rw [Rat.natCast_mul, ← Rat.intCast_natCast (c 0).natAbs, show ((c 0).natAbs : Int) = -(c 0) by omega, Rat.intCast_mul, Rat.intCast_natCast, Rat.intCast_neg, Rat.intCast_neg]
    generalize (c 0 : Rat) = u at e ⊢
    generalize (c (k + 1) : Rat) = w at e ⊢
    grind
