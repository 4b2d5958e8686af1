set_option maxHeartbeats 1600000
/-! numbers of many places: their value -/
def dv (f : Nat → Int32) (o : Nat) : Nat → Nat
  | 0 => 0
  | n + 1 => dv f o n + (f (o + n)).toNatClampNeg * 65536 ^ n
def dgO (f : Nat → Int32) (o n : Nat) : Prop := ∀ i, i < n → 0 ≤ f (o + i) ∧ f (o + i) < 65536
theorem dg_lt {x : Int32} (h : 0 ≤ x ∧ x < 65536) : x.toNatClampNeg < 65536 := Nat.lt_of_lt_of_eq (cn_lt h.1 h.2) rfl
theorem dv_lt {f : Nat → Int32} {o : Nat} : ∀ {n : Nat}, dgO f o n → dv f o n < 65536 ^ n
  | 0, _ => Nat.one_pos
  | n + 1, h => by
    have ih := dv_lt (n := n) (fun i hi => h i (Nat.lt_succ_of_lt hi))
    have d := dg_lt (h n (Nat.lt_succ_self n))
    have m : (f (o + n)).toNatClampNeg * 65536 ^ n ≤ 65535 * 65536 ^ n := Nat.mul_le_mul_right _ (by omega)
    have e : 65536 ^ (n + 1) = 65536 ^ n * 65536 := Nat.pow_succ ..
    show dv f o n + (f (o + n)).toNatClampNeg * 65536 ^ n < _
    omega
theorem dv_congr {f g : Nat → Int32} {o p : Nat} : ∀ {n : Nat}, (∀ i, i < n → f (o + i) = g (p + i)) → dv f o n = dv g p n
  | 0, _ => rfl
  | n + 1, h => by
    have ih := dv_congr (n := n) (fun i hi => h i (Nat.lt_succ_of_lt hi))
    show dv f o n + (f (o + n)).toNatClampNeg * 65536 ^ n = dv g p n + (g (p + n)).toNatClampNeg * 65536 ^ n
    rw [ih, h n (Nat.lt_succ_self n)]
theorem dv_zero {f : Nat → Int32} {o m : Nat} : ∀ {n : Nat}, m ≤ n → (∀ i, m ≤ i → i < n → f (o + i) = 0) → dv f o n = dv f o m
  | 0, h, _ => by rw [Nat.le_zero.mp h]
  | n + 1, h, hz => by
    by_cases e : m = n + 1
    · rw [e]
    · have ih := dv_zero (n := n) (by omega) (fun i h1 h2 => hz i h1 (Nat.lt_succ_of_lt h2))
      show dv f o n + (f (o + n)).toNatClampNeg * 65536 ^ n = _
      rw [hz n (by omega) (Nat.lt_succ_self n), ih]
      exact Nat.add_eq_left.mpr (Nat.zero_mul _)
theorem dv_ge {f : Nat → Int32} {o n : Nat} (h : (f (o + n)).toNatClampNeg ≠ 0) : 65536 ^ n ≤ dv f o (n + 1) := by
  show _ ≤ dv f o n + (f (o + n)).toNatClampNeg * 65536 ^ n
  have : 1 * 65536 ^ n ≤ (f (o + n)).toNatClampNeg * 65536 ^ n := Nat.mul_le_mul_right _ (by omega)
  omega
theorem dv_cmp {f g : Nat → Int32} {o p k : Nat} : ∀ {n : Nat}, dgO f o n → k < n → (∀ i, k < i → i < n → f (o + i) = g (p + i)) → (f (o + k)).toNatClampNeg < (g (p + k)).toNatClampNeg → dv f o n < dv g p n
  | 0, _, hk, _, _ => absurd hk (Nat.not_lt_zero _)
  | n + 1, hf, hk, he, hl => by
    show dv f o n + (f (o + n)).toNatClampNeg * 65536 ^ n < dv g p n + (g (p + n)).toNatClampNeg * 65536 ^ n
    by_cases e : k = n
    · subst e
      have l := dv_lt (n := k) (fun i hi => hf i (Nat.lt_succ_of_lt hi))
      have m : ((f (o + k)).toNatClampNeg + 1) * 65536 ^ k ≤ (g (p + k)).toNatClampNeg * 65536 ^ k := Nat.mul_le_mul_right _ hl
      rw [Nat.add_mul, Nat.one_mul] at m
      omega
    · have ih := dv_cmp (n := n) (fun i hi => hf i (Nat.lt_succ_of_lt hi)) (by omega) (fun i h1 h2 => he i h1 (Nat.lt_succ_of_lt h2)) hl
      rw [he n (by omega) (Nat.lt_succ_self n)]
      omega
/-- number r of a state: its value; in order: places below 65536, no leading zero -/
abbrev nL (σ : rS) (r : Nat) : Nat := (σ.2.2.1 91 r).toNatClampNeg
def nV (σ : rS) (r : Nat) : Nat := dv (σ.2.2.1 90) (40000 * r) (nL σ r)
def numO (σ : rS) (r : Nat) : Prop := 0 ≤ σ.2.2.1 91 r ∧ σ.2.2.1 91 r ≤ 40000 ∧ dgO (σ.2.2.1 90) (40000 * r) (nL σ r) ∧ (nL σ r = 0 ∨ ∃ m, nL σ r = m + 1 ∧ (σ.2.2.1 90 (40000 * r + m)).toNatClampNeg ≠ 0)
theorem nV_len {σ : rS} {r s : Nat} (hr : numO σ r) (hs : numO σ s) (h : nL σ r < nL σ s) : nV σ r < nV σ s := by
  have l := dv_lt hr.2.2.1
  rcases hs.2.2.2 with z | ⟨m, z1, z2⟩
  · omega
  · have g := dv_ge z2
    have p : 65536 ^ nL σ r ≤ 65536 ^ m := Nat.pow_le_pow_right (by decide) (by omega)
    unfold nV
    rw [z1]
    omega
