set_option maxHeartbeats 1600000
/-! the reference: sums over the states before -/
/-- the product of the first n denominators -/
def prS (D : Nat → Nat) : Nat → Nat
  | 0 => 1
  | n + 1 => prS D n * D n
theorem prS_dvd {D : Nat → Nat} {i : Nat} : ∀ {n : Nat}, i < n → D i ∣ prS D n
  | 0, h => absurd h (Nat.not_lt_zero i)
  | n + 1, h => by
    by_cases e : i = n
    · rw [e]; exact Nat.dvd_mul_left ..
    · exact Nat.dvd_trans (prS_dvd (n := n) (by omega)) (Nat.dvd_mul_right ..)
theorem prS_pos {D : Nat → Nat} : ∀ {n : Nat}, (∀ i, i < n → 0 < D i) → 0 < prS D n
  | 0, _ => Nat.one_pos
  | n + 1, h => Nat.mul_pos (prS_pos (n := n) (fun i hi => h i (by omega))) (h n (by omega))
theorem prS_le {D : Nat → Nat} {b : Nat} : ∀ {n : Nat}, (∀ i, i < n → D i ≤ 65536 ^ b) → prS D n ≤ 65536 ^ (b * n)
  | 0, _ => Nat.le_refl 1
  | n + 1, h => by
    have ih := prS_le (D := D) (b := b) (n := n) (fun i hi => h i (by omega))
    show prS D n * D n ≤ 65536 ^ (b * (n + 1))
    rw [Nat.mul_add, Nat.mul_one, Nat.pow_add]
    exact Nat.mul_le_mul ih (h n (by omega))
/-- a fraction with a known denominator and a known size: its places -/
theorem pl_of {σ : rS} {n d : Nat} {q : Rat} {M a b : Nat} (h : hR σ n d q) (hM : 0 < M) (hd : q.den ∣ M) (hm : M < 65536 ^ a) (hq : q ≤ ((65536 ^ b : Nat) : Rat)) : nL σ d ≤ a ∧ nL σ n ≤ a + b := by
  have le := Nat.le_of_dvd hM hd
  have d0 : 0 < q.den := den0
  refine ⟨nL_lt h.2.1 (by rw [h.2.2.2]; omega), nL_lt h.1 ?_⟩
  have e := (Rat.le_iff q ((65536 ^ b : Nat) : Rat)).mp hq
  rw [Rat.num_natCast, Rat.den_natCast, ← h.2.2.1] at e
  have e2 : nV σ n ≤ 65536 ^ b * q.den := by
    have z : ((nV σ n : Nat) : Int) * ((1 : Nat) : Int) ≤ ((65536 ^ b : Nat) : Int) * (q.den : Int) := e
    rw [← Int.natCast_mul, ← Int.natCast_mul] at z
    have z2 := Int.ofNat_le.mp z
    omega
  have e3 : 65536 ^ b * q.den ≤ 65536 ^ b * M := Nat.mul_le_mul_left _ le
  have p : 0 < 65536 ^ b := Nat.pow_pos (by decide)
  have e4 : 65536 ^ b * M < 65536 ^ b * 65536 ^ a := Nat.mul_lt_mul_of_pos_left hm p
  rw [Nat.add_comm a b, Nat.pow_add]
  omega
