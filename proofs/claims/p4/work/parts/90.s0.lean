set_option maxHeartbeats 1600000
/-! denominators; small whole solutions -/
theorem den_mk {a : Int} {b : Nat} (h : b ≠ 0) : (mkRat a b).den ∣ b := by
  rw [Rat.den_mkRat, if_neg h]
  exact Nat.div_dvd_of_dvd (Nat.gcd_dvd_left ..)
theorem mk_of {q : Rat} {M : Nat} (h : q.den ∣ M) (hM : M ≠ 0) : ∃ x : Int, q = mkRat x M := by
  obtain ⟨k, hk⟩ := h
  refine ⟨q.num * k, ?_⟩
  have k0 : k ≠ 0 := fun z => hM (by rw [hk, z, Nat.mul_zero])
  rw [hk, Rat.mkRat_mul_right k0]
  exact (Rat.mkRat_self q).symm
theorem mk_add {x y : Int} {M : Nat} (hM : M ≠ 0) : mkRat x M + mkRat y M = mkRat (x + y) M := by
  rw [Rat.mkRat_add_mkRat _ _ hM hM, ← Int.add_mul, Rat.mkRat_mul_right hM]
theorem den_add {p q : Rat} {M : Nat} (hp : p.den ∣ M) (hq : q.den ∣ M) (hM : M ≠ 0) : (p + q).den ∣ M := by
  obtain ⟨x, hx⟩ := mk_of hp hM
  obtain ⟨y, hy⟩ := mk_of hq hM
  rw [hx, hy, mk_add hM]
  exact den_mk hM
theorem den_mul {p q : Rat} : (p * q).den ∣ p.den * q.den := by
  rw [Rat.mul_def']
  exact den_mk (Nat.mul_ne_zero p.den_nz q.den_nz)
theorem den_neg {p : Rat} : (-p).den = p.den := rfl
theorem php : ∀ (b a : Nat) (f : Nat → Nat), b < a → (∀ i, i < a → f i < b) → ∃ i j, i < j ∧ j < a ∧ f i = f j
  | 0, _, _, h, hf => absurd (hf 0 h) (Nat.not_lt_zero _)
  | b + 1, a, f, h, hf => by
    by_cases e : ∃ i, i < a - 1 ∧ f i = f (a - 1)
    · obtain ⟨i, hi, he⟩ := e
      exact ⟨i, a - 1, hi, by omega, he⟩
    · have ne : ∀ i, i < a - 1 → f i ≠ f (a - 1) := fun i hi z => e ⟨i, hi, z⟩
      obtain ⟨i, j, h1, h2, h3⟩ := php b (a - 1) (fun i => if f i = b then f (a - 1) else f i) (by omega) (fun i hi => by
        have l := hf i (by omega)
        have l2 := hf (a - 1) (by omega)
        have n := ne i hi
        show (if f i = b then f (a - 1) else f i) < b
        split <;> omega)
      have n1 := ne i (by omega)
      have n2 := ne j h2
      refine ⟨i, j, h1, by omega, ?_⟩
      have h3 : (if f i = b then f (a - 1) else f i) = (if f j = b then f (a - 1) else f j) := h3
      split at h3 <;> split at h3 <;> omega
def dgm : (Nat → Nat) → Nat → Nat → Nat
  | h, t, 0 => t % (h 0 + 1)
  | h, t, r + 1 => dgm (fun i => h (i + 1)) (t / (h 0 + 1)) r
def prd : (Nat → Nat) → Nat → Nat
  | _, 0 => 1
  | h, n + 1 => (h 0 + 1) * prd (fun i => h (i + 1)) n
theorem dgm_le : ∀ {r : Nat} {h : Nat → Nat} {t : Nat}, dgm h t r ≤ h r
  | 0, h, t => by
    show t % (h 0 + 1) ≤ h 0
    exact Nat.le_of_lt_succ (Nat.mod_lt t (Nat.succ_pos (h 0)))
  | r + 1, h, t => dgm_le (r := r) (h := fun i => h (i + 1)) (t := t / (h 0 + 1))
theorem dgm_inj : ∀ {n : Nat} {h : Nat → Nat} {t u : Nat}, t < prd h n → u < prd h n → (∀ r, r < n → dgm h t r = dgm h u r) → t = u
  | 0, _, t, u, ht, hu, _ => by
    have ht : t < 1 := ht
    have hu : u < 1 := hu
    omega
  | n + 1, h, t, u, ht, hu, e => by
    have ht : t < (h 0 + 1) * prd (fun i => h (i + 1)) n := ht
    have hu : u < (h 0 + 1) * prd (fun i => h (i + 1)) n := hu
    have e0 : t % (h 0 + 1) = u % (h 0 + 1) := e 0 (Nat.succ_pos n)
    have e1 : t / (h 0 + 1) = u / (h 0 + 1) := dgm_inj (n := n) (h := fun i => h (i + 1)) (Nat.div_lt_of_lt_mul ht) (Nat.div_lt_of_lt_mul hu) (fun r hr => e (r + 1) (by omega))
    have a := Nat.div_add_mod t (h 0 + 1)
    have b := Nat.div_add_mod u (h 0 + 1)
    rw [e0, e1] at a
    omega
def enc (Y : Nat) (y : Nat → Nat) : Nat → Nat
  | 0 => 0
  | n + 1 => enc Y y n + y n * Y ^ n
theorem enc_lt {Y : Nat} {y : Nat → Nat} : ∀ {n : Nat}, (∀ j, j < n → y j < Y) → enc Y y n < Y ^ n
  | 0, _ => Nat.one_pos
  | n + 1, h => by
    have ih := enc_lt (n := n) (fun j hj => h j (by omega))
    have l := Nat.mul_le_mul_right (Y ^ n) (show y n + 1 ≤ Y from h n (by omega))
    rw [Nat.add_mul] at l
    show enc Y y n + y n * Y ^ n < Y ^ (n + 1)
    rw [Nat.pow_succ, Nat.mul_comm (Y ^ n) Y]
    omega
theorem enc_inj {Y : Nat} {y z : Nat → Nat} : ∀ {n : Nat}, (∀ j, j < n → y j < Y) → (∀ j, j < n → z j < Y) → enc Y y n = enc Y z n → ∀ j, j < n → y j = z j
  | 0, _, _, _, j, hj => absurd hj (Nat.not_lt_zero j)
  | n + 1, hy, hz, e, j, hj => by
    have ly := enc_lt (n := n) (fun j hj => hy j (by omega))
    have lz := enc_lt (n := n) (fun j hj => hz j (by omega))
    have e : enc Y y n + y n * Y ^ n = enc Y z n + z n * Y ^ n := e
    have d : y n = z n := by
      have a : (enc Y y n + y n * Y ^ n) / Y ^ n = y n := by rw [Nat.add_mul_div_right _ _ (by omega), Nat.div_eq_of_lt ly, Nat.zero_add]
      have b : (enc Y z n + z n * Y ^ n) / Y ^ n = z n := by rw [Nat.add_mul_div_right _ _ (by omega), Nat.div_eq_of_lt lz, Nat.zero_add]
      rw [← a, e, b]
    by_cases q : j = n
    · rw [q]; exact d
    · rw [d] at e
      exact enc_inj (n := n) (fun j hj => hy j (by omega)) (fun j hj => hz j (by omega)) (by omega) j (by omega)
def sI (f : Nat → Int) : Nat → Int
  | 0 => 0
  | n + 1 => sI f n + f n
def sNt (f : Nat → Nat) : Nat → Nat
  | 0 => 0
  | n + 1 => sNt f n + f n
theorem sI_abs {d h : Nat → Nat} {N : Nat → Int} : ∀ {n : Nat}, (∀ r, r < n → d r ≤ h r) → (sI (fun r => (d r : Int) * N r) n).natAbs ≤ sNt (fun r => h r * (N r).natAbs) n
  | 0, _ => Nat.le_refl 0
  | n + 1, hd => by
    have ih := sI_abs (N := N) (n := n) (fun r hr => hd r (by omega))
    have a := Int.natAbs_add_le (sI (fun r => (d r : Int) * N r) n) ((d n : Int) * N n)
    rw [Int.natAbs_mul, Int.natAbs_natCast] at a
    have m := Nat.mul_le_mul_right (N n).natAbs (hd n (by omega))
    show (sI (fun r => (d r : Int) * N r) n + (d n : Int) * N n).natAbs ≤ sNt (fun r => h r * (N r).natAbs) n + h n * (N n).natAbs
    omega
theorem sI_sub {a b N : Nat → Int} : ∀ {n : Nat}, sI (fun r => (a r - b r) * N r) n = sI (fun r => a r * N r) n - sI (fun r => b r * N r) n
  | 0 => rfl
  | n + 1 => by
    show sI (fun r => (a r - b r) * N r) n + (a n - b n) * N n = sI (fun r => a r * N r) n + a n * N n - (sI (fun r => b r * N r) n + b n * N n)
    rw [sI_sub (n := n), Int.sub_mul]
    omega
theorem siegel {m n : Nat} {N : Nat → Nat → Int} {h : Nat → Nat} {Z : Nat} (hZ : ∀ j, j < m → sNt (fun r => h r * (N r j).natAbs) n ≤ Z) (hs : (2 * Z + 1) ^ m < prd h n) : ∃ c : Nat → Int, (∃ r, r < n ∧ c r ≠ 0) ∧ (∀ r, (c r).natAbs ≤ h r) ∧ ∀ j, j < m → sI (fun r => c r * N r j) n = 0 := by
  have bd : ∀ t j, j < m → (sI (fun r => (dgm h t r : Int) * N r j) n).natAbs ≤ Z := fun t j hj => Nat.le_trans (sI_abs (N := fun r => N r j) (fun r _ => dgm_le)) (hZ j hj)
  have yl : ∀ t j, j < m → (sI (fun r => (dgm h t r : Int) * N r j) n + Z).toNat < 2 * Z + 1 := fun t j hj => by have := bd t j hj; omega
  obtain ⟨t, u, h1, h2, h3⟩ := php ((2 * Z + 1) ^ m) (prd h n) (fun t => enc (2 * Z + 1) (fun j => (sI (fun r => (dgm h t r : Int) * N r j) n + Z).toNat) m) hs (fun t _ => enc_lt (fun j hj => yl t j hj))
  have eq := enc_inj (yl t) (yl u) h3
  refine ⟨fun r => (dgm h t r : Int) - dgm h u r, ?_, fun r => ?_, fun j hj => ?_⟩
  · by_cases e : ∃ r, r < n ∧ dgm h t r ≠ dgm h u r
    · obtain ⟨r, hr, hn⟩ := e
      exact ⟨r, hr, by show (dgm h t r : Int) - dgm h u r ≠ 0; omega⟩
    · refine absurd (dgm_inj (by omega) h2 (fun r hr => ?_)) (Nat.ne_of_lt h1)
      by_cases q : dgm h t r = dgm h u r
      · exact q
      · exact absurd ⟨r, hr, q⟩ e
  · have a := dgm_le (h := h) (t := t) (r := r)
    have b := dgm_le (h := h) (t := u) (r := r)
    show ((dgm h t r : Int) - dgm h u r).natAbs ≤ h r
    omega
  · rw [sI_sub (a := fun r => (dgm h t r : Int)) (b := fun r => (dgm h u r : Int)) (N := fun r => N r j)]
    have e := eq j hj
    have a := bd t j hj
    have b := bd u j hj
    omega
