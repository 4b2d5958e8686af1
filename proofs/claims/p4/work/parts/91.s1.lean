set_option maxHeartbeats 1600000
/-! states taken out of a chain, one after the other -/
def smQ (f : Nat → Rat) : Nat → Rat
  | 0 => 0
  | n + 1 => smQ f n + f n
theorem smQ_s {f : Nat → Rat} {n : Nat} : smQ f (n + 1) = smQ f n + f n := rfl
theorem smQ_c {f g : Nat → Rat} : ∀ {n : Nat}, (∀ i, i < n → f i = g i) → smQ f n = smQ g n
  | 0, _ => rfl
  | n + 1, h => by rw [smQ_s, smQ_s, smQ_c (n := n) (fun i hi => h i (by omega)), h n (by omega)]
theorem smQ_add {f g : Nat → Rat} : ∀ {n : Nat}, smQ (fun i => f i + g i) n = smQ f n + smQ g n
  | 0 => by show (0 : Rat) = 0 + 0; rw [Rat.add_zero]
  | n + 1 => by
    rw [smQ_s, smQ_s, smQ_s, smQ_add (n := n)]
    grind
theorem smQ_mul {f : Nat → Rat} {c : Rat} : ∀ {n : Nat}, smQ (fun i => f i * c) n = smQ f n * c
  | 0 => by show (0 : Rat) = 0 * c; rw [Rat.zero_mul]
  | n + 1 => by
    rw [smQ_s, smQ_s, smQ_mul (n := n)]
    grind
theorem smQ_0 {f : Nat → Rat} : ∀ {n : Nat}, (∀ i, i < n → f i = 0) → smQ f n = 0
  | 0, _ => rfl
  | n + 1, h => by rw [smQ_s, smQ_0 (n := n) (fun i hi => h i (by omega)), h n (by omega), Rat.add_zero]
/-- what leaves the state k for the states below it or for good (column m) -/
def elS (P : Nat → Nat → Rat) (m k : Nat) : Rat := P k m + smQ (P k) k
/-- a row without the state k -/
def elR (P : Nat → Nat → Rat) (m k : Nat) (x : Nat → Rat) : Nat → Rat := fun j => x j + x k * P k j * (elS P m k)⁻¹
def elP (P : Nat → Nat → Rat) (m k : Nat) : Nat → Nat → Rat := fun i => elR P m k (P i)
def dl (r j : Nat) : Rat := if r = j then 1 else 0
/-- a combination of the first k rows and of the row x -/
def cmb (P : Nat → Nat → Rat) (α : Nat → Rat) (β : Rat) (x : Nat → Rat) (k j : Nat) : Rat := smQ (fun r => α r * (dl r j - P r j)) k - β * x j
theorem inv_s {S : Rat} (h : S ≠ 0) : S * S⁻¹ = 1 := Rat.mul_inv_cancel S h
theorem cmb_s {P : Nat → Nat → Rat} {m k : Nat} {α : Nat → Rat} {β : Rat} {x : Nat → Rat} (hS : elS P m k ≠ 0) (h1 : P k k = 1 - elS P m k) (h0 : cmb P α β x (k + 1) k = 0) : α k * elS P m k = smQ (fun r => α r * P r k) k + β * x k ∧ ∀ j, j ≠ k → cmb P α β x (k + 1) j = cmb (elP P m k) α β (elR P m k x) k j := by
  have e0 : smQ (fun r => α r * (dl r k - P r k)) k = smQ (fun r => α r * P r k) k * (-1) := by
    rw [← smQ_mul]
    refine smQ_c (fun r hr => ?_)
    show α r * (dl r k - P r k) = α r * P r k * -1
    unfold dl
    rw [if_neg (by omega)]
    grind
  have a : α k * elS P m k = smQ (fun r => α r * P r k) k + β * x k := by
    unfold cmb at h0
    rw [smQ_s, e0] at h0
    have d : dl k k = 1 := if_pos rfl
    rw [d, h1] at h0
    grind
  refine ⟨a, fun j hj => ?_⟩
  have i := inv_s hS
  unfold cmb
  rw [smQ_s]
  have e1 : smQ (fun r => α r * (dl r j - elP P m k r j)) k = smQ (fun r => α r * (dl r j - P r j)) k + smQ (fun r => α r * P r k) k * (-(P k j * (elS P m k)⁻¹)) := by
    rw [← smQ_mul, ← smQ_add]
    refine smQ_c (fun r hr => ?_)
    show α r * (dl r j - (P r j + P r k * P k j * (elS P m k)⁻¹)) = α r * (dl r j - P r j) + α r * P r k * -(P k j * (elS P m k)⁻¹)
    grind
  rw [e1]
  have d : dl k j = 0 := if_neg (fun z => hj z.symm)
  show _ + α k * (dl k j - P k j) - β * x j = _ - β * (x j + x k * P k j * (elS P m k)⁻¹)
  rw [d]
  generalize smQ (fun r => α r * P r k) k = A at a ⊢
  generalize smQ (fun r => α r * (dl r j - P r j)) k = B
  generalize elS P m k = S at a i ⊢
  grind
