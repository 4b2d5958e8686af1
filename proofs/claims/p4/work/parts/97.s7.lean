set_option maxHeartbeats 1600000
/-! the same for the sums on the way, and for the visits -/
theorem unit_fit {q : Rat} {M : Nat} {z : Int} (q0 : 0 ≤ q) (q1 : q ≤ 1) (hM : 0 < M) (h : (M : Rat) * q = (z : Rat)) (hb : M < 65536 ^ 129) : fit q := by
  have m0 : (0 : Rat) ≤ (M : Rat) := Rat.natCast_nonneg
  have a := Rat.mul_nonneg m0 q0
  have b := Rat.mul_le_mul_of_nonneg_left q1 m0
  rw [h] at a b
  rw [Rat.mul_one, ← Rat.intCast_natCast] at b
  have z0 := Rat.intCast_nonneg.mp a
  have z1 := Rat.intCast_le_intCast.mp b
  exact fit_of (by omega) h hb (by omega)
theorem smQ_mono {f : Nat → Rat} {t : Nat} : ∀ {n : Nat}, t ≤ n → (∀ i, i < n → 0 ≤ f i) → smQ f t ≤ smQ f n
  | 0, ht, _ => by rw [show t = 0 by omega]; exact Rat.le_refl
  | n + 1, ht, h => by
    by_cases e : t = n + 1
    · rw [e]; exact Rat.le_refl
    · have ih := smQ_mono (n := n) (by omega : t ≤ n) (fun i hi => h i (by omega))
      have l := h n (by omega)
      rw [smQ_s]
      grind
theorem F2 {P : Nat → Nat → Rat} {m n i t : Nat} {T : Nat → Nat} {K : Nat → Nat → Int} (h : Mk P m m) (hw : whl P m T K) (hm : m ≤ 32) (hi : i < m - n) (ht : t ≤ m - n) : fit (elN P m n i m + smQ (elN P m n i) t) := by
  obtain ⟨M, m1, m2, m3⟩ := F1 h hw hm hi
  have Q := Mk_n h (n := n) (by omega)
  obtain ⟨a, ha⟩ := row_sum (M := M) (f := elN P m n i) (n := t) (fun j hj => by
    obtain ⟨z, z1, _⟩ := m3 j (Or.inl (by omega))
    exact ⟨z, z1⟩)
  obtain ⟨b, hb, _⟩ := m3 m (Or.inr rfl)
  have nn : ∀ j, j < m - n → 0 ≤ elN P m n i j := fun j hj => Q.1 i j hi (Or.inl hj)
  have s := Q.2.1 i hi
  have l := smQ_mono ht nn
  have p := smQ_nn (f := elN P m n i) (n := t) (fun j hj => nn j (by omega))
  have o := Q.1 i m hi (Or.inr rfl)
  refine unit_fit (M := M) (z := b + a) (Rat.add_nonneg o p) ?_ m1 ?_ (Nat.lt_of_le_of_lt m2 (pw129 (by omega)))
  · grind
  · rw [Rat.mul_add, ha, hb, Rat.intCast_add]
def unW (a j : Nat) : Int := if a = j then -1 else 0
theorem unW_v {a j : Nat} : ((unW a j : Int) : Rat) = -(((1 : Nat) : Rat) * dl a j) ∧ (unW a j).natAbs ≤ 1 := by
  unfold unW dl
  constructor
  · split
    · rw [Rat.mul_one]; rfl
    · rw [Rat.mul_zero]; rfl
  · split <;> decide
theorem F3 {P : Nat → Nat → Rat} {m n a j : Nat} {T : Nat → Nat} {K : Nat → Nat → Int} (h : Mk P m m) (hw : whl P m T K) (hm : m ≤ 32) (hj : j < m - n) : fit (elX P m (dl a) n j) := by
  obtain ⟨c, c1, c2, c3⟩ := el_fit (x := dl a) (W := unW a) (B := 1) h (by omega) (by omega) (pwH (by omega : n ≤ 31)).1 (by decide) (fun r hr => (hw.1 r hr).1) (fun r j hr hj => (nnI_v hw hr hj).1) (fun j _ => unW_v.1) (fun r j hr hj => (nnI_v hw hr hj).2) (fun j _ => Nat.le_trans (unW_v (a := a) (j := j)).2 (by decide))
  obtain ⟨z, z1, z2⟩ := c3 j (Or.inl hj)
  rw [← Nat.pow_add] at z2
  rw [Nat.mul_one] at z1
  exact fit_of (by omega) z1 (Nat.lt_of_le_of_lt c2 (pw129 (by omega))) (Nat.lt_of_le_of_lt z2 (pw129 (by omega)))
/-- the visits of a ring's states, from the state a -/
def vsI (P : Nat → Nat → Rat) (m a : Nat) (v : Nat → Rat) : Prop := ∀ k, k < m → v k * elS (elN P m (m - 1 - k)) m k = smQ (fun r => v r * elN P m (m - 1 - k) r k) k + elX P m (dl a) (m - 1 - k) k
theorem F5 {P : Nat → Nat → Rat} {m a : Nat} {T : Nat → Nat} {K : Nat → Nat → Int} {H : Nat} (h : Mk P m m) (hw : whl P m T K) (hm : m ≤ 32) (hH : (2 ^ 30) ^ m ≤ H) : ∃ c0 : Nat, ∃ c : Nat → Int, 0 < c0 ∧ c0 ≤ H ∧ (∀ r, (c r).natAbs ≤ H) ∧ ∀ v : Nat → Rat, vsI P m a v → ∀ k, k < m → (c0 : Rat) * v k = ((c k * T k : Int) : Rat) := by
  obtain ⟨c0, c, c1, c2, c3, c4⟩ := vis (x := dl a) (W := unW a) (B := 1) (N := nnI T K) (h0 := H) (h1 := H) (Z := 2 ^ 29 * H) h (fun r hr => (hw.1 r hr).1) (fun r j hr hj => (nnI_v hw hr hj).1) (fun j _ => unW_v.1) (fun j hj => by
    have x : H * (unW a j).natAbs ≤ H * 1 := Nat.mul_le_mul_left _ unW_v.2
    have b : sNt (fun t => H * (nnI T K t j).natAbs) m ≤ m * (H * 2 ^ 23) := sNt_le (fun t ht => Nat.mul_le_mul_left _ (nnI_v hw ht (Or.inl hj)).2)
    have d : m * (H * 2 ^ 23) ≤ 32 * (H * 2 ^ 23) := Nat.mul_le_mul_right _ hm
    omega) (siz (X := 2 ^ 30) (by omega) hH)
  refine ⟨c0, c, c1, c2, c3, fun v hv k hk => ?_⟩
  have e := c4 v hv k hk
  rw [Nat.mul_one] at e
  exact e
theorem pw30 {m : Nat} (h : m ≤ 32) : (2 ^ 30) ^ m ≤ 2 ^ 960 := by
  rw [← Nat.pow_mul]
  exact Nat.pow_le_pow_right (by decide) (by omega)
theorem F5f {P : Nat → Nat → Rat} {m a k : Nat} {T : Nat → Nat} {K : Nat → Nat → Int} {v : Nat → Rat} (h : Mk P m m) (hw : whl P m T K) (hm : m ≤ 32) (hv : vsI P m a v) (hk : k < m) : fit (v k) := by
  obtain ⟨c0, c, c1, c2, c3, c4⟩ := F5 (a := a) h hw hm (pw30 hm)
  refine fit_of (by omega) (c4 v hv k hk) (Nat.lt_of_le_of_lt c2 (pw129 (by omega))) ?_
  rw [Int.natAbs_mul, Int.natAbs_natCast]
  have z := Nat.mul_le_mul (c3 k) (hw.1 k hk).2
  rw [← Nat.pow_add] at z
  exact Nat.lt_of_le_of_lt z (pw129 (by omega))
def ptW (c0 : Nat) (c : Nat → Int) (K : Nat → Nat → Int) (a t j : Nat) : Int := -((if a = j then (c0 : Int) else 0) + sI (fun r => c r * K r j) t)
theorem F4 {P : Nat → Nat → Rat} {m a k t : Nat} {T : Nat → Nat} {K : Nat → Nat → Int} {v : Nat → Rat} (h : Mk P m m) (hw : whl P m T K) (hm : m ≤ 32) (hv : vsI P m a v) (hk : k < m) (ht : t ≤ k) : fit (elX P m (dl a) (m - 1 - k) k + smQ (fun r => v r * elN P m (m - 1 - k) r k) t) := by
  obtain ⟨c0, c, c1, c2, c3, c4⟩ := F5 (a := a) h hw hm (pw30 hm)
  have wv : ∀ j, (j < m ∨ j = m) → ((ptW c0 c K a t j : Int) : Rat) = -((c0 : Rat) * (dl a j + smQ (fun r => v r * P r j) t)) := fun j hj => by
    unfold ptW
    have e : smQ (fun r => ((c r * K r j : Int) : Rat)) t = smQ (fun r => v r * P r j) t * (c0 : Rat) := by
      rw [← smQ_mul]
      refine smQ_c (fun r hr => ?_)
      have z := c4 v hv r (by omega)
      rw [Rat.intCast_mul, (hw.2 r j (by omega) hj).1]
      rw [Rat.intCast_mul, Rat.intCast_natCast] at z
      show (c r : Rat) * ((T r : Rat) * P r j) = v r * P r j * (c0 : Rat)
      rw [← Rat.mul_assoc, ← z]
      grind
    rw [Rat.intCast_neg, Rat.intCast_add, sI_cast, e]
    generalize smQ (fun r => v r * P r j) t = A
    unfold dl
    split
    · rw [Rat.intCast_natCast]; grind
    · rw [Rat.intCast_zero]; grind
  have wb : ∀ j, (j < m ∨ j = m) → (ptW c0 c K a t j).natAbs ≤ 2 ^ 29 * 2 ^ 960 := fun j hj => by
    unfold ptW
    have b := sI_absI (c := c) (N := fun r => K r j) (h := fun _ => 2 ^ 960) (n := t) (fun r _ => c3 r)
    have d : sNt (fun r => 2 ^ 960 * (K r j).natAbs) t ≤ t * (2 ^ 960 * 2 ^ 23) := sNt_le (fun r hr => Nat.mul_le_mul_left _ (by
      have q := (hw.2 r j (by omega) hj).2
      have u := (hw.1 r (by omega)).2
      omega))
    have f : t * (2 ^ 960 * 2 ^ 23) ≤ 32 * (2 ^ 960 * 2 ^ 23) := Nat.mul_le_mul_right _ (by omega)
    have g := Int.natAbs_add_le (if a = j then (c0 : Int) else 0) (sI (fun r => c r * K r j) t)
    have i : (if a = j then (c0 : Int) else 0).natAbs ≤ c0 := by
      split
      · exact Nat.le_of_eq (Int.natAbs_natCast c0)
      · exact Nat.zero_le _
    rw [Int.natAbs_neg]
    generalize (2 : Nat) ^ 960 = G at *
    omega
  obtain ⟨d, d1, d2, d3⟩ := el_fit2 (x := fun j => dl a j + smQ (fun r => v r * P r j) t) (n := m - 1 - k) (W := ptW c0 c K a t) (B := c0) (G := 2 ^ 960) h (by omega) (by omega) (pwH (by omega)).2 c1 (fun r hr => (hw.1 r hr).1) (fun r j hr hj => (nnI_v hw hr hj).1) wv (fun r j hr hj => (nnI_v hw hr hj).2) wb
  obtain ⟨z, z1, z2⟩ := d3 k (Or.inl (by omega))
  rw [elX_sum] at z1
  have M := Nat.mul_le_mul d2 c2
  rw [← Nat.pow_add] at M z2
  rw [← Nat.pow_add] at z2
  exact fit_of (Nat.mul_ne_zero (by omega) (by omega)) z1 (Nat.lt_of_le_of_lt M (pw129 (by omega))) (Nat.lt_of_le_of_lt z2 (pw129 (by omega)))
