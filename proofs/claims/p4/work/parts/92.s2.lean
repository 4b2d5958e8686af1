set_option maxHeartbeats 1600000
/-! chains from which all can leave -/
theorem smQ_nn {f : Nat → Rat} : ∀ {n : Nat}, (∀ i, i < n → 0 ≤ f i) → 0 ≤ smQ f n
  | 0, _ => Rat.le_refl
  | n + 1, h => by
    rw [smQ_s]
    exact Rat.add_nonneg (smQ_nn (n := n) (fun i hi => h i (by omega))) (h n (by omega))
theorem smQ_ge {f : Nat → Rat} {j : Nat} : ∀ {n : Nat}, (∀ i, i < n → 0 ≤ f i) → j < n → f j ≤ smQ f n
  | 0, _, h => absurd h (Nat.not_lt_zero j)
  | n + 1, h, hj => by
    rw [smQ_s]
    have a := smQ_nn (f := f) (n := n) (fun i hi => h i (by omega))
    have b := h n (by omega)
    by_cases e : j = n
    · rw [e]; grind
    · have c := smQ_ge (n := n) (fun i hi => h i (by omega)) (by omega : j < n)
      grind
/-- from i one can leave in n steps -/
def cEx (P : Nat → Nat → Rat) (m k : Nat) : Nat → Nat → Prop
  | 0, i => 0 < P i m
  | n + 1, i => ∃ j, j < k ∧ 0 < P i j ∧ cEx P m k n j
def Mk (P : Nat → Nat → Rat) (m k : Nat) : Prop := (∀ i j, i < k → (j < k ∨ j = m) → 0 ≤ P i j) ∧ (∀ i, i < k → P i m + smQ (P i) k = 1) ∧ ∀ i, i < k → ∃ n, cEx P m k n i
theorem cEx_b {P : Nat → Nat → Rat} {m k : Nat} : ∀ {n : Nat}, cEx P m (k + 1) n k → 0 < P k m ∨ ∃ j, j < k ∧ 0 < P k j ∧ ∃ l, l < n ∧ cEx P m (k + 1) l j
  | 0, h => Or.inl h
  | n + 1, h => by
    obtain ⟨j, h1, h2, h3⟩ := h
    by_cases e : j = k
    · rw [e] at h3
      rcases cEx_b (n := n) h3 with z | ⟨j', z1, z2, l, z3, z4⟩
      · exact Or.inl z
      · exact Or.inr ⟨j', z1, z2, l, by omega, z4⟩
    · exact Or.inr ⟨j, by omega, h2, n, by omega, h3⟩
theorem Mk_S {P : Nat → Nat → Rat} {m k : Nat} (h : Mk P m (k + 1)) : 0 < elS P m k ∧ P k k = 1 - elS P m k := by
  obtain ⟨h1, h2, h3⟩ := h
  have nn : ∀ i, i < k → 0 ≤ P k i := fun i hi => h1 k i (by omega) (Or.inl (by omega))
  have a := smQ_nn nn
  have b := h1 k m (by omega) (Or.inr rfl)
  constructor
  · obtain ⟨n, hn⟩ := h3 k (by omega)
    unfold elS
    rcases cEx_b hn with z | ⟨j, z1, z2, _⟩
    · grind
    · have c := smQ_ge nn z1
      grind
  · have s := h2 k (by omega)
    rw [smQ_s] at s
    unfold elS
    grind
theorem elP_ge {P : Nat → Nat → Rat} {m k i j : Nat} (hS : 0 < elS P m k) (h1 : 0 ≤ P i k) (h2 : 0 ≤ P k j) : P i j ≤ elP P m k i j ∧ (0 ≤ P i j → 0 < P i k → 0 < P k j → 0 < elP P m k i j) := by
  have s := Rat.inv_pos.mpr hS
  have a := Rat.mul_nonneg (Rat.mul_nonneg h1 h2) (Rat.le_of_lt s)
  constructor
  · show P i j ≤ P i j + P i k * P k j * (elS P m k)⁻¹
    grind
  · intro z z1 z2
    have b := Rat.mul_pos (Rat.mul_pos z1 z2) s
    show 0 < P i j + P i k * P k j * (elS P m k)⁻¹
    grind
theorem cEx_s {P : Nat → Nat → Rat} {m k : Nat} (h : Mk P m (k + 1)) : ∀ {n N i : Nat}, n ≤ N → i < k → cEx P m (k + 1) n i → ∃ l, cEx (elP P m k) m k l i
  | n, N, i, hN, hi, hc => by
    have S := (Mk_S h).1
    have g1 : 0 ≤ P i k := h.1 i k (by omega) (Or.inl (by omega))
    have gm : 0 ≤ P k m := h.1 k m (by omega) (Or.inr rfl)
    have gi : 0 ≤ P i m := h.1 i m (by omega) (Or.inr rfl)
    match n, N, hN, hc with
    | 0, _, _, hc =>
      have g := elP_ge S g1 gm
      have z : 0 < P i m := hc
      exact ⟨0, by show 0 < elP P m k i m; grind⟩
    | n + 1, N + 1, hN, hc =>
      obtain ⟨j, z1, z2, z3⟩ := hc
      by_cases e : j = k
      · rw [e] at z2 z3
        rcases cEx_b z3 with w | ⟨j', w1, w2, l, w3, w4⟩
        · exact ⟨0, (elP_ge S g1 gm).2 gi z2 w⟩
        · obtain ⟨l', hl⟩ := cEx_s h (N := N) (by omega) w1 w4
          exact ⟨l' + 1, j', w1, (elP_ge S g1 (Rat.le_of_lt w2)).2 (h.1 i j' (by omega) (Or.inl (by omega))) z2 w2, hl⟩
      · obtain ⟨l', hl⟩ := cEx_s h (N := N) (by omega) (by omega : j < k) z3
        have g := elP_ge (i := i) (j := j) S g1 (h.1 k j (by omega) (Or.inl (by omega)))
        exact ⟨l' + 1, j, by omega, by grind, hl⟩
theorem Mk_s {P : Nat → Nat → Rat} {m k : Nat} (h : Mk P m (k + 1)) : Mk (elP P m k) m k := by
  have S := Mk_S h
  have iv := inv_s (S := elS P m k) (by have := S.1; grind)
  refine ⟨fun i j hi hj => ?_, fun i hi => ?_, fun i hi => ?_⟩
  · have g := elP_ge (i := i) (j := j) S.1 (h.1 i k (by omega) (Or.inl (by omega))) (h.1 k j (by omega) (by omega))
    have z := h.1 i j (by omega) (by omega)
    grind
  · have s := h.2.1 i (by omega)
    rw [smQ_s] at s
    have e : smQ (elP P m k i) k = smQ (P i) k + smQ (P k) k * (P i k * (elS P m k)⁻¹) := by
      rw [← smQ_mul, ← smQ_add]
      refine smQ_c (fun r hr => ?_)
      show P i r + P i k * P k r * (elS P m k)⁻¹ = P i r + P k r * (P i k * (elS P m k)⁻¹)
      grind
    rw [e]
    show P i m + P i k * P k m * (elS P m k)⁻¹ + _ = 1
    have d : elS P m k = P k m + smQ (P k) k := rfl
    generalize smQ (P k) k = A at d ⊢
    generalize smQ (P i) k = B at s ⊢
    generalize elS P m k = U at d iv ⊢
    grind
  · obtain ⟨n, hn⟩ := h.2.2 i (by omega)
    exact cEx_s h (Nat.le_refl n) hi hn
def elN (P : Nat → Nat → Rat) (m : Nat) : Nat → Nat → Nat → Rat
  | 0 => P
  | n + 1 => elP (elN P m n) m (m - 1 - n)
def elX (P : Nat → Nat → Rat) (m : Nat) (x : Nat → Rat) : Nat → Nat → Rat
  | 0 => x
  | n + 1 => elR (elN P m n) m (m - 1 - n) (elX P m x n)
theorem Mk_n {P : Nat → Nat → Rat} {m : Nat} (h : Mk P m m) : ∀ {n : Nat}, n ≤ m → Mk (elN P m n) m (m - n)
  | 0, _ => h
  | n + 1, hn => by
    have ih := Mk_n h (n := n) (by omega)
    rw [show m - n = m - 1 - n + 1 by omega] at ih
    rw [show m - (n + 1) = m - 1 - n by omega]
    exact Mk_s ih
theorem elX_row {P : Nat → Nat → Rat} {m i : Nat} : ∀ {n : Nat}, elX P m (P i) n = elN P m n i
  | 0 => rfl
  | n + 1 => by
    show elR (elN P m n) m (m - 1 - n) (elX P m (P i) n) = elR (elN P m n) m (m - 1 - n) (elN P m n i)
    rw [elX_row (n := n)]
theorem cmb_n {P : Nat → Nat → Rat} {m : Nat} {α : Nat → Rat} {β : Rat} {x : Nat → Rat} (h : Mk P m m) : ∀ {n : Nat}, n ≤ m → (∀ j, m - n ≤ j → j < m → cmb P α β x m j = 0) → ∀ j, (j < m - n ∨ j = m) → cmb P α β x m j = cmb (elN P m n) α β (elX P m x n) (m - n) j
  | 0, _, _, j, _ => rfl
  | n + 1, hn, h0, j, hj => by
    have ih := cmb_n h (n := n) (by omega) (fun j h1 h2 => h0 j (by omega) h2)
    have M := Mk_n h (n := n) (by omega)
    rw [show m - n = m - 1 - n + 1 by omega] at ih M
    have S := Mk_S M
    have z := ih (m - 1 - n) (Or.inl (by omega))
    rw [h0 (m - 1 - n) (by omega) (by omega)] at z
    have c := cmb_s (m := m) (by have := S.1; grind) S.2 z.symm
    rw [ih j (by omega), c.2 j (by omega), show m - (n + 1) = m - 1 - n by omega]
    rfl
