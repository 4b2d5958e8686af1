set_option maxHeartbeats 1600000
/-! the reference: products of kept fractions -/
/-- numbers of a list, the sum's sign and the kept fractions from place u below v differ -/
def frK (l : List Nat) (u v : Nat) (σ τ : rS) : Prop := (∀ k, k ≠ 92 → τ.1 k = σ.1 k) ∧ τ.2.1 = σ.2.1 ∧ (∀ j, j ≠ 90 → j ≠ 91 → j ≠ 93 → τ.2.2.1 j = σ.2.2.1 j) ∧ τ.2.2.2 = σ.2.2.2 ∧ (∀ k, k ∉ l → τ.2.2.1 91 k = σ.2.2.1 91 k ∧ ∀ i, i < 40000 → τ.2.2.1 90 (40000 * k + i) = σ.2.2.1 90 (40000 * k + i)) ∧ ∀ i, (i < u ∨ v ≤ i) → τ.2.2.1 93 i = σ.2.2.1 93 i
theorem frK_refl {l : List Nat} {u v : Nat} {σ : rS} : frK l u v σ σ := ⟨fun _ _ => rfl, rfl, fun _ _ _ _ => rfl, rfl, fun _ _ => ⟨rfl, fun _ _ => rfl⟩, fun _ _ => rfl⟩
theorem frK_tr {l : List Nat} {u v : Nat} {σ τ υ : rS} (h : frK l u v σ τ) (g : frK l u v τ υ) : frK l u v σ υ := ⟨fun k z => (g.1 k z).trans (h.1 k z), g.2.1.trans h.2.1, fun k z1 z2 z3 => (g.2.2.1 k z1 z2 z3).trans (h.2.2.1 k z1 z2 z3), g.2.2.2.1.trans h.2.2.2.1, fun k z => ⟨(g.2.2.2.2.1 k z).1.trans (h.2.2.2.2.1 k z).1, fun i hi => ((g.2.2.2.2.1 k z).2 i hi).trans ((h.2.2.2.2.1 k z).2 i hi)⟩, fun i z => (g.2.2.2.2.2 i z).trans (h.2.2.2.2.2 i z)⟩
theorem frK_S {l m : List Nat} {u v : Nat} {σ τ : rS} (h : frS l σ τ) (hl : ∀ k, k ∈ l → k ∈ m) : frK m u v σ τ := ⟨h.1, h.2.1, fun j z1 z2 _ => h.2.2.1 j z1 z2, h.2.2.2.1, fun k z => h.2.2.2.2 k (fun e => z (hl k e)), fun i _ => by rw [h.2.2.1 93 (by decide) (by decide)]⟩
theorem frK_N {l m : List Nat} {u v : Nat} {σ τ : rS} (h : frN l σ τ) (hl : ∀ k, k ∈ l → k ∈ m) : frK m u v σ τ := frK_S (frS_of h) hl
theorem frK_R {m : List Nat} {u v : Nat} {σ τ : rS} (h : frR 93 u v σ τ) : frK m u v σ τ := ⟨fun k _ => by rw [h.1], h.2.1, fun j _ _ z3 => h.2.2.1 j z3, h.2.2.2.1, fun k _ => ⟨by rw [h.2.2.1 91 (by decide)], fun i _ => by rw [h.2.2.1 90 (by decide)]⟩, h.2.2.2.2⟩
theorem frK_w {l m : List Nat} {u v x y : Nat} {σ τ : rS} (h : frK l u v σ τ) (hl : ∀ k, k ∈ l → k ∈ m) (h1 : x ≤ u) (h2 : v ≤ y) : frK m x y σ τ := ⟨h.1, h.2.1, h.2.2.1, h.2.2.2.1, fun k z => h.2.2.2.2.1 k (fun e => z (hl k e)), fun i z => h.2.2.2.2.2 i (by omega)⟩
/-- the slot a holds the fraction q in its lowest terms -/
def hL (σ : rS) (a : Nat) (q : Rat) : Prop := slN σ 93 (260 * a) 129 ∧ slN σ 93 (260 * a + 130) 129 ∧ (slV σ 93 (260 * a) : Int) = q.num ∧ slV σ 93 (260 * a + 130) = q.den
theorem sl_e {σ τ : rS} {c : Nat} (h : ∀ i, c ≤ i → i < c + 130 → τ.2.2.1 93 i = σ.2.2.1 93 i) (hs : slN σ 93 c 129) : slN τ 93 c 129 ∧ slV τ 93 c = slV σ 93 c := by
  have e := h c (by omega) (by omega)
  have l : (σ.2.2.1 93 c).toNatClampNeg ≤ 129 := (cn_li hs.1 (by decide)).mp hs.2.1
  exact gO_c hs e hs.2.1 (fun i hi => h _ (by omega) (by omega))
theorem hL_e {σ τ : rS} {a : Nat} {q : Rat} (h : ∀ i, 260 * a ≤ i → i < 260 * a + 260 → τ.2.2.1 93 i = σ.2.2.1 93 i) (hs : hL σ a q) : hL τ a q := by
  have x := sl_e (τ := τ) (fun i h1 h2 => h i h1 (by omega)) hs.1
  have y := sl_e (τ := τ) (fun i h1 h2 => h i (by omega) (by omega)) hs.2.1
  exact ⟨x.1, y.1, by rw [x.2]; exact hs.2.2.1, by rw [y.2]; exact hs.2.2.2⟩
theorem hL_K {l : List Nat} {u v : Nat} {σ τ : rS} {a : Nat} {q : Rat} (f : frK l u v σ τ) (ho : 260 * a + 260 ≤ u ∨ v ≤ 260 * a) (hs : hL σ a q) : hL τ a q := hL_e (fun i h1 h2 => f.2.2.2.2.2 i (by omega)) hs
theorem hL_N {l : List Nat} {σ τ : rS} {a : Nat} {q : Rat} (f : frN l σ τ) (hs : hL σ a q) : hL τ a q := hL_e (fun i _ _ => by rw [f.2.2.1 93 (by decide) (by decide)]) hs
theorem hL_S {l : List Nat} {σ τ : rS} {a : Nat} {q : Rat} (f : frS l σ τ) (hs : hL σ a q) : hL τ a q := hL_e (fun i _ _ => by rw [f.2.2.1 93 (by decide) (by decide)]) hs
/-- both sides of a fraction have at most 129 places -/
def fit (q : Rat) : Prop := q.num.natAbs < 65536 ^ 129 ∧ q.den < 65536 ^ 129
theorem fit_L {σ : rS} {n d : Nat} {q : Rat} (h : hR σ n d q) (f : fit q) : nL σ n ≤ 129 ∧ nL σ d ≤ 129 := by
  refine ⟨nL_lt h.1 ?_, nL_lt h.2.1 ?_⟩
  · have := f.1
    rw [← h.2.2.1, Int.natAbs_natCast] at this
    exact this
  · rw [h.2.2.2]; exact f.2
theorem hL_of {σ τ : rS} {n d a : Nat} {q : Rat} (h : hR σ n d q) (s1 : slN τ 93 (260 * a) 129) (s2 : slN τ 93 (260 * a + 130) 129) (v1 : slV τ 93 (260 * a) = nV σ n) (v2 : slV τ 93 (260 * a + 130) = nV σ d) : hL τ a q := ⟨s1, s2, by rw [v1]; exact h.2.2.1, by rw [v2]; exact h.2.2.2⟩
theorem hR_of {σ τ : rS} {n d a : Nat} {q : Rat} (h : hL σ a q) (o1 : numO τ n) (o2 : numO τ d) (v1 : nV τ n = slV σ 93 (260 * a)) (v2 : nV τ d = slV σ 93 (260 * a + 130)) : hR τ n d q := ⟨o1, o2, by rw [v1]; exact h.2.2.1, by rw [v2]; exact h.2.2.2⟩
def sQ (σ : rS) (a : Nat) : Rat := mkRat (slV σ 93 (260 * a)) (slV σ 93 (260 * a + 130))
theorem hL_q {σ : rS} {a : Nat} {q : Rat} (h : hL σ a q) : sQ σ a = q := by
  unfold sQ
  rw [h.2.2.1, h.2.2.2]
  exact Rat.mkRat_self q
theorem hL_z {σ : rS} {a : Nat} {q : Rat} (h : hL σ a q) : σ.2.2.1 93 (260 * a) = 0 ↔ q = 0 := by
  have key : slV σ 93 (260 * a) = 0 ↔ σ.2.2.1 93 (260 * a) = 0 := by
    constructor
    · intro z
      rcases h.1.2.2.2 with e | ⟨t, e1, e2⟩
      · exact cn_inj h.1.1 (by decide) e
      · unfold slV at z
        rw [e1, dv_s] at z
        have := Nat.mul_le_mul_right (65536 ^ t) (Nat.one_le_iff_ne_zero.mpr e2)
        have := Nat.pow_pos (n := t) (show 0 < 65536 by decide)
        omega
    · intro z
      unfold slV
      rw [z]
      rfl
  rw [← key, ← Rat.num_eq_zero, ← h.2.2.1]
  omega
