set_option maxHeartbeats 1600000
/-! the reference: steps over a text, one behind the other -/
theorem at_up {σ : rS} {B T a : Int32} (h : tK σ B T) (ha : a ≤ T) (e : a = σ.1 10 + 1) : σ.1 10 < a := by
  subst e
  obtain ⟨h1, h2, h3, -, h5, h6⟩ := h
  grind
theorem aI_at {σ τ : rS} {B T : Int32} (h : aI σ τ B T) : τ.2.2.1 5 = σ.2.2.1 5 ∧ τ.2.2.1 7 = σ.2.2.1 7 ∧ tK τ B T ∧ 0 ≤ τ.1 10 ∧ τ.1 10 < 131074 :=
  ⟨h.1.2.2.1 5 (by decide) (by decide) (by decide) (by decide), h.1.2.2.1 7 (by decide) (by decide) (by decide) (by decide), h.2.1.1, Int32.le_trans h.2.1.1.1 h.2.1.1.2.2.2.2.1, by have := h.2.1.1; clear h; grind [tK]⟩
/-- behind a step of the text: faultless only from faultless, further on -/
def nxt (σ τ υ : rS) : Prop := υ.1 11 = 0 → τ.1 11 = 0 ∧ τ.1 10 < υ.1 10
theorem aI_sign {σ τ υ : rS} {B T c : Int32} (h : aI σ τ B T) (q : ((∀ k, k ≠ 10 → k ≠ 11 → k ≠ 12 → υ.1 k = τ.1 k) ∧ υ.2 = τ.2) ∧ tK υ B T ∧ (τ.1 11 ≠ 0 → υ = τ) ∧ (υ.1 11 = 0 ↔ τ.1 11 = 0 ∧ rd τ 5 (τ.1 10) = 3 ∧ rd τ 7 (τ.1 10) = c ∧ rd τ 5 (τ.1 10 + 1) ≠ 4) ∧ (υ.1 11 = 0 → υ.1 10 = τ.1 10 + 1)) : aI σ υ B T ∧ υ.2 = τ.2 ∧ (υ.1 11 = 0 → τ.1 11 = 0 ∧ τ.1 10 < υ.1 10 ∧ υ.1 10 = τ.1 10 + 1 ∧ υ.1 13 = τ.1 13 ∧ sg (σ.2.2.1 5) (σ.2.2.1 7) (τ.1 10) c) := by
  have a := aI_at h
  refine ⟨aI_fr h q.2.1 ⟨fun k z1 z2 z3 _ => q.1.1 k z1 z2 z3, q.1.2⟩ (fun z e => z (q.2.2.2.1.mp e).1), q.1.2, fun f => ?_⟩
  have z := q.2.2.2.1.mp f
  have z2 := q.2.2.2.2 f
  exact ⟨z.1, at_up a.2.2.1 q.2.1.2.2.2.2.2 z2, z2, q.1.1 13 (by decide) (by decide) (by decide), by rw [← a.1]; exact z.2.1, by rw [← a.2.1]; exact z.2.2.1⟩
theorem aI_open {σ τ υ : rS} {B T c : Int32} (h : aI σ τ B T) (q : ((∀ k, k ≠ 10 → k ≠ 11 → k ≠ 12 → k ≠ 13 → υ.1 k = τ.1 k) ∧ υ.2 = τ.2) ∧ tK υ B T ∧ (υ.1 11 = 0 ↔ τ.1 11 = 0 ∧ rd τ 5 (τ.1 10) = 3 ∧ rd τ 7 (τ.1 10) = c ∧ rd τ 5 (τ.1 10 + 1) ≠ 4 ∧ τ.1 13 ≠ 40) ∧ (υ.1 11 = 0 → υ.1 10 = τ.1 10 + 1 ∧ υ.1 13 = τ.1 13 + 1)) : aI σ υ B T ∧ υ.2 = τ.2 ∧ (υ.1 11 = 0 → τ.1 11 = 0 ∧ τ.1 10 < υ.1 10 ∧ υ.1 10 = τ.1 10 + 1 ∧ υ.1 13 = τ.1 13 + 1 ∧ sg (σ.2.2.1 5) (σ.2.2.1 7) (τ.1 10) c ∧ τ.1 13 ≠ 40) := by
  have a := aI_at h
  refine ⟨aI_fr h q.2.1 q.1 (fun z e => z (q.2.2.1.mp e).1), q.1.2, fun f => ?_⟩
  have z := q.2.2.1.mp f
  have z2 := q.2.2.2 f
  exact ⟨z.1, at_up a.2.2.1 q.2.1.2.2.2.2.2 z2.1, z2.1, z2.2, ⟨by rw [← a.1]; exact z.2.1, by rw [← a.2.1]; exact z.2.2.1⟩, z.2.2.2.2⟩
theorem aI_close {σ τ υ : rS} {B T c : Int32} (h : aI σ τ B T) (q : ((∀ k, k ≠ 10 → k ≠ 11 → k ≠ 12 → k ≠ 13 → υ.1 k = τ.1 k) ∧ υ.2 = τ.2) ∧ tK υ B T ∧ (υ.1 11 = 0 ↔ τ.1 11 = 0 ∧ rd τ 5 (τ.1 10) = 3 ∧ rd τ 7 (τ.1 10) = c ∧ rd τ 5 (τ.1 10 + 1) ≠ 4) ∧ (υ.1 11 = 0 → υ.1 10 = τ.1 10 + 1 ∧ υ.1 13 = τ.1 13 - 1)) : aI σ υ B T ∧ υ.2 = τ.2 ∧ (υ.1 11 = 0 → τ.1 11 = 0 ∧ τ.1 10 < υ.1 10 ∧ υ.1 10 = τ.1 10 + 1 ∧ υ.1 13 = τ.1 13 - 1 ∧ sg (σ.2.2.1 5) (σ.2.2.1 7) (τ.1 10) c) := by
  have a := aI_at h
  refine ⟨aI_fr h q.2.1 q.1 (fun z e => z (q.2.2.1.mp e).1), q.1.2, fun f => ?_⟩
  have z := q.2.2.1.mp f
  have z2 := q.2.2.2 f
  exact ⟨z.1, at_up a.2.2.1 q.2.1.2.2.2.2.2 z2.1, z2.1, z2.2, by rw [← a.1]; exact z.2.1, by rw [← a.2.1]; exact z.2.2.1⟩
theorem aI_go {σ τ υ : rS} {B T : Int32} (h : aI σ τ B T) (q : ((∀ k, k ≠ 10 → k ≠ 11 → k ≠ 12 → υ.1 k = τ.1 k) ∧ υ.2 = τ.2) ∧ tK υ B T ∧ (τ.1 11 ≠ 0 → υ = τ) ∧ (τ.1 11 = 0 → υ.1 10 = τ.1 10 + 1) ∧ (υ.1 11 = 0 ↔ τ.1 11 = 0 ∧ rd τ 5 (τ.1 10 + 1) ≠ 4)) : aI σ υ B T ∧ υ.2 = τ.2 ∧ (υ.1 11 = 0 → τ.1 11 = 0 ∧ τ.1 10 < υ.1 10 ∧ υ.1 10 = τ.1 10 + 1 ∧ υ.1 13 = τ.1 13) := by
  have a := aI_at h
  refine ⟨aI_fr h q.2.1 ⟨fun k z1 z2 z3 _ => q.1.1 k z1 z2 z3, q.1.2⟩ (fun z e => z (q.2.2.2.2.mp e).1), q.1.2, fun f => ?_⟩
  have z := q.2.2.2.2.mp f
  have z2 := q.2.2.2.1 z.1
  exact ⟨z.1, at_up a.2.2.1 q.2.1.2.2.2.2.2 z2, z2, q.1.1 13 (by decide) (by decide) (by decide)⟩
theorem aI_flaw {σ τ υ : rS} {B T : Int32} (h : aI σ τ B T) (q : ((∀ k, k ≠ 11 → k ≠ 12 → υ.1 k = τ.1 k) ∧ υ.2 = τ.2) ∧ (τ.1 11 ≠ 0 → υ = τ) ∧ υ.1 11 ≠ 0 ∧ (0 ≤ τ.1 11 → 0 ≤ υ.1 11)) : aI σ υ B T ∧ υ.2 = τ.2 ∧ υ.1 11 ≠ 0 :=
  ⟨aI_fr h (by have := h.2.1.1; clear h; grind [tK]) ⟨fun k _ z1 z2 _ => q.1.1 k z1 z2, q.1.2⟩ (fun _ => q.2.2.1), q.1.2, q.2.2.1⟩
theorem aI_expr {σ τ υ : rS} {B T : Int32} (h : aI σ τ B T) (q : ((∀ k, k ≠ 10 → k ≠ 11 → k ≠ 12 → k ≠ 13 → k ≠ 48 → k ≠ 49 → υ.1 k = τ.1 k) ∧ (∀ k,  υ.2.1 k = τ.2.1 k) ∧ (∀ k, k ≠ 39 → k ≠ 50 → k ≠ 51 → k ≠ 52 → υ.2.2.1 k = τ.2.2.1 k) ∧ (∀ k j, k ≠ 39 → k ≠ 50 → k ≠ 51 → k ≠ 52 → υ.2.2.1 k j = τ.2.2.1 k j) ∧ (∀ k j,  υ.2.2.2 k j = τ.2.2.2 k j)) ∧ p0 υ B T ∧ (τ.1 11 ≠ 0 → υ.1 11 ≠ 0 ∧ υ.2 = τ.2) ∧ rLo (τ.2.2.1 39) (υ.2.2.1 39) (τ.1 10) ∧ (υ.1 11 = 0 → τ.1 11 = 0 ∧ τ.1 10 ≤ υ.1 10 ∧ υ.1 13 = τ.1 13 ∧ ePa (τ.2.2.1 5) (τ.2.2.1 7) (υ.2.2.1 39) (τ.1 10) (υ.1 10)) ∧ rHi (τ.2.2.1 39) (υ.2.2.1 39) T) (ha : τ.1 11 = 0 → σ.1 10 ≤ τ.1 10) : aI σ υ B T ∧ rLo (τ.2.2.1 39) (υ.2.2.1 39) (τ.1 10) ∧ (υ.1 11 = 0 → τ.1 11 = 0 ∧ τ.1 10 ≤ υ.1 10 ∧ υ.1 13 = τ.1 13 ∧ ePa (σ.2.2.1 5) (σ.2.2.1 7) (υ.2.2.1 39) (τ.1 10) (υ.1 10)) := by
  have a := aI_at h
  refine ⟨aI_ex h q.1 q.2.1 q.2.2.1 q.2.2.2.1 q.2.2.2.2.2 ha, q.2.2.2.1, fun f => ?_⟩
  obtain ⟨z1, z2, z3, z4⟩ := q.2.2.2.2.1 f
  exact ⟨z1, z2, z3, by rw [← a.1, ← a.2.1]; exact z4⟩
theorem ePa_lo {S N R R' : Nat → Int32} {a e b : Int32} (h : ePa S N R a e) (h0 : 0 ≤ a) (hR : rLo R R' b) (hb : e ≤ b) : ePa S N R' a e := ePa_R h (fun t ht ht2 _ => hR t (Int32.le_trans h0 ht) (Int32.lt_of_lt_of_le ht2 hb))
/-- i pairs of expressions from token p0 on, a comma behind each, the last at token p -/
def prP (S N R : Nat → Int32) (p0 : Int32) : Nat → Int32 → Prop
  | 0, p => p = p0
  | i + 1, p => ∃ b e, prP S N R p0 i b ∧ b < b + 1 ∧ ePa S N R (b + 1) e ∧ b + 1 ≤ e ∧ e < e + 1 ∧ ePa S N R (e + 1) p ∧ e + 1 ≤ p ∧ sg S N p 44
/-- k + 1 pairs of expressions behind token p, commas between them -/
def prB (S N R : Nat → Int32) (P : Int32) : Nat → Int32 → Prop
  | 0, p => ∃ e1 e2, ePa S N R (p + 1) e1 ∧ p + 1 ≤ e1 ∧ p < p + 1 ∧ ePa S N R (e1 + 1) e2 ∧ e1 < e1 + 1 ∧ e1 + 1 ≤ e2 ∧ e2 < P ∧ ¬ sg S N e2 44
  | k + 1, p => ∃ e1 e2, ePa S N R (p + 1) e1 ∧ p + 1 ≤ e1 ∧ p < p + 1 ∧ ePa S N R (e1 + 1) e2 ∧ e1 < e1 + 1 ∧ e1 + 1 ≤ e2 ∧ e2 < P ∧ sg S N e2 44 ∧ prB S N R P k e2
theorem prP_ge {S N R : Nat → Int32} {p0 : Int32} {i : Nat} : ∀ {p : Int32}, prP S N R p0 i p → p0 ≤ p := by
  induction i with
  | zero => rintro a rfl; exact Int32.le_refl _
  | succ i ih =>
    rintro p ⟨b, e, h1, hb, -, h3, he, -, h5, -⟩
    exact Int32.le_trans (ih h1) (Int32.le_trans (Int32.le_of_lt hb) (Int32.le_trans h3 (Int32.le_trans (Int32.le_of_lt he) h5)))
theorem prP_R {S N R R' : Nat → Int32} {p0 : Int32} (h0 : 0 ≤ p0) {i : Nat} : ∀ {p : Int32}, prP S N R p0 i p → rLo R R' p → prP S N R' p0 i p := by
  induction i with
  | zero => rintro a h _; exact h
  | succ i ih =>
    rintro p ⟨b, e, h1, hb, h2, h3, he, h4, h5, h6⟩ hR
    have g0 : 0 ≤ b := Int32.le_trans h0 (prP_ge h1)
    have g1 : 0 ≤ b + 1 := Int32.le_trans g0 (Int32.le_of_lt hb)
    have g2 : 0 ≤ e + 1 := Int32.le_trans g1 (Int32.le_trans h3 (Int32.le_of_lt he))
    have g3 : e ≤ p := Int32.le_trans (Int32.le_of_lt he) h5
    have g4 : b ≤ p := Int32.le_trans (Int32.le_of_lt hb) (Int32.le_trans h3 g3)
    refine ⟨b, e, ih h1 (fun t ht ht2 => hR t ht (Int32.lt_of_lt_of_le ht2 g4)), hb, ePa_lo h2 g1 hR g3, h3, he, ePa_lo h4 g2 hR (Int32.le_refl _), h5, h6⟩
theorem prP_B {S N R : Nat → Int32} {p0 P : Int32} {i : Nat} : ∀ {k : Nat} {p : Int32}, prP S N R p0 i p → p < P → prB S N R P k p → prB S N R P (i + k) p0 := by
  induction i with
  | zero => rintro k a rfl _ h; rwa [Nat.zero_add]
  | succ i ih =>
    rintro k p ⟨b, e, h1, hb, h2, h3, he, h4, h5, h6⟩ hP hB
    have g3 : e ≤ p := Int32.le_trans (Int32.le_of_lt he) h5
    have g4 : b ≤ p := Int32.le_trans (Int32.le_of_lt hb) (Int32.le_trans h3 g3)
    have := ih (k := k + 1) h1 (Int32.lt_of_le_of_lt g4 hP) ⟨e, p, h2, h3, hb, h4, he, h5, hP, h6, hB⟩
    rwa [show i + 1 + k = i + (k + 1) by omega]
/-- what is drawn, at token x: pick, flip, or pairs -/
def drO (S N R : Nat → Int32) (P x : Int32) : Prop :=
  (S x.toNatClampNeg = 6 ∧ N x.toNatClampNeg = 11 → ∃ e, ePa S N R (x + 2) e ∧ e < P) ∧
  (S x.toNatClampNeg = 6 ∧ N x.toNatClampNeg = 12 → ∃ e1 e2, ePa S N R (x + 2) e1 ∧ e1 < e1 + 1 ∧ e1 + 1 ≤ e2 ∧ ePa S N R (e1 + 1) e2 ∧ e2 < P) ∧
  (¬ (S x.toNatClampNeg = 6 ∧ (N x.toNatClampNeg = 11 ∨ N x.toNatClampNeg = 12)) → ∃ k, k < 8 ∧ prB S N R P k x)
