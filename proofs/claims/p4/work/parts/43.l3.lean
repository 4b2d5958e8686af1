set_option maxHeartbeats 1600000
/-! the reference: what a statement's tokens must be -/
/-- an expression at token a that ends below P -/
def xO (S N R : Nat → Int32) (B P a : Int32) : Prop := B ≤ a ∧ ∃ e, ePa S N R a e ∧ a ≤ e ∧ e < P
/-- the name that a statement gives a value to, at token b: a variable, or an array's cell with its expression -/
def tgO (S N R : Nat → Int32) (B P b : Int32) : Prop := B ≤ b ∧ b < P ∧ ¬ sg S N (b + 1) 40 ∧ (validV (R b.toNatClampNeg) ∨ (validC (R b.toNatClampNeg) ∧ xO S N R B P (b + 2)))
/-- the arguments of a call whose name stands at token x -/
def cO (S N R : Nat → Int32) (B P x : Int32) : Prop := B ≤ x ∧ x < P ∧ S x.toNatClampNeg = 1 ∧ sg S N (x + 1) 40 ∧ ∃ n, gN S N R P n (x + 2)
/-- a statement of kind k that begins at token b, its expression at token x, all below P -/
def stK (S N R : Nat → Int32) (B P k b x : Int32) : Prop :=
  (k = 1 ∧ B ≤ b ∧ b < b + 1 ∧ b + 1 < P ∧ ¬ sg S N (b + 2) 40 ∧ validV (R (b + 1).toNatClampNeg) ∧ xO S N R B P x) ∨
  (k = 2 ∧ tgO S N R B P b ∧ xO S N R B P x) ∨
  (k = 3 ∧ tgO S N R B P b ∧ B ≤ x ∧ x < P ∧ drO S N R P x) ∨
  (k = 4 ∧ tgO S N R B P b ∧ B ≤ x ∧ x < P ∧ xO S N R B P (x + 2)) ∨
  (k = 5 ∧ cO S N R B P x ∧ (b ≠ x → B ≤ b ∧ b < P ∧ ¬ sg S N (b + 1) 40 ∧ validV (R b.toNatClampNeg))) ∨
  ((k = 6 ∨ k = 7 ∨ k = 8 ∨ k = 9 ∨ k = 10) ∧ xO S N R B P x)
theorem xO_up {S N R R' : Nat → Int32} {B P P' a : Int32} (h0 : 0 ≤ B) (h : xO S N R B P a) (hR : rLo R R' P) (hP : P ≤ P') : xO S N R' B P' a := by
  obtain ⟨h1, e, h2, h3, h4⟩ := h
  exact ⟨h1, e, ePa_lo h2 (Int32.le_trans h0 h1) hR (Int32.le_of_lt h4), h3, Int32.lt_of_lt_of_le h4 hP⟩
theorem tgO_up {S N R R' : Nat → Int32} {B P P' a : Int32} (h0 : 0 ≤ B) (h : tgO S N R B P a) (hR : rLo R R' P) (hP : P ≤ P') : tgO S N R' B P' a := by
  obtain ⟨h1, h2, h4, h5⟩ := h
  have e : R' a.toNatClampNeg = R a.toNatClampNeg := hR a (Int32.le_trans h0 h1) h2
  refine ⟨h1, Int32.lt_of_lt_of_le h2 hP, h4, ?_⟩
  rw [e]
  rcases h5 with q | q
  · exact Or.inl q
  · exact Or.inr ⟨q.1, xO_up h0 q.2 hR hP⟩
theorem lt2 {a P : Int32} (h0 : 0 ≤ a) (h : a < P) (hP : P < 131074) : 0 ≤ a + 2 ∧ 0 ≤ a + 1 := by grind
theorem gB_up {S N R R' : Nat → Int32} {P P' : Int32} (hP2 : P < 131074) (hR : rLo R R' P) (hP : P ≤ P') {k : Nat} : ∀ {a : Int32}, 0 ≤ a → gB S N R P k a → gB S N R' P' k a := by
  induction k with
  | zero =>
    rintro a h0 ⟨e, h1, h2, h3, h4⟩
    exact ⟨e, ePa_lo h1 h0 hR (Int32.le_of_lt h3), h2, Int32.lt_of_lt_of_le h3 hP, h4⟩
  | succ k ih =>
    rintro a h0 ⟨e, h1, h2, h3, h4, h6⟩
    exact ⟨e, ePa_lo h1 h0 hR (Int32.le_of_lt h3), h2, Int32.lt_of_lt_of_le h3 hP, h4, ih (lt2 (Int32.le_trans h0 h2) h3 hP2).2 h6⟩
theorem gN_up {S N R R' : Nat → Int32} {P P' a : Int32} {n : Nat} (hP2 : P < 131074) (h0 : 0 ≤ a) (h : gN S N R P n a) (hR : rLo R R' P) (hP : P ≤ P') : gN S N R' P' n a := by
  cases n with
  | zero => exact ⟨h.1, Int32.lt_of_lt_of_le h.2 hP⟩
  | succ k => exact gB_up hP2 hR hP h0 h
theorem prB_up {S N R R' : Nat → Int32} {P P' : Int32} (hR : rLo R R' P) (hP : P ≤ P') {k : Nat} : ∀ {p : Int32}, 0 ≤ p → prB S N R P k p → prB S N R' P' k p := by
  induction k with
  | zero =>
    rintro p h0 ⟨e1, e2, h1, h2, h3, h4, h5, h6, h7, h8⟩
    have g1 := Int32.le_trans h0 (Int32.le_of_lt h3)
    have g2 := Int32.le_trans g1 (Int32.le_trans h2 (Int32.le_of_lt h5))
    exact ⟨e1, e2, ePa_lo h1 g1 hR (Int32.le_trans (Int32.le_of_lt h5) (Int32.le_trans h6 (Int32.le_of_lt h7))), h2, h3, ePa_lo h4 g2 hR (Int32.le_of_lt h7), h5, h6, Int32.lt_of_lt_of_le h7 hP, h8⟩
  | succ k ih =>
    rintro p h0 ⟨e1, e2, h1, h2, h3, h4, h5, h6, h7, h8, h9⟩
    have g1 := Int32.le_trans h0 (Int32.le_of_lt h3)
    have g2 := Int32.le_trans g1 (Int32.le_trans h2 (Int32.le_of_lt h5))
    exact ⟨e1, e2, ePa_lo h1 g1 hR (Int32.le_trans (Int32.le_of_lt h5) (Int32.le_trans h6 (Int32.le_of_lt h7))), h2, h3, ePa_lo h4 g2 hR (Int32.le_of_lt h7), h5, h6, Int32.lt_of_lt_of_le h7 hP, h8, ih (Int32.le_trans g2 h6) h9⟩
theorem drO_up {S N R R' : Nat → Int32} {P P' x : Int32} (h0 : 0 ≤ x) (h2 : 0 ≤ x + 2) (h : drO S N R P x) (hR : rLo R R' P) (hP : P ≤ P') : drO S N R' P' x := by
  obtain ⟨d1, d2, d3⟩ := h
  refine ⟨fun z => ?_, fun z => ?_, fun z => ?_⟩
  · obtain ⟨e, e1, e2⟩ := d1 z
    exact ⟨e, ePa_lo e1 h2 hR (Int32.le_of_lt e2), Int32.lt_of_lt_of_le e2 hP⟩
  · obtain ⟨e1, e2, g1, g2, g3, g4, g5⟩ := d2 z
    have m0 : x + 2 ≤ e1 := by obtain ⟨n, hn⟩ := g1; exact eTo_ge hn
    have m1 : 0 ≤ e1 + 1 := Int32.le_trans h2 (Int32.le_trans m0 (Int32.le_of_lt g2))
    exact ⟨e1, e2, ePa_lo g1 h2 hR (Int32.le_trans (Int32.le_of_lt g2) (Int32.le_trans g3 (Int32.le_of_lt g5))), g2, g3, ePa_lo g4 m1 hR (Int32.le_of_lt g5), Int32.lt_of_lt_of_le g5 hP⟩
  · obtain ⟨k, hk, hb⟩ := d3 z
    exact ⟨k, hk, prB_up hR hP h0 hb⟩
theorem stK_up {S N R R' : Nat → Int32} {B P P' k b x : Int32} (h0 : 0 ≤ B) (hP2 : P < 131074) (h : stK S N R B P k b x) (hR : rLo R R' P) (hP : P ≤ P') : stK S N R' B P' k b x := by
  rcases h with ⟨rfl, h1, h2, h3, h5, h6, h7⟩ | ⟨rfl, h1, h2⟩ | ⟨rfl, h1, h2, h3, h4⟩ | ⟨rfl, h1, h2, h3, h4⟩ | ⟨rfl, h1, h2⟩ | ⟨h1, h2⟩
  · refine Or.inl ⟨rfl, h1, h2, Int32.lt_of_lt_of_le h3 hP, h5, ?_, xO_up h0 h7 hR hP⟩
    rw [hR (b + 1) (Int32.le_trans h0 (Int32.le_trans h1 (Int32.le_of_lt h2))) h3]; exact h6
  · exact Or.inr (Or.inl ⟨rfl, tgO_up h0 h1 hR hP, xO_up h0 h2 hR hP⟩)
  · exact Or.inr (Or.inr (Or.inl ⟨rfl, tgO_up h0 h1 hR hP, h2, Int32.lt_of_lt_of_le h3 hP, drO_up (Int32.le_trans h0 h2) (lt2 (Int32.le_trans h0 h2) h3 hP2).1 h4 hR hP⟩))
  · exact Or.inr (Or.inr (Or.inr (Or.inl ⟨rfl, tgO_up h0 h1 hR hP, h2, Int32.lt_of_lt_of_le h3 hP, xO_up h0 h4 hR hP⟩)))
  · refine Or.inr (Or.inr (Or.inr (Or.inr (Or.inl ⟨rfl, ?_, fun z => ?_⟩))))
    · obtain ⟨c1, c2, c4, c5, n, c6⟩ := h1
      exact ⟨c1, Int32.lt_of_lt_of_le c2 hP, c4, c5, n, gN_up hP2 (lt2 (Int32.le_trans h0 c1) c2 hP2).1 c6 hR hP⟩
    · obtain ⟨c1, c2, c4, c5⟩ := h2 z
      refine ⟨c1, Int32.lt_of_lt_of_le c2 hP, c4, ?_⟩
      rw [hR b (Int32.le_trans h0 c1) c2]; exact c5
  · exact Or.inr (Or.inr (Or.inr (Or.inr (Or.inr ⟨h1, xO_up h0 h2 hR hP⟩))))
/-- from a statement's beginning (state σ) on: what stays, what its number s has got -/
def mSR9 (σ τ : rS) (s B T : Int32) : Prop :=
  ((∀ k, k ≠ 10 → k ≠ 11 → k ≠ 12 → k ≠ 13 → k ≠ 19 → k ≠ 48 → k ≠ 49 → τ.1 k = σ.1 k) ∧ (∀ k,  τ.2.1 k = σ.2.1 k) ∧ (∀ k, k ≠ 29 → k ≠ 30 → k ≠ 31 → k ≠ 32 → k ≠ 33 → k ≠ 34 → k ≠ 35 → k ≠ 36 → k ≠ 38 → k ≠ 39 → k ≠ 44 → k ≠ 50 → k ≠ 51 → k ≠ 52 → τ.2.2.1 k = σ.2.2.1 k) ∧ (∀ k j, k ≠ 29 → k ≠ 30 → k ≠ 31 → k ≠ 32 → k ≠ 33 → k ≠ 34 → k ≠ 35 → k ≠ 36 → k ≠ 38 → k ≠ 39 → k ≠ 44 → k ≠ 50 → k ≠ 51 → k ≠ 52 → τ.2.2.1 k j = σ.2.2.1 k j) ∧ (∀ k j,  τ.2.2.2 k j = σ.2.2.2 k j)) ∧ p0 τ B T ∧ tS τ ∧ (rHi (σ.2.2.1 39) (τ.2.2.1 39) T ∧ rLo (σ.2.2.1 39) (τ.2.2.1 39) B) ∧ 0 ≤ s ∧ s < 150 ∧ (σ.1 11 ≠ 0 → τ.1 11 ≠ 0) ∧
  (τ.1 11 = 0 → s = σ.1 19 ∧ (σ.1 10 ≤ τ.1 10 ∧ rLo (σ.2.2.1 39) (τ.2.2.1 39) (σ.1 10)) ∧ τ.1 19 = σ.1 19 + 1 ∧ rd τ 36 s = rd σ 43 (σ.1 42 - 1) ∧ rd τ 31 s = σ.1 10 ∧ (∀ j, j ≠ s.toNatClampNeg → τ.2.2.1 30 j = σ.2.2.1 30 j ∧ τ.2.2.1 31 j = σ.2.2.1 31 j ∧ τ.2.2.1 32 j = σ.2.2.1 32 j ∧ τ.2.2.1 36 j = σ.2.2.1 36 j) ∧ lkN σ τ)
theorem p0_gen {σ σ' : rS} {B T : Int32} (h : p0 σ B T) (hT : tK σ' B T) (hF : tF σ') (hr : ∀ k, k = 20 ∨ k = 22 ∨ k = 23 ∨ k = 24 ∨ k = 25 ∨ k = 26 ∨ k = 27 ∨ k = 28 → σ'.2.2.1 k = σ.2.2.1 k) (h46 : σ'.1 46 = σ.1 46) (h47 : σ'.1 47 = σ.1 47) : p0 σ' B T := by
  obtain ⟨h1, h2, h3, h4, h5, h6, h7⟩ := h
  refine ⟨hT, h2, hF, ?_, ?_, by rw [h46]; exact h6, by rw [h47]; exact h7⟩
  · show tyN _ _ _ _ _ _
    rw [hr 20 (by decide), hr 22 (by decide), hr 25 (by decide), hr 28 (by decide), hr 26 (by decide), hr 27 (by decide)]; exact h4
  · show tyA _ _
    rw [hr 23 (by decide), hr 24 (by decide)]; exact h5
theorem mS_aI {σ τ υ : rS} {s B T : Int32} (h : mSR9 σ τ s B T) (a : aI τ υ B T) (hlt : υ.1 11 = 0 → τ.1 10 ≤ υ.1 10) : mSR9 σ υ s B T := by
  obtain ⟨h1, h2, h3, h4, h5, h6, h7, h8⟩ := h
  obtain ⟨a1, a2, a3, a4, a5⟩ := a
  have fz : υ.1 11 = 0 → τ.1 11 = 0 := fun f => Decidable.byContradiction (fun z => a4 z f)
  have rr : ∀ k, k ≠ 39 → k ≠ 50 → k ≠ 51 → k ≠ 52 → υ.2.2.1 k = τ.2.2.1 k := a1.2.2.1
  refine ⟨?_, a2, ?_, ?_, h5, h6, fun z => a4 (h7 z), fun f => ?_⟩
  · clear h2 h3 h4 h8 a2 a3; grind
  · show tyS _ _ _ _ _ _ _ _
    rw [rr 29 (by decide) (by decide) (by decide) (by decide), rr 33 (by decide) (by decide) (by decide) (by decide), rr 34 (by decide) (by decide) (by decide) (by decide), rr 35 (by decide) (by decide) (by decide) (by decide), rr 36 (by decide) (by decide) (by decide) (by decide), rr 38 (by decide) (by decide) (by decide) (by decide), rr 43 (by decide) (by decide) (by decide) (by decide), rr 44 (by decide) (by decide) (by decide) (by decide)]
    exact h3
  · exact ⟨rHi_tr h4.1 a5, rLo_tr h4.2 a3 h2.1.2.2.2.2.1⟩
  · obtain ⟨m1, m2, m3, m4, m5, m6⟩ := h8 (fz f)
    simp only [rd]
    rw [rr 36 (by decide) (by decide) (by decide) (by decide), rr 31 (by decide) (by decide) (by decide) (by decide), rr 30 (by decide) (by decide) (by decide) (by decide), rr 32 (by decide) (by decide) (by decide) (by decide), a1.1 19 (by decide) (by decide) (by decide) (by decide) (by decide) (by decide)]
    exact ⟨m1, ⟨Int32.le_trans m2.1 (hlt f), rLo_tr m2.2 a3 m2.1⟩, m3, m4, m5, m6.1, lkN_o m6.2 (rr 29 (by decide) (by decide) (by decide) (by decide)) (rr 33 (by decide) (by decide) (by decide) (by decide)) (rr 34 (by decide) (by decide) (by decide) (by decide)) (rr 35 (by decide) (by decide) (by decide) (by decide)) (a1.1 19 (by decide) (by decide) (by decide) (by decide) (by decide) (by decide))⟩
theorem mS_ri {σ τ : rS} {s B T x : Int32} {k : Nat} (h : mSR9 σ τ s B T) (hk : k = 30 ∨ k = 32) : mSR9 σ (riU τ k s.toNatClampNeg x) s B T := by
  obtain ⟨h1, h2, h3, h4, h5, h6, h7, h8⟩ := h
  have rr : ∀ q, q ≠ 30 → q ≠ 32 → (riU τ k s.toNatClampNeg x).2.2.1 q = τ.2.2.1 q := fun q z1 z2 => ri3 (by rcases hk with rfl | rfl; exact z1; exact z2)
  have ff : ∀ q, (riU τ k s.toNatClampNeg x).1 q = τ.1 q := fun q => rfl
  have ro : ∀ q j, j ≠ s.toNatClampNeg → (riU τ k s.toNatClampNeg x).2.2.1 q j = τ.2.2.1 q j := fun q j hj => by
    by_cases e : q = k
    · subst e; rw [ri4, if_neg hj]
    · rw [ri3 e]
  refine ⟨⟨h1.1, h1.2.1, fun q z1 z2 z3 z4 z5 z6 z7 z8 z9 za zb zc zd ze => (rr q z2 z4).trans (h1.2.2.1 q z1 z2 z3 z4 z5 z6 z7 z8 z9 za zb zc zd ze), fun q j z1 z2 z3 z4 z5 z6 z7 z8 z9 za zb zc zd ze => (congrFun (rr q z2 z4) j).trans (h1.2.2.2.1 q j z1 z2 z3 z4 z5 z6 z7 z8 z9 za zb zc zd ze), h1.2.2.2.2⟩, p0_gen h2 ?_ h2.2.2.1 (fun q hq => rr q (by rcases hq with rfl | rfl | rfl | rfl | rfl | rfl | rfl | rfl <;> decide) (by rcases hq with rfl | rfl | rfl | rfl | rfl | rfl | rfl | rfl <;> decide)) rfl rfl, ?_, ?_, h5, h6, h7, fun f => ?_⟩
  · obtain ⟨t1, t2, t3, t4, t5, t6⟩ := h2.1
    exact ⟨t1, t2, t3, ⟨by rw [rd, rr 5 (by decide) (by decide)]; exact t4.1, t4.2⟩, t5, t6⟩
  · show tyS _ _ _ _ _ _ _ _
    rw [rr 29 (by decide) (by decide), rr 33 (by decide) (by decide), rr 34 (by decide) (by decide), rr 35 (by decide) (by decide), rr 36 (by decide) (by decide), rr 38 (by decide) (by decide), rr 43 (by decide) (by decide), rr 44 (by decide) (by decide)]
    exact h3
  · rw [rr 39 (by decide) (by decide)]; exact h4
  · obtain ⟨m1, m2, m3, m4, m5, m6⟩ := h8 f
    refine ⟨m1, ⟨m2.1, by rw [rr 39 (by decide) (by decide)]; exact m2.2⟩, m3, by rw [rd, rr 36 (by decide) (by decide)]; exact m4, by rw [rd, rr 31 (by decide) (by decide)]; exact m5, fun j hj => ?_, lkN_o m6.2 (rr 29 (by decide) (by decide)) (rr 33 (by decide) (by decide)) (rr 34 (by decide) (by decide)) (rr 35 (by decide) (by decide)) rfl⟩
    rw [ro 30 j hj, ro 31 j hj, ro 32 j hj, ro 36 j hj]
    exact m6.1 j hj
