set_option maxHeartbeats 1600000
/-! the reference: expressions while a text is read; arguments -/
theorem expression_f {C : rCx} (hC : cOK C) {σ : rS} {Q : Int32 → rS → Prop} (hp : σ.1 11 ≠ 0) (h : ∀ (v : Int32) (σ' : rS), ((∀ k, k ≠ 48 → k ≠ 49 → σ'.1 k = σ.1 k) ∧ σ'.2 = σ.2) → Q v σ') : cI C 6 m_expression [.ref (co C)] σ Q := by
  refine m_expression_run hC ?_
  unfold w_expression_0
  intro σ_1 hσ_1 σ_2 hσ_2
  have hf : σ_2.1 11 ≠ 0 := by rw [hσ_2, si1, if_neg (by decide), hσ_1, si1, if_neg (by decide)]; exact hp
  unfold w_expression_12
  refine ⟨fun n l τ => σ_2 = τ, ⟨0, rfl⟩, ?_⟩
  rintro n l _ rfl
  refine goesOn_c hC (fun r q => ⟨fun c => ?_, fun c => absurd (q.2.mp c).1 hf⟩)
  unfold w_expression_51
  refine ⟨ib_66000.mpr ⟨by decide, by decide⟩, h _ _ ?_⟩
  grind [si1, si2]
/-- what holds while a text is read, fault or no fault -/
def p0 (σ : rS) (B T : Int32) : Prop := tK σ B T ∧ T.toInt - B.toInt ≤ 65536 ∧ tF σ ∧ tN σ ∧ tA σ ∧ σ.1 46 = 0 ∧ σ.1 47 = 0
/-- only references of tokens from a on were changed -/
def rLo (R R' : Nat → Int32) (a : Int32) : Prop := ∀ t : Int32, 0 ≤ t → t < a → R' t.toNatClampNeg = R t.toNatClampNeg
/-- nor were those behind T -/
def rHi (R R' : Nat → Int32) (T : Int32) : Prop := ∀ t : Int32, T < t → R' t.toNatClampNeg = R t.toNatClampNeg
theorem rHi_refl {R : Nat → Int32} {T : Int32} : rHi R R T := fun _ _ => rfl
theorem rHi_tr {R R' R'' : Nat → Int32} {T : Int32} (h : rHi R R' T) (h2 : rHi R' R'' T) : rHi R R'' T := fun t ht => (h2 t ht).trans (h t ht)
theorem rLo_refl {R : Nat → Int32} {a : Int32} : rLo R R a := fun _ _ _ => rfl
theorem rLo_tr {R R' R'' : Nat → Int32} {a b : Int32} (h : rLo R R' a) (h2 : rLo R' R'' b) (hab : a ≤ b) : rLo R R'' a := fun t h0 h1 => (h2 t h0 (Int32.lt_of_lt_of_le h1 hab)).trans (h t h0 h1)
theorem p0_fr {σ σ' : rS} {B T : Int32} (h : p0 σ B T) (hT : tK σ' B T) (hf : ∀ k, k ≠ 10 → k ≠ 11 → k ≠ 12 → k ≠ 13 → k ≠ 48 → k ≠ 49 → σ'.1 k = σ.1 k) (hr : ∀ k, k ≠ 39 → k ≠ 50 → k ≠ 51 → k ≠ 52 → σ'.2.2.1 k = σ.2.2.1 k) : p0 σ' B T := by
  obtain ⟨h1, h2, h3, h4, h5, h6, h7⟩ := h
  exact ⟨hT, h2, by grind, by grind, by grind, by grind, by grind⟩
/-- an expression while a text is read -/
theorem expr0_c {C : rCx} (hC : cOK C) (B T : Int32) {σ : rS} {Q : Int32 → rS → Prop} (hp : p0 σ B T ∧ (σ.1 11 = 0 → 0 ≤ σ.1 13 ∧ σ.1 13 ≤ 40)) (h : ∀ (v : Int32) (σ' : rS), (((∀ k, k ≠ 10 → k ≠ 11 → k ≠ 12 → k ≠ 13 → k ≠ 48 → k ≠ 49 → σ'.1 k = σ.1 k) ∧ (∀ k,  σ'.2.1 k = σ.2.1 k) ∧ (∀ k, k ≠ 39 → k ≠ 50 → k ≠ 51 → k ≠ 52 → σ'.2.2.1 k = σ.2.2.1 k) ∧ (∀ k j, k ≠ 39 → k ≠ 50 → k ≠ 51 → k ≠ 52 → σ'.2.2.1 k j = σ.2.2.1 k j) ∧ (∀ k j,  σ'.2.2.2 k j = σ.2.2.2 k j)) ∧ p0 σ' B T ∧ (σ.1 11 ≠ 0 → σ'.1 11 ≠ 0 ∧ σ'.2 = σ.2) ∧ rLo (σ.2.2.1 39) (σ'.2.2.1 39) (σ.1 10) ∧ (σ'.1 11 = 0 → σ.1 11 = 0 ∧ σ.1 10 ≤ σ'.1 10 ∧ σ'.1 13 = σ.1 13 ∧ ePa (σ.2.2.1 5) (σ.2.2.1 7) (σ'.2.2.1 39) (σ.1 10) (σ'.1 10)) ∧ rHi (σ.2.2.1 39) (σ'.2.2.1 39) T) → Q v σ') : cI C 6 m_expression [.ref (co C)] σ Q := by
  obtain ⟨hP, ho⟩ := hp
  by_cases e : σ.1 11 = 0
  · obtain ⟨hK, hB, hF, hN, hA, h46, h47⟩ := hP
    have ho := ho e
    refine expression_c hC B T (σ.1 13).toNatClampNeg ⟨hK, ⟨hK.1, hK.2.2.2.2.1, Int32.le_refl _, hK.2.2.2.2.2, hK.2.2.1, hB⟩, Or.inl h46, hF, hN, hA, ⟨ho.1, ho.2, rfl⟩, fun _ => h47, fun z => absurd h46 z⟩ (fun v σ' q => h v σ' ?_)
    obtain ⟨q1, q2, q3, q4, q5, q6, q7⟩ := q
    have f47 : σ'.1 47 = 0 := q3 h46
    have hfr : ∀ k, k ≠ 10 → k ≠ 11 → k ≠ 12 → k ≠ 13 → k ≠ 48 → k ≠ 49 → σ'.1 k = σ.1 k := by
      intro k z1 z2 z3 z4 z5 z6
      by_cases e7 : k = 47
      · subst e7; rw [f47, h47]
      · exact q1.1 k z1 z2 z3 z4 e7 z5 z6
    refine ⟨⟨hfr, q1.2⟩, p0_fr ⟨hK, hB, hF, hN, hA, h46, h47⟩ q2 hfr q1.2.2.1, fun z => absurd e z, q5, fun f1 => ?_, q7⟩
    obtain ⟨z1, z2, z3, z4⟩ := q6 f1 f47
    exact ⟨z1, z2.2.2.1, cn_inj z4.1 ho.1 (by rw [z4.2.2]; rfl), z3⟩
  · refine expression_f hC e (fun v σ' q => h v σ' ?_)
    have hfr : ∀ k, k ≠ 10 → k ≠ 11 → k ≠ 12 → k ≠ 13 → k ≠ 48 → k ≠ 49 → σ'.1 k = σ.1 k := fun k _ _ _ _ z5 z6 => q.1 k z5 z6
    have e11 : σ'.1 11 = σ.1 11 := q.1 11 (by decide) (by decide)
    refine ⟨⟨hfr, fun k => by rw [q.2], fun k _ _ _ _ => by rw [q.2], fun k j _ _ _ _ => by rw [q.2], fun k j => by rw [q.2]⟩, p0_fr hP ?_ hfr (fun k _ _ _ _ => by rw [q.2]), fun _ => ⟨by rw [e11]; exact e, q.2⟩, by rw [q.2]; exact rLo_refl, fun z => absurd z (by rw [e11]; exact e), by rw [q.2]; exact rHi_refl⟩
    have := hP.1
    grind [tK]
/-- i expressions from token a0 on, a comma behind each, up to token a -/
def gP (S N R : Nat → Int32) (a0 : Int32) : Nat → Int32 → Prop
  | 0, a => a = a0
  | i + 1, a => ∃ b e, gP S N R a0 i b ∧ ePa S N R b e ∧ b ≤ e ∧ e < a ∧ a = e + 1 ∧ sg S N e 44
/-- k + 1 expressions from token a on, commas between them, a closing bracket behind; all below P -/
def gB (S N R : Nat → Int32) (P : Int32) : Nat → Int32 → Prop
  | 0, a => ∃ e, ePa S N R a e ∧ a ≤ e ∧ e < P ∧ sg S N e 41
  | k + 1, a => ∃ e, ePa S N R a e ∧ a ≤ e ∧ e < P ∧ sg S N e 44 ∧ gB S N R P k (e + 1)
def gN (S N R : Nat → Int32) (P : Int32) (n : Nat) (a : Int32) : Prop := match n with
  | 0 => sg S N a 41 ∧ a < P
  | k + 1 => gB S N R P k a
theorem gP_ge {S N R : Nat → Int32} {a0 : Int32} {i : Nat} : ∀ {a : Int32}, gP S N R a0 i a → a0 ≤ a := by
  induction i with
  | zero => rintro a rfl; exact Int32.le_refl _
  | succ i ih =>
    rintro a ⟨b, e, h1, -, h3, h4, -⟩
    exact Int32.le_trans (ih h1) (Int32.le_trans h3 (Int32.le_of_lt h4))
theorem gP_R {S N R R' : Nat → Int32} {a0 : Int32} (h0 : 0 ≤ a0) {i : Nat} : ∀ {a : Int32}, gP S N R a0 i a → rLo R R' a → gP S N R' a0 i a := by
  induction i with
  | zero => rintro a h _; exact h
  | succ i ih =>
    rintro a ⟨b, e, h1, h2, h3, h4, h5, h6⟩ hR
    have hb := gP_ge h1
    refine ⟨b, e, ih h1 (fun t ht ht2 => hR t ht (Int32.lt_of_lt_of_le ht2 (Int32.le_trans h3 (Int32.le_of_lt h4)))), ePa_R h2 (fun t ht ht2 _ => hR t (Int32.le_trans h0 (Int32.le_trans hb ht)) (Int32.lt_trans ht2 h4)), h3, h4, h5, h6⟩
theorem gP_B {S N R : Nat → Int32} {a0 P : Int32} {i : Nat} : ∀ {k : Nat} {a : Int32}, gP S N R a0 i a → a ≤ P → gB S N R P k a → gB S N R P (i + k) a0 := by
  induction i with
  | zero => rintro k a rfl _ h; rwa [Nat.zero_add]
  | succ i ih =>
    rintro k a ⟨b, e, h1, h2, h3, h4, h5, h6⟩ hP hB
    have := ih (k := k + 1) h1 (Int32.le_trans h3 (Int32.le_trans (Int32.le_of_lt h4) hP)) ⟨e, h2, h3, Int32.lt_of_lt_of_le h4 hP, h6, h5 ▸ hB⟩
    rwa [show i + 1 + k = i + (k + 1) by omega]
