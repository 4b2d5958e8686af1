set_option maxHeartbeats 1600000
/-! the reference: a whole expression; its way -/
def eStep (S N R : Nat → Int32) (st a : Int32) (W : eL) (st' a' : Int32) (W' : eL) : Prop := (st = 0 ∧ eOp S N R a W st' a' W') ∨ (st = 1 ∧ eBh S N a W st' a' W')
/-- n steps from token A -/
def eTo (S N R : Nat → Int32) (A : Int32) : Nat → Int32 → Int32 → eL → Prop
  | 0, st, a, W => st = 0 ∧ a = A ∧ W = []
  | n + 1, st, a, W => ∃ st0 a0 W0, eTo S N R A n st0 a0 W0 ∧ eStep S N R st0 a0 W0 st a W ∧ (a0 < a ∨ (st = 2 ∧ a0 = a))
/-- the expression at token A ends at token e -/
def ePa (S N R : Nat → Int32) (A e : Int32) : Prop := ∃ n, eTo S N R A n 2 e []
theorem eOp_det {S N R : Nat → Int32} {a s1 a1 s2 a2 : Int32} {W W1 W2 : eL} (h1 : eOp S N R a W s1 a1 W1) (h2 : eOp S N R a W s2 a2 W2) : s1 = s2 ∧ a1 = a2 ∧ W1 = W2 := by
  obtain ⟨-, h1⟩ := h1
  obtain ⟨-, h2⟩ := h2
  unfold sg at h1 h2
  rcases h1 with ⟨q, rfl, rfl, rfl⟩ | ⟨q, rfl, rfl, rfl⟩ | ⟨q, -, rfl, rfl, rfl⟩ | ⟨q, rfl, rfl, rfl⟩ | ⟨q, qa, -, -, rfl, rfl, rfl⟩ | ⟨q, qa, qb, -, rfl, rfl, rfl⟩ <;>
  rcases h2 with ⟨p, rfl, rfl, rfl⟩ | ⟨p, rfl, rfl, rfl⟩ | ⟨p, -, rfl, rfl, rfl⟩ | ⟨p, rfl, rfl, rfl⟩ | ⟨p, pa, -, -, rfl, rfl, rfl⟩ | ⟨p, pa, pb, -, rfl, rfl, rfl⟩ <;>
  first
  | exact ⟨rfl, rfl, rfl⟩
  | (exfalso; simp_all)
  | (exfalso; grind)
theorem eBh_det {S N : Nat → Int32} {a s1 a1 s2 a2 : Int32} {W W1 W2 : eL} (h1 : eBh S N a W s1 a1 W1) (h2 : eBh S N a W s2 a2 W2) : s1 = s2 ∧ a1 = a2 ∧ W1 = W2 := by
  rcases h1 with ⟨-, g1, rfl, rfl, rfl⟩ | ⟨g1, ⟨e1, rfl, rfl, rfl⟩ | ⟨-, -, rfl, rfl, f, V, e1, rfl⟩ | ⟨-, -, rfl, rfl, f, V, e1, rfl⟩⟩ <;>
  rcases h2 with ⟨-, g2, rfl, rfl, rfl⟩ | ⟨g2, ⟨e2, rfl, rfl, rfl⟩ | ⟨-, -, rfl, rfl, f2, V2, e2, rfl⟩ | ⟨-, -, rfl, rfl, f2, V2, e2, rfl⟩⟩ <;>
  first
  | exact ⟨rfl, rfl, rfl⟩
  | exact absurd g1 g2
  | exact absurd g2 g1
  | (rw [e1] at e2; cases e2; exact ⟨rfl, rfl, rfl⟩)
  | (rw [e1] at e2; exact absurd e2 (by simp))
theorem eStep_det {S N R : Nat → Int32} {st a s1 a1 s2 a2 : Int32} {W W1 W2 : eL} (h1 : eStep S N R st a W s1 a1 W1) (h2 : eStep S N R st a W s2 a2 W2) : s1 = s2 ∧ a1 = a2 ∧ W1 = W2 := by
  rcases h1 with ⟨e1, h1⟩ | ⟨e1, h1⟩ <;> rcases h2 with ⟨e2, h2⟩ | ⟨e2, h2⟩
  · exact eOp_det h1 h2
  · exact absurd (e1.symm.trans e2) (by decide)
  · exact absurd (e1.symm.trans e2) (by decide)
  · exact eBh_det h1 h2
theorem eTo_det {S N R : Nat → Int32} {A : Int32} {n : Nat} : ∀ {s1 a1 s2 a2 : Int32} {W1 W2 : eL}, eTo S N R A n s1 a1 W1 → eTo S N R A n s2 a2 W2 → s1 = s2 ∧ a1 = a2 ∧ W1 = W2 := by
  induction n with
  | zero =>
    rintro s1 a1 s2 a2 W1 W2 ⟨rfl, rfl, rfl⟩ ⟨rfl, rfl, rfl⟩
    exact ⟨rfl, rfl, rfl⟩
  | succ n ih =>
    rintro s1 a1 s2 a2 W1 W2 ⟨p1, p2, p3, h1, h2, -⟩ ⟨r1, r2, r3, g1, g2, -⟩
    obtain ⟨rfl, rfl, rfl⟩ := ih h1 g1
    exact eStep_det h2 g2
theorem eTo_pre {S N R : Nat → Int32} {A : Int32} {m n : Nat} (hm : m < n) : ∀ {st a : Int32} {W : eL}, eTo S N R A n st a W → ∃ s0 a0 W0 s1 a1 W1, eTo S N R A m s0 a0 W0 ∧ eStep S N R s0 a0 W0 s1 a1 W1 := by
  induction n with
  | zero => omega
  | succ n ih =>
    rintro st a W ⟨p1, p2, p3, h1, h2, -⟩
    by_cases e : m = n
    · subst e; exact ⟨_, _, _, _, _, _, h1, h2⟩
    · exact ih (by omega) h1
theorem eStep_2 {S N R : Nat → Int32} {a s1 a1 : Int32} {W W1 : eL} (h : eStep S N R 2 a W s1 a1 W1) : False := by
  rcases h with ⟨e, -⟩ | ⟨e, -⟩ <;> exact absurd e (by decide)
/-- on the way of an expression that ends there is a next step, and the end is the end -/
theorem eTo_next {S N R : Nat → Int32} {A e st a : Int32} {W : eL} {m : Nat} (h : ePa S N R A e) (hm : eTo S N R A m st a W) (hs : st ≠ 2) : ∃ s1 a1 W1, eStep S N R st a W s1 a1 W1 := by
  obtain ⟨n, hn⟩ := h
  rcases Nat.lt_trichotomy m n with q | q | q
  · obtain ⟨s0, a0, W0, s1, a1, W1, g1, g2⟩ := eTo_pre q hn
    obtain ⟨rfl, rfl, rfl⟩ := eTo_det hm g1
    exact ⟨_, _, _, g2⟩
  · subst q
    exact absurd (eTo_det hm hn).1 hs
  · obtain ⟨s0, a0, W0, s1, a1, W1, g1, g2⟩ := eTo_pre q hm
    obtain ⟨rfl, rfl, rfl⟩ := eTo_det hn g1
    exact absurd g2 (fun z => eStep_2 z)
theorem eTo_end {S N R : Nat → Int32} {A e a : Int32} {W : eL} {m : Nat} (h : ePa S N R A e) (hm : eTo S N R A m 2 a W) : a = e := by
  obtain ⟨n, hn⟩ := h
  rcases Nat.lt_trichotomy m n with q | q | q
  · obtain ⟨s0, a0, W0, s1, a1, W1, g1, g2⟩ := eTo_pre q hn
    obtain ⟨rfl, rfl, rfl⟩ := eTo_det hm g1
    exact absurd g2 (fun z => eStep_2 z)
  · subst q
    exact (eTo_det hm hn).2.1
  · obtain ⟨s0, a0, W0, s1, a1, W1, g1, g2⟩ := eTo_pre q hm
    obtain ⟨rfl, rfl, rfl⟩ := eTo_det hn g1
    exact absurd g2 (fun z => eStep_2 z)
theorem eTo_ge {S N R : Nat → Int32} {A : Int32} {n : Nat} : ∀ {st a : Int32} {W : eL}, eTo S N R A n st a W → A ≤ a := by
  induction n with
  | zero => rintro st a W ⟨-, rfl, -⟩; exact Int32.le_refl _
  | succ n ih =>
    rintro st a W ⟨p1, p2, p3, h1, -, h3⟩
    have := ih h1
    rcases h3 with q | q
    · exact Int32.le_trans this (Int32.le_of_lt q)
    · exact q.2 ▸ this
theorem eOp_st {S N R : Nat → Int32} {a a1 : Int32} {W W1 : eL} (h : eOp S N R a W 2 a1 W1) : False := by
  obtain ⟨-, h⟩ := h
  rcases h with ⟨-, e, -⟩ | ⟨-, e, -⟩ | ⟨-, -, e, -⟩ | ⟨-, e, -⟩ | ⟨-, -, -, -, e, -⟩ | ⟨-, -, -, -, e, -⟩ <;> exact absurd e (by decide)
/-- the way reads the references of the names on it alone -/
theorem eTo_R {S N R R' : Nat → Int32} {A : Int32} {n : Nat} : ∀ {st a : Int32} {W : eL}, eTo S N R A n st a W → (∀ t : Int32, A ≤ t → t < a → ¬ sg S N (t + 1) 40 → R' t.toNatClampNeg = R t.toNatClampNeg) → eTo S N R' A n st a W := by
  induction n with
  | zero => intro st a W h _; exact h
  | succ n ih =>
    rintro st a W ⟨p1, p2, p3, h1, h2, h3⟩ hR
    have hle : p2 ≤ a := by rcases h3 with q | q; exact Int32.le_of_lt q; exact q.2 ▸ Int32.le_refl _
    refine ⟨p1, p2, p3, ih h1 (fun t ht ht2 => hR t ht (Int32.lt_of_lt_of_le ht2 hle)), ?_, h3⟩
    rcases h2 with ⟨rfl, h2⟩ | h2
    · have hlt : p2 < a := by
        rcases h3 with q | q
        · exact q
        · rw [q.1] at h2; exact absurd h2 (fun z => eOp_st z)
      refine Or.inl ⟨rfl, ?_⟩
      have hr : ¬ sg S N (p2 + 1) 40 → R' p2.toNatClampNeg = R p2.toNatClampNeg := hR p2 (eTo_ge h1) hlt
      obtain ⟨g, h2⟩ := h2
      refine ⟨g, ?_⟩
      rcases h2 with q | q | q | q | q | q
      · exact Or.inl q
      · exact Or.inr (Or.inl q)
      · exact Or.inr (Or.inr (Or.inl q))
      · exact Or.inr (Or.inr (Or.inr (Or.inl q)))
      · refine Or.inr (Or.inr (Or.inr (Or.inr (Or.inl ?_))))
        rw [hr (fun z => absurd (q.2.1.2.symm.trans z.2) (by decide))]; exact q
      · refine Or.inr (Or.inr (Or.inr (Or.inr (Or.inr ?_))))
        rw [hr q.2.1]; exact q
    · exact Or.inr h2
theorem ePa_R {S N R R' : Nat → Int32} {A e : Int32} (h : ePa S N R A e) (hR : ∀ t : Int32, A ≤ t → t < e → ¬ sg S N (t + 1) 40 → R' t.toNatClampNeg = R t.toNatClampNeg) : ePa S N R' A e := by
  obtain ⟨n, hn⟩ := h
  exact ⟨n, eTo_R hn hR⟩
theorem cn_ne {x y : Int32} (hx : 0 ≤ x) (h : x < y) : x.toNatClampNeg ≠ y.toNatClampNeg := fun e => by
  have := cn_inj hx (by grind) e
  grind
