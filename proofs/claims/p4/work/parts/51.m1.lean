set_option maxHeartbeats 1600000
/-! the reference: calls are looked up -/
/-- references changed at calls' names alone -/
def rC (S N R R' : Nat → Int32) : Prop := ∀ t : Int32, 0 ≤ t → ¬ sg S N (t + 1) 40 → R' t.toNatClampNeg = R t.toNatClampNeg
theorem rC_refl {S N R : Nat → Int32} : rC S N R R := fun _ _ _ => rfl
theorem rC_tr {S N R R' R'' : Nat → Int32} (h : rC S N R R') (g : rC S N R' R'') : rC S N R R'' := fun t h0 hs => (g t h0 hs).trans (h t h0 hs)
theorem ePa_C {S N R R' : Nat → Int32} {a e : Int32} (h : ePa S N R a e) (h0 : 0 ≤ a) (hC : rC S N R R') : ePa S N R' a e := ePa_R h (fun t ht _ hs => hC t (Int32.le_trans h0 ht) hs)
theorem xO_C {S N R R' : Nat → Int32} {B P a : Int32} (h0 : 0 ≤ B) (h : xO S N R B P a) (hC : rC S N R R') : xO S N R' B P a := by
  obtain ⟨h1, e, h2, h3⟩ := h
  exact ⟨h1, e, ePa_C h2 (Int32.le_trans h0 h1) hC, h3⟩
theorem tgO_C {S N R R' : Nat → Int32} {B P a : Int32} (h0 : 0 ≤ B) (h : tgO S N R B P a) (hC : rC S N R R') : tgO S N R' B P a := by
  obtain ⟨h1, h2, h4, h5⟩ := h
  refine ⟨h1, h2, h4, ?_⟩
  rw [hC a (Int32.le_trans h0 h1) h4]
  rcases h5 with q | q
  · exact Or.inl q
  · exact Or.inr ⟨q.1, xO_C h0 q.2 hC⟩
theorem gB_C {S N R R' : Nat → Int32} {P : Int32} (hP2 : P < 131074) (hC : rC S N R R') {k : Nat} : ∀ {a : Int32}, 0 ≤ a → gB S N R P k a → gB S N R' P k a := by
  induction k with
  | zero =>
    rintro a h0 ⟨e, h1, h2⟩
    exact ⟨e, ePa_C h1 h0 hC, h2⟩
  | succ k ih =>
    rintro a h0 ⟨e, h1, h2, h3, h4, h6⟩
    exact ⟨e, ePa_C h1 h0 hC, h2, h3, h4, ih (lt2 (Int32.le_trans h0 h2) h3 hP2).2 h6⟩
theorem gN_C {S N R R' : Nat → Int32} {P a : Int32} {n : Nat} (hP2 : P < 131074) (h0 : 0 ≤ a) (h : gN S N R P n a) (hC : rC S N R R') : gN S N R' P n a := by
  cases n with
  | zero => exact h
  | succ k => exact gB_C hP2 hC h0 h
theorem prB_C {S N R R' : Nat → Int32} {P : Int32} (hC : rC S N R R') {k : Nat} : ∀ {p : Int32}, 0 ≤ p → prB S N R P k p → prB S N R' P k p := by
  induction k with
  | zero =>
    rintro p h0 ⟨e1, e2, h1, h2, h3, h4, h5, h6⟩
    have g1 := Int32.le_trans h0 (Int32.le_of_lt h3)
    exact ⟨e1, e2, ePa_C h1 g1 hC, h2, h3, ePa_C h4 (Int32.le_trans g1 (Int32.le_trans h2 (Int32.le_of_lt h5))) hC, h5, h6⟩
  | succ k ih =>
    rintro p h0 ⟨e1, e2, h1, h2, h3, h4, h5, h6, h7, h8, h9⟩
    have g1 := Int32.le_trans h0 (Int32.le_of_lt h3)
    have g2 := Int32.le_trans g1 (Int32.le_trans h2 (Int32.le_of_lt h5))
    exact ⟨e1, e2, ePa_C h1 g1 hC, h2, h3, ePa_C h4 g2 hC, h5, h6, h7, h8, ih (Int32.le_trans g2 h6) h9⟩
theorem drO_C {S N R R' : Nat → Int32} {P x : Int32} (h0 : 0 ≤ x) (h2 : 0 ≤ x + 2) (h : drO S N R P x) (hC : rC S N R R') : drO S N R' P x := by
  obtain ⟨d1, d2, d3⟩ := h
  refine ⟨fun z => ?_, fun z => ?_, fun z => ?_⟩
  · obtain ⟨e, e1, e2⟩ := d1 z
    exact ⟨e, ePa_C e1 h2 hC, e2⟩
  · obtain ⟨e1, e2, g1, g2, g3, g4, g5⟩ := d2 z
    have m0 : x + 2 ≤ e1 := by obtain ⟨n, hn⟩ := g1; exact eTo_ge hn
    exact ⟨e1, e2, ePa_C g1 h2 hC, g2, g3, ePa_C g4 (Int32.le_trans h2 (Int32.le_trans m0 (Int32.le_of_lt g2))) hC, g5⟩
  · obtain ⟨k, hk, hb⟩ := d3 z
    exact ⟨k, hk, prB_C hC h0 hb⟩
theorem stK_C {S N R R' : Nat → Int32} {B P k b x : Int32} (h0 : 0 ≤ B) (hP2 : P < 131074) (h : stK S N R B P k b x) (hC : rC S N R R') : stK S N R' B P k b x := by
  rcases h with ⟨rfl, h1, h2, h3, h5, h6, h7⟩ | ⟨rfl, h1, h2⟩ | ⟨rfl, h1, h2, h3, h4⟩ | ⟨rfl, h1, h2, h3, h4⟩ | ⟨rfl, h1, h2⟩ | ⟨h1, h2⟩
  · refine Or.inl ⟨rfl, h1, h2, h3, h5, ?_, xO_C h0 h7 hC⟩
    rw [hC (b + 1) (Int32.le_trans h0 (Int32.le_trans h1 (Int32.le_of_lt h2))) (by rw [up_2]; exact h5)]; exact h6
  · exact Or.inr (Or.inl ⟨rfl, tgO_C h0 h1 hC, xO_C h0 h2 hC⟩)
  · exact Or.inr (Or.inr (Or.inl ⟨rfl, tgO_C h0 h1 hC, h2, h3, drO_C (Int32.le_trans h0 h2) (lt2 (Int32.le_trans h0 h2) h3 hP2).1 h4 hC⟩))
  · exact Or.inr (Or.inr (Or.inr (Or.inl ⟨rfl, tgO_C h0 h1 hC, h2, h3, xO_C h0 h4 hC⟩)))
  · refine Or.inr (Or.inr (Or.inr (Or.inr (Or.inl ⟨rfl, ?_, fun z => ?_⟩))))
    · obtain ⟨c1, c2, c4, c5, n, c6⟩ := h1
      exact ⟨c1, c2, c4, c5, n, gN_C hP2 (lt2 (Int32.le_trans h0 c1) c2 hP2).1 c6 hC⟩
    · obtain ⟨c1, c2, c4, c5⟩ := h2 z
      refine ⟨c1, c2, c4, ?_⟩
      rw [hC b (Int32.le_trans h0 c1) c4]; exact c5
  · exact Or.inr (Or.inr (Or.inr (Or.inr (Or.inr ⟨h1, xO_C h0 h2 hC⟩))))
theorem stK_call {S N R : Nat → Int32} {B P k b x : Int32} (h : stK S N R B P k b x) (hk : k = 5) : cO S N R B P x := by
  rcases h with ⟨q, -⟩ | ⟨q, -⟩ | ⟨q, -⟩ | ⟨q, -⟩ | ⟨-, q, -⟩ | ⟨q, -⟩
  · rw [hk] at q; exact absurd q (by decide)
  · rw [hk] at q; exact absurd q (by decide)
  · rw [hk] at q; exact absurd q (by decide)
  · rw [hk] at q; exact absurd q (by decide)
  · exact q
  · rw [hk] at q; exact absurd q (by decide)
theorem gN_b {S N R : Nat → Int32} {P a : Int32} {n : Nat} (hP : P < 131074) (h0 : 0 ≤ a) (h : gN S N R P n a) : a < P ∧ n < 131074 := by
  cases n with
  | zero => exact ⟨h.2, by decide⟩
  | succ k =>
    have h' : gB S N R P k a := h
    obtain ⟨m, hm⟩ := rm_B h'
    have l1 := rm_le hm
    have l2 := rm_k hP h0 hm
    have hT := Int32.lt_iff_toInt_lt.mp hP
    rw [show (131074 : Int32).toInt = 131074 from rfl] at hT
    have h0' := Int32.le_iff_toInt_le.mp h0
    rw [Int32.toInt_zero] at h0'
    refine ⟨?_, by omega⟩
    cases m with
    | zero => exact hm.2.2.2
    | succ m => exact hm.2.1
/-- a call's name refers to a function with as many givens as there are arguments -/
def kO (S N R G : Nat → Int32) (funcs P x : Int32) : Prop := 300 ≤ R x.toNatClampNeg ∧ R x.toNatClampNeg < 300 + funcs ∧ gN S N R P (G (R x.toNatClampNeg - 300).toNatClampNeg).toNatClampNeg (x + 2)
theorem f300 {f : Int32} (h0 : 0 ≤ f) (h1 : f < 11) : 300 ≤ 300 + f ∧ 300 + f - 300 = f := by grind
theorem f300b {f g : Int32} (h0 : 0 ≤ f) (h1 : f < g) (h2 : g ≤ 10) : 300 + f < 300 + g := by grind
theorem s_up {s n : Int32} (h0 : 0 ≤ s) (h : ¬ n ≤ s) (hn : n ≤ 150) : 0 ≤ s + 1 ∧ s + 1 ≤ n ∧ n - (s + 1) < n - s ∧ 0 ≤ n - (s + 1) ∧ s < n ∧ s < 150 := by grind
theorem s_lt1 {s n : Int32} (h0 : 0 ≤ n) (hn : n < 150) (h : s < n + 1) : s = n ∨ s < n := by grind
theorem f_up2 {s n : Int32} (h0 : 0 ≤ s) (h : ¬ n ≤ s) (hn : n ≤ 10) : 0 ≤ s + 1 ∧ s + 1 ≤ n ∧ n - (s + 1) < n - s ∧ 0 ≤ n - (s + 1) ∧ s < n ∧ s < 10 := by grind
theorem calledBy_c {C : rCx} (hC : cOK C)  {σ : rS} {a1 : Int32} {Q : Int32 → rS → Prop} (hp : 0 ≤ a1 ∧ a1 < 150) (h : ∀ (v : Int32), (v = rd σ 32 a1) → Q v σ) : cI C 0 m_calledBy [.ref (co C), .int a1] σ Q := by
  refine m_calledBy_run hC ?_
  unfold w_calledBy_0
  refine ⟨ib_150.mpr ?_, ?_⟩
  · clear h; exact hp  -- b1
  refine h _ ?_
  · clear h; rfl  -- q2
