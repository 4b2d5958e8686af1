set_option maxHeartbeats 1600000
/-! the reference: the way of an expression through its tokens, the same in both modes -/
def sg (S N : Nat → Int32) (a c : Int32) : Prop := S a.toNatClampNeg = 3 ∧ N a.toNatClampNeg = c
/-- a step that takes an operand: from token a and signs W to stage st', token a', signs W' -/
def eOp (S N R : Nat → Int32) (a : Int32) (W : eL) (st' a' : Int32) (W' : eL) : Prop :=
  S a'.toNatClampNeg ≠ 4 ∧
  ((sg S N a 33 ∧ st' = 0 ∧ a' = a + 1 ∧ W' = (1000, 0) :: W) ∨
  (sg S N a 45 ∧ st' = 0 ∧ a' = a + 1 ∧ W' = (1001, 0) :: W) ∨
  (sg S N a 40 ∧ nbr W < 40 ∧ st' = 0 ∧ a' = a + 1 ∧ W' = (40, 0) :: W) ∨
  (S a.toNatClampNeg = 2 ∧ st' = 1 ∧ a' = a + 1 ∧ W' = turnW W) ∨
  (S a.toNatClampNeg = 1 ∧ sg S N (a + 1) 91 ∧ nbr W < 40 ∧ validC (R a.toNatClampNeg) ∧ st' = 0 ∧ a' = a + 2 ∧ W' = (91, R a.toNatClampNeg) :: W) ∨
  (S a.toNatClampNeg = 1 ∧ ¬ sg S N (a + 1) 40 ∧ ¬ sg S N (a + 1) 91 ∧ validV (R a.toNatClampNeg) ∧ st' = 1 ∧ a' = a + 1 ∧ W' = turnW W))
def eRk (S N : Nat → Int32) (a : Int32) : Int32 := if S a.toNatClampNeg = 3 then rk (N a.toNatClampNeg) else 0
def eLv (r : Int32) : Int32 := if r = 3 then 4 else if r ≤ 0 then 6 else r
/-- whether the sign at a token goes on the pile -/
def eGo (r : Int32) (W : eL) : Prop := 0 < r ∧ (r ≠ 3 ∨ rk (tp W) ≠ 3)
/-- a step behind an operand -/
def eBh (S N : Nat → Int32) (a : Int32) (W : eL) (st' a' : Int32) (W' : eL) : Prop :=
  (S a'.toNatClampNeg ≠ 4 ∧ eGo (eRk S N a) (popW (eLv (eRk S N a)) W) ∧ st' = 0 ∧ a' = a + 1 ∧ W' = (N a.toNatClampNeg, 0) :: popW (eLv (eRk S N a)) W) ∨
  (¬ eGo (eRk S N a) (popW (eLv (eRk S N a)) W) ∧
    ((popW 1 (popW (eLv (eRk S N a)) W) = [] ∧ st' = 2 ∧ a' = a ∧ W' = []) ∨
    (S a'.toNatClampNeg ≠ 4 ∧ sg S N a 41 ∧ st' = 1 ∧ a' = a + 1 ∧ ∃ f, ∃ W2, popW 1 (popW (eLv (eRk S N a)) W) = (40, f) :: W2 ∧ W' = turnW W2) ∨
    (S a'.toNatClampNeg ≠ 4 ∧ sg S N a 93 ∧ st' = 1 ∧ a' = a + 1 ∧ ∃ f, ∃ W2, popW 1 (popW (eLv (eRk S N a)) W) = (91, f) :: W2 ∧ W' = turnW W2)))
theorem nbn_cons {x : Int32 × Int32} {W : eL} : nbn (x :: W) = nbn W + if 0 < rk x.1 then 1 else 0 := rfl
theorem nbr_cons {x : Int32 × Int32} {W : eL} : nbr (x :: W) = nbr W + if x.1 = 40 ∨ x.1 = 91 then 1 else 0 := rfl
theorem eI_hold0 {w v R R' s f : Int32} {W : eL} (h : eI w v W 0 R) (hs : s = 40 ∨ isU s ∨ (s = 91 ∧ validC f)) (hR : R < R') (hR' : R' ≤ 65537) : eI (w + 1) v ((s, f) :: W) 0 R' := by
  obtain ⟨h1, h2, h3, h4, h5, h6, h7, h8⟩ := h
  have hr : rk s = 0 := by
    rcases hs with q | q | q
    · rw [q]; decide
    · exact rk_U q
    · rw [q.1]; decide
  refine ⟨by grind, by grind, h3, by grind, hR', ?_, ⟨h7, ?_⟩, fun q => absurd q (by decide)⟩
  · rw [nbn_cons, h6]; simp [hr]
  · rcases hs with q | q | q
    · exact Or.inl q
    · exact Or.inr (Or.inl q)
    · exact Or.inr (Or.inr (Or.inl q))
theorem eI_bin {w v R R' s f : Int32} {W : eL} (h : eI w v W 1 R) (hs : 0 < rk s) (hR : R < R') (hR' : R' ≤ 65537) : eI (w + 1) v ((s, f) :: W) 0 R' := by
  obtain ⟨h1, h2, h3, h4, h5, h6, h7, h8⟩ := h
  have o1 : (1 : Int32).toNatClampNeg = 1 := rfl
  have o0 : (0 : Int32).toNatClampNeg = 0 := rfl
  refine ⟨by grind, by grind, h3, by grind, hR', ?_, ⟨h7, Or.inr (Or.inr (Or.inr ⟨hs, h8 rfl⟩))⟩, fun q => absurd q (by decide)⟩
  rw [nbn_cons, h6, o1, o0]; simp [hs]
theorem eI_push {w v w' R R' : Int32} {W : eL} (h : eI w v W 0 R) (h0 : 0 ≤ w') (hw : w' ≤ w) (hR : R < R') (hR' : R' ≤ 65537) : eI w' (v + 1) (turnW W) 1 R' := by
  obtain ⟨h1, h2, h3, h4, h5, h6, h7, h8⟩ := h
  have o1 : (1 : Int32).toNatClampNeg = 1 := rfl
  have o0 : (0 : Int32).toNatClampNeg = 0 := rfl
  refine ⟨h0, by grind, by grind, by grind, hR', ?_, turn_eV h7, fun _ => turn_tnu⟩
  rw [turn_nbn, cn_succ h3 (by grind), h6, o1, o0]
theorem eI_close {w v w' R R' : Int32} {x : Int32 × Int32} {W : eL} (h : eI w v (x :: W) 1 R) (hx : x.1 = 40 ∨ x.1 = 91) (h0 : 0 ≤ w') (hw : w' ≤ w) (hR : R ≤ R') (hR' : R' ≤ 65537) : eI w' v (turnW W) 1 R' := by
  obtain ⟨h1, h2, h3, h4, h5, h6, h7, h8⟩ := h
  have hr : rk x.1 = 0 := by rcases hx with q | q <;> (rw [q]; decide)
  rw [nbn_cons, hr] at h6
  refine ⟨h0, by grind, h3, by grind, hR', ?_, turn_eV h7.1, fun _ => turn_tnu⟩
  rw [turn_nbn, h6]; simp
theorem eI_br {w v R : Int32} {x : Int32 × Int32} {W : eL} (h : eI w v (x :: W) 1 R) (hr : rk x.1 ≤ 0) : x.1 = 40 ∨ (x.1 = 91 ∧ validC x.2) := by
  obtain ⟨h1, h2, h3, h4, h5, h6, h7, h8⟩ := h
  rcases h7.2 with q | q | q | q
  · exact Or.inl q
  · exact absurd q (h8 rfl)
  · exact Or.inr q
  · grind
theorem eI_room {w v R R' st : Int32} {W : eL} (h : eI w v W st R) (hR : R ≤ R') (hR' : R' ≤ 65537) : eI w v W st R' := by
  obtain ⟨h1, h2, h3, h4, h5, h6, h7, h8⟩ := h
  exact ⟨h1, by grind, h3, by grind, hR', h6, h7, h8⟩
theorem pop_rk {l : Int32} {W : eL} (hl : l ≤ 1) : rk (tp (popW l W)) ≤ 0 := by
  induction W with
  | nil => exact (by decide : rk 0 ≤ 0)
  | cons x W ih =>
    unfold popW
    split
    · exact ih
    · next h => simp only [tp]; grind
theorem eOp_name {S N R : Nat → Int32} {a a' : Int32} {W W' : eL} (h : S a.toNatClampNeg = 1) (h1 : ¬ sg S N (a + 1) 40) (h2 : ¬ sg S N (a + 1) 91) (h3 : validV (R a.toNatClampNeg)) (h4 : S (a + 1).toNatClampNeg ≠ 4) (ha : a' = a + 1) (hW : W' = turnW W) : eOp S N R a W 1 a' W' := by
  subst ha; exact ⟨h4, Or.inr (Or.inr (Or.inr (Or.inr (Or.inr ⟨h, h1, h2, h3, rfl, rfl, hW⟩))))⟩
theorem eOp_cell {S N R : Nat → Int32} {a a' : Int32} {W W' : eL} (h : S a.toNatClampNeg = 1) (h1 : sg S N (a + 1) 91) (h2 : nbr W < 40) (h3 : validC (R a.toNatClampNeg)) (h4 : S (a + 2).toNatClampNeg ≠ 4) (ha : a' = a + 2) (hW : W' = (91, R a.toNatClampNeg) :: W) : eOp S N R a W 0 a' W' := by
  subst ha; exact ⟨h4, Or.inr (Or.inr (Or.inr (Or.inr (Or.inl ⟨h, h1, h2, h3, rfl, rfl, hW⟩))))⟩
theorem eOp_num {S N R : Nat → Int32} {a a' : Int32} {W W' : eL} (h : S a.toNatClampNeg = 2) (h4 : S (a + 1).toNatClampNeg ≠ 4) (ha : a' = a + 1) (hW : W' = turnW W) : eOp S N R a W 1 a' W' := by
  subst ha; exact ⟨h4, Or.inr (Or.inr (Or.inr (Or.inl ⟨h, rfl, rfl, hW⟩)))⟩
theorem eOp_par {S N R : Nat → Int32} {a a' : Int32} {W W' : eL} (h : sg S N a 40) (h2 : nbr W < 40) (h4 : S (a + 1).toNatClampNeg ≠ 4) (ha : a' = a + 1) (hW : W' = (40, 0) :: W) : eOp S N R a W 0 a' W' := by
  subst ha; exact ⟨h4, Or.inr (Or.inr (Or.inl ⟨h, h2, rfl, rfl, hW⟩))⟩
theorem eOp_not {S N R : Nat → Int32} {a a' : Int32} {W W' : eL} (h : sg S N a 33) (h4 : S (a + 1).toNatClampNeg ≠ 4) (ha : a' = a + 1) (hW : W' = (1000, 0) :: W) : eOp S N R a W 0 a' W' := by
  subst ha; exact ⟨h4, Or.inl ⟨h, rfl, rfl, hW⟩⟩
theorem eOp_less {S N R : Nat → Int32} {a a' : Int32} {W W' : eL} (h : sg S N a 45) (h4 : S (a + 1).toNatClampNeg ≠ 4) (ha : a' = a + 1) (hW : W' = (1001, 0) :: W) : eOp S N R a W 0 a' W' := by
  subst ha; exact ⟨h4, Or.inr (Or.inl ⟨h, rfl, rfl, hW⟩)⟩
/-- what a name's step says -/
theorem eOp_at1 {S N R : Nat → Int32} {a : Int32} {W : eL} (h : ∃ st' a' W', eOp S N R a W st' a' W') (h1 : S a.toNatClampNeg = 1) : S (a + 1).toNatClampNeg ≠ 4 ∧ ¬ sg S N (a + 1) 40 ∧ (sg S N (a + 1) 91 → nbr W < 40 ∧ validC (R a.toNatClampNeg) ∧ S (a + 2).toNatClampNeg ≠ 4) ∧ (¬ sg S N (a + 1) 91 → validV (R a.toNatClampNeg)) := by
  obtain ⟨st', a', W', h4, ho⟩ := h
  rcases ho with ⟨q, -⟩ | ⟨q, -⟩ | ⟨q, -⟩ | ⟨q, -⟩ | ⟨-, q1, q2, q3, -, rfl, -⟩ | ⟨-, q1, q2, q3, -, rfl, -⟩
  · exact absurd (q.1.symm.trans h1) (by decide)
  · exact absurd (q.1.symm.trans h1) (by decide)
  · exact absurd (q.1.symm.trans h1) (by decide)
  · exact absurd (q.symm.trans h1) (by decide)
  · refine ⟨fun e => absurd (q1.1.symm.trans e) (by decide), fun e => absurd (q1.2.symm.trans e.2) (by decide), fun _ => ⟨q2, q3, h4⟩, fun e => absurd q1 e⟩
  · exact ⟨h4, q1, fun e => absurd e q2, fun _ => q3⟩
/-- how many brackets are open: c0 before the expression, those of the pile -/
def eO (oc : Int32) (W : eL) (c0 : Nat) : Prop := 0 ≤ oc ∧ oc ≤ 40 ∧ oc.toNatClampNeg = c0 + nbr W
theorem eO_U {oc s f : Int32} {W : eL} {c0 : Nat} (h : eO oc W c0) (hs : ¬ (s = 40 ∨ s = 91)) : eO oc ((s, f) :: W) c0 := ⟨h.1, h.2.1, by rw [h.2.2, nbr_cons]; simp [hs]⟩
theorem eO_turn {oc : Int32} {W : eL} {c0 : Nat} (h : eO oc W c0) : eO oc (turnW W) c0 := ⟨h.1, h.2.1, by rw [h.2.2, turn_nbr]⟩
theorem eO_pop {oc l : Int32} {W : eL} {c0 : Nat} (h : eO oc W c0) : eO oc (popW l W) c0 := ⟨h.1, h.2.1, by rw [h.2.2, pop_nbr]⟩
theorem eO_open {oc s f : Int32} {W : eL} {c0 : Nat} (h : eO oc W c0) (h0 : oc ≠ 40) (hs : s = 40 ∨ s = 91) : eO (oc + 1) ((s, f) :: W) c0 ∧ nbr W < 40 := by
  obtain ⟨h1, h2, h3⟩ := h
  have h4 := cn_succ h1 (by grind)
  have h5 : oc.toNatClampNeg < (40 : Int32).toNatClampNeg := cn_lt h1 (by grind)
  have h6 : (40 : Int32).toNatClampNeg = 40 := rfl
  refine ⟨⟨by grind, by grind, ?_⟩, by omega⟩
  rw [h4, h3, nbr_cons]; simp [hs]; omega
theorem eO_40 {oc : Int32} {W : eL} (h : eO oc W 0) (hn : nbr W < 40) : oc ≠ 40 := by
  rintro rfl
  have h6 : (40 : Int32).toNatClampNeg = 40 := rfl
  have := h.2.2
  omega
theorem eO_close {oc : Int32} {x : Int32 × Int32} {W : eL} {c0 : Nat} (h : eO oc (x :: W) c0) (hx : x.1 = 40 ∨ x.1 = 91) : eO (oc - 1) (turnW W) c0 := by
  obtain ⟨h1, h2, h3⟩ := h
  rw [nbr_cons] at h3
  simp only [hx, if_true] at h3
  have h0 : 0 < oc := by
    have := cn_one (x := oc) (n := c0 + nbr W) (by omega)
    grind
  have h4 := cn_pred h0 (by grind)
  refine ⟨by grind, by grind, ?_⟩
  rw [turn_nbr]; omega
/-- what an expression's steps want and keep -/
def eM (mode calls : Int32) (c0 : Nat) : Prop := mode = 0 ∨ (mode = 1 ∧ 1 ≤ calls ∧ calls ≤ 12 ∧ c0 = 0)
abbrev eQ (σ : rS) (B T A : Int32) (c0 : Nat) (st : Int32) : Prop := tK σ B T ∧ pL B T A (σ.1 10) ∧ eM (σ.1 46) (σ.1 58) c0 ∧ tF σ ∧ tN σ ∧ tA σ ∧ σ.1 11 = 0 ∧ σ.1 47 = 0 ∧ eI (σ.1 48) (σ.1 49) (eW σ) st (σ.1 10 - A) ∧ eO (σ.1 13) (eW σ) c0
theorem eI_66 {w v R st : Int32} {W : eL} (h : eI w v W st R) : 0 ≤ w ∧ w < 65600 ∧ 0 ≤ v ∧ v < 65600 := by
  obtain ⟨h1, h2, h3, h4, h5, -, -, -⟩ := h
  exact ⟨h1, by grind, h3, by grind⟩
theorem named_c {C : rCx} (hC : cOK C) (B T A : Int32) (c0 : Nat) {σ : rS}  {Q : Int32 → rS → Prop} (hp : eQ σ B T A c0 0 ∧ rd σ 5 (σ.1 10) = 1 ∧ (σ.1 46 ≠ 0 → ∃ st' a' W', eOp (σ.2.2.1 5) (σ.2.2.1 7) (σ.2.2.1 39) (σ.1 10) (eW σ) st' a' W')) (h : ∀ (v : Int32) (σ' : rS), (((∀ k, k ≠ 10 → k ≠ 11 → k ≠ 12 → k ≠ 13 → k ≠ 48 → k ≠ 49 → σ'.1 k = σ.1 k) ∧ (∀ k,  σ'.2.1 k = σ.2.1 k) ∧ (∀ k, k ≠ 39 → k ≠ 50 → k ≠ 51 → k ≠ 52 → σ'.2.2.1 k = σ.2.2.1 k) ∧ (∀ k j, k ≠ 39 → k ≠ 50 → k ≠ 51 → k ≠ 52 → σ'.2.2.1 k j = σ.2.2.1 k j) ∧ (∀ k j,  σ'.2.2.2 k j = σ.2.2.2 k j)) ∧ tK σ' B T ∧ nb v ∧ (σ.1 46 ≠ 0 → σ'.1 11 = 0 ∧ σ'.2.2.1 39 = σ.2.2.1 39) ∧ (∀ j, j ≠ (σ.1 10).toNatClampNeg → σ'.2.2.1 39 j = σ.2.2.1 39 j) ∧ (σ'.1 11 = 0 → eOp (σ'.2.2.1 5) (σ'.2.2.1 7) (σ'.2.2.1 39) (σ.1 10) (eW σ) v (σ'.1 10) (eW σ') ∧ eI (σ'.1 48) (σ'.1 49) (eW σ') v (σ'.1 10 - A) ∧ eO (σ'.1 13) (eW σ') c0)) → Q v σ') : cI C 4 m_named [.ref (co C)] σ Q := by
  refine m_named_run hC ?_
  unfold w_named_0
  obtain ⟨⟨hK, hL, hM, hF, hN, hA, h11, h47, hI, hO⟩, hs1, hm⟩ := hp
  have h66 := eI_66 hI
  have hm2 := fun e => eOp_at1 (hm e) hs1
  have hj79 : ∀ (l1 : Int32) (l2 : Int32) (τ : rS), (((∀ k, k ≠ 10 → k ≠ 11 → k ≠ 12 → τ.1 k = σ.1 k) ∧ (∀ k,  τ.2.1 k = σ.2.1 k) ∧ (∀ k, k ≠ 39 → τ.2.2.1 k = σ.2.2.1 k) ∧ (∀ k j, k ≠ 39 → τ.2.2.1 k j = σ.2.2.1 k j) ∧ (∀ k j,  τ.2.2.2 k j = σ.2.2.2 k j)) ∧ tK τ B T ∧ l1 = σ.1 10 ∧ (σ.1 46 ≠ 0 → τ.1 11 = 0 ∧ τ.2.2.1 39 = σ.2.2.1 39) ∧ (∀ j, j ≠ (σ.1 10).toNatClampNeg → τ.2.2.1 39 j = σ.2.2.1 39 j) ∧ (τ.1 11 = 0 → τ.1 10 = σ.1 10 + 1 ∧ rd σ 5 (σ.1 10 + 1) ≠ 4 ∧ ¬ sg (σ.2.2.1 5) (σ.2.2.1 7) (σ.1 10 + 1) 40 ∧ (l2 ≠ 0 ↔ sg (σ.2.2.1 5) (σ.2.2.1 7) (σ.1 10 + 1) 91) ∧ (l2 ≠ 0 → validC (rd τ 39 (σ.1 10))) ∧ (l2 = 0 → validV (rd τ 39 (σ.1 10))))) → w_named_79 C Q  l1 l2 τ := by
    rintro y79_1 y79_2 τ79 j79
    unfold w_named_79
    refine isRight_c hC  (fun r1 q3 => ?_)
    refine ⟨fun c4 => ?_, fun c4 => ?_⟩
    · skip
      refine ⟨fun c5 => ?_, fun c5 => ?_⟩
      · skip
        refine ⟨fun c6 => ?_, fun c6 => ?_⟩
        · skip
          refine ⟨ib_131074.mpr ?_, ?_⟩
          · clear h; grind (splits := 30) [tK, eM, sg, nb, validC, validV, tyF, tyN, eB]  -- b1
          refine valueOf_c hC  ?_ (fun r7 q9 => ?_)
          · clear h; grind (splits := 30) [tK, eM, sg, nb, validC, validV, tyF, tyN, eB]  -- p2
          refine push_c hC  ?_ (fun σ_10 q11 => ?_)
          · clear h; grind (splits := 30) [tK, eM, sg, nb, validC, validV, tyF, tyN, eB]  -- p3
          refine h _ _ ?_
          · clear h; have m5 : σ_10.2.2.1 5 = σ.2.2.1 5 := by grind
            have m7 : σ_10.2.2.1 7 = σ.2.2.1 7 := by grind
            have m39 : σ_10.2.2.1 39 = τ79.2.2.1 39 := by grind
            have mW : eW σ_10 = turnW (eW σ) := by grind
            have ma : σ_10.1 10 = σ.1 10 + 1 ∧ σ_10.1 11 = 0 ∧ 0 ≤ σ_10.1 48 ∧ σ_10.1 48 ≤ σ.1 48 ∧ σ_10.1 49 = σ.1 49 + 1 ∧ σ_10.1 13 = σ.1 13 := by grind
            have mv : validV (rd τ79 39 (σ.1 10)) ∧ ¬ sg (σ.2.2.1 5) (σ.2.2.1 7) (σ.1 10 + 1) 40 ∧ ¬ sg (σ.2.2.1 5) (σ.2.2.1 7) (σ.1 10 + 1) 91 ∧ rd σ 5 (σ.1 10 + 1) ≠ 4 := by grind
            have mT : tK σ_10 B T := by grind [tK]
            refine ⟨by grind, mT, nb_1, by grind, by grind, fun _ => ⟨?_, ?_, ?_⟩⟩
            · rw [m5, m7, m39]; exact eOp_name hs1 mv.2.1 mv.2.2.1 mv.1 mv.2.2.2 ma.1 mW
            · rw [mW, ma.2.2.2.2.1, ma.1]
              have u := pL_up hL (k := 1) (Or.inl rfl) (by rw [← ma.1]; exact mT.2.2.2.2.2)
              exact eI_push hI ma.2.2.1 ma.2.2.2.1 u.1 u.2.1
            · rw [mW, ma.2.2.2.2.2]; exact eO_turn hO
        · skip
          refine push_c hC  ?_ (fun σ_12 q13 => ?_)
          · clear h; grind (splits := 30) [tK, eM, sg, nb, validC, validV, tyF, tyN, eB]  -- p5
          refine h _ _ ?_
          · clear h; have m5 : σ_12.2.2.1 5 = σ.2.2.1 5 := by grind
            have m7 : σ_12.2.2.1 7 = σ.2.2.1 7 := by grind
            have m39 : σ_12.2.2.1 39 = τ79.2.2.1 39 := by grind
            have mW : eW σ_12 = turnW (eW σ) := by grind
            have ma : σ_12.1 10 = σ.1 10 + 1 ∧ σ_12.1 11 = 0 ∧ 0 ≤ σ_12.1 48 ∧ σ_12.1 48 ≤ σ.1 48 ∧ σ_12.1 49 = σ.1 49 + 1 ∧ σ_12.1 13 = σ.1 13 := by grind
            have mv : validV (rd τ79 39 (σ.1 10)) ∧ ¬ sg (σ.2.2.1 5) (σ.2.2.1 7) (σ.1 10 + 1) 40 ∧ ¬ sg (σ.2.2.1 5) (σ.2.2.1 7) (σ.1 10 + 1) 91 ∧ rd σ 5 (σ.1 10 + 1) ≠ 4 := by grind
            have mT : tK σ_12 B T := by grind [tK]
            refine ⟨by grind, mT, nb_1, by grind, by grind, fun _ => ⟨?_, ?_, ?_⟩⟩
            · rw [m5, m7, m39]; exact eOp_name hs1 mv.2.1 mv.2.2.1 mv.1 mv.2.2.2 ma.1 mW
            · rw [mW, ma.2.2.2.2.1, ma.1]
              have u := pL_up hL (k := 1) (Or.inl rfl) (by rw [← ma.1]; exact mT.2.2.2.2.2)
              exact eI_push hI ma.2.2.1 ma.2.2.2.1 u.1 u.2.1
            · rw [mW, ma.2.2.2.2.2]; exact eO_turn hO
      · skip
        refine open_c hC B T ?_ (fun σ_14 q15 => ?_)
        · clear h; grind (splits := 30) [tK, eM, sg, nb, validC, validV, tyF, tyN, eB]  -- p7
        refine ⟨ib_131074.mpr ?_, ?_⟩
        · clear h; grind (splits := 30) [tK, eM, sg, nb, validC, validV, tyF, tyN, eB]  -- b8
        refine hold_c hC  ?_ (fun σ_16 q17 => ?_)
        · clear h; grind (splits := 30) [tK, eM, sg, nb, validC, validV, tyF, tyN, eB]  -- p9
        refine h _ _ ?_
        · clear h; have m5 : σ_16.2.2.1 5 = σ.2.2.1 5 := by grind
          have m7 : σ_16.2.2.1 7 = σ.2.2.1 7 := by grind
          have m39 : σ_16.2.2.1 39 = τ79.2.2.1 39 := by grind
          have m0 : τ79.1 11 = 0 := by grind
          have mv : sg (σ.2.2.1 5) (σ.2.2.1 7) (σ.1 10 + 1) 91 ∧ validC (rd τ79 39 (σ.1 10)) ∧ τ79.1 10 = σ.1 10 + 1 := by grind
          have mW : eW σ_16 = (91, rd τ79 39 (σ.1 10)) :: eW σ := by grind
          have mo : σ_14.1 11 = 0 ↔ rd σ 5 (σ.1 10 + 2) ≠ 4 ∧ σ.1 13 ≠ 40 := by grind [sg]
          have k0 : σ.1 46 ≠ 0 → σ_14.1 11 = 0 := by
            intro hm'
            have k1 := eOp_at1 (hm hm') hs1
            have k2 : σ.1 13 ≠ 40 := by
              have : c0 = 0 := by rcases hM with q | q; exact absurd q hm'; exact q.2.2.2
              subst this
              exact eO_40 hO (k1.2.2.1 mv.1).1
            exact mo.mpr ⟨(k1.2.2.1 mv.1).2.2, k2⟩
          have mT : tK σ_16 B T := by grind [tK]
          have ma : σ_14.1 11 = 0 → σ_16.1 10 = σ.1 10 + 2 ∧ σ_16.1 48 = σ.1 48 + 1 ∧ σ_16.1 49 = σ.1 49 ∧ σ_16.1 13 = σ.1 13 + 1 := by grind
          have m11 : σ_16.1 11 = σ_14.1 11 := by grind
          refine ⟨by grind, mT, nb_0, by grind, by grind, fun hf => ?_⟩
          rw [m11] at hf
          have k6 := eO_open (s := 91) (f := rd τ79 39 (σ.1 10)) hO (mo.mp hf).2 (Or.inr rfl)
          refine ⟨?_, ?_, ?_⟩
          · rw [m5, m7, m39]; exact eOp_cell hs1 mv.1 k6.2 mv.2.1 (mo.mp hf).1 (ma hf).1 mW
          · rw [mW, (ma hf).2.1, (ma hf).2.2.1, (ma hf).1]
            have u := pL_up hL (k := 2) (Or.inr rfl) (by rw [← (ma hf).1]; exact mT.2.2.2.2.2)
            exact eI_hold0 hI (Or.inr (Or.inr ⟨rfl, mv.2.1⟩)) u.1 u.2.1
          · rw [mW, (ma hf).2.2.2]; exact k6.1
    · skip
      refine h _ _ ?_
      · clear h; grind (splits := 30) [tK, eM, sg, nb, validC, validV, tyF, tyN, eB]  -- q11
  have hj34 : ∀ (l1 : Int32) (τ : rS), (((∀ k, k ≠ 10 → k ≠ 11 → k ≠ 12 → τ.1 k = σ.1 k) ∧ τ.2 = σ.2) ∧ tK τ B T ∧ l1 = σ.1 10 ∧ (σ.1 46 ≠ 0 → τ.1 11 = 0) ∧ (τ.1 11 = 0 → τ.1 10 = σ.1 10 + 1 ∧ rd σ 5 (σ.1 10 + 1) ≠ 4 ∧ ¬ sg (σ.2.2.1 5) (σ.2.2.1 7) (σ.1 10 + 1) 40)) → w_named_34 C Q  l1 τ := by
    rintro y34_1 τ34 j34
    unfold w_named_34
    refine isRight_c hC  (fun r18 q20 => ?_)
    refine ⟨fun c21 => ?_, fun c21 => ?_⟩
    · skip
      refine isAt_c hC  ?_ (fun r22 q24 => ?_)
      · clear h; grind (splits := 30) [tK, eM, sg, nb, validC, validV, tyF, tyN, eB]  -- p12
      refine ⟨fun c25 => ?_, fun c25 => ?_⟩
      · skip
        refine hj79 _ _ _ ?_
        · clear h; grind (splits := 30) [tK, eM, sg, nb, validC, validV, tyF, tyN, eB]  -- k13
      · skip
        refine ⟨fun c26 => ?_, fun c26 => ?_⟩
        · skip
          refine variableOf_c hC  ?_ (fun r27 q29 => ?_)
          · clear h; grind (splits := 30) [tK, eM, sg, nb, validC, validV, tyF, tyN, eB]  -- p14
          refine look_c hC  ?_ (fun σ_30 q31 => ?_)
          · clear h; grind (splits := 30) [tK, eM, sg, nb, validC, validV, tyF, tyN, eB]  -- p15
          refine hj79 _ _ _ ?_
          · clear h; grind (splits := 30) [tK, eM, sg, nb, validC, validV, tyF, tyN, eB]  -- k16
        · skip
          refine arrayOf_c hC  ?_ (fun r32 q34 => ?_)
          · clear h; grind (splits := 30) [tK, eM, sg, nb, validC, validV, tyF, tyN, eB]  -- p17
          refine look_c hC  ?_ (fun σ_35 q36 => ?_)
          · clear h; grind (splits := 30) [tK, eM, sg, nb, validC, validV, tyF, tyN, eB]  -- p18
          refine hj79 _ _ _ ?_
          · clear h; grind (splits := 30) [tK, eM, sg, nb, validC, validV, tyF, tyN, eB]  -- k19
    · skip
      refine h _ _ ?_
      · clear h; grind (splits := 30) [tK, eM, sg, nb, validC, validV, tyF, tyN, eB]  -- q20
  intro x37 hx37
  refine go_c hC B T ?_ (fun σ_38 q39 => ?_)
  · clear h; grind (splits := 30) [tK, eM, sg, nb, validC, validV, tyF, tyN, eB]  -- p21
  refine isRight_c hC  (fun r40 q42 => ?_)
  refine ⟨fun c43 => ?_, fun c43 => ?_⟩
  · skip
    refine hj34 _ _ ?_
    · clear h; grind (splits := 30) [tK, eM, sg, nb, validC, validV, tyF, tyN, eB]  -- k22
  · skip
    refine isAt_c hC  ?_ (fun r44 q46 => ?_)
    · clear h; grind (splits := 30) [tK, eM, sg, nb, validC, validV, tyF, tyN, eB]  -- p23
    refine ⟨fun c47 => ?_, fun c47 => ?_⟩
    · skip
      refine hj34 _ _ ?_
      · clear h; grind (splits := 30) [tK, eM, sg, nb, validC, validV, tyF, tyN, eB]  -- k24
    · skip
      refine flaw_c hC  ?_ (fun σ_48 q49 => ?_)
      · clear h; grind (splits := 30) [tK, eM, sg, nb, validC, validV, tyF, tyN, eB]  -- p25
      refine hj34 _ _ ?_
      · clear h; grind (splits := 30) [tK, eM, sg, nb, validC, validV, tyF, tyN, eB]  -- k26
