set_option maxHeartbeats 1600000
/-! the reference: what a program's tokens say hangs on the tokens between its beginning and its end alone -/
def lc (S S' : Nat → Int32) (B T : Int32) : Prop := ∀ t : Int32, B ≤ t → t ≤ T → S' t.toNatClampNeg = S t.toNatClampNeg
theorem lc_1 {a B T : Int32} (hB : B ≤ a) (hT : a < T) (hT2 : T < 131074) : B ≤ a + 1 ∧ a + 1 ≤ T := by grind
theorem lc_2 {a B T : Int32} (h0 : 0 ≤ B) (hB : B ≤ a) (hT : a < T) (hT2 : T < 131074) : B ≤ a + 2 := by grind
theorem sg_L {S S' N N' : Nat → Int32} {B T a c : Int32} (hS : lc S S' B T) (hN : lc N N' B T) (hB : B ≤ a) (hT : a ≤ T) : sg S' N' a c = sg S N a c := by
  unfold sg; rw [hS a hB hT, hN a hB hT]
theorem eOp_L {S S' N N' R R' : Nat → Int32} {B T a st' a' : Int32} {W W' : eL} (hS : lc S S' B T) (hN : lc N N' B T) (hR : lc R R' B T) (hT2 : T < 131074) (hB : B ≤ a) (ha : a < a') (ha' : a' ≤ T) (h : eOp S N R a W st' a' W') : eOp S' N' R' a W st' a' W' := by
  have hT : a < T := Int32.lt_of_lt_of_le ha ha'
  have u := lc_1 hB hT hT2
  have l := Int32.le_of_lt hT
  unfold eOp
  rw [sg_L hS hN hB l, sg_L hS hN hB l, sg_L hS hN hB l, sg_L hS hN u.1 u.2, sg_L hS hN u.1 u.2, hS a hB l, hR a hB l, hS a' (Int32.le_trans hB (Int32.le_of_lt ha)) ha']
  exact h
theorem eBh_L {S S' N N' : Nat → Int32} {B T a st' a' : Int32} {W W' : eL} (hS : lc S S' B T) (hN : lc N N' B T) (hB : B ≤ a) (ha : a ≤ a') (ha' : a' ≤ T) (h : eBh S N a W st' a' W') : eBh S' N' a W st' a' W' := by
  have l := Int32.le_trans ha ha'
  have er : eRk S' N' a = eRk S N a := by unfold eRk; rw [hS a hB l, hN a hB l]
  unfold eBh
  rw [er, sg_L hS hN hB l, sg_L hS hN hB l, hN a hB l, hS a' (Int32.le_trans hB ha) ha']
  exact h
theorem eTo_L {S S' N N' R R' : Nat → Int32} {B T A : Int32} (hS : lc S S' B T) (hN : lc N N' B T) (hR : lc R R' B T) (hT2 : T < 131074) (hA : B ≤ A) {n : Nat} : ∀ {st a : Int32} {W : eL}, a ≤ T → eTo S N R A n st a W → eTo S' N' R' A n st a W := by
  induction n with
  | zero => intro st a W _ h; exact h
  | succ n ih =>
    rintro st a W ha ⟨p1, p2, p3, h1, h2, h3⟩
    have hle : p2 ≤ a := by rcases h3 with q | q; exact Int32.le_of_lt q; exact q.2 ▸ Int32.le_refl _
    have hB : B ≤ p2 := Int32.le_trans hA (eTo_ge h1)
    refine ⟨p1, p2, p3, ih (Int32.le_trans hle ha) h1, ?_, h3⟩
    rcases h2 with ⟨e, h2⟩ | ⟨e, h2⟩
    · have hlt : p2 < a := by
        rcases h3 with q | q
        · exact q
        · rw [q.1] at h2; exact absurd h2 (fun z => eOp_st z)
      exact Or.inl ⟨e, eOp_L hS hN hR hT2 hB hlt ha h2⟩
    · exact Or.inr ⟨e, eBh_L hS hN hB hle ha h2⟩
theorem ePa_L {S S' N N' R R' : Nat → Int32} {B T A e : Int32} (hS : lc S S' B T) (hN : lc N N' B T) (hR : lc R R' B T) (hT2 : T < 131074) (hA : B ≤ A) (he : e ≤ T) (h : ePa S N R A e) : ePa S' N' R' A e := by
  obtain ⟨n, hn⟩ := h
  exact ⟨n, eTo_L hS hN hR hT2 hA he hn⟩
theorem xO_L {S S' N N' R R' : Nat → Int32} {B T a : Int32} (hS : lc S S' B T) (hN : lc N N' B T) (hR : lc R R' B T) (hT2 : T < 131074) (h : xO S N R B T a) : xO S' N' R' B T a := by
  obtain ⟨h1, e, h2, h3, h4⟩ := h
  exact ⟨h1, e, ePa_L hS hN hR hT2 h1 (Int32.le_of_lt h4) h2, h3, h4⟩
theorem tgO_L {S S' N N' R R' : Nat → Int32} {B T a : Int32} (hS : lc S S' B T) (hN : lc N N' B T) (hR : lc R R' B T) (hT2 : T < 131074) (h : tgO S N R B T a) : tgO S' N' R' B T a := by
  obtain ⟨h1, h2, h4, h5⟩ := h
  have u := lc_1 h1 h2 hT2
  refine ⟨h1, h2, by rw [sg_L hS hN u.1 u.2]; exact h4, ?_⟩
  rw [hR a h1 (Int32.le_of_lt h2)]
  rcases h5 with q | q
  · exact Or.inl q
  · exact Or.inr ⟨q.1, xO_L hS hN hR hT2 q.2⟩
theorem gB_L {S S' N N' R R' : Nat → Int32} {B T : Int32} (hS : lc S S' B T) (hN : lc N N' B T) (hR : lc R R' B T) (hT2 : T < 131074) {k : Nat} : ∀ {a : Int32}, B ≤ a → gB S N R T k a → gB S' N' R' T k a := by
  induction k with
  | zero =>
    rintro a h0 ⟨e, h1, h2, h3, h4⟩
    exact ⟨e, ePa_L hS hN hR hT2 h0 (Int32.le_of_lt h3) h1, h2, h3, by rw [sg_L hS hN (Int32.le_trans h0 h2) (Int32.le_of_lt h3)]; exact h4⟩
  | succ k ih =>
    rintro a h0 ⟨e, h1, h2, h3, h4, h6⟩
    exact ⟨e, ePa_L hS hN hR hT2 h0 (Int32.le_of_lt h3) h1, h2, h3, by rw [sg_L hS hN (Int32.le_trans h0 h2) (Int32.le_of_lt h3)]; exact h4, ih (lc_1 (Int32.le_trans h0 h2) h3 hT2).1 h6⟩
theorem gN_L {S S' N N' R R' : Nat → Int32} {B T a : Int32} {n : Nat} (hS : lc S S' B T) (hN : lc N N' B T) (hR : lc R R' B T) (hT2 : T < 131074) (h0 : B ≤ a) (h : gN S N R T n a) : gN S' N' R' T n a := by
  cases n with
  | zero => exact ⟨by rw [sg_L hS hN h0 (Int32.le_of_lt h.2)]; exact h.1, h.2⟩
  | succ k => exact gB_L hS hN hR hT2 h0 h
theorem prB_L {S S' N N' R R' : Nat → Int32} {B T : Int32} (hS : lc S S' B T) (hN : lc N N' B T) (hR : lc R R' B T) (hT2 : T < 131074) {k : Nat} : ∀ {p : Int32}, B ≤ p → prB S N R T k p → prB S' N' R' T k p := by
  induction k with
  | zero =>
    rintro p h0 ⟨e1, e2, h1, h2, h3, h4, h5, h6, h7, h8⟩
    have g1 := Int32.le_trans h0 (Int32.le_of_lt h3)
    have g2 := Int32.le_trans g1 (Int32.le_trans h2 (Int32.le_of_lt h5))
    exact ⟨e1, e2, ePa_L hS hN hR hT2 g1 (Int32.le_trans (Int32.le_of_lt h5) (Int32.le_trans h6 (Int32.le_of_lt h7))) h1, h2, h3, ePa_L hS hN hR hT2 g2 (Int32.le_of_lt h7) h4, h5, h6, h7, by rw [sg_L hS hN (Int32.le_trans g2 h6) (Int32.le_of_lt h7)]; exact h8⟩
  | succ k ih =>
    rintro p h0 ⟨e1, e2, h1, h2, h3, h4, h5, h6, h7, h8, h9⟩
    have g1 := Int32.le_trans h0 (Int32.le_of_lt h3)
    have g2 := Int32.le_trans g1 (Int32.le_trans h2 (Int32.le_of_lt h5))
    exact ⟨e1, e2, ePa_L hS hN hR hT2 g1 (Int32.le_trans (Int32.le_of_lt h5) (Int32.le_trans h6 (Int32.le_of_lt h7))) h1, h2, h3, ePa_L hS hN hR hT2 g2 (Int32.le_of_lt h7) h4, h5, h6, h7, by rw [sg_L hS hN (Int32.le_trans g2 h6) (Int32.le_of_lt h7)]; exact h8, ih (Int32.le_trans g2 h6) h9⟩
theorem drO_L {S S' N N' R R' : Nat → Int32} {B T x : Int32} (hS : lc S S' B T) (hN : lc N N' B T) (hR : lc R R' B T) (hT2 : T < 131074) (hB : 0 ≤ B) (h0 : B ≤ x) (hx : x < T) (h : drO S N R T x) : drO S' N' R' T x := by
  have h2 := lc_2 hB h0 hx hT2
  have l := Int32.le_of_lt hx
  obtain ⟨d1, d2, d3⟩ := h
  unfold drO
  rw [hS x h0 l, hN x h0 l]
  refine ⟨fun z => ?_, fun z => ?_, fun z => ?_⟩
  · obtain ⟨e, e1, e2⟩ := d1 z
    exact ⟨e, ePa_L hS hN hR hT2 h2 (Int32.le_of_lt e2) e1, e2⟩
  · obtain ⟨e1, e2, g1, g2, g3, g4, g5⟩ := d2 z
    have m0 : x + 2 ≤ e1 := by obtain ⟨n, hn⟩ := g1; exact eTo_ge hn
    have m1 : B ≤ e1 + 1 := Int32.le_trans h2 (Int32.le_trans m0 (Int32.le_of_lt g2))
    exact ⟨e1, e2, ePa_L hS hN hR hT2 h2 (Int32.le_trans (Int32.le_of_lt g2) (Int32.le_trans g3 (Int32.le_of_lt g5))) g1, g2, g3, ePa_L hS hN hR hT2 m1 (Int32.le_of_lt g5) g4, g5⟩
  · obtain ⟨k, hk, hb⟩ := d3 z
    exact ⟨k, hk, prB_L hS hN hR hT2 h0 hb⟩
theorem stK_L {S S' N N' R R' : Nat → Int32} {B T k b x : Int32} (hS : lc S S' B T) (hN : lc N N' B T) (hR : lc R R' B T) (hT2 : T < 131074) (hB : 0 ≤ B) (h : stK S N R B T k b x) : stK S' N' R' B T k b x := by
  rcases h with ⟨rfl, h1, h2, h3, h5, h6, h7⟩ | ⟨rfl, h1, h2⟩ | ⟨rfl, h1, h2, h3, h4⟩ | ⟨rfl, h1, h2, h3, h4⟩ | ⟨rfl, h1, h2⟩ | ⟨h1, h2⟩
  · have g1 : B ≤ b + 1 := Int32.le_trans h1 (Int32.le_of_lt h2)
    have u := lc_1 g1 h3 hT2
    rw [up_2] at u
    refine Or.inl ⟨rfl, h1, h2, h3, by rw [sg_L hS hN u.1 u.2]; exact h5, by rw [hR (b + 1) g1 (Int32.le_of_lt h3)]; exact h6, xO_L hS hN hR hT2 h7⟩
  · exact Or.inr (Or.inl ⟨rfl, tgO_L hS hN hR hT2 h1, xO_L hS hN hR hT2 h2⟩)
  · exact Or.inr (Or.inr (Or.inl ⟨rfl, tgO_L hS hN hR hT2 h1, h2, h3, drO_L hS hN hR hT2 hB h2 h3 h4⟩))
  · exact Or.inr (Or.inr (Or.inr (Or.inl ⟨rfl, tgO_L hS hN hR hT2 h1, h2, h3, xO_L hS hN hR hT2 h4⟩)))
  · refine Or.inr (Or.inr (Or.inr (Or.inr (Or.inl ⟨rfl, ?_, fun z => ?_⟩))))
    · obtain ⟨c1, c2, c4, c5, n, c6⟩ := h1
      have u := lc_1 c1 c2 hT2
      exact ⟨c1, c2, by rw [hS x c1 (Int32.le_of_lt c2)]; exact c4, by rw [sg_L hS hN u.1 u.2]; exact c5, n, gN_L hS hN hR hT2 (lc_2 hB c1 c2 hT2) c6⟩
    · obtain ⟨c1, c2, c4, c5⟩ := h2 z
      have u := lc_1 c1 c2 hT2
      exact ⟨c1, c2, by rw [sg_L hS hN u.1 u.2]; exact c4, by rw [hR b c1 (Int32.le_of_lt c2)]; exact c5⟩
  · exact Or.inr (Or.inr (Or.inr (Or.inr (Or.inr ⟨h1, xO_L hS hN hR hT2 h2⟩))))
theorem lc_n {x n : Int32} {m : Nat} (h0 : 0 ≤ x) (h : x < n) (hn : n.toInt ≤ m) : x.toNatClampNeg < m := by
  have h1 := Int32.lt_iff_toInt_lt.mp h
  have h2 := Int32.le_iff_toInt_le.mp h0
  rw [Int32.toInt_zero] at h2
  have := cn_int h0
  omega
/-- a program in order stays so while its tokens and its tables stay -/
theorem progOK_L {σ τ : rS} {B T : Int32} (ht : tyAll σ) (h : progOK σ B T) (hS : lc (σ.2.2.1 5) (τ.2.2.1 5) B T) (hN : lc (σ.2.2.1 7) (τ.2.2.1 7) B T) (hR : lc (σ.2.2.1 39) (τ.2.2.1 39) B T) (h18 : τ.1 18 = σ.1 18) (h19 : τ.1 19 = σ.1 19) (h40 : τ.1 40 = σ.1 40) (hr : ∀ k, k = 30 ∨ k = 31 ∨ k = 32 ∨ k = 33 ∨ k = 34 ∨ k = 35 ∨ k = 36 ∨ k = 37 → ∀ j, j < 150 → τ.2.2.1 k j = σ.2.2.1 k j) (hf : ∀ k, k = 26 ∨ k = 29 → ∀ j, j < 10 → τ.2.2.1 k j = σ.2.2.1 k j) : progOK τ B T := by
  obtain ⟨h1, h2, h3, h4, h5, h6, h7, h8, h9, ha, hb⟩ := h
  have b19 : (σ.1 19).toInt ≤ 150 := by
    have := ht.1
    have z : σ.1 19 ≤ 150 := by clear hS hN hR hr hf h6 h9 ha hb; grind [tyF]
    exact Int32.le_iff_toInt_le.mp z
  have b18 : (σ.1 18).toInt ≤ 10 := by
    have := ht.1
    have z : σ.1 18 ≤ 10 := by clear hS hN hR hr hf h6 h9 ha hb; grind [tyF]
    exact Int32.le_iff_toInt_le.mp z
  have rs : ∀ k, k = 30 ∨ k = 31 ∨ k = 32 ∨ k = 33 ∨ k = 34 ∨ k = 35 ∨ k = 36 ∨ k = 37 → ∀ s : Int32, 0 ≤ s → s < σ.1 19 → τ.2.2.1 k s.toNatClampNeg = σ.2.2.1 k s.toNatClampNeg := fun k hk s s0 s1 => hr k hk _ (lc_n s0 s1 b19)
  have rf : ∀ k, k = 26 ∨ k = 29 → ∀ s : Int32, 0 ≤ s → s < σ.1 18 → τ.2.2.1 k s.toNatClampNeg = σ.2.2.1 k s.toNatClampNeg := fun k hk s s0 s1 => hf k hk _ (lc_n s0 s1 b18)
  refine ⟨h1, h2, h3, h4, by rw [rd, hS T h2 (Int32.le_refl _)]; exact h5, fun s s0 s1 => ?_, by rw [h40]; exact h7, by rw [h40, h18]; exact h8, fun s s0 s1 s5 => ?_, ?_, ?_⟩
  · rw [h19] at s1
    obtain ⟨g1, g2, g3, g4, g5⟩ := h6 s s0 s1
    refine ⟨?_, ?_, ?_, ?_, ?_⟩
    · rw [rd, rd, rd, rs 30 (by decide) s s0 s1, rs 31 (by decide) s s0 s1, rs 32 (by decide) s s0 s1]
      exact stK_L hS hN hR h3 h1 g1
    · rw [rd, rs 36 (by decide) s s0 s1]; exact g2
    · rw [h19, rs 33 (by decide) s s0 s1]; exact g3
    · rw [h19, rs 34 (by decide) s s0 s1]; exact g4
    · rw [h19, rs 35 (by decide) s s0 s1]; exact g5
  · rw [h19] at s1
    rw [rd, rs 30 (by decide) s s0 s1] at s5
    obtain ⟨k1, k2, k3⟩ := h9 s s0 s1 s5
    have c := stK_call (h6 s s0 s1).1 s5
    have x := rs 32 (by decide) s s0 s1
    have e : τ.2.2.1 39 (rd τ 32 s).toNatClampNeg = σ.2.2.1 39 (rd σ 32 s).toNatClampNeg := by
      rw [rd, x]; exact hR _ c.1 (Int32.le_of_lt c.2.1)
    have f0 : 0 ≤ σ.2.2.1 39 (rd σ 32 s).toNatClampNeg - 300 ∧ σ.2.2.1 39 (rd σ 32 s).toNatClampNeg - 300 < σ.1 18 := by
      clear k3 c x e hS hN hR hr hf rs rf h6 h9 ha hb
      have := ht.1
      grind [tyF]
    refine ⟨by rw [e]; exact k1, by rw [e, h18]; exact k2, ?_⟩
    rw [e, rf 26 (by decide) _ f0.1 f0.2, show rd τ 32 s = rd σ 32 s from x]
    exact gN_L hS hN hR h3 (lc_2 h1 c.1 c.2.1 h3) k3
  · rw [h18]
    intro f f0 f1
    rw [rd, rf 29 (by decide) f f0 f1, h19]
    exact ha f f0 f1
  · rw [h19]
    intro s s0 s1
    rw [rd, rs 37 (by decide) s s0 s1]
    exact hb s s0 s1
