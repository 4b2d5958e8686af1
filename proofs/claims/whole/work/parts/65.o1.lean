section
set_option maxHeartbeats 1600000
/-! the reference: expressions while a program runs, places, choices -/
abbrev xF : List Nat := [10, 11, 12, 13, 47, 48, 49]
abbrev xR : List Nat := [50, 51, 52]
/-- ready for an expression of a program that runs -/
def m1 (σ : rS) (B T : Int32) : Prop := rI σ B T ∧ σ.1 46 = 1 ∧ (1 ≤ σ.1 58 ∧ σ.1 58 ≤ 12) ∧ σ.1 11 = 0 ∧ σ.1 47 = 0 ∧ σ.1 13 = 0
/-- behind an expression at token a of a program that runs -/
def xQ (σ σ' : rS) (B T a : Int32) : Prop := frG xF xR σ σ' ∧ 0 ≤ σ'.1 47 ∧ (B ≤ σ'.1 10 ∧ σ'.1 10 ≤ T) ∧ (σ'.1 47 = 0 → m1 σ' B T ∧ ∀ e, ePa (σ.2.2.1 5) (σ.2.2.1 7) (σ.2.2.1 39) a e → σ'.1 10 = e)
theorem xR_n {σ σ' : rS} (h : frG xF xR σ σ') : frG rnF rnR σ σ' := frG_mono h (by decide) (by decide)
theorem xQ_of {σ σ' : rS} {B T a : Int32} (hp : m1 σ B T) (hf : frG xF xR σ σ') (h1 : 0 ≤ σ'.1 47) (h2 : B ≤ σ'.1 10 ∧ σ'.1 10 ≤ T) (h3 : σ'.1 47 = 0 → σ'.1 11 = 0 ∧ σ'.1 13 = 0 ∧ ∀ e, ePa (σ.2.2.1 5) (σ.2.2.1 7) (σ.2.2.1 39) a e → σ'.1 10 = e) : xQ σ σ' B T a := by
  obtain ⟨p1, p2, p3, p4, p5, p6⟩ := hp
  refine ⟨hf, h1, h2, fun z => ⟨⟨rI_fr p1 (xR_n hf), by rw [hf.1 46 (by decide)]; exact p2, by rw [hf.1 58 (by decide)]; exact p3, (h3 z).1, z, (h3 z).2.1⟩, (h3 z).2.2⟩⟩
theorem work_c {C : rCx} (hC : cOK C) (B T : Int32) {σ : rS} {a1 : Int32} {Q : Int32 → rS → Prop} (hp : m1 σ B T ∧ B ≤ a1 ∧ a1 ≤ T ∧ ∃ e, ePa (σ.2.2.1 5) (σ.2.2.1 7) (σ.2.2.1 39) a1 e) (h : ∀ (v : Int32) (σ' : rS), xQ σ σ' B T a1 → Q v σ') : cI C 7 m_workAt [.ref (co C), .int a1] σ Q := by
  obtain ⟨hm, hB, hT, he⟩ := hp
  have hm' := hm
  obtain ⟨⟨⟨g1, g2, g3, g4, g5⟩, k1, k2, k3, k4, k5, -⟩, p2, p3, p4, p5, p6⟩ := hm
  refine workAt_c hC B T ⟨⟨k1, k2, k3, k4, k5⟩, g1, g2, g3, p2, p3.1, p3.2, p4, p5, p6, hB, hT, he⟩ (fun v σ' q => h v σ' ?_)
  obtain ⟨q0, q1, q2, q3, q4, q5, q6, q7⟩ := q
  refine xQ_of hm' ⟨fun k z => q1 k (fun e => z (by rw [e]; decide)) (fun e => z (by rw [e]; decide)) (fun e => z (by rw [e]; decide)) (fun e => z (by rw [e]; decide)) (fun e => z (by rw [e]; decide)) (fun e => z (by rw [e]; decide)) (fun e => z (by rw [e]; decide)), q2, fun k z => q3 k (fun e => z (by rw [e]; decide)) (fun e => z (by rw [e]; decide)) (fun e => z (by rw [e]; decide)), q4⟩ q0 ⟨q5, q6⟩ q7
theorem expr1_c {C : rCx} (hC : cOK C) (B T : Int32) {σ : rS} {Q : Int32 → rS → Prop} (hp : m1 σ B T ∧ B ≤ σ.1 10 ∧ σ.1 10 ≤ T ∧ ∃ e, ePa (σ.2.2.1 5) (σ.2.2.1 7) (σ.2.2.1 39) (σ.1 10) e) (h : ∀ (v : Int32) (σ' : rS), xQ σ σ' B T (σ.1 10) → Q v σ') : cI C 6 m_expression [.ref (co C)] σ Q := by
  obtain ⟨hm, hB, hT, he⟩ := hp
  have hm' := hm
  obtain ⟨⟨⟨g1, g2, g3, g4, g5⟩, k1, k2, k3, k4, k5, -⟩, p2, p3, p4, p5, p6⟩ := hm
  have nz : σ.1 46 ≠ 0 := by rw [p2]; decide
  refine expression_c hC B T 0 ⟨⟨k1, k2, k3, ⟨k5, by rw [p4]; decide, by rw [p5]; decide⟩, hB, hT⟩, ⟨k1, hB, Int32.le_refl _, hT, k3, k4⟩, Or.inr ⟨p2, p3.1, p3.2, rfl⟩, g1, g2, g3, ⟨by rw [p6]; decide, by rw [p6]; decide, by rw [p6]; rfl⟩, fun z => absurd z nz, fun _ => ⟨p4, p5, he⟩⟩ (fun v σ' q => h v σ' ?_)
  obtain ⟨w1, w2, w3, w4, w5, w6, w7⟩ := q
  have r39 : σ'.2.2.1 39 = σ.2.2.1 39 := (w4 nz).1
  refine xQ_of hm' ⟨fun k z => w1.1 k (fun e => z (by rw [e]; decide)) (fun e => z (by rw [e]; decide)) (fun e => z (by rw [e]; decide)) (fun e => z (by rw [e]; decide)) (fun e => z (by rw [e]; decide)) (fun e => z (by rw [e]; decide)) (fun e => z (by rw [e]; decide)), w1.2.1, fun k z => ?_, w1.2.2.2.2⟩ w2.2.2.2.1.2.2 ⟨w2.2.2.2.2.1, w2.2.2.2.2.2⟩ (fun f => ?_)
  · by_cases e : k = 39
    · rw [e]; exact r39
    · exact w1.2.2.1 k e (fun e => z (by rw [e]; decide)) (fun e => z (by rw [e]; decide)) (fun e => z (by rw [e]; decide))
  · obtain ⟨f1, f2⟩ := (w4 nz).2 f
    have w := w6 f1 f
    exact ⟨f1, cn_inj w.2.2.2.1 (by decide) (by rw [w.2.2.2.2.2]; rfl), f2⟩
theorem m1_st {σ : rS} {B T s : Int32} (h : m1 σ B T) (h0 : 0 ≤ s) (h1 : s < σ.1 19) : stK (σ.2.2.1 5) (σ.2.2.1 7) (σ.2.2.1 39) B T (rd σ 30 s) (rd σ 31 s) (rd σ 32 s) := (h.1.2.2.2.2.2.2.1 s h0 h1).1
theorem m1_T {σ : rS} {B T : Int32} (h : m1 σ B T) : 0 ≤ B ∧ T < 131074 := ⟨h.1.2.1, h.1.2.2.2.1⟩
/-- a place that a value may go to -/
def plV (x : Int32) : Prop := (400 ≤ x ∧ x < 434) ∨ (100 ≤ x ∧ x < 108) ∨ (0 ≤ x ∧ x < 34)
/-- a token that names a place -/
def tgV (S N R : Nat → Int32) (B T t : Int32) : Prop := B ≤ t ∧ t < T ∧ (validV (R t.toNatClampNeg) ∨ (validC (R t.toNatClampNeg) ∧ xO S N R B T (t + 2)))
theorem tg_of {S N R : Nat → Int32} {B T k b x : Int32} (h : stK S N R B T k b x) (h5 : k ≠ 5) (hk : ¬ 4 < k) : (k = 1 → tgV S N R B T (b + 1)) ∧ (k ≠ 1 → tgV S N R B T b) := by
  rcases h with ⟨rfl, h1, h2, h3, h5', h6, h7⟩ | ⟨rfl, h1, h2⟩ | ⟨rfl, h1, h2, h3, h4⟩ | ⟨rfl, h1, h2, h3, h4⟩ | ⟨rfl, h1, h2⟩ | ⟨h1, h2⟩
  · exact ⟨fun _ => ⟨Int32.le_trans h1 (Int32.le_of_lt h2), h3, Or.inl h6⟩, fun z => absurd rfl z⟩
  · exact ⟨fun z => absurd z (by decide), fun _ => ⟨h1.1, h1.2.1, h1.2.2.2⟩⟩
  · exact ⟨fun z => absurd z (by decide), fun _ => ⟨h1.1, h1.2.1, h1.2.2.2⟩⟩
  · exact ⟨fun z => absurd z (by decide), fun _ => ⟨h1.1, h1.2.1, h1.2.2.2⟩⟩
  · exact absurd rfl h5
  · rcases h1 with rfl | rfl | rfl | rfl | rfl <;> exact absurd (by decide) hk
theorem vv_lt {x : Int32} (h : validV x) (h2 : ¬ x < 200) : False := by grind [validV]
theorem vc_ge {x : Int32} (h : validC x) (h2 : x < 200) : False := by grind [validC]
theorem pl_V {x : Int32} (h : validV x) : plV x := by grind [validV, plV]
theorem pl_4 {c : Int32} (h : 0 ≤ c) (h2 : c < 34) : plV (400 + c) := by grind [plV]
theorem m1_fr {σ τ : rS} {B T : Int32} (h : m1 σ B T) (hf : frG rnF rnR σ τ) (h46 : τ.1 46 = σ.1 46) (h58 : τ.1 58 = σ.1 58) (h11 : τ.1 11 = σ.1 11) (h47 : τ.1 47 = σ.1 47) (h13 : τ.1 13 = σ.1 13) : m1 τ B T := by
  obtain ⟨p1, p2, p3, p4, p5, p6⟩ := h
  exact ⟨rI_fr p1 hf, by rw [h46]; exact p2, by rw [h58]; exact p3, by rw [h11]; exact p4, by rw [h47]; exact p5, by rw [h13]; exact p6⟩
theorem le0 {x : Int32} (h : x ≤ 0) (h2 : 0 ≤ x) : x = 0 := Int32.le_antisymm h h2
theorem frG_61 {F R : List Nat} {σ τ : rS} (h : (∀ k, k ≠ 61 → τ.1 k = σ.1 k) ∧ τ.2 = σ.2) (hF : 61 ∈ F) : frG F R σ τ := ⟨fun k z => h.1 k (fun e => z (by rw [e]; exact hF)), fun k => by rw [h.2], fun k _ => by rw [h.2], fun k j => by rw [h.2]⟩
theorem frG_oc {F R : List Nat} {σ τ : rS} (h : (∀ k, k ≠ 63 → τ.1 k = σ.1 k) ∧ (∀ k,  τ.2.1 k = σ.2.1 k) ∧ (∀ k, k ≠ 64 → k ≠ 65 → τ.2.2.1 k = σ.2.2.1 k) ∧ (∀ k j, k ≠ 64 → k ≠ 65 → τ.2.2.1 k j = σ.2.2.1 k j) ∧ (∀ k j,  τ.2.2.2 k j = σ.2.2.2 k j)) (hF : 63 ∈ F) (h1 : 64 ∈ R) (h2 : 65 ∈ R) : frG F R σ τ := ⟨fun k z => h.1 k (fun e => z (by rw [e]; exact hF)), h.2.1, fun k z => h.2.2.1 k (fun e => z (by rw [e]; exact h1)) (fun e => z (by rw [e]; exact h2)), h.2.2.2.2⟩
theorem st_4 {S N R : Nat → Int32} {B T k b x : Int32} (h : stK S N R B T k b x) (hk : k = 4) : xO S N R B T (x + 2) := by
  rcases h with ⟨q, -⟩ | ⟨q, -⟩ | ⟨q, -⟩ | ⟨-, -, -, -, q⟩ | ⟨q, -⟩ | ⟨q, -⟩
  · rw [hk] at q; exact absurd q (by decide)
  · rw [hk] at q; exact absurd q (by decide)
  · rw [hk] at q; exact absurd q (by decide)
  · exact q
  · rw [hk] at q; exact absurd q (by decide)
  · rw [hk] at q; exact absurd q (by decide)
theorem xO_w {S N R : Nat → Int32} {B T a : Int32} (h : xO S N R B T a) : B ≤ a ∧ a ≤ T ∧ ∃ e, ePa S N R a e := by
  obtain ⟨h1, e, h2, h3, h4⟩ := h
  exact ⟨h1, Int32.le_trans h3 (Int32.le_of_lt h4), e, h2⟩
theorem up_n {x n : Int32} (h0 : 0 ≤ x) (h : ¬ n ≤ x) (hn : n ≤ 64) : 0 ≤ n - (x + 1) ∧ n - (x + 1) < n - x ∧ 0 ≤ x + 1 ∧ x + 1 ≤ n ∧ x < n ∧ x < 64 := by grind
theorem lt_sp {i x n : Int32} (h0 : 0 ≤ x) (h : ¬ n ≤ x) (hn : n ≤ 64) (hi : i < x + 1) : i = x ∨ i < x := by grind
theorem oc_ones {r r' : Nat → Int32} {x c : Int32} (x0 : 0 ≤ x) (x1 : x < 1000000) (hc : c = x) (h1 : r' c.toNatClampNeg = 1) (h2 : ∀ j, j ≠ c.toNatClampNeg → r' j = r j) (h : ∀ i, i < x.toNatClampNeg → r i = 1) : ∀ i, i < (x + 1).toNatClampNeg → r' i = 1 := by
  intro i hi
  subst hc
  rw [cn_succ x0 x1] at hi
  by_cases e : i = c.toNatClampNeg
  · rw [e]; exact h1
  · rw [h2 i e]; exact h i (by omega)
theorem n1 {x : Int32} (h : ¬ x < 1) : 1 ≤ x ∧ 0 ≤ x := by grind
theorem pl_st {x c : Int32} (h : plV x) (h1 : 1 ≤ c) (h2 : c ≤ 12) : (400 ≤ x ∧ x < 434) ∨ (100 ≤ x ∧ x < 108 ∧ 1 ≤ c ∧ c ≤ 12) ∨ (0 ≤ x ∧ x < 34) := by grind [plV]
theorem findPlace_c {C : rCx} (hC : cOK C) (B T : Int32) {σ : rS} {a1 : Int32} {Q : rS → Prop} (hp : m1 σ B T ∧ 0 ≤ a1 ∧ a1 < σ.1 19 ∧ rd σ 30 a1 ≠ 5 ∧ ¬ 4 < rd σ 30 a1) (h : ∀ (σ' : rS), (frG [10, 11, 12, 13, 47, 48, 49, 67] [50, 51, 52] σ σ' ∧ 0 ≤ σ'.1 47 ∧ (σ'.1 47 = 0 → m1 σ' B T ∧ plV (σ'.1 67))) → Q σ') : cV C 8 m_findPlace [.ref (co C), .int a1] σ Q := by
  refine m_findPlace_run hC ?_
  unfold w_findPlace_0
  obtain ⟨hm, h0, h1, h5, h4⟩ := hp
  have hs := tg_of (m1_st hm h0 h1) h5 h4
  have hT := m1_T hm
  have hj89 : ∀ (l3 : Int32) (s1 : Int32) (τ : rS), (frG [10, 11, 12, 13, 47, 48, 49, 67] [50, 51, 52] σ τ ∧ 0 ≤ s1 ∧ (s1 = 0 → m1 τ B T ∧ 0 ≤ l3 ∧ l3 < 34)) → w_findPlace_89 C Q  l3 s1 τ := by
    rintro y89_3 y89_s1 τ89 j89
    unfold w_findPlace_89
    intro σ_1 hσ_1
    intro σ_2 hσ_2
    refine h _ ?_
    · clear h; have e1 : ∀ k, k ≠ 47 → k ≠ 67 → σ_2.1 k = τ89.1 k := fun k z1 z2 => by rw [hσ_2, si1, if_neg z2, hσ_1, si1, if_neg z1]
      have e47 : σ_2.1 47 = y89_s1 := by rw [hσ_2, si1, if_neg (by decide), hσ_1, si1, if_pos rfl]
      have e67 : σ_2.1 67 = 400 + y89_3 := by rw [hσ_2, si1, if_pos rfl]
      have fr : frG [10, 11, 12, 13, 47, 48, 49, 67] [50, 51, 52] τ89 σ_2 := by rw [hσ_2, hσ_1]; exact frG_tr (frG_0 (by decide)) (frG_0 (by decide))
      refine ⟨frG_tr j89.1 fr, by rw [e47]; exact j89.2.1, fun z => ?_⟩
      rw [e47] at z
      obtain ⟨w1, w2, w3⟩ := j89.2.2 z
      exact ⟨m1_fr w1 (frG_mono fr (by decide) (by decide)) (e1 46 (by decide) (by decide)) (e1 58 (by decide) (by decide)) (e1 11 (by decide) (by decide)) (by rw [e47, z]; exact w1.2.2.2.2.1.symm) (e1 13 (by decide) (by decide)), by rw [e67]; exact pl_4 w2 w3⟩
  have hj27 : ∀ (s0 : Int32) (τ : rS), (σ = τ ∧ tgV (σ.2.2.1 5) (σ.2.2.1 7) (σ.2.2.1 39) B T s0) → w_findPlace_27 C Q  s0 τ := by
    rintro y27_s0 _ ⟨rfl, j27⟩
    unfold w_findPlace_27
    refine ⟨ib_131074.mpr ?_, ?_⟩
    · clear h; exact ⟨Int32.le_trans hT.1 j27.1, Int32.lt_trans j27.2.1 hT.2⟩  -- b2
    intro σ_3 hσ_3
    have e67 : σ_3.1 67 = rd σ 39 y27_s0 := by rw [hσ_3, si1, if_pos rfl]
    have e3 : ∀ k, k ≠ 67 → σ_3.1 k = σ.1 k := fun k hk => by rw [hσ_3, si1, if_neg hk]
    have s3 : σ_3.2 = σ.2 := by rw [hσ_3, si2]
    have f3 : frG [10, 11, 12, 13, 47, 48, 49, 67] [50, 51, 52] σ σ_3 := by rw [hσ_3]; exact frG_0 (by decide)
    have m3 : m1 σ_3 B T := m1_fr hm (frG_mono f3 (by decide) (by decide)) (e3 46 (by decide)) (e3 58 (by decide)) (e3 11 (by decide)) (e3 47 (by decide)) (e3 13 (by decide))
    refine ⟨fun c4 => ?_, fun c4 => ?_⟩
    · skip
      refine h _ ?_
      · clear h; refine ⟨f3, by rw [m3.2.2.2.2.1]; decide, fun _ => ⟨m3, ?_⟩⟩
        rw [e67] at c4 ⊢
        rcases j27.2.2 with z | z
        · exact pl_V z
        · exact absurd c4 (fun y => vc_ge z.1 y)
    · skip
      have hx : validC (rd σ 39 y27_s0) ∧ xO (σ.2.2.1 5) (σ.2.2.1 7) (σ.2.2.1 39) B T (y27_s0 + 2) := by
        rw [e67] at c4
        rcases j27.2.2 with z | z
        · exact absurd z (fun y => vv_lt y c4)
        · exact z
      refine work_c hC B T ?_ (fun r5 σ_6 q7 => ?_)
      · clear h; rw [s3]; exact ⟨m3, xO_w hx.2⟩  -- p4
      have f6 : frG [10, 11, 12, 13, 47, 48, 49, 67] [50, 51, 52] σ σ_6 := frG_tr f3 (frG_mono q7.1 (by decide) (by decide))
      have i6 := rI_fr m3.1 (xR_n q7.1)
      refine cellOf_c hC  ?_ (fun r8 q10 => ?_)
      · clear h; rw [e67]; exact ⟨hx.1, i6.1.2.2.1, i6.1.1⟩  -- p5
      refine ⟨fun c11 => ?_, fun c11 => ?_⟩
      · skip
        refine ⟨fun c12 => ?_, fun c12 => ?_⟩
        · skip
          refine hj89 _ _ _ ?_
          · clear h; refine ⟨f6, by decide, fun _ => ⟨(q7.2.2.2 (le0 c11 q7.2.1)).1, ?_⟩⟩
            rcases q10 with z | z
            · exact absurd z c12
            · exact z
        · skip
          refine hj89 _ _ _ ?_
          · clear h; exact ⟨f6, by decide, fun z => absurd z (by decide)⟩  -- k7
      · skip
        refine hj89 _ _ _ ?_
        · clear h; exact ⟨f6, q7.2.1, fun z => absurd (by rw [z]; decide) c11⟩  -- k8
  refine ⟨ib_150.mpr ?_, ?_⟩
  · clear h; exact ⟨h0, s150 hm.1 h1⟩  -- b9
  refine ⟨fun c13 => ?_, fun c13 => ?_⟩
  · skip
    refine ⟨ib_150.mpr ?_, ?_⟩
    · clear h; exact ⟨h0, s150 hm.1 h1⟩  -- b10
    refine hj27 _ _ ?_
    · clear h; exact ⟨rfl, hs.2 c13⟩  -- k11
  · skip
    refine ⟨ib_150.mpr ?_, ?_⟩
    · clear h; exact ⟨h0, s150 hm.1 h1⟩  -- b12
    refine hj27 _ _ ?_
    · clear h; exact ⟨rfl, hs.1 c13⟩  -- k13

theorem choose_c {C : rCx} (hC : cOK C) (B T : Int32) {σ : rS} {a1 : Int32} {Q : Int32 → rS → Prop} (hp : m1 σ B T ∧ 0 ≤ a1 ∧ a1 < σ.1 19 ∧ rd σ 30 a1 = 4) (h : ∀ (v : Int32) (σ' : rS), (frG [10, 11, 12, 13, 47, 48, 49, 61, 63, 66] [50, 51, 52, 64, 65] σ σ' ∧ (v = 2 ∨ (v = 5 ∧ 1 ≤ σ'.1 63 ∧ σ'.1 63 ≤ 8 ∧ ∀ i, i < (σ'.1 63).toNatClampNeg → σ'.2.2.1 65 i = 1))) → Q v σ') : cI C 8 m_choose [.ref (co C), .int a1] σ Q := by
  refine m_choose_run hC ?_
  unfold w_choose_0
  obtain ⟨hm, h0, h1, h4⟩ := hp
  have hT := m1_T hm
  have hj31 : ∀  (τ : rS), (frG xF xR σ τ) → w_choose_31 C Q   τ := by
    rintro  τ31 j31
    unfold w_choose_31
    refine ⟨fun c1 => ?_, fun c1 => ?_⟩
    · skip
      refine fail_c hC  (fun r2 σ_3 q4 => ?_)
      refine h _ _ ?_
      · clear h; exact ⟨frG_tr (frG_mono j31 (by decide) (by decide)) (frG_61 q4.1 (by decide)), Or.inl q4.2⟩  -- q1
    · skip
      refine fail_c hC  (fun r5 σ_6 q7 => ?_)
      refine h _ _ ?_
      · clear h; exact ⟨frG_tr (frG_mono j31 (by decide) (by decide)) (frG_61 q7.1 (by decide)), Or.inl q7.2⟩  -- q2
  refine ⟨ib_150.mpr ?_, ?_⟩
  · clear h; exact ⟨h0, s150 hm.1 h1⟩  -- b3
  refine work_c hC B T ?_ (fun r8 σ_9 q10 => ?_)
  · clear h; exact ⟨hm, xO_w (st_4 (m1_st hm h0 h1) h4)⟩  -- p4
  refine ⟨fun c11 => ?_, fun c11 => ?_⟩
  · skip
    refine hj31 _ ?_
    · clear h; exact q10.1  -- k5
  · skip
    refine ⟨fun c12 => ?_, fun c12 => ?_⟩
    · skip
      refine hj31 _ ?_
      · clear h; exact q10.1  -- k6
    · skip
      refine ⟨fun c13 => ?_, fun c13 => ?_⟩
      · skip
        intro σ_14 hσ_14
        unfold w_choose_58
        refine ⟨fun n l2 l3 τ => n = (l2 - l3).toNatClampNeg ∧ (frG [10, 11, 12, 13, 47, 48, 49, 61, 63, 66] [50, 51, 52, 64, 65] σ τ ∧ 1 ≤ l2 ∧ l2 ≤ 8 ∧ τ.1 63 = l3 ∧ 0 ≤ l3 ∧ l3 ≤ l2 ∧ ∀ i, i < l3.toNatClampNeg → τ.2.2.1 65 i = 1), ⟨_, rfl, ?_⟩, ?_⟩
        · clear h; exact ⟨frG_tr (frG_mono q10.1 (by decide) (by decide)) (by rw [hσ_14]; exact frG_0 (by decide)), (n1 c12).1, c13, by rw [hσ_14, si1, if_pos rfl], by decide, (n1 c12).2, fun i i1 => absurd i1 (Nat.not_lt_zero i)⟩  -- j7
        rintro n58 x58_2 x58_3 σ58 ⟨hn58, i58⟩
        refine ⟨fun c15 => ?_, fun c15 => ?_⟩
        · skip
          intro σ_16 hσ_16
          refine h _ _ ?_
          · clear h; obtain ⟨g1, g2, g3, g4, g5, g6, g7⟩ := i58
            have e : x58_3 = x58_2 := Int32.le_antisymm g6 c15
            have e63 : σ_16.1 63 = x58_3 := by rw [hσ_16, si1, if_neg (by decide)]; exact g4
            refine ⟨frG_tr g1 (by rw [hσ_16]; exact frG_0 (by decide)), Or.inr ⟨rfl, by rw [e63, e]; exact g2, by rw [e63, e]; exact g3, fun i i1 => ?_⟩⟩
            rw [e63] at i1
            rw [hσ_16, si2]
            exact g7 i i1
        · skip
          obtain ⟨g1, g2, g3, g4, g5, g6, g7⟩ := i58
          have u := up_n g5 c15 (Int32.le_trans g3 (by decide))
          refine outcome_c hC  ?_ (fun σ_17 q18 => ?_)
          · clear h; rw [g4]; exact ⟨g5, u.2.2.2.2.2⟩  -- p9
          intro x19 hx19
          refine ⟨_, cn_lt2 hn58 ?_ ?_, rfl, ?_⟩
          · clear h; rw [hx19]; exact u.1  -- d10
          · clear h; rw [hx19]; exact u.2.1  -- d11
          · clear h; rw [hx19]
            refine ⟨frG_tr g1 (frG_oc q18.1 (by decide) (by decide) (by decide)), g2, g3, by rw [q18.2.1, g4], u.2.2.1, u.2.2.2.1, fun i i1 => ?_⟩
            exact oc_ones g5 (Int32.lt_trans u.2.2.2.2.2 (by decide)) g4 q18.2.2.1 q18.2.2.2 g7 i i1
      · skip
        refine hj31 _ ?_
        · clear h; exact q10.1  -- k13

theorem get_c {C : rCx} (hC : cOK C) (B T : Int32) {σ : rS} {a1 : Int32} {Q : Int32 → rS → Prop} (hp : rI σ B T ∧ csF σ ∧ plV (σ.1 67) ∧ 0 ≤ a1 ∧ a1 < 64) (h : ∀ (v : Int32) (σ' : rS), (frG [58, 61] [57, 59, 60] σ σ' ∧ ((v = 0 ∧ csF σ') ∨ v = 1)) → Q v σ') : cI C 3 m_get [.ref (co C), .int a1] σ Q := by
  refine m_get_run hC ?_
  unfold w_get_0
  obtain ⟨hI, hc, hv, h0, h1⟩ := hp
  refine ⟨ib_64.mpr ?_, ?_⟩
  · clear h; exact ⟨h0, h1⟩  -- b1
  refine store_c hC  ?_ (fun σ_1 q2 => ?_)
  · clear h; exact pl_st hv hc.1.1 hc.1.2  -- p2
  have hI1 : rI σ_1 B T := rI_fr hI (frG_S q2 (by decide) (by decide))
  have hc1 : csF σ_1 := csF_o hc (q2.2.2.1 59 (by decide) (by decide)) (q2.2.2.1 30 (by decide) (by decide)) (q2.1 19) (q2.1 58)
  refine ⟨ib_12.mpr ?_, ?_⟩
  · clear h; exact c_m1 hc1.1.1 hc1.1.2  -- b3
  refine ⟨ib_150.mpr ?_, ?_⟩
  · clear h; exact ⟨hc1.2.2.1, s150 hI1 hc1.2.2.2⟩  -- b4
  refine moveTo_c hC B T ?_ (fun r3 σ_4 q5 => ?_)
  · clear h; exact ⟨hI1, hc1.1.1, hc1.1.2, hc1.2.1, fun z => fl_b hI1 hc1.2.2.1 hc1.2.2.2 z⟩  -- p5
  refine h _ _ ?_
  · clear h; exact ⟨frG_tr (frG_S q2 (by decide) (by decide)) q5.1, q5.2⟩  -- q6

end
section
set_option maxHeartbeats 1600000
/-! the reference: a call -/
theorem c96 {c k : Int32} (h1 : 1 ≤ c) (h2 : c ≤ 12) (k0 : 0 ≤ k) (k1 : k < 8) : 0 ≤ 8 * (c - 1) + k ∧ 8 * (c - 1) + k < 96 := by grind
theorem c_up {c : Int32} (h1 : 1 ≤ c) (h2 : c ≤ 12) (h : ¬ c = 12) : 1 ≤ c + 1 ∧ c + 1 ≤ 12 ∧ c + 1 - 1 = c := by grind
theorem c_sp {c x : Int32} (h1 : 1 ≤ x) (h2 : x ≤ 12) (hc : c < x) : c = x - 1 ∨ c < x - 1 := by grind
theorem g4 {x k : Int32} (h : x < 5) (hk : ¬ x ≤ k) : k < 4 := by grind
theorem g_dn {x k : Int32} (h : x < 5) (k0 : 0 ≤ k) (hk : ¬ x ≤ k) : 0 ≤ x - (k + 1) ∧ x - (k + 1) < x - k ∧ 0 ≤ k + 1 ∧ k + 1 ≤ x ∧ k < 1000000 := by grind
theorem e_up {e T : Int32} (h : e < T) (hT : T < 131074) : e < e + 1 ∧ e + 1 ≤ T := by grind
theorem csL_up {σ τ : rS} {s : Int32} (hc : csF σ) (hs : s = rd σ 59 (σ.1 58 - 1)) (h5 : rd σ 30 s = 5) (h59 : τ.2.2.1 59 = σ.2.2.1 59) (h30 : τ.2.2.1 30 = σ.2.2.1 30) (h19 : τ.1 19 = σ.1 19) : csL τ (σ.1 58) := by
  intro c c0 c1
  simp only [rd]
  rw [h59, h30, h19]
  rcases c_sp hc.1.1 hc.1.2 c1 with z | z
  · rw [z]; exact ⟨hc.2.2.1, hc.2.2.2, by rw [hs] at h5; exact h5⟩
  · exact hc.2.1 c c0 z
abbrev clFR9 : List Nat := [10, 11, 12, 13, 47, 48, 49, 58, 61]
abbrev clR : List Nat := [50, 51, 52, 57, 59, 60, 68]
/-- the arguments that are left of a call -/
def agL (S N R : Nat → Int32) (B T n k a : Int32) : Prop := k < n → B ≤ a ∧ ∃ m, m + 1 + k.toNatClampNeg = n.toNatClampNeg ∧ gB S N R T m a
theorem ti {x y : Int32} (h : x ≤ y) : x.toInt ≤ y.toInt := Int32.le_iff_toInt_le.mp h
theorem t0 {x : Int32} (h : 0 ≤ x) : 0 ≤ x.toInt := by have := ti h; rwa [Int32.toInt_zero] at this
theorem f300c {x n : Int32} (h1 : 300 ≤ x) (h2 : x < 300 + n) (n0 : 0 ≤ n) (n1 : n ≤ 10) : 0 ≤ x - 300 ∧ x - 300 < n := by
  have a1 := ti h1
  have a2 := Int32.lt_iff_toInt_lt.mp h2
  have a3 := t0 n0
  have a4 := ti n1
  rw [show (300 : Int32).toInt = 300 from rfl] at a1
  rw [show (10 : Int32).toInt = 10 from rfl] at a4
  rw [i_add (by decide) n0 (by rw [show (300 : Int32).toInt = 300 from rfl]; omega), show (300 : Int32).toInt = 300 from rfl] at a2
  have e := i_sub (Int32.le_trans (by decide) h1) (by decide : (0 : Int32) ≤ 300)
  rw [show (300 : Int32).toInt = 300 from rfl] at e
  exact ⟨Int32.le_iff_toInt_le.mpr (by rw [e, Int32.toInt_zero]; omega), Int32.lt_iff_toInt_lt.mpr (by rw [e]; omega)⟩
theorem f18_b {a b c d e f g i : Int32} (h : tyF a b c d e f g i) : 0 ≤ d ∧ d ≤ 10 := by
  obtain ⟨-, -, -, -, -, -, h1, h2, -⟩ := h
  exact ⟨h1, h2⟩
theorem ag_0 {S N R : Nat → Int32} {B T n a : Int32} (hB : B ≤ a) (h : gN S N R T n.toNatClampNeg a) : agL S N R B T n 0 a := by
  intro lt
  have l := cn_lt (Int32.le_refl 0) lt
  cases hn : n.toNatClampNeg with
  | zero => omega
  | succ m =>
    rw [hn] at h
    exact ⟨hB, m, rfl, h⟩
theorem gB_e {S N R : Nat → Int32} {T a : Int32} {m : Nat} (h : gB S N R T m a) : ∃ e, ePa S N R a e ∧ a ≤ e ∧ e < T ∧ ∀ k, m = k + 1 → gB S N R T k (e + 1) := by
  cases m with
  | zero =>
    obtain ⟨e, h1, h2, h3, -⟩ := h
    exact ⟨e, h1, h2, h3, fun k hk => absurd hk (by omega)⟩
  | succ m =>
    obtain ⟨e, h1, h2, h3, -, h4⟩ := h
    refine ⟨e, h1, h2, h3, fun k hk => ?_⟩
    have ek : m = k := by omega
    rw [← ek]; exact h4
theorem ag_s {S N R : Nat → Int32} {B T n k e : Int32} {m : Nat} (hB : B ≤ e + 1) (hm : m + 1 + k.toNatClampNeg = n.toNatClampNeg) (hg : ∀ j, m = j + 1 → gB S N R T j (e + 1)) (k0 : 0 ≤ k) (k1 : k < 1000000) (k2 : 0 ≤ k + 1) : agL S N R B T n (k + 1) (e + 1) := by
  intro lt
  have l := cn_lt k2 lt
  rw [cn_succ k0 k1] at l
  cases m with
  | zero => omega
  | succ j => exact ⟨hB, j, by rw [cn_succ k0 k1]; omega, hg j rfl⟩
theorem call_c {C : rCx} (hC : cOK C) (B T : Int32) {σ : rS} {a1 : Int32} {Q : Int32 → rS → Prop} (hp : m1 σ B T ∧ csF σ ∧ a1 = rd σ 59 (σ.1 58 - 1) ∧ rd σ 30 a1 = 5) (h : ∀ (v : Int32) (σ' : rS), (frG clFR9 clR σ σ' ∧ ((v = 0 ∧ csF σ') ∨ v = 1 ∨ v = 2)) → Q v σ') : cI C 7 m_call [.ref (co C), .int a1] σ Q := by
  refine m_call_run hC ?_
  unfold w_call_0
  obtain ⟨hm, hc, ha, h5⟩ := hp
  have h0 : 0 ≤ a1 := by rw [ha]; exact hc.2.2.1
  have h1 : a1 < σ.1 19 := by rw [ha]; exact hc.2.2.2
  have hT := m1_T hm
  have hcO := stK_call (m1_st hm h0 h1) h5
  have hkO := hm.1.2.2.2.2.2.2.2.2.2.1 a1 h0 h1 h5
  have fb : 0 ≤ rd σ 39 (rd σ 32 a1) - 300 ∧ rd σ 39 (rd σ 32 a1) - 300 < σ.1 18 := by
    have t : tyF (σ.1 15) (σ.1 16) (σ.1 17) (σ.1 18) (σ.1 19) (σ.1 40) (σ.1 41) (σ.1 42) := hm.1.1.1
    exact f300c hkO.1 hkO.2.1 (f18_b t).1 (f18_b t).2
  have hj89 : ∀  (τ : rS), (frG [10, 11, 12, 13, 47, 48, 49] [50, 51, 52, 68] σ τ) → w_call_89 C Q   τ := by
    rintro  τ89 j89
    unfold w_call_89
    refine ⟨fun c1 => ?_, fun c1 => ?_⟩
    · skip
      refine fail_c hC  (fun r2 σ_3 q4 => ?_)
      refine h _ _ ?_
      · clear h; exact ⟨frG_tr (frG_mono j89 (by decide) (by decide)) (frG_61 q4.1 (by decide)), Or.inr (Or.inr q4.2)⟩  -- q1
    · skip
      refine fail_c hC  (fun r5 σ_6 q7 => ?_)
      refine h _ _ ?_
      · clear h; exact ⟨frG_tr (frG_mono j89 (by decide) (by decide)) (frG_61 q7.1 (by decide)), Or.inr (Or.inr q7.2)⟩  -- q2
  have hj73 : ∀ (l3 : Int32) (τ : rS), (frG [10, 11, 12, 13, 47, 48, 49] [50, 51, 52, 68] σ τ ∧ l3 = rd σ 39 (rd σ 32 a1) - 300) → w_call_73 C Q  l3 τ := by
    rintro y73_3 τ73 j73
    unfold w_call_73
    refine ⟨fun c8 => ?_, fun c8 => ?_⟩
    · skip
      refine hj89 _ ?_
      · clear h; exact j73.1  -- k3
    · skip
      refine ⟨fun c9 => ?_, fun c9 => ?_⟩
      · skip
        intro σ_10 hσ_10
        unfold w_call_122
        refine ⟨fun n l3 l4 τ => n = (8 - l4).toNatClampNeg ∧ (frG [10, 11, 12, 13, 47, 48, 49, 58] [50, 51, 52, 60, 68] σ τ ∧ l3 = rd σ 39 (rd σ 32 a1) - 300 ∧ τ.1 58 = σ.1 58 + 1 ∧ ¬ σ.1 58 = 12 ∧ 0 ≤ l4 ∧ l4 ≤ 8), ⟨_, rfl, ?_⟩, ?_⟩
        · clear h; exact ⟨frG_tr (frG_mono j73.1 (by decide) (by decide)) (by rw [hσ_10]; exact frG_0 (by decide)), j73.2, by rw [hσ_10, si1, if_pos rfl, j73.1.1 58 (by decide)], by rw [← j73.1.1 58 (by decide)]; exact c9, by decide, by decide⟩  -- j4
        rintro n122 x122_3 x122_4 σ122 ⟨hn122, i122⟩
        have hj167 : ∀ (l3 : Int32) (l4 : Int32) (s1 : Int32) (s2 : Int32) (τ : rS), (τ = σ122 ∧ l3 = x122_3 ∧ l4 = x122_4 ∧ ¬ 8 ≤ x122_4 ∧ s1 = 8 * (σ122.1 58 - 1) + x122_4) → w_call_167 C Q (fun l3' l4' τ => ∃ k < n122, (fun n l3 l4 τ => n = (8 - l4).toNatClampNeg ∧ (frG [10, 11, 12, 13, 47, 48, 49, 58] [50, 51, 52, 60, 68] σ τ ∧ l3 = rd σ 39 (rd σ 32 a1) - 300 ∧ τ.1 58 = σ.1 58 + 1 ∧ ¬ σ.1 58 = 12 ∧ 0 ≤ l4 ∧ l4 ≤ 8)) k l3' l4' τ) l3 l4 s1 s2 τ := by
          rintro y167_3 y167_4 y167_s1 y167_s2 τ167 j167
          unfold w_call_167
          obtain ⟨je, j1, j2, j3, j4⟩ := j167
          have cu := c_up hc.1.1 hc.1.2 i122.2.2.2.1
          have u := up8 i122.2.2.2.2.1 j3
          refine ⟨ib_96.mpr ?_, ?_⟩
          · clear h; rw [j4, i122.2.2.1]; exact c96 cu.1 cu.2.1 i122.2.2.2.2.1 u.2.2.2.2.1  -- b5
          intro σ_11 hσ_11
          intro x12 hx12
          refine ⟨_, cn_lt2 hn122 ?_ ?_, rfl, ?_⟩
          · clear h; rw [hx12, j2]; exact u.1  -- d6
          · clear h; rw [hx12, j2]; exact u.2.1  -- d7
          · clear h; rw [hx12, j2, j1]; exact ⟨frG_tr i122.1 (by rw [hσ_11, je]; exact frG_1 (by decide)), i122.2.1, by rw [hσ_11, ri1, je]; exact i122.2.2.1, i122.2.2.2.1, u.2.2.1, u.2.2.2.1⟩  -- i8
        refine ⟨fun c13 => ?_, fun c13 => ?_⟩
        · skip
          refine ⟨ib_10.mpr ?_, ?_⟩
          · clear h; rw [i122.2.1]; exact ⟨fb.1, fn_10 hm.1 fb.2⟩  -- b9
          refine moveTo_c hC B T ?_ (fun r14 σ_15 q16 => ?_)
          · clear h; have cu := c_up hc.1.1 hc.1.2 i122.2.2.2.1
            refine ⟨rI_fr hm.1 (frG_mono i122.1 (by decide) (by decide)), by rw [i122.2.2.1]; exact cu.1, by rw [i122.2.2.1]; exact cu.2.1, ?_, fun z => ?_⟩
            · rw [i122.2.2.1, cu.2.2]
              exact csL_up hc ha h5 (i122.1.2.2.1 59 (by decide)) (i122.1.2.2.1 30 (by decide)) (i122.1.1 19 (by decide))
            · rw [i122.2.1, i122.1.2.2.1 29 (by decide)] at z ⊢
              rw [i122.1.1 19 (by decide)]
              exact fo_b hm.1 fb.1 fb.2 z
          refine h _ _ ?_
          · clear h; refine ⟨frG_tr (frG_mono i122.1 (by decide) (by decide)) (frG_mono q16.1 (by decide) (by decide)), ?_⟩
            rcases q16.2 with z | z
            · exact Or.inl z
            · exact Or.inr (Or.inl z)
        · skip
          refine ⟨ib_10.mpr ?_, ?_⟩
          · clear h; rw [i122.2.1]; exact ⟨fb.1, fn_10 hm.1 fb.2⟩  -- b12
          refine ⟨fun c17 => ?_, fun c17 => ?_⟩
          · skip
            refine hj167 _ _ _ _ _ ?_
            · clear h; exact ⟨rfl, rfl, rfl, c13, rfl⟩  -- k13
          · skip
            refine ⟨ib_4.mpr ?_, ?_⟩
            · clear h; exact ⟨i122.2.2.2.2.1, g4 ((rI_fr hm.1 (frG_mono i122.1 (by decide) (by decide))).1.2.1.2.2.2.2.1 _).2 c17⟩  -- b14
            refine hj167 _ _ _ _ _ ?_
            · clear h; exact ⟨rfl, rfl, rfl, c13, rfl⟩  -- k15
      · skip
        refine hj89 _ ?_
        · clear h; exact j73.1  -- k16
  refine ⟨ib_150.mpr ?_, ?_⟩
  · clear h; exact ⟨h0, s150 hm.1 h1⟩  -- b17
  intro x18 hx18
  refine ⟨ib_131074.mpr ?_, ?_⟩
  · clear h; rw [hx18]; exact ⟨Int32.le_trans hT.1 hcO.1, Int32.lt_trans hcO.2.1 hT.2⟩  -- b18
  intro x19 hx19
  intro σ_20 hσ_20
  unfold w_call_28
  refine ⟨fun n l3 l4 τ => n = (rd σ 26 (rd σ 39 (rd σ 32 a1) - 300) - l4).toNatClampNeg ∧ (frG [10, 11, 12, 13, 47, 48, 49] [50, 51, 52, 68] σ τ ∧ l3 = rd σ 39 (rd σ 32 a1) - 300 ∧ 0 ≤ l4 ∧ l4 ≤ rd σ 26 l3 ∧ 0 ≤ τ.1 47 ∧ (τ.1 47 = 0 → m1 τ B T ∧ agL (σ.2.2.1 5) (σ.2.2.1 7) (σ.2.2.1 39) B T (rd σ 26 l3) l4 (τ.1 10))), ⟨_, rfl, ?_⟩, ?_⟩
  · clear h; have e20 : ∀ k, k ≠ 10 → σ_20.1 k = σ.1 k := fun k hk => by rw [hσ_20, si1, if_neg hk]
    have ex : x19 = rd σ 39 (rd σ 32 a1) - 300 := by rw [hx19, hx18]
    have f20 : frG [10, 11, 12, 13, 47, 48, 49] [50, 51, 52, 68] σ σ_20 := by rw [hσ_20]; exact frG_0 (by decide)
    have m20 : m1 σ_20 B T := m1_fr hm (frG_mono f20 (by decide) (by decide)) (e20 46 (by decide)) (e20 58 (by decide)) (e20 11 (by decide)) (e20 47 (by decide)) (e20 13 (by decide))
    have a20 : σ_20.1 10 = rd σ 32 a1 + 2 := by rw [hσ_20, si1, if_pos rfl, hx18]
    refine ⟨f20, ex, by decide, (hm.1.1.2.1.2.2.2.2.1 _).1, by rw [m20.2.2.2.2.1]; decide, fun _ => ⟨m20, ?_⟩⟩
    rw [a20, ex]
    exact ag_0 (lc_2 hT.1 hcO.1 hcO.2.1 hT.2) hkO.2.2
  rintro n28 x28_3 x28_4 σ28 ⟨hn28, i28⟩
  refine ⟨ib_10.mpr ?_, ?_⟩
  · clear h; rw [i28.2.1]; exact ⟨fb.1, fn_10 hm.1 fb.2⟩  -- b20
  refine ⟨fun c21 => ?_, fun c21 => ?_⟩
  · skip
    refine hj73 _ _ ?_
    · clear h; exact ⟨i28.1, i28.2.1⟩  -- k21
  · skip
    refine ⟨fun c22 => ?_, fun c22 => ?_⟩
    · skip
      refine hj73 _ _ ?_
      · clear h; exact ⟨i28.1, i28.2.1⟩  -- k22
    · skip
      obtain ⟨y1, y2, y3, y4, y5, y6⟩ := i28
      have c21' : ¬ rd σ 26 x28_3 ≤ x28_4 := by rw [rd, ← y1.2.2.1 26 (by decide)]; exact c21
      obtain ⟨w1, w2⟩ := y6 c22
      obtain ⟨hB, m, hmn, hg⟩ := w2 (Int32.not_le.mp c21')
      obtain ⟨e, e1, e2, e3, e4⟩ := gB_e hg
      have r26 := (hm.1.1.2.1.2.2.2.2.1 x28_3.toNatClampNeg).2
      have gd := g_dn r26 y3 c21'
      refine expr1_c hC B T ?_ (fun r23 σ_24 q25 => ?_)
      · clear h; exact ⟨w1, hB, Int32.le_trans e2 (Int32.le_of_lt e3), e, by rw [y1.2.2.1 5 (by decide), y1.2.2.1 7 (by decide), y1.2.2.1 39 (by decide)]; exact e1⟩  -- p23
      refine ⟨ib_4.mpr ?_, ?_⟩
      · clear h; exact ⟨y3, g4 r26 c21'⟩  -- b24
      intro σ_26 hσ_26
      intro σ_27 hσ_27
      intro x28 hx28
      refine ⟨_, cn_lt2 hn28 ?_ ?_, rfl, ?_⟩
      · clear h; rw [hx28, ← y2]; exact gd.1  -- d25
      · clear h; rw [hx28, ← y2]; exact gd.2.1  -- d26
      · clear h; have f27 : frG [10, 11, 12, 13, 47, 48, 49] [50, 51, 52, 68] σ_24 σ_27 := by rw [hσ_27, hσ_26]; exact frG_tr (frG_1 (by decide)) (frG_0 (by decide))
        have k27 : ∀ k, k ≠ 10 → σ_27.1 k = σ_24.1 k := fun k hk => by rw [hσ_27, si1, if_neg hk, hσ_26, ri1]
        have a27 : σ_27.1 10 = σ_24.1 10 + 1 := by rw [hσ_27, si1, if_pos rfl, hσ_26, ri1]
        rw [hx28]
        refine ⟨frG_tr y1 (frG_tr (frG_mono q25.1 (by decide) (by decide)) f27), y2, gd.2.2.1, gd.2.2.2.1, by rw [k27 47 (by decide)]; exact q25.2.1, fun z => ?_⟩
        rw [k27 47 (by decide)] at z
        obtain ⟨v1, v2⟩ := q25.2.2.2 z
        have ae : σ_24.1 10 = e := v2 e (by rw [y1.2.2.1 5 (by decide), y1.2.2.1 7 (by decide), y1.2.2.1 39 (by decide)]; exact e1)
        have eu := e_up e3 hT.2
        refine ⟨m1_fr v1 (frG_mono f27 (by decide) (by decide)) (k27 46 (by decide)) (k27 58 (by decide)) (k27 11 (by decide)) (k27 47 (by decide)) (k27 13 (by decide)), ?_⟩
        rw [a27, ae]
        exact ag_s (Int32.le_trans hB (Int32.le_trans e2 (Int32.le_of_lt eu.1))) hmn e4 y3 gd.2.2.2.2 gd.2.2.1

end
section
set_option maxHeartbeats 1600000
/-! the reference: a draw -/
abbrev dwF : List Nat := [10, 11, 12, 13, 47, 48, 49, 61, 63, 66]
abbrev dwR : List Nat := [50, 51, 52, 64, 65]
/-- the sum of the first n weights -/
def wsum (r : Nat → Int32) : Nat → Int
  | 0 => 0
  | n + 1 => wsum r n + (r n).toInt
theorem wsum_b {r : Nat → Int32} {n : Nat} {m : Int} (h : ∀ i, i < n → 0 ≤ (r i).toInt ∧ (r i).toInt ≤ m) : 0 ≤ wsum r n ∧ wsum r n ≤ n * m := by
  induction n with
  | zero => exact ⟨Int.le_refl _, by show (0 : Int) ≤ 0 * m; rw [Int.zero_mul]; exact Int.le_refl _⟩
  | succ n ih =>
    have g := ih (fun i hi => h i (by omega))
    have e := h n (by omega)
    have d : ((n + 1 : Nat) : Int) * m = (n : Int) * m + m := by rw [Int.natCast_add, Int.add_mul]; omega
    show 0 ≤ wsum r n + (r n).toInt ∧ wsum r n + (r n).toInt ≤ ((n + 1 : Nat) : Int) * m
    omega
/-- the outcomes of a draw: their number, their weights, the total -/
def oW (σ : rS) : Prop := 1 ≤ σ.1 63 ∧ σ.1 63 ≤ 64 ∧ (∀ i, i < (σ.1 63).toNatClampNeg → 0 ≤ σ.2.2.1 65 i ∧ σ.2.2.1 65 i ≤ 1000000) ∧ (σ.1 66).toInt = wsum (σ.2.2.1 65) (σ.1 63).toNatClampNeg ∧ 0 < σ.1 66 ∧ σ.1 66 ≤ 8000000
/-- outcomes before they are weighed -/
def oP (σ : rS) : Prop := 0 ≤ σ.1 63 ∧ σ.1 63 ≤ 64 ∧ (σ.1 63 ≤ 8 ∨ ∀ i, i < (σ.1 63).toNatClampNeg → σ.2.2.1 65 i = 1)
theorem st_3 {S N R : Nat → Int32} {B T k b x : Int32} (h : stK S N R B T k b x) (hk : k = 3) : B ≤ x ∧ x < T ∧ drO S N R T x := by
  rcases h with ⟨q, -⟩ | ⟨q, -⟩ | ⟨-, -, q⟩ | ⟨q, -⟩ | ⟨q, -⟩ | ⟨q, -⟩
  · rw [hk] at q; exact absurd q (by decide)
  · rw [hk] at q; exact absurd q (by decide)
  · exact q
  · rw [hk] at q; exact absurd q (by decide)
  · rw [hk] at q; exact absurd q (by decide)
  · rw [hk] at q; exact absurd q (by decide)
theorem oP_o {σ τ : rS} (h : oP σ) (h63 : τ.1 63 = σ.1 63) (h65 : τ.2.2.1 65 = σ.2.2.1 65) : oP τ := by
  unfold oP
  rw [h63, h65]; exact h
theorem ws_b {r : Nat → Int32} {n : Nat} (h : ∀ i, i < n → 0 ≤ r i ∧ r i ≤ 1000000) : 0 ≤ wsum r n ∧ wsum r n ≤ n * 1000000 := wsum_b (fun i hi => ⟨t0 (h i hi).1, ti (h i hi).2⟩)
theorem ws_step {r : Nat → Int32} {t x : Int32} (x0 : 0 ≤ x) (x1 : x < 64) (h : ∀ i, i < x.toNatClampNeg → 0 ≤ r i ∧ r i ≤ 1000000) (ht : t.toInt = wsum r x.toNatClampNeg) (w0 : 0 ≤ r x.toNatClampNeg) (w1 : r x.toNatClampNeg ≤ 1000000) : (t + r x.toNatClampNeg).toInt = wsum r (x + 1).toNatClampNeg ∧ ∀ i, i < (x + 1).toNatClampNeg → 0 ≤ r i ∧ r i ≤ 1000000 := by
  have b := ws_b h
  have e := cn_succ x0 (Int32.lt_trans x1 (by decide))
  have xn : x.toNatClampNeg ≤ 64 := cn_le (y := 64) rfl (Int32.le_of_lt x1)
  have w2 := ti w1
  rw [show (1000000 : Int32).toInt = 1000000 from rfl] at w2
  have w3 := t0 w0
  have tn : 0 ≤ t := Int32.le_iff_toInt_le.mpr (by rw [Int32.toInt_zero]; omega)
  rw [e]
  refine ⟨?_, fun i hi => ?_⟩
  · show _ = wsum r x.toNatClampNeg + (r x.toNatClampNeg).toInt
    rw [← ht]
    exact i_add tn w0 (by omega)
  · by_cases z : i = x.toNatClampNeg
    · rw [z]; exact ⟨w0, w1⟩
    · exact h i (by omega)
theorem oW_of {σ : rS} {x : Int32} (hP : oP σ) (e : x = σ.1 63) (v1 : ∀ i, i < x.toNatClampNeg → 0 ≤ σ.2.2.1 65 i ∧ σ.2.2.1 65 i ≤ 1000000) (v2 : (σ.1 66).toInt = wsum (σ.2.2.1 65) x.toNatClampNeg) (nz : ¬ σ.1 66 = 0) : oW σ := by
  subst e
  have b := ws_b v1
  have xn : (σ.1 63).toNatClampNeg ≤ 64 := cn_le (y := 64) rfl hP.2.1
  have nz' : (σ.1 66).toInt ≠ 0 := fun z => nz (Int32.toInt_inj.mp (by rw [z]; rfl))
  refine ⟨?_, hP.2.1, v1, v2, ?_, ?_⟩
  · refine Decidable.byContradiction (fun z => ?_)
    have z' : (σ.1 63).toNatClampNeg = 0 := cn_zero (by clear b v1 v2 xn nz nz'; grind)
    rw [z'] at v2
    exact nz' v2
  · exact Int32.lt_iff_toInt_lt.mpr (by rw [Int32.toInt_zero]; omega)
  · refine Int32.le_iff_toInt_le.mpr ?_
    rw [show (8000000 : Int32).toInt = 8000000 from rfl]
    rcases hP.2.2 with h8 | h1
    · have : (σ.1 63).toNatClampNeg ≤ 8 := cn_le (y := 8) rfl h8
      omega
    · have := (wsum_b (r := σ.2.2.1 65) (n := (σ.1 63).toNatClampNeg) (m := 1) (fun i hi => by rw [h1 i hi]; exact ⟨by decide, by decide⟩)).2
      omega
theorem prB_e {S N R : Nat → Int32} {T p : Int32} {k : Nat} (h : prB S N R T k p) : ∃ e1 e2, ePa S N R (p + 1) e1 ∧ p + 1 ≤ e1 ∧ p < p + 1 ∧ ePa S N R (e1 + 1) e2 ∧ e1 < e1 + 1 ∧ e1 + 1 ≤ e2 ∧ e2 < T ∧ (sg S N e2 44 → ∃ j, k = j + 1 ∧ prB S N R T j e2) := by
  cases k with
  | zero =>
    obtain ⟨e1, e2, h1, h2, h3, h4, h5, h6, h7, h8⟩ := h
    exact ⟨e1, e2, h1, h2, h3, h4, h5, h6, h7, fun z => absurd z h8⟩
  | succ k =>
    obtain ⟨e1, e2, h1, h2, h3, h4, h5, h6, h7, h8, h9⟩ := h
    exact ⟨e1, e2, h1, h2, h3, h4, h5, h6, h7, fun _ => ⟨k, rfl, h9⟩⟩
theorem lt8n {x : Int32} {k : Nat} (h0 : 0 ≤ x) (h : k + x.toNatClampNeg < 8) : x < 8 := by
  have := cn_int h0
  refine Int32.lt_iff_toInt_lt.mpr ?_
  rw [show (8 : Int32).toInt = 8 from rfl]
  omega
theorem up88 {x : Int32} (h0 : 0 ≤ x) (h : x < 8) : 0 ≤ x + 1 ∧ x + 1 ≤ 8 ∧ x < 64 ∧ x < 1000000 := by grind
theorem ePa_ge {S N R : Nat → Int32} {a e : Int32} (h : ePa S N R a e) : a ≤ e := by obtain ⟨n, hn⟩ := h; exact eTo_ge hn
theorem draw_c {C : rCx} (hC : cOK C) (B T : Int32) {σ : rS} {a1 : Int32} {Q : Int32 → rS → Prop} (hp : m1 σ B T ∧ 0 ≤ a1 ∧ a1 < σ.1 19 ∧ rd σ 30 a1 = 3) (h : ∀ (v : Int32) (σ' : rS), (frG dwF dwR σ σ' ∧ (v = 2 ∨ (v = 4 ∧ oW σ'))) → Q v σ') : cI C 8 m_draw [.ref (co C), .int a1] σ Q := by
  refine m_draw_run hC ?_
  unfold w_draw_0
  obtain ⟨hm, h0, h1, h3⟩ := hp
  have hT := m1_T hm
  obtain ⟨hB, hx, hd⟩ := st_3 (m1_st hm h0 h1) h3
  have hj329 : ∀  (τ : rS), (frG dwF dwR σ τ) → w_draw_329 C Q   τ := by
    rintro  τ329 j329
    unfold w_draw_329
    refine fail_c hC  (fun r1 σ_2 q3 => ?_)
    refine h _ _ ?_
    · clear h; exact ⟨frG_tr j329 (frG_61 q3.1 (by decide)), Or.inl q3.2⟩  -- q1
  have hj228 : ∀  (τ : rS), (frG dwF dwR σ τ ∧ oP τ) → w_draw_228 C Q   τ := by
    rintro  τ228 j228
    unfold w_draw_228
    intro σ_4 hσ_4
    unfold w_draw_239
    refine ⟨fun n l4 l5 τ => n = (τ228.1 63 - l5).toNatClampNeg ∧ (frG dwF dwR σ τ ∧ oP τ ∧ τ.1 63 = τ228.1 63 ∧ 0 ≤ l5 ∧ l5 ≤ τ228.1 63 ∧ (l4 ≠ 0 → (∀ i, i < l5.toNatClampNeg → 0 ≤ τ.2.2.1 65 i ∧ τ.2.2.1 65 i ≤ 1000000) ∧ (τ.1 66).toInt = wsum (τ.2.2.1 65) l5.toNatClampNeg)), ⟨_, rfl, ?_⟩, ?_⟩
    · clear h; refine ⟨frG_tr j228.1 (by rw [hσ_4]; exact frG_0 (by decide)), oP_o j228.2 (by rw [hσ_4, si1, if_neg (by decide)]) (by rw [hσ_4, si2]), by rw [hσ_4, si1, if_neg (by decide)], by decide, j228.2.1, fun _ => ⟨fun i i1 => absurd i1 (Nat.not_lt_zero i), by rw [hσ_4, si1, if_pos rfl]; rfl⟩⟩  -- j2
    rintro n239 x239_4 x239_5 σ239 ⟨hn239, i239⟩
    have hj275 : ∀ (l5 : Int32) (s0 : Int32) (τ : rS), (τ = σ239 ∧ l5 = x239_5 ∧ ¬ σ239.1 63 ≤ x239_5 ∧ (s0 ≠ 0 → x239_4 ≠ 0 ∧ 0 ≤ rd σ239 65 x239_5 ∧ rd σ239 65 x239_5 ≤ 1000000)) → w_draw_275 C Q (fun l4' l5' τ => ∃ k < n239, (fun n l4 l5 τ => n = (τ228.1 63 - l5).toNatClampNeg ∧ (frG dwF dwR σ τ ∧ oP τ ∧ τ.1 63 = τ228.1 63 ∧ 0 ≤ l5 ∧ l5 ≤ τ228.1 63 ∧ (l4 ≠ 0 → (∀ i, i < l5.toNatClampNeg → 0 ≤ τ.2.2.1 65 i ∧ τ.2.2.1 65 i ≤ 1000000) ∧ (τ.1 66).toInt = wsum (τ.2.2.1 65) l5.toNatClampNeg))) k l4' l5' τ) l5 s0 τ := by
      rintro y275_5 y275_s0 τ275 j275
      unfold w_draw_275
      obtain ⟨je, j1, j2', j3⟩ := j275
      have c' : ¬ τ228.1 63 ≤ x239_5 := by rw [← i239.2.2.1]; exact j2'
      have u := up_n i239.2.2.2.1 c' j228.2.2.1
      refine ⟨ib_64.mpr ?_, ?_⟩
      · clear h; rw [j1]; exact ⟨i239.2.2.2.1, u.2.2.2.2.2⟩  -- b3
      intro σ_5 hσ_5
      intro x6 hx6
      refine ⟨_, cn_lt2 hn239 ?_ ?_, rfl, ?_⟩
      · clear h; rw [hx6, j1]; exact u.1  -- d4
      · clear h; rw [hx6, j1]; exact u.2.1  -- d5
      · clear h; rw [hx6, j1]
        have s5 : σ_5.2 = σ239.2 := by rw [hσ_5, si2, je]
        have e63 : σ_5.1 63 = σ239.1 63 := by rw [hσ_5, si1, if_neg (by decide), je]
        have e66 : σ_5.1 66 = σ239.1 66 + rd σ239 65 x239_5 := by rw [hσ_5, si1, if_pos rfl, je, j1]
        refine ⟨frG_tr i239.1 (by rw [hσ_5, je]; exact frG_0 (by decide)), oP_o i239.2.1 e63 (by rw [s5]), e63.trans i239.2.2.1, u.2.2.1, u.2.2.2.1, fun z => ?_⟩
        obtain ⟨w1, w2, w3⟩ := j3 z
        obtain ⟨v1, v2⟩ := i239.2.2.2.2.2 w1
        have st := ws_step i239.2.2.2.1 u.2.2.2.2.2 v1 v2 w2 w3
        rw [s5, e66]
        exact ⟨st.2, st.1⟩
    refine ⟨fun c7 => ?_, fun c7 => ?_⟩
    · skip
      refine ⟨fun c8 => ?_, fun c8 => ?_⟩
      · skip
        refine ⟨fun c9 => ?_, fun c9 => ?_⟩
        · skip
          refine hj329 _ ?_
          · clear h; exact i239.1  -- k7
        · skip
          refine ⟨fun c10 => ?_, fun c10 => ?_⟩
          · skip
            refine h _ _ ?_
            · clear h; obtain ⟨v1, v2⟩ := i239.2.2.2.2.2 c9
              refine ⟨i239.1, Or.inr ⟨rfl, oW_of i239.2.1 ?_ v1 v2 c10⟩⟩
              exact Int32.le_antisymm (by rw [i239.2.2.1]; exact i239.2.2.2.2.1) c7
          · skip
            refine hj329 _ ?_
            · clear h; exact i239.1  -- k9
      · skip
        refine fail_c hC  (fun r11 σ_12 q13 => ?_)
        refine h _ _ ?_
        · clear h; exact ⟨frG_tr i239.1 (frG_61 q13.1 (by decide)), Or.inl q13.2⟩  -- q10
    · skip
      refine ⟨fun c14 => ?_, fun c14 => ?_⟩
      · skip
        refine hj275 _ _ _ ?_
        · clear h; exact ⟨rfl, rfl, c7, fun z => absurd rfl z⟩  -- k11
      · skip
        refine ⟨ib_64.mpr ?_, ?_⟩
        · clear h; exact ⟨i239.2.2.2.1, (up_n i239.2.2.2.1 (by rw [← i239.2.2.1]; exact c7) j228.2.2.1).2.2.2.2.2⟩  -- b12
        refine within_c hC  (fun r15 q17 => ?_)
        refine ⟨fun c18 => ?_, fun c18 => ?_⟩
        · skip
          refine hj275 _ _ _ ?_
          · clear h; exact ⟨rfl, rfl, c7, fun z => absurd rfl z⟩  -- k13
        · skip
          refine hj275 _ _ _ ?_
          · clear h; exact ⟨rfl, rfl, c7, fun _ => ⟨c14, q17.2.mp c18⟩⟩  -- k14
  have hj65 : ∀  (τ : rS), (frG dwF dwR σ τ) → w_draw_65 C Q   τ := by
    rintro  τ65 j65
    unfold w_draw_65
    refine ⟨fun c19 => ?_, fun c19 => ?_⟩
    · skip
      refine fail_c hC  (fun r20 σ_21 q22 => ?_)
      refine h _ _ ?_
      · clear h; exact ⟨frG_tr j65 (frG_61 q22.1 (by decide)), Or.inl q22.2⟩  -- q15
    · skip
      refine fail_c hC  (fun r23 σ_24 q25 => ?_)
      refine h _ _ ?_
      · clear h; exact ⟨frG_tr j65 (frG_61 q25.1 (by decide)), Or.inl q25.2⟩  -- q16
  intro σ_26 hσ_26
  refine ⟨ib_150.mpr ?_, ?_⟩
  · clear h; exact ⟨h0, s150 hm.1 h1⟩  -- b17
  intro σ_27 hσ_27
  have e27 : ∀ k, k ≠ 63 → k ≠ 10 → σ_27.1 k = σ.1 k := fun k z1 z2 => by rw [hσ_27, si1, if_neg z2, hσ_26, si1, if_neg z1]
  have s27 : σ_27.2 = σ.2 := by rw [hσ_27, si2, hσ_26, si2]
  have a27 : σ_27.1 10 = rd σ 32 a1 := by rw [hσ_27, si1, if_pos rfl, hσ_26, si2]
  have z27 : σ_27.1 63 = 0 := by rw [hσ_27, si1, if_neg (by decide), hσ_26, si1, if_pos rfl]
  have f27 : frG dwF dwR σ σ_27 := by rw [hσ_27, hσ_26]; exact frG_tr (frG_0 (by decide)) (frG_0 (by decide))
  have m27 : m1 σ_27 B T := m1_fr hm (frG_mono f27 (by decide) (by decide)) (e27 46 (by decide) (by decide)) (e27 58 (by decide) (by decide)) (e27 11 (by decide) (by decide)) (e27 47 (by decide) (by decide)) (e27 13 (by decide) (by decide))
  have x2 := lc_2 hT.1 hB hx hT.2
  refine isWord_c hC  ?_ (fun r28 q30 => ?_)
  · clear h; rw [a27]; exact ⟨Int32.le_trans hT.1 hB, Int32.lt_trans hx hT.2⟩  -- p18
  refine isWord_c hC  ?_ (fun r31 q33 => ?_)
  · clear h; rw [a27]; exact ⟨Int32.le_trans hT.1 hB, Int32.lt_trans hx hT.2⟩  -- p19
  have w11 : r28 ≠ 0 ↔ σ.2.2.1 5 (rd σ 32 a1).toNatClampNeg = 6 ∧ σ.2.2.1 7 (rd σ 32 a1).toNatClampNeg = 11 := by rw [q30.2, rd, rd, s27, a27]
  have w12 : r31 ≠ 0 ↔ σ.2.2.1 5 (rd σ 32 a1).toNatClampNeg = 6 ∧ σ.2.2.1 7 (rd σ 32 a1).toNatClampNeg = 12 := by rw [q33.2, rd, rd, s27, a27]
  refine ⟨fun c34 => ?_, fun c34 => ?_⟩
  · skip
    refine ⟨fun c35 => ?_, fun c35 => ?_⟩
    · skip
      unfold w_draw_162
      refine ⟨fun n l4 τ => n = eMs (τ.1 47) 0 (if l4 = 0 then 2 else 0) (τ.1 10) T ∧ (frG dwF dwR σ τ ∧ 0 ≤ τ.1 47 ∧ (B ≤ τ.1 10 ∧ τ.1 10 ≤ T) ∧ 0 ≤ τ.1 63 ∧ τ.1 63 ≤ 8 ∧ (τ.1 47 = 0 → m1 τ B T ∧ (l4 ≠ 0 → ∃ k, k + (τ.1 63).toNatClampNeg < 8 ∧ prB (σ.2.2.1 5) (σ.2.2.1 7) (σ.2.2.1 39) T k (τ.1 10)))), ⟨_, rfl, ?_⟩, ?_⟩
      · clear h; refine ⟨f27, by rw [m27.2.2.2.2.1]; decide, ⟨by rw [a27]; exact hB, by rw [a27]; exact Int32.le_of_lt hx⟩, by rw [z27]; decide, by rw [z27]; decide, fun _ => ⟨m27, fun _ => ?_⟩⟩
        obtain ⟨k, hk, hpr⟩ := hd.2.2 (fun z => by
          rcases z.2 with y | y
          · exact w11.mpr ⟨z.1, y⟩ c34
          · exact w12.mpr ⟨z.1, y⟩ c35)
        exact ⟨k, by rw [z27]; exact hk, by rw [a27]; exact hpr⟩
      rintro n162 x162_4 σ162 ⟨hn162, i162⟩
      have hj207 : ∀ (l5 : Int32) (s0 : Int32) (τ : rS), (frG dwF dwR σ τ ∧ 0 ≤ τ.1 47 ∧ (B ≤ τ.1 10 ∧ τ.1 10 ≤ T) ∧ τ.1 63 = σ162.1 63 ∧ 0 ≤ σ162.1 63 ∧ σ162.1 63 < 8 ∧ σ162.1 47 = 0 ∧ x162_4 ≠ 0 ∧ (τ.1 47 = 0 → m1 τ B T ∧ σ162.1 10 < τ.1 10 ∧ (sg (σ.2.2.1 5) (σ.2.2.1 7) (τ.1 10) 44 → ∃ k, k + (σ162.1 63).toNatClampNeg + 1 < 8 ∧ prB (σ.2.2.1 5) (σ.2.2.1 7) (σ.2.2.1 39) T k (τ.1 10)))) → w_draw_207 C Q (fun l4' τ => ∃ k < n162, (fun n l4 τ => n = eMs (τ.1 47) 0 (if l4 = 0 then 2 else 0) (τ.1 10) T ∧ (frG dwF dwR σ τ ∧ 0 ≤ τ.1 47 ∧ (B ≤ τ.1 10 ∧ τ.1 10 ≤ T) ∧ 0 ≤ τ.1 63 ∧ τ.1 63 ≤ 8 ∧ (τ.1 47 = 0 → m1 τ B T ∧ (l4 ≠ 0 → ∃ k, k + (τ.1 63).toNatClampNeg < 8 ∧ prB (σ.2.2.1 5) (σ.2.2.1 7) (σ.2.2.1 39) T k (τ.1 10))))) k l4' τ) l5 s0 τ := by
        rintro y207_5 y207_s0 τ207 j207
        unfold w_draw_207
        obtain ⟨j1, j2, j3, j4, j5, j6, j7, j8, j9⟩ := j207
        have u := up88 j5 j6
        refine outcome_c hC  ?_ (fun σ_36 q37 => ?_)
        · clear h; rw [j4]; exact ⟨j5, u.2.2.1⟩  -- p21
        have a36 : σ_36.1 10 = τ207.1 10 := q37.1.1 10 (by decide)
        have g36 : σ_36.1 47 = τ207.1 47 := q37.1.1 47 (by decide)
        have f36 : frG dwF dwR σ σ_36 := frG_tr j1 (frG_oc q37.1 (by decide) (by decide) (by decide))
        have n36 : σ_36.1 63 = σ162.1 63 + 1 := by rw [q37.2.1, j4]
        refine isAt_c hC  ?_ (fun r38 q40 => ?_)
        · clear h; rw [a36]; exact ⟨Int32.le_trans hT.1 j3.1, Int32.lt_of_le_of_lt j3.2 hT.2⟩  -- p22
        refine ⟨_, ?_, rfl, ?_⟩
        · clear h; show eMs (σ_36.1 47) 0 (if r38 = 0 then 2 else 0) (σ_36.1 10) T < n162
          rw [hn162, j7, if_neg j8, a36, g36]
          exact eMs_lt (by decide) (fun f1 _ _ => (j9 f1).2.1) (Int32.le_trans hT.1 i162.2.2.1.1) j3.2
        · clear h; refine ⟨f36, by rw [g36]; exact j2, by rw [a36]; exact j3, by rw [n36]; exact u.1, by rw [n36]; exact u.2.1, fun z => ?_⟩
          rw [g36] at z
          obtain ⟨v1, v2, v3⟩ := j9 z
          refine ⟨m1_fr v1 (frG_oc q37.1 (by decide) (by decide) (by decide)) (q37.1.1 46 (by decide)) (q37.1.1 58 (by decide)) (q37.1.1 11 (by decide)) g36 (q37.1.1 13 (by decide)), fun nz => ?_⟩
          have s44 := q40.2.mp nz
          rw [rd, rd, f36.2.2.1 5 (by decide), f36.2.2.1 7 (by decide), a36] at s44
          obtain ⟨k, hk, hpr⟩ := v3 s44
          refine ⟨k, ?_, by rw [a36]; exact hpr⟩
          rw [n36, cn_succ j5 u.2.2.2]; omega
      refine ⟨fun c41 => ?_, fun c41 => ?_⟩
      · skip
        refine hj228 _ ?_
        · clear h; exact ⟨i162.1, i162.2.2.2.1, Int32.le_trans i162.2.2.2.2.1 (by decide), Or.inl i162.2.2.2.2.1⟩  -- k25
      · skip
        refine ⟨fun c42 => ?_, fun c42 => ?_⟩
        · skip
          refine hj228 _ ?_
          · clear h; exact ⟨i162.1, i162.2.2.2.1, Int32.le_trans i162.2.2.2.2.1 (by decide), Or.inl i162.2.2.2.2.1⟩  -- k26
        · skip
          obtain ⟨y1, y2, y3, y4, y5, y6⟩ := i162
          obtain ⟨w1, w2⟩ := y6 c42
          obtain ⟨k, hk, hpr⟩ := w2 c41
          obtain ⟨e1, e2, g1, g2, g3, g4, g5, g6, g7, g8⟩ := prB_e hpr
          have r5 := y1.2.2.1 5 (by decide)
          have r7 := y1.2.2.1 7 (by decide)
          have r39 := y1.2.2.1 39 (by decide)
          have l8 := lt8n y4 hk
          have b1 : B ≤ σ162.1 10 + 1 := Int32.le_trans y3.1 (Int32.le_of_lt g3)
          have b2 : e1 ≤ T := Int32.le_trans (Int32.le_of_lt g5) (Int32.le_trans g6 (Int32.le_of_lt g7))
          refine work_c hC B T ?_ (fun r43 σ_44 q45 => ?_)
          · clear h; exact ⟨w1, b1, Int32.le_trans g2 b2, e1, by rw [r5, r7, r39]; exact g1⟩  -- p27
          have f44 : frG dwF dwR σ σ_44 := frG_tr y1 (frG_mono q45.1 (by decide) (by decide))
          refine ⟨fun c46 => ?_, fun c46 => ?_⟩
          · skip
            refine work_c hC B T ?_ (fun r47 σ_48 q49 => ?_)
            · clear h; obtain ⟨v1, v2⟩ := q45.2.2.2 (le0 c46 q45.2.1)
              have ae : σ_44.1 10 = e1 := v2 e1 (by rw [r5, r7, r39]; exact g1)
              rw [ae]
              exact ⟨v1, Int32.le_trans b1 (Int32.le_trans g2 (Int32.le_of_lt g5)), Int32.le_trans g6 (Int32.le_of_lt g7), e2, by rw [f44.2.2.1 5 (by decide), f44.2.2.1 7 (by decide), f44.2.2.1 39 (by decide)]; exact g4⟩
            refine hj207 _ _ _ ?_
            · clear h; obtain ⟨v1, v2⟩ := q45.2.2.2 (le0 c46 q45.2.1)
              have ae : σ_44.1 10 = e1 := v2 e1 (by rw [r5, r7, r39]; exact g1)
              refine ⟨frG_tr f44 (frG_mono q49.1 (by decide) (by decide)), q49.2.1, q49.2.2.1, by rw [q49.1.1 63 (by decide), q45.1.1 63 (by decide)], y4, l8, c42, c41, fun z => ?_⟩
              obtain ⟨t1, t2⟩ := q49.2.2.2 z
              have ae2 : σ_48.1 10 = e2 := t2 e2 (by rw [ae, f44.2.2.1 5 (by decide), f44.2.2.1 7 (by decide), f44.2.2.1 39 (by decide)]; exact g4)
              rw [ae2]
              refine ⟨t1, Int32.lt_of_lt_of_le g3 (Int32.le_trans g2 (Int32.le_trans (Int32.le_of_lt g5) g6)), fun s44 => ?_⟩
              obtain ⟨j, hj, hpj⟩ := g8 s44
              exact ⟨j, by omega, hpj⟩
          · skip
            refine hj207 _ _ _ ?_
            · clear h; exact ⟨f44, q45.2.1, q45.2.2.1, q45.1.1 63 (by decide), y4, l8, c42, c41, fun z => absurd (by rw [z]; decide) c46⟩  -- k30
    · skip
      obtain ⟨e1, e2, g1, g2, g3, g4, g5⟩ := hd.2.1 (w12.mp c35)
      have b2 : e1 ≤ T := Int32.le_trans (Int32.le_of_lt g2) (Int32.le_trans g3 (Int32.le_of_lt g5))
      have g0 := ePa_ge g1
      refine work_c hC B T ?_ (fun r50 σ_51 q52 => ?_)
      · clear h; rw [a27, s27]; exact ⟨m27, x2, Int32.le_trans g0 b2, e1, g1⟩  -- p31
      have f51 : frG dwF dwR σ σ_51 := frG_tr f27 (frG_mono q52.1 (by decide) (by decide))
      have z51 : σ_51.1 63 = 0 := by rw [q52.1.1 63 (by decide)]; exact z27
      refine outcome_c hC  ?_ (fun σ_53 q54 => ?_)
      · clear h; rw [z51]; exact ⟨by decide, by decide⟩  -- p32
      have f53 : frG dwF dwR σ σ_53 := frG_tr f51 (frG_oc q54.1 (by decide) (by decide) (by decide))
      have z53 : σ_53.1 63 = 1 := by rw [q54.2.1, z51]; rfl
      have g53 : σ_53.1 47 = σ_51.1 47 := q54.1.1 47 (by decide)
      refine ⟨fun c55 => ?_, fun c55 => ?_⟩
      · skip
        refine work_c hC B T ?_ (fun r56 σ_57 q58 => ?_)
        · clear h; rw [g53] at c55
          obtain ⟨v1, v2⟩ := q52.2.2.2 (le0 c55 q52.2.1)
          have ae : σ_51.1 10 = e1 := v2 e1 (by rw [a27, s27]; exact g1)
          rw [q54.1.1 10 (by decide), ae]
          exact ⟨m1_fr v1 (frG_oc q54.1 (by decide) (by decide) (by decide)) (q54.1.1 46 (by decide)) (q54.1.1 58 (by decide)) (q54.1.1 11 (by decide)) g53 (q54.1.1 13 (by decide)), Int32.le_trans x2 (Int32.le_trans g0 (Int32.le_of_lt g2)), Int32.le_trans g3 (Int32.le_of_lt g5), e2, by rw [f53.2.2.1 5 (by decide), f53.2.2.1 7 (by decide), f53.2.2.1 39 (by decide)]; exact g4⟩
        refine outcome_c hC  ?_ (fun σ_59 q60 => ?_)
        · clear h; rw [q58.1.1 63 (by decide), z53]; exact ⟨by decide, by decide⟩  -- p34
        refine hj228 _ ?_
        · clear h; have z59 : σ_59.1 63 = 2 := by rw [q60.2.1, q58.1.1 63 (by decide), z53]; rfl
          exact ⟨frG_tr f53 (frG_tr (frG_mono q58.1 (by decide) (by decide)) (frG_oc q60.1 (by decide) (by decide) (by decide))), by rw [z59]; decide, by rw [z59]; decide, Or.inl (by rw [z59]; decide)⟩
      · skip
        refine outcome_c hC  ?_ (fun σ_61 q62 => ?_)
        · clear h; rw [z53]; exact ⟨by decide, by decide⟩  -- p36
        refine hj228 _ ?_
        · clear h; have z61 : σ_61.1 63 = 2 := by rw [q62.2.1, z53]; rfl
          exact ⟨frG_tr f53 (frG_oc q62.1 (by decide) (by decide) (by decide)), by rw [z61]; decide, by rw [z61]; decide, Or.inl (by rw [z61]; decide)⟩
  · skip
    obtain ⟨e, g1, g2⟩ := hd.1 (w11.mp c34)
    refine work_c hC B T ?_ (fun r63 σ_64 q65 => ?_)
    · clear h; rw [a27, s27]; exact ⟨m27, x2, Int32.le_trans (ePa_ge g1) (Int32.le_of_lt g2), e, g1⟩  -- p38
    have f64 : frG dwF dwR σ σ_64 := frG_tr f27 (frG_mono q65.1 (by decide) (by decide))
    refine ⟨fun c66 => ?_, fun c66 => ?_⟩
    · skip
      refine hj65 _ ?_
      · clear h; exact f64  -- k39
    · skip
      refine ⟨fun c67 => ?_, fun c67 => ?_⟩
      · skip
        refine hj65 _ ?_
        · clear h; exact f64  -- k40
      · skip
        refine ⟨fun c68 => ?_, fun c68 => ?_⟩
        · skip
          unfold w_draw_88
          refine ⟨fun n l4 l5 τ => n = (l4 - l5).toNatClampNeg ∧ (frG dwF dwR σ τ ∧ 1 ≤ l4 ∧ l4 ≤ 64 ∧ τ.1 63 = l5 ∧ 0 ≤ l5 ∧ l5 ≤ l4 ∧ ∀ i, i < l5.toNatClampNeg → τ.2.2.1 65 i = 1), ⟨_, rfl, ?_⟩, ?_⟩
          · clear h; exact ⟨f64, (n1 c67).1, c68, by rw [q65.1.1 63 (by decide)]; exact z27, by decide, (n1 c67).2, fun i i1 => absurd i1 (Nat.not_lt_zero i)⟩  -- j41
          rintro n88 x88_4 x88_5 σ88 ⟨hn88, i88⟩
          refine ⟨fun c69 => ?_, fun c69 => ?_⟩
          · skip
            refine hj228 _ ?_
            · clear h; obtain ⟨y1, y2, y3, y4, y5, y6, y7⟩ := i88
              have e : x88_5 = x88_4 := Int32.le_antisymm y6 c69
              exact ⟨y1, by rw [y4]; exact y5, by rw [y4, e]; exact y3, Or.inr (by rw [y4]; exact y7)⟩
          · skip
            obtain ⟨y1, y2, y3, y4, y5, y6, y7⟩ := i88
            have u := up_n y5 c69 y3
            refine outcome_c hC  ?_ (fun σ_70 q71 => ?_)
            · clear h; rw [y4]; exact ⟨y5, u.2.2.2.2.2⟩  -- p43
            intro x72 hx72
            refine ⟨_, cn_lt2 hn88 ?_ ?_, rfl, ?_⟩
            · clear h; rw [hx72]; exact u.1  -- d44
            · clear h; rw [hx72]; exact u.2.1  -- d45
            · clear h; rw [hx72]
              exact ⟨frG_tr y1 (frG_oc q71.1 (by decide) (by decide) (by decide)), y2, y3, by rw [q71.2.1, y4], u.2.2.1, u.2.2.2.1, fun i i1 => oc_ones y5 (Int32.lt_trans u.2.2.2.2.2 (by decide)) y4 q71.2.2.1 q71.2.2.2 y7 i i1⟩
        · skip
          refine hj65 _ ?_
          · clear h; exact f64  -- k47

end
section
set_option maxHeartbeats 1600000
/-! the reference: a step of a program that runs -/
/-- how a step came out: moved, ended, failed, cut, drawing, choosing -/
def acQ (v : Int32) (σ : rS) : Prop := (v = 0 ∧ csF σ) ∨ v = 1 ∨ v = 2 ∨ v = 3 ∨ (v = 4 ∧ csF σ ∧ plV (σ.1 67) ∧ oW σ) ∨ (v = 5 ∧ csF σ ∧ plV (σ.1 67) ∧ 1 ≤ σ.1 63 ∧ σ.1 63 ≤ 8 ∧ ∀ i, i < (σ.1 63).toNatClampNeg → σ.2.2.1 65 i = 1)
theorem ac_mv {v : Int32} {σ : rS} (h : (v = 0 ∧ csF σ) ∨ v = 1) : acQ v σ := by
  rcases h with h | h
  · exact Or.inl h
  · exact Or.inr (Or.inl h)
theorem st_x {S N R : Nat → Int32} {B T k b x : Int32} (h : stK S N R B T k b x) (h3 : ¬ k = 3) (h4 : ¬ k = 4) (h5 : ¬ k = 5) : xO S N R B T x := by
  rcases h with ⟨-, -, -, -, -, -, q⟩ | ⟨-, -, q⟩ | ⟨q, -⟩ | ⟨q, -⟩ | ⟨q, -⟩ | ⟨-, q⟩
  · exact q
  · exact q
  · exact absurd q h3
  · exact absurd q h4
  · exact absurd q h5
  · exact q
theorem lk_b {σ : rS} {B T s : Int32} {k : Nat} (h : rI σ B T) (s0 : 0 ≤ s) (s1 : s < σ.1 19) (hk : k = 33 ∨ k = 34) (hn : rd σ k s ≠ -1) : 0 ≤ rd σ k s ∧ rd σ k s < σ.1 19 := by
  have l := (h.2.2.2.2.2.2.1 s s0 s1).2.2
  have t := h.1.2.2.2.1
  rcases hk with rfl | rfl
  · exact ⟨m1_0 (t.2.1 _).1 hn, l.1⟩
  · exact ⟨m1_0 (t.2.2.1 _).1 hn, l.2.1⟩
/-- where an expression of the step stands ready -/
def acI (σ τ : rS) (B T s k : Int32) : Prop := frG rnF rnR σ τ ∧ m1 τ B T ∧ csF τ ∧ s = rd τ 59 (τ.1 58 - 1) ∧ k = rd τ 30 s ∧ ¬ k = 5 ∧ (¬ 4 < k → plV (τ.1 67))
theorem st_12 {S N R : Nat → Int32} {B T k b x : Int32} (h : stK S N R B T k b x) (h3 : ¬ k = 3) (h4 : ¬ k = 4) (h5 : ¬ k = 5) (hk : k.toInt < 6 ∨ 10 < k.toInt) : ¬ 4 < k := by
  rcases h with ⟨q, -⟩ | ⟨q, -⟩ | ⟨q, -⟩ | ⟨q, -⟩ | ⟨q, -⟩ | ⟨q, -⟩
  · rw [q]; decide
  · rw [q]; decide
  · exact absurd q h3
  · exact absurd q h4
  · exact absurd q h5
  · rcases q with rfl | rfl | rfl | rfl | rfl <;> exact absurd hk (by decide)
theorem act_c {C : rCx} (hC : cOK C) (B T : Int32) {σ : rS}  {Q : Int32 → rS → Prop} (hp : rI σ B T ∧ csF σ) (h : ∀ (v : Int32) (σ' : rS), (frG rnF rnR σ σ' ∧ acQ v σ') → Q v σ') : cI C 9 m_act [.ref (co C)] σ Q := by
  refine m_act_run hC ?_
  unfold w_act_0
  obtain ⟨hI, hc⟩ := hp
  have hj81 : ∀ (l1 : Int32) (l2 : Int32) (τ : rS), (acI σ τ B T l1 l2) → w_act_81 C Q  l1 l2 τ := by
    rintro y81_1 y81_2 τ81 j81
    unfold w_act_81
    obtain ⟨y1, y2, y3, y4, y5, y6, y7⟩ := j81
    have s0 : 0 ≤ y81_1 := by rw [y4]; exact y3.2.2.1
    have s1 : y81_1 < τ81.1 19 := by rw [y4]; exact y3.2.2.2
    have bb : 0 ≤ y81_1 ∧ y81_1 < 150 := ⟨s0, s150 y2.1 s1⟩
    refine ⟨fun c1 => ?_, fun c1 => ?_⟩
    · skip
      refine ⟨fun c2 => ?_, fun c2 => ?_⟩
      · skip
        refine ⟨ib_150.mpr ?_, ?_⟩
        · clear h; exact bb  -- b1
        refine work_c hC B T ?_ (fun r3 σ_4 q5 => ?_)
        · clear h; exact ⟨y2, xO_w (st_x (m1_st y2 s0 s1) (by rw [← y5]; exact c1) (by rw [← y5]; exact c2) (by rw [← y5]; exact y6))⟩  -- p2
        have f4 : frG rnF rnR τ81 σ_4 := xR_n q5.1
        have F4 : frG rnF rnR σ σ_4 := frG_tr y1 f4
        have I4 : rI σ_4 B T := rI_fr y2.1 f4
        have c4 : csF σ_4 := csF_o y3 (q5.1.2.2.1 59 (by decide)) (q5.1.2.2.1 30 (by decide)) (q5.1.1 19 (by decide)) (q5.1.1 58 (by decide))
        have s4 : y81_1 < σ_4.1 19 := by rw [q5.1.1 19 (by decide)]; exact s1
        have mv : ∀ a : Int32, (a ≠ -1 → 0 ≤ a ∧ a < σ_4.1 19) → rI σ_4 B T ∧ 1 ≤ σ_4.1 58 ∧ σ_4.1 58 ≤ 12 ∧ csL σ_4 (σ_4.1 58 - 1) ∧ (a ≠ -1 → 0 ≤ a ∧ a < σ_4.1 19) := fun a ha => ⟨I4, c4.1.1, c4.1.2, c4.2.1, ha⟩
        have fin : ∀ (v : Int32) (υ : rS), frG [58, 61] [57, 59, 60] σ_4 υ ∧ ((v = 0 ∧ csF υ) ∨ v = 1) → frG rnF rnR σ υ ∧ acQ v υ := fun v υ q => ⟨frG_tr F4 (frG_mono q.1 (by decide) (by decide)), ac_mv q.2⟩
        refine ⟨fun c6 => ?_, fun c6 => ?_⟩
        · skip
          refine ⟨fun c7 => ?_, fun c7 => ?_, fun c7 => ?_, fun c7 => ?_, fun c7 => ?_, fun c7 => ?_⟩
          · skip
            refine store_c hC  ?_ (fun σ_8 q9 => ?_)
            · clear h; rw [q5.1.1 67 (by decide)]
              exact pl_st (y7 (by rw [y5]; exact st_12 (m1_st y2 s0 s1) (by rw [← y5]; exact c1) (by rw [← y5]; exact c2) (by rw [← y5]; exact y6) (by rw [← y5]; exact c7))) c4.1.1 c4.1.2
            refine ⟨ib_150.mpr ?_, ?_⟩
            · clear h; exact bb  -- b4
            have f8 : frG rnF rnR σ_4 σ_8 := frG_S q9 (by decide) (by decide)
            have I8 : rI σ_8 B T := rI_fr I4 f8
            have c8 : csF σ_8 := csF_o c4 (q9.2.2.1 59 (by decide) (by decide)) (q9.2.2.1 30 (by decide) (by decide)) (q9.1 19) (q9.1 58)
            refine moveTo_c hC B T ?_ (fun r10 σ_11 q12 => ?_)
            · clear h; exact ⟨I8, c8.1.1, c8.1.2, c8.2.1, fun z => fl_b I8 s0 (by rw [q9.1 19]; exact s4) z⟩  -- p5
            refine h _ _ ?_
            · clear h; exact ⟨frG_tr F4 (frG_tr f8 (frG_mono q12.1 (by decide) (by decide))), ac_mv q12.2⟩  -- q6
          · skip
            refine ⟨fun c13 => ?_, fun c13 => ?_⟩
            · skip
              refine ⟨ib_150.mpr ?_, ?_⟩
              · clear h; exact bb  -- b7
              refine ⟨fun c14 => ?_, fun c14 => ?_⟩
              · skip
                refine ⟨ib_150.mpr ?_, ?_⟩
                · clear h; exact bb  -- b8
                refine moveTo_c hC B T ?_ (fun r15 σ_16 q17 => ?_)
                · clear h; exact mv _ (fun z => fl_b I4 s0 s4 z)  -- p9
                refine h _ _ ?_
                · clear h; exact fin _ _ q17  -- q10
              · skip
                refine ⟨ib_150.mpr ?_, ?_⟩
                · clear h; exact bb  -- b11
                refine moveTo_c hC B T ?_ (fun r18 σ_19 q20 => ?_)
                · clear h; exact mv _ (fun z => lk_b I4 s0 s4 (Or.inr rfl) z)  -- p12
                refine h _ _ ?_
                · clear h; exact fin _ _ q20  -- q13
            · skip
              refine ⟨ib_150.mpr ?_, ?_⟩
              · clear h; exact bb  -- b14
              refine ⟨fun c21 => ?_, fun c21 => ?_⟩
              · skip
                refine ⟨ib_150.mpr ?_, ?_⟩
                · clear h; exact bb  -- b15
                refine moveTo_c hC B T ?_ (fun r22 σ_23 q24 => ?_)
                · clear h; exact mv _ (fun z => fl_b I4 s0 s4 z)  -- p16
                refine h _ _ ?_
                · clear h; exact fin _ _ q24  -- q17
              · skip
                refine ⟨ib_150.mpr ?_, ?_⟩
                · clear h; exact bb  -- b18
                refine moveTo_c hC B T ?_ (fun r25 σ_26 q27 => ?_)
                · clear h; exact mv _ (fun z => lk_b I4 s0 s4 (Or.inl rfl) z)  -- p19
                refine h _ _ ?_
                · clear h; exact fin _ _ q27  -- q20
          · skip
            refine ⟨fun c28 => ?_, fun c28 => ?_⟩
            · skip
              refine ⟨ib_150.mpr ?_, ?_⟩
              · clear h; exact bb  -- b21
              refine ⟨fun c29 => ?_, fun c29 => ?_⟩
              · skip
                refine moveTo_c hC B T ?_ (fun r30 σ_31 q32 => ?_)
                · clear h; exact mv _ (fun _ => ⟨s0, s4⟩)  -- p22
                refine h _ _ ?_
                · clear h; exact fin _ _ q32  -- q23
              · skip
                refine ⟨ib_150.mpr ?_, ?_⟩
                · clear h; exact bb  -- b24
                refine moveTo_c hC B T ?_ (fun r33 σ_34 q35 => ?_)
                · clear h; exact mv _ (fun z => lk_b I4 s0 s4 (Or.inl rfl) z)  -- p25
                refine h _ _ ?_
                · clear h; exact fin _ _ q35  -- q26
            · skip
              refine ⟨ib_150.mpr ?_, ?_⟩
              · clear h; exact bb  -- b27
              refine moveTo_c hC B T ?_ (fun r36 σ_37 q38 => ?_)
              · clear h; exact mv _ (fun z => fl_b I4 s0 s4 z)  -- p28
              refine h _ _ ?_
              · clear h; exact fin _ _ q38  -- q29
          · skip
            refine leave_c hC B T ?_ (fun r39 σ_40 q41 => ?_)
            · clear h; exact ⟨I4, c4.1.1, c4.1.2, c4.2.1⟩  -- p30
            refine h _ _ ?_
            · clear h; exact fin _ _ q41  -- q31
          · skip
            refine ⟨fun c42 => ?_, fun c42 => ?_⟩
            · skip
              refine ⟨ib_150.mpr ?_, ?_⟩
              · clear h; exact bb  -- b32
              refine moveTo_c hC B T ?_ (fun r43 σ_44 q45 => ?_)
              · clear h; exact mv _ (fun z => fl_b I4 s0 s4 z)  -- p33
              refine h _ _ ?_
              · clear h; exact fin _ _ q45  -- q34
            · skip
              refine h _ _ ?_
              · clear h; exact ⟨F4, Or.inr (Or.inr (Or.inr (Or.inl rfl)))⟩  -- q35
          · skip
            intro σ_46 hσ_46
            refine ⟨ib_150.mpr ?_, ?_⟩
            · clear h; exact bb  -- b36
            have f46 : frG rnF rnR σ_4 σ_46 := by rw [hσ_46]; exact frG_0 (by decide)
            have I46 : rI σ_46 B T := rI_fr I4 f46
            have e46 : ∀ k, k ≠ 62 → σ_46.1 k = σ_4.1 k := fun k hk => by rw [hσ_46, si1, if_neg hk]
            have c46 : csF σ_46 := csF_o c4 (by rw [hσ_46, si2]) (by rw [hσ_46, si2]) (e46 19 (by decide)) (e46 58 (by decide))
            refine moveTo_c hC B T ?_ (fun r47 σ_48 q49 => ?_)
            · clear h; exact ⟨I46, c46.1.1, c46.1.2, c46.2.1, fun z => fl_b I46 s0 (by rw [e46 19 (by decide)]; exact s4) z⟩  -- p37
            refine h _ _ ?_
            · clear h; exact ⟨frG_tr F4 (frG_tr f46 (frG_mono q49.1 (by decide) (by decide))), ac_mv q49.2⟩  -- q38
        · skip
          refine fail_c hC  (fun r50 σ_51 q52 => ?_)
          refine h _ _ ?_
          · clear h; exact ⟨frG_tr F4 (frG_61 q52.1 (by decide)), Or.inr (Or.inr (Or.inl q52.2))⟩  -- q39
      · skip
        refine choose_c hC B T ?_ (fun r53 σ_54 q55 => ?_)
        · clear h; exact ⟨y2, s0, s1, by rw [← y5]; exact c2⟩  -- p40
        refine h _ _ ?_
        · clear h; refine ⟨frG_tr y1 (frG_mono q55.1 (by decide) (by decide)), ?_⟩
          rcases q55.2 with z | ⟨z, z1, z2, z3⟩
          · exact Or.inr (Or.inr (Or.inl z))
          · exact Or.inr (Or.inr (Or.inr (Or.inr (Or.inr ⟨z, csF_o y3 (q55.1.2.2.1 59 (by decide)) (q55.1.2.2.1 30 (by decide)) (q55.1.1 19 (by decide)) (q55.1.1 58 (by decide)), by rw [q55.1.1 67 (by decide)]; exact y7 (by rw [c2]; decide), z1, z2, z3⟩))))
    · skip
      refine draw_c hC B T ?_ (fun r56 σ_57 q58 => ?_)
      · clear h; exact ⟨y2, s0, s1, by rw [← y5]; exact c1⟩  -- p42
      refine h _ _ ?_
      · clear h; refine ⟨frG_tr y1 (frG_mono q58.1 (by decide) (by decide)), ?_⟩
        rcases q58.2 with z | ⟨z, z1⟩
        · exact Or.inr (Or.inr (Or.inl z))
        · exact Or.inr (Or.inr (Or.inr (Or.inr (Or.inl ⟨z, csF_o y3 (q58.1.2.2.1 59 (by decide)) (q58.1.2.2.1 30 (by decide)) (q58.1.1 19 (by decide)) (q58.1.1 58 (by decide)), by rw [q58.1.1 67 (by decide)]; exact y7 (by rw [c1]; decide), z1⟩))))
  refine ⟨ib_12.mpr ?_, ?_⟩
  · clear h; exact c_m1 hc.1.1 hc.1.2  -- b44
  intro x59 hx59
  intro σ_60 hσ_60
  intro σ_61 hσ_61
  intro σ_62 hσ_62
  intro σ_63 hσ_63
  intro σ_64 hσ_64
  have s64 : σ_64.2 = σ.2 := by rw [hσ_64, si2, hσ_63, si2, hσ_62, si2, hσ_61, si2, hσ_60, si2]
  have e64 : ∀ k, k ≠ 11 → k ≠ 13 → k ≠ 47 → k ≠ 46 → k ≠ 62 → σ_64.1 k = σ.1 k := fun k z1 z2 z3 z4 z5 => by rw [hσ_64, si1, if_neg z5, hσ_63, si1, if_neg z4, hσ_62, si1, if_neg z3, hσ_61, si1, if_neg z2, hσ_60, si1, if_neg z1]
  have f64 : frG rnF rnR σ σ_64 := ⟨fun k z => e64 k (fun e => z (by rw [e]; decide)) (fun e => z (by rw [e]; decide)) (fun e => z (by rw [e]; decide)) (fun e => z (by rw [e]; decide)) (fun e => z (by rw [e]; decide)), fun k => by rw [s64], fun k _ => by rw [s64], fun k j => by rw [s64]⟩
  have v11 : σ_64.1 11 = 0 := by rw [hσ_64, si1, if_neg (by decide), hσ_63, si1, if_neg (by decide), hσ_62, si1, if_neg (by decide), hσ_61, si1, if_neg (by decide), hσ_60, si1, if_pos rfl]
  have v13 : σ_64.1 13 = 0 := by rw [hσ_64, si1, if_neg (by decide), hσ_63, si1, if_neg (by decide), hσ_62, si1, if_neg (by decide), hσ_61, si1, if_pos rfl]
  have v47 : σ_64.1 47 = 0 := by rw [hσ_64, si1, if_neg (by decide), hσ_63, si1, if_neg (by decide), hσ_62, si1, if_pos rfl]
  have v46 : σ_64.1 46 = 1 := by rw [hσ_64, si1, if_neg (by decide), hσ_63, si1, if_pos rfl]
  have e58 := e64 58 (by decide) (by decide) (by decide) (by decide) (by decide)
  have e19 := e64 19 (by decide) (by decide) (by decide) (by decide) (by decide)
  have m64 : m1 σ_64 B T := ⟨rI_fr hI f64, v46, by rw [e58]; exact hc.1, v11, v47, v13⟩
  have c64 : csF σ_64 := csF_o hc (by rw [s64]) (by rw [s64]) e19 e58
  have x64 : x59 = rd σ_64 59 (σ_64.1 58 - 1) := by rw [hx59, rd, s64, e58]
  have s0 : 0 ≤ x59 := by rw [x64]; exact c64.2.2.1
  have s1 : x59 < σ_64.1 19 := by rw [x64]; exact c64.2.2.2
  refine ⟨ib_150.mpr ?_, ?_⟩
  · clear h; exact ⟨s0, s150 m64.1 s1⟩  -- b45
  intro x65 hx65
  refine ⟨fun c66 => ?_, fun c66 => ?_⟩
  · skip
    refine ⟨fun c67 => ?_, fun c67 => ?_⟩
    · skip
      refine hj81 _ _ _ ?_
      · clear h; exact ⟨f64, m64, c64, x64, hx65, c66, fun z => absurd c67 z⟩  -- k46
    · skip
      refine findPlace_c hC B T ?_ (fun σ_68 q69 => ?_)
      · clear h; exact ⟨m64, s0, s1, by rw [rd, ← hx65]; exact c66, by rw [rd, ← hx65]; exact c67⟩  -- p47
      refine ⟨fun c70 => ?_, fun c70 => ?_⟩
      · skip
        refine hj81 _ _ _ ?_
        · clear h; obtain ⟨w1, w2⟩ := q69.2.2 (le0 c70 q69.2.1)
          exact ⟨frG_tr f64 (frG_mono q69.1 (by decide) (by decide)), w1, csF_o c64 (q69.1.2.2.1 59 (by decide)) (q69.1.2.2.1 30 (by decide)) (q69.1.1 19 (by decide)) (q69.1.1 58 (by decide)), by rw [rd, q69.1.2.2.1 59 (by decide), q69.1.1 58 (by decide)]; exact x64, by rw [rd, q69.1.2.2.1 30 (by decide)]; exact hx65, c66, fun _ => w2⟩
      · skip
        refine fail_c hC  (fun r71 σ_72 q73 => ?_)
        refine h _ _ ?_
        · clear h; exact ⟨frG_tr f64 (frG_tr (frG_mono q69.1 (by decide) (by decide)) (frG_61 q73.1 (by decide))), Or.inr (Or.inr (Or.inl q73.2))⟩  -- q49
  · skip
    refine call_c hC B T ?_ (fun r74 σ_75 q76 => ?_)
    · clear h; exact ⟨m64, c64, x64, by rw [rd, ← hx65]; exact c66⟩  -- p50
    refine h _ _ ?_
    · clear h; refine ⟨frG_tr f64 (frG_mono q76.1 (by decide) (by decide)), ?_⟩
      rcases q76.2 with z | z | z
      · exact Or.inl z
      · exact Or.inr (Or.inl z)
      · exact Or.inr (Or.inr (Or.inl z))

end
section
set_option maxHeartbeats 1600000
/-! the reference: states kept as rows -/
theorem ix9 {a k : Int32} (a0 : 0 ≤ a) (a1 : a < 12) (k0 : 0 ≤ k) (k1 : k < 8) : (0 ≤ 8 * a + k ∧ 8 * a + k < 96) ∧ (0 ≤ 36 + 9 * a + k ∧ 36 + 9 * a + k < 143) ∧ (0 ≤ 35 + 9 * a ∧ 35 + 9 * a < 143) := by grind
theorem ix9n {a k c : Int32} (a0 : 0 ≤ a) (a1 : a < 12) (k0 : 0 ≤ k) (k1 : k < 8) (c0 : 0 ≤ c) (c1 : c < 12) : 36 + 9 * a + k ≠ 35 + 9 * c := by grind
theorem ix9m {a c : Int32} (a0 : 0 ≤ a) (a1 : a < 12) (c0 : 0 ≤ c) (c1 : c < a) : 35 + 9 * c < 35 + 9 * a ∧ 0 ≤ 35 + 9 * c := by grind
theorem ix0 {a k : Int32} (a0 : 0 ≤ a) (a1 : a < 12) (k0 : 0 ≤ k) (k1 : k < 8) : 0 < 36 + 9 * a + k ∧ 0 < 35 + 9 * a := by grind
theorem cn_d {x y : Int32} (hx : 0 ≤ x) (hy : 0 ≤ y) (h : x ≠ y) : x.toNatClampNeg ≠ y.toNatClampNeg := fun e => h (cn_inj hx hy e)
/-- the first n calls of the state stand in the key -/
def kyN (σ : rS) (n : Int32) : Prop := rd σ 84 0 = σ.1 58 ∧ ∀ c : Int32, 0 ≤ c → c < n → rd σ 84 (35 + 9 * c) = rd σ 59 c
theorem ky_w {σ : rS} {n i x : Int32} (h : kyN σ n) (i0 : 0 < i) (hn : n ≤ 12) (hi : ∀ c : Int32, 0 ≤ c → c < n → i ≠ 35 + 9 * c) : kyN (riU σ 84 i.toNatClampNeg x) n := by
  refine ⟨?_, fun c c0 c1 => ?_⟩
  · rw [rd, ri4, if_neg (cn_ne (Int32.le_refl 0) i0), ri1]; exact h.1
  · have b := (ix9 c0 (Int32.lt_of_lt_of_le c1 hn) (Int32.le_refl 0) (by decide)).2.2.1
    rw [rd, ri4, if_neg (cn_d b (Int32.le_of_lt i0) (fun e => hi c c0 c1 e.symm)), rd, ri3 (by decide)]
    exact h.2 c c0 c1
theorem ky_s {σ : rS} {n : Int32} (h : kyN σ n) (n0 : 0 ≤ n) (n1 : n < 12) : kyN (riU σ 84 (35 + 9 * n).toNatClampNeg (σ.2.2.1 59 n.toNatClampNeg)) (n + 1) := by
  have b := ix9 n0 n1 (Int32.le_refl 0) (by decide)
  refine ⟨?_, fun c c0 c1 => ?_⟩
  · rw [rd, ri4, if_neg (cn_ne (Int32.le_refl 0) (ix0 n0 n1 (Int32.le_refl 0) (by decide)).2), ri1]; exact h.1
  · rcases s_lt1 n0 (Int32.lt_trans n1 (by decide)) c1 with e | e
    · rw [e, rd, ri4, if_pos rfl, rd, ri3 (by decide)]
    · have m := ix9m n0 n1 c0 e
      rw [rd, ri4, if_neg (cn_ne m.2 m.1), rd, ri3 (by decide)]
      exact h.2 c c0 e
theorem u143 {x : Int32} (h0 : 0 ≤ x) (h : ¬ 143 ≤ x) : 0 ≤ 143 - (x + 1) ∧ 143 - (x + 1) < 143 - x ∧ 0 ≤ x + 1 ∧ x + 1 ≤ 143 ∧ x < 143 := by grind
theorem u34 {x : Int32} (h0 : 0 ≤ x) (h : ¬ 34 ≤ x) : 0 < 1 + x ∧ 1 + x < 143 ∧ 0 ≤ 1 + x := by grind
theorem u12 {x n : Int32} (h0 : 0 ≤ x) (h : ¬ n ≤ x) (hn : n ≤ 12) : 0 ≤ n - (x + 1) ∧ n - (x + 1) < n - x ∧ 0 ≤ x + 1 ∧ x + 1 ≤ n ∧ x < 12 := by grind
theorem pack_c {C : rCx} (hC : cOK C)  {σ : rS}  {Q : Int32 → rS → Prop} (hp : 0 ≤ σ.1 58 ∧ σ.1 58 ≤ 12) (h : ∀ (v : Int32) (σ' : rS), (frG [] [84] σ σ' ∧ kyN σ' (σ.1 58)) → Q v σ') : cI C 0 m_pack [.ref (co C)] σ Q := by
  refine m_pack_run hC ?_
  unfold w_pack_0
  unfold w_pack_2
  refine ⟨fun n l1 τ => n = (143 - l1).toNatClampNeg ∧ (frG [] [84] σ τ ∧ 0 ≤ l1 ∧ l1 ≤ 143), ⟨_, rfl, ?_⟩, ?_⟩
  · clear h; exact ⟨frG_refl, by decide, by decide⟩  -- j1
  rintro n2 x2_1 σ2 ⟨hn2, i2⟩
  refine ⟨fun c1 => ?_, fun c1 => ?_⟩
  · skip
    refine ⟨ib_143.mpr ?_, ?_⟩
    · clear h; exact ⟨by decide, by decide⟩  -- b2
    intro σ_2 hσ_2
    unfold w_pack_34
    refine ⟨fun n l1 τ => n = (34 - l1).toNatClampNeg ∧ (frG [] [84] σ τ ∧ 0 ≤ l1 ∧ l1 ≤ 34 ∧ kyN τ 0), ⟨_, rfl, ?_⟩, ?_⟩
    · clear h; exact ⟨frG_tr i2.1 (by rw [hσ_2]; exact frG_1 (by decide)), by decide, by decide, by rw [rd, hσ_2, ri4, if_pos rfl, ri1], fun c c0 c1 => absurd c1 (Int32.not_lt.mpr c0)⟩  -- j3
    rintro n34 x34_1 σ34 ⟨hn34, i34⟩
    refine ⟨fun c3 => ?_, fun c3 => ?_⟩
    · skip
      unfold w_pack_62
      refine ⟨fun n l1 τ => n = (σ.1 58 - l1).toNatClampNeg ∧ (frG [] [84] σ τ ∧ 0 ≤ l1 ∧ l1 ≤ σ.1 58 ∧ kyN τ l1), ⟨_, rfl, ?_⟩, ?_⟩
      · clear h; exact ⟨i34.1, by decide, hp.1, i34.2.2.2⟩  -- j4
      rintro n62 x62_1 σ62 ⟨hn62, i62⟩
      refine ⟨fun c4 => ?_, fun c4 => ?_⟩
      · skip
        unfold w_pack_137
        refine ⟨fun n l1 l2 τ => n = (143 - l2).toNatClampNeg ∧ (frG [] [84] σ τ ∧ 0 ≤ l2 ∧ l2 ≤ 143 ∧ kyN τ (σ.1 58)), ⟨_, rfl, ?_⟩, ?_⟩
        · clear h; refine ⟨i62.1, by decide, by decide, ?_⟩
          have e : x62_1 = σ.1 58 := Int32.le_antisymm i62.2.2.1 (by rw [← i62.1.1 58 (by decide)]; exact c4)
          rw [← e]; exact i62.2.2.2
        rintro n137 x137_1 x137_2 σ137 ⟨hn137, i137⟩
        refine ⟨fun c5 => ?_, fun c5 => ?_⟩
        · skip
          refine h _ _ ?_
          · clear h; exact ⟨i137.1, i137.2.2.2⟩  -- q6
        · skip
          refine ⟨ib_143.mpr ?_, ?_⟩
          · clear h; exact ⟨i137.2.1, (u143 i137.2.1 c5).2.2.2.2⟩  -- b7
          intro x6 hx6
          intro x7 hx7
          refine ⟨_, cn_lt2 hn137 ?_ ?_, rfl, ?_⟩
          · clear h; rw [hx7]; exact (u143 i137.2.1 c5).1  -- d8
          · clear h; rw [hx7]; exact (u143 i137.2.1 c5).2.1  -- d9
          · clear h; rw [hx7]; exact ⟨i137.1, (u143 i137.2.1 c5).2.2.1, (u143 i137.2.1 c5).2.2.2.1, i137.2.2.2⟩  -- i10
      · skip
        have c4' : ¬ σ.1 58 ≤ x62_1 := by rw [← i62.1.1 58 (by decide)]; exact c4
        have w := u12 i62.2.1 c4' hp.2
        refine ⟨ib_12.mpr ?_, ?_⟩
        · clear h; exact ⟨i62.2.1, w.2.2.2.2⟩  -- b11
        refine ⟨ib_143.mpr ?_, ?_⟩
        · clear h; exact (ix9 i62.2.1 w.2.2.2.2 (Int32.le_refl 0) (by decide)).2.2  -- b12
        intro σ_8 hσ_8
        unfold w_pack_90
        refine ⟨fun n l1 l2 τ => n = (8 - l2).toNatClampNeg ∧ (frG [] [84] σ τ ∧ l1 = x62_1 ∧ ¬ σ.1 58 ≤ x62_1 ∧ 0 ≤ l2 ∧ l2 ≤ 8 ∧ kyN τ (x62_1 + 1)), ⟨_, rfl, ?_⟩, ?_⟩
        · clear h; exact ⟨frG_tr i62.1 (by rw [hσ_8]; exact frG_1 (by decide)), rfl, c4', by decide, by decide, by rw [hσ_8]; exact ky_s i62.2.2.2 i62.2.1 w.2.2.2.2⟩  -- j13
        rintro n90 x90_1 x90_2 σ90 ⟨hn90, i90⟩
        refine ⟨fun c9 => ?_, fun c9 => ?_⟩
        · skip
          intro x10 hx10
          refine ⟨_, cn_lt2 hn62 ?_ ?_, rfl, ?_⟩
          · clear h; rw [hx10, i90.2.1]; exact w.1  -- d14
          · clear h; rw [hx10, i90.2.1]; exact w.2.1  -- d15
          · clear h; rw [hx10, i90.2.1]; exact ⟨i90.1, w.2.2.1, w.2.2.2.1, i90.2.2.2.2.2⟩  -- i16
        · skip
          have u := up8 i90.2.2.2.1 c9
          have z := ix9 i62.2.1 w.2.2.2.2 i90.2.2.2.1 u.2.2.2.2.1
          refine ⟨ib_96.mpr ?_, ?_⟩
          · clear h; rw [i90.2.1]; exact z.1  -- b17
          refine ⟨ib_143.mpr ?_, ?_⟩
          · clear h; rw [i90.2.1]; exact z.2.1  -- b18
          intro σ_11 hσ_11
          intro x12 hx12
          refine ⟨_, cn_lt2 hn90 ?_ ?_, rfl, ?_⟩
          · clear h; rw [hx12]; exact u.1  -- d19
          · clear h; rw [hx12]; exact u.2.1  -- d20
          · clear h; rw [hx12]
            refine ⟨frG_tr i90.1 (by rw [hσ_11]; exact frG_1 (by decide)), i90.2.1, c4', u.2.2.1, u.2.2.2.1, ?_⟩
            rw [hσ_11, i90.2.1]
            exact ky_w i90.2.2.2.2.2 (ix0 i62.2.1 w.2.2.2.2 i90.2.2.2.1 u.2.2.2.2.1).1 (Int32.le_trans w.2.2.2.1 hp.2) (fun c c0 c1 => ix9n i62.2.1 w.2.2.2.2 i90.2.2.2.1 u.2.2.2.2.1 c0 (Int32.lt_of_lt_of_le c1 (Int32.le_trans w.2.2.2.1 hp.2)))
    · skip
      have u := up34 i34.2.1 c3
      have z := u34 i34.2.1 c3
      refine ⟨ib_34.mpr ?_, ?_⟩
      · clear h; exact ⟨i34.2.1, u.2.2.2.2⟩  -- b22
      refine ⟨ib_143.mpr ?_, ?_⟩
      · clear h; exact ⟨z.2.2, z.2.1⟩  -- b23
      intro σ_13 hσ_13
      intro x14 hx14
      refine ⟨_, cn_lt2 hn34 ?_ ?_, rfl, ?_⟩
      · clear h; rw [hx14]; exact u.1  -- d24
      · clear h; rw [hx14]; exact u.2.1  -- d25
      · clear h; rw [hx14]
        exact ⟨frG_tr i34.1 (by rw [hσ_13]; exact frG_1 (by decide)), u.2.2.1, u.2.2.2.1, by rw [hσ_13]; exact ky_w i34.2.2.2 z.1 (by decide) (fun c c0 c1 => absurd c1 (Int32.not_lt.mpr c0))⟩
  · skip
    have u := u143 i2.2.1 c1
    refine ⟨ib_143.mpr ?_, ?_⟩
    · clear h; exact ⟨i2.2.1, u.2.2.2.2⟩  -- b27
    intro σ_15 hσ_15
    intro x16 hx16
    refine ⟨_, cn_lt2 hn2 ?_ ?_, rfl, ?_⟩
    · clear h; rw [hx16]; exact u.1  -- d28
    · clear h; rw [hx16]; exact u.2.1  -- d29
    · clear h; rw [hx16]; exact ⟨frG_tr i2.1 (by rw [hσ_15]; exact frG_1 (by decide)), u.2.2.1, u.2.2.2.1⟩  -- i30

/-- a state's row in order -/
def rowOK (σ : rS) (k : Int32) : Prop := 1 ≤ rd σ 73 (143 * k) ∧ rd σ 73 (143 * k) ≤ 12 ∧ (∀ c : Int32, 0 ≤ c → c < rd σ 73 (143 * k) → 0 ≤ rd σ 73 (143 * k + 35 + 9 * c) ∧ rd σ 73 (143 * k + 35 + 9 * c) < σ.1 19) ∧ (∀ c : Int32, 0 ≤ c → c < rd σ 73 (143 * k) - 1 → rd σ 30 (rd σ 73 (143 * k + 35 + 9 * c)) = 5)
theorem xr {k i : Int32} (k0 : 0 ≤ k) (k1 : k < 1000) (i0 : 0 ≤ i) (i1 : i < 143) : (0 ≤ 143 * k + i ∧ 143 * k + i < 143000) ∧ 0 ≤ 143 * k ∧ 143 * k < 143000 := by grind
theorem xr1 {k i : Int32} (k0 : 0 ≤ k) (k1 : k < 1000) (i0 : 0 ≤ i) (i1 : i < 34) : 0 ≤ 143 * k + 1 + i ∧ 143 * k + 1 + i < 143000 := by grind
theorem xr9 {k a i : Int32} (k0 : 0 ≤ k) (k1 : k < 1000) (a0 : 0 ≤ a) (a1 : a < 12) (i0 : 0 ≤ i) (i1 : i < 8) : (0 ≤ 143 * k + 36 + 9 * a + i ∧ 143 * k + 36 + 9 * a + i < 143000) ∧ (0 ≤ 143 * k + 35 + 9 * a ∧ 143 * k + 35 + 9 * a < 143000) := by grind
/-- the first n calls are those of a state's row -/
def upN (σ : rS) (k n : Int32) : Prop := σ.1 58 = rd σ 73 (143 * k) ∧ ∀ c : Int32, 0 ≤ c → c < n → rd σ 59 c = rd σ 73 (143 * k + 35 + 9 * c)
theorem up_o {σ τ : rS} {k n : Int32} (h : upN σ k n) (h58 : τ.1 58 = σ.1 58) (h73 : τ.2.2.1 73 = σ.2.2.1 73) (h59 : τ.2.2.1 59 = σ.2.2.1 59) : upN τ k n := by
  unfold upN
  simp only [rd]
  rw [h58, h73, h59]; exact h
theorem up_s {σ : rS} {k n : Int32} (h : upN σ k n) (n0 : 0 ≤ n) (n1 : n < 12) : upN (riU σ 59 n.toNatClampNeg (σ.2.2.1 73 (143 * k + 35 + 9 * n).toNatClampNeg)) k (n + 1) := by
  refine ⟨by rw [ri1, rd, ri3 (by decide)]; exact h.1, fun c c0 c1 => ?_⟩
  rcases s_lt1 n0 (Int32.lt_trans n1 (by decide)) c1 with e | e
  · rw [e, rd, ri4, if_pos rfl, rd, ri3 (by decide)]
  · rw [rd, ri4, if_neg (cn_ne c0 e), rd, ri3 (by decide)]
    exact h.2 c c0 e
theorem c_pr {c x : Int32} (h1 : 1 ≤ x) (h2 : x ≤ 12) (h : c < x - 1) : c < x := by grind
theorem up_F {σ : rS} {k : Int32} (h : upN σ k (σ.1 58)) (r : rowOK σ k) : csF σ := by
  obtain ⟨r1, r2, r3, r4⟩ := r
  have e := h.1
  rw [← e] at r1 r2 r3 r4
  have m := c_m1 r1 r2
  have mm : σ.1 58 - 1 < σ.1 58 := by clear r3 r4 h e; grind
  refine ⟨⟨r1, r2⟩, fun c c0 c1 => ?_, ?_, ?_⟩
  · have c2 := c_pr r1 r2 c1
    rw [h.2 c c0 c2]
    exact ⟨(r3 c c0 c2).1, (r3 c c0 c2).2, r4 c c0 c1⟩
  · rw [h.2 _ m.1 mm]; exact (r3 _ m.1 mm).1
  · rw [h.2 _ m.1 mm]; exact (r3 _ m.1 mm).2
theorem row_o {σ τ : rS} {k : Int32} (h : rowOK σ k) (h73 : τ.2.2.1 73 = σ.2.2.1 73) (h30 : τ.2.2.1 30 = σ.2.2.1 30) (h19 : τ.1 19 = σ.1 19) : rowOK τ k := by
  unfold rowOK
  simp only [rd]
  rw [h73, h30, h19]; exact h
theorem unpack_c {C : rCx} (hC : cOK C)  {σ : rS} {a1 : Int32} {Q : rS → Prop} (hp : 0 ≤ a1 ∧ a1 < 1000 ∧ rowOK σ a1) (h : ∀ (σ' : rS), (frG [58] [57, 59, 60] σ σ' ∧ csF σ') → Q σ') : cV C 0 m_unpack [.ref (co C), .int a1] σ Q := by
  refine m_unpack_run hC ?_
  unfold w_unpack_0
  obtain ⟨h0, h1, hr⟩ := hp
  intro x1 hx1
  refine ⟨ib_143000.mpr ?_, ?_⟩
  · clear h; rw [hx1]; exact (xr h0 h1 (Int32.le_refl 0) (by decide)).2  -- b1
  intro σ_2 hσ_2
  unfold w_unpack_18
  refine ⟨fun n l2 l3 τ => n = (34 - l3).toNatClampNeg ∧ (frG [58] [57, 59, 60] σ τ ∧ l2 = 143 * a1 ∧ 0 ≤ l3 ∧ l3 ≤ 34 ∧ upN τ a1 0), ⟨_, rfl, ?_⟩, ?_⟩
  · clear h; exact ⟨by rw [hσ_2]; exact frG_0 (by decide), hx1, by decide, by decide, by rw [hσ_2, si1, if_pos rfl, rd, si2, hx1], fun c c0 c1 => absurd c1 (Int32.not_lt.mpr c0)⟩  -- j2
  rintro n18 x18_2 x18_3 σ18 ⟨hn18, i18⟩
  refine ⟨fun c3 => ?_, fun c3 => ?_⟩
  · skip
    unfold w_unpack_48
    refine ⟨fun n l2 l3 τ => n = (τ.1 58 - l3).toNatClampNeg ∧ (frG [58] [57, 59, 60] σ τ ∧ l2 = 143 * a1 ∧ 0 ≤ l3 ∧ l3 ≤ τ.1 58 ∧ upN τ a1 l3), ⟨_, rfl, ?_⟩, ?_⟩
    · clear h; have e : σ18.1 58 = rd σ 73 (143 * a1) := by rw [i18.2.2.2.2.1, rd, i18.1.2.2.1 73 (by decide)]
      exact ⟨i18.1, i18.2.1, by decide, by rw [e]; exact Int32.le_trans (by decide) hr.1, i18.2.2.2.2⟩
    rintro n48 x48_2 x48_3 σ48 ⟨hn48, i48⟩
    refine ⟨fun c4 => ?_, fun c4 => ?_⟩
    · skip
      refine h _ ?_
      · clear h; have e : x48_3 = σ48.1 58 := Int32.le_antisymm i48.2.2.2.1 c4
        have z := i48.2.2.2.2
        rw [e] at z
        exact ⟨i48.1, up_F z (row_o hr (i48.1.2.2.1 73 (by decide)) (i48.1.2.2.1 30 (by decide)) (i48.1.1 19 (by decide)))⟩
    · skip
      have e58 : σ48.1 58 ≤ 12 := by rw [i48.2.2.2.2.1, rd, i48.1.2.2.1 73 (by decide)]; exact hr.2.1
      have w := u12 i48.2.2.1 c4 e58
      refine ⟨ib_143000.mpr ?_, ?_⟩
      · clear h; rw [i48.2.1]; exact (xr9 h0 h1 i48.2.2.1 w.2.2.2.2 (Int32.le_refl 0) (by decide)).2  -- b5
      refine ⟨ib_12.mpr ?_, ?_⟩
      · clear h; exact ⟨i48.2.2.1, w.2.2.2.2⟩  -- b6
      intro σ_5 hσ_5
      unfold w_unpack_79
      refine ⟨fun n l2 l3 l4 τ => n = (8 - l4).toNatClampNeg ∧ (frG [58] [57, 59, 60] σ τ ∧ l2 = 143 * a1 ∧ l3 = x48_3 ∧ τ.1 58 = σ48.1 58 ∧ 0 ≤ l4 ∧ l4 ≤ 8 ∧ upN τ a1 (x48_3 + 1)), ⟨_, rfl, ?_⟩, ?_⟩
      · clear h; exact ⟨frG_tr i48.1 (by rw [hσ_5]; exact frG_1 (by decide)), i48.2.1, rfl, by rw [hσ_5, ri1], by decide, by decide, by rw [hσ_5, i48.2.1]; exact up_s i48.2.2.2.2 i48.2.2.1 w.2.2.2.2⟩  -- j7
      rintro n79 x79_2 x79_3 x79_4 σ79 ⟨hn79, i79⟩
      refine ⟨fun c6 => ?_, fun c6 => ?_⟩
      · skip
        intro x7 hx7
        refine ⟨_, cn_lt2 hn48 ?_ ?_, rfl, ?_⟩
        · clear h; rw [hx7, i79.2.2.1, i79.2.2.2.1]; exact w.1  -- d8
        · clear h; rw [hx7, i79.2.2.1, i79.2.2.2.1]; exact w.2.1  -- d9
        · clear h; rw [hx7, i79.2.2.1]; exact ⟨i79.1, i79.2.1, w.2.2.1, by rw [i79.2.2.2.1]; exact w.2.2.2.1, i79.2.2.2.2.2.2⟩  -- i10
      · skip
        have u := up8 i79.2.2.2.2.1 c6
        have z := xr9 h0 h1 i48.2.2.1 w.2.2.2.2 i79.2.2.2.2.1 u.2.2.2.2.1
        have z2 := ix9 i48.2.2.1 w.2.2.2.2 i79.2.2.2.2.1 u.2.2.2.2.1
        refine ⟨ib_143000.mpr ?_, ?_⟩
        · clear h; rw [i79.2.1, i79.2.2.1]; exact z.1  -- b11
        refine ⟨ib_96.mpr ?_, ?_⟩
        · clear h; rw [i79.2.2.1]; exact z2.1  -- b12
        intro σ_8 hσ_8
        intro x9 hx9
        refine ⟨_, cn_lt2 hn79 ?_ ?_, rfl, ?_⟩
        · clear h; rw [hx9]; exact u.1  -- d13
        · clear h; rw [hx9]; exact u.2.1  -- d14
        · clear h; rw [hx9]; exact ⟨frG_tr i79.1 (by rw [hσ_8]; exact frG_1 (by decide)), i79.2.1, i79.2.2.1, by rw [hσ_8, ri1]; exact i79.2.2.2.1, u.2.2.1, u.2.2.2.1, up_o i79.2.2.2.2.2.2 (by rw [hσ_8, ri1]) (by rw [hσ_8, ri3 (by decide)]) (by rw [hσ_8, ri3 (by decide)])⟩  -- i15
  · skip
    have u := up34 i18.2.2.1 c3
    refine ⟨ib_143000.mpr ?_, ?_⟩
    · clear h; rw [i18.2.1]; exact xr1 h0 h1 i18.2.2.1 u.2.2.2.2  -- b16
    refine ⟨ib_34.mpr ?_, ?_⟩
    · clear h; exact ⟨i18.2.2.1, u.2.2.2.2⟩  -- b17
    intro σ_10 hσ_10
    intro x11 hx11
    refine ⟨_, cn_lt2 hn18 ?_ ?_, rfl, ?_⟩
    · clear h; rw [hx11]; exact u.1  -- d18
    · clear h; rw [hx11]; exact u.2.1  -- d19
    · clear h; rw [hx11]; exact ⟨frG_tr i18.1 (by rw [hσ_10]; exact frG_1 (by decide)), i18.2.1, u.2.2.1, u.2.2.2.1, up_o i18.2.2.2.2 (by rw [hσ_10, ri1]) (by rw [hσ_10, ri3 (by decide)]) (by rw [hσ_10, ri3 (by decide)])⟩  -- i20

theorem isKey_c {C : rCx} (hC : cOK C)  {σ : rS} {a1 : Int32} {Q : Int32 → rS → Prop} (hp : 0 ≤ a1 ∧ a1 < 1000) (h : ∀ (v : Int32), (nb v) → Q v σ) : cI C 0 m_isKey [.ref (co C), .int a1] σ Q := by
  refine m_isKey_run hC ?_
  unfold w_isKey_0
  unfold w_isKey_4
  refine ⟨fun n l1 l2 l3 τ => n = (143 - l3).toNatClampNeg ∧ (σ = τ ∧ l1 = a1 ∧ nb l2 ∧ 0 ≤ l3 ∧ l3 ≤ 143), ⟨_, rfl, ?_⟩, ?_⟩
  · clear h; exact ⟨rfl, rfl, nb_1, by decide, by decide⟩  -- j1
  rintro n4 x4_1 x4_2 x4_3 _ ⟨hn4, rfl, i4⟩
  have hj41 : ∀ (l1 : Int32) (l3 : Int32) (s0 : Int32) (τ : rS), (σ = τ ∧ l1 = a1 ∧ l3 = x4_3 ∧ nb s0 ∧ ¬ 143 ≤ x4_3) → w_isKey_41 C Q (fun l1' l2' l3' τ => ∃ k < n4, (fun n l1 l2 l3 τ => n = (143 - l3).toNatClampNeg ∧ (σ = τ ∧ l1 = a1 ∧ nb l2 ∧ 0 ≤ l3 ∧ l3 ≤ 143)) k l1' l2' l3' τ) l1 l3 s0 τ := by
    rintro y41_1 y41_3 y41_s0 _ ⟨rfl, j41⟩
    unfold w_isKey_41
    intro x1 hx1
    have u := u143 i4.2.2.1 j41.2.2.2
    refine ⟨_, cn_lt2 hn4 ?_ ?_, rfl, ?_⟩
    · clear h; rw [hx1, j41.2.1]; exact u.1  -- d2
    · clear h; rw [hx1, j41.2.1]; exact u.2.1  -- d3
    · clear h; rw [hx1, j41.2.1]; exact ⟨rfl, j41.1, j41.2.2.1, u.2.2.1, u.2.2.2.1⟩  -- i4
  refine ⟨fun c2 => ?_, fun c2 => ?_⟩
  · skip
    refine ⟨?_, h _ ?_⟩
    · clear h; exact i4.2.1  -- b5
    · clear h; exact i4.2.1  -- q6
  · skip
    refine ⟨fun c3 => ?_, fun c3 => ?_⟩
    · skip
      refine ⟨?_, h _ ?_⟩
      · clear h; exact i4.2.1  -- b7
      · clear h; exact i4.2.1  -- q8
    · skip
      refine ⟨ib_143000.mpr ?_, ?_⟩
      · clear h; rw [i4.1]; exact (xr hp.1 hp.2 i4.2.2.1 (u143 i4.2.2.1 c2).2.2.2.2).1  -- b9
      refine ⟨ib_143.mpr ?_, ?_⟩
      · clear h; exact ⟨i4.2.2.1, (u143 i4.2.2.1 c2).2.2.2.2⟩  -- b10
      refine ⟨fun c4 => ?_, fun c4 => ?_⟩
      · skip
        refine hj41 _ _ _ _ ?_
        · clear h; exact ⟨rfl, i4.1, rfl, nb_0, c2⟩  -- k11
      · skip
        refine hj41 _ _ _ _ ?_
        · clear h; exact ⟨rfl, i4.1, rfl, nb_1, c2⟩  -- k12

theorem uk {x n : Int32} (h0 : 0 ≤ x) (h : ¬ n ≤ x) (hn : n ≤ 1000) : 0 ≤ n - (x + 1) ∧ n - (x + 1) < n - x ∧ 0 ≤ x + 1 ∧ x + 1 ≤ n ∧ x < n ∧ x < 1000 := by grind
theorem ky_o {σ τ : rS} {n : Int32} (h : kyN σ n) (h58 : τ.1 58 = σ.1 58) (h84 : τ.2.2.1 84 = σ.2.2.1 84) (h59 : τ.2.2.1 59 = σ.2.2.1 59) : kyN τ n := by
  unfold kyN
  simp only [rd]
  rw [h58, h84, h59]; exact h
theorem lt_85 {x m : Int32} (h0 : 0 ≤ x) (h1 : x ≤ m) (h2 : m ≤ 1000) (h : ¬ x = m) : x < 1000 ∧ x + 1 ≤ m ∧ 0 ≤ x + 1 ∧ x ≤ x + 1 ∧ x + 1 - 1 = x ∧ x < x + 1 := by grind
theorem xr_lt {k s j : Int32} (k0 : 0 ≤ k) (k1 : k < s) (s1 : s < 1000) (j0 : 0 ≤ j) (j1 : j < 143) : 143 * k + j < 143 * s ∧ 0 ≤ 143 * k + j := by grind
theorem ra {k c : Int32} : 143 * k + 35 + 9 * c = 143 * k + (35 + 9 * c) := by grind
theorem r0 {k : Int32} : 143 * k = 143 * k + 0 := by grind
theorem row_old {σ τ : rS} {k s : Int32} (h : rowOK σ k) (k0 : 0 ≤ k) (k1 : k < s) (s1 : s < 1000) (h30 : τ.2.2.1 30 = σ.2.2.1 30) (h19 : τ.1 19 = σ.1 19) (hr : ∀ j : Int32, 0 ≤ j → j < 143 * s → rd τ 73 j = rd σ 73 j) : rowOK τ k := by
  have e0 : rd τ 73 (143 * k) = rd σ 73 (143 * k) := by
    have z := xr_lt k0 k1 s1 (Int32.le_refl 0) (by decide)
    rw [← r0] at z
    exact hr _ z.2 z.1
  obtain ⟨a1, a2, a3, a4⟩ := h
  have ec : ∀ c : Int32, 0 ≤ c → c < rd σ 73 (143 * k) → rd τ 73 (143 * k + 35 + 9 * c) = rd σ 73 (143 * k + 35 + 9 * c) := fun c c0 c1 => by
    have b := (ix9 c0 (Int32.lt_of_lt_of_le c1 a2) (Int32.le_refl 0) (by decide)).2.2
    have z := xr_lt k0 k1 s1 b.1 b.2
    rw [ra]
    exact hr _ z.2 z.1
  unfold rowOK
  rw [e0, h19]
  refine ⟨a1, a2, fun c c0 c1 => by rw [ec c c0 c1]; exact a3 c c0 c1, fun c c0 c1 => ?_⟩
  rw [ec c c0 (c_pr a1 a2 c1), rd, h30]
  exact a4 c c0 c1
theorem row_new {σ τ : rS} {s : Int32} (hc : csF σ) (s0 : 0 ≤ s) (s1 : s < 1000) (hk : kyN τ (σ.1 58)) (hr : ∀ j : Int32, 0 ≤ j → j < 143 → rd τ 73 (143 * s + j) = rd τ 84 j) (h58 : τ.1 58 = σ.1 58) (h59 : τ.2.2.1 59 = σ.2.2.1 59) (h30 : τ.2.2.1 30 = σ.2.2.1 30) (h19 : τ.1 19 = σ.1 19) : rowOK τ s := by
  have e0 : rd τ 73 (143 * s) = σ.1 58 := by
    have z := hr 0 (Int32.le_refl 0) (by decide)
    rw [← r0] at z
    rw [z, hk.1, h58]
  have ec : ∀ c : Int32, 0 ≤ c → c < σ.1 58 → rd τ 73 (143 * s + 35 + 9 * c) = rd σ 59 c := fun c c0 c1 => by
    have b := (ix9 c0 (Int32.lt_of_lt_of_le c1 hc.1.2) (Int32.le_refl 0) (by decide)).2.2
    rw [ra, hr _ b.1 b.2, hk.2 c c0 c1, rd, h59]
  unfold rowOK
  rw [e0, h19]
  refine ⟨hc.1.1, hc.1.2, fun c c0 c1 => ?_, fun c c0 c1 => ?_⟩
  · rw [ec c c0 c1]
    rcases c_sp hc.1.1 hc.1.2 c1 with z | z
    · rw [z]; exact hc.2.2
    · exact ⟨(hc.2.1 c c0 z).1, (hc.2.1 c c0 z).2.1⟩
  · rw [ec c c0 (c_pr hc.1.1 hc.1.2 c1), rd, h30]
    exact (hc.2.1 c c0 c1).2.2
theorem xr_in {s l j : Int32} (s0 : 0 ≤ s) (s1 : s < 1000) (l0 : 0 ≤ l) (l1 : l < 143) (j0 : 0 ≤ j) (j1 : j < 143 * s) : j < 143 * s + l := by grind
theorem xr_jn {s l j : Int32} (s0 : 0 ≤ s) (s1 : s < 1000) (l1 : l < 143) (j0 : 0 ≤ j) (j1 : j < l) : 143 * s + j < 143 * s + l ∧ 0 ≤ 143 * s + j := by grind
theorem l1k {k s : Int32} (s0 : 0 ≤ s) (s1 : s < 1000) (h : k < s + 1) : k = s ∨ k < s := by grind
theorem l1s {j l : Int32} (l0 : 0 ≤ l) (l1 : l < 143) (h : j < l + 1) : j = l ∨ j < l := by grind

theorem stateNow_c {C : rCx} (hC : cOK C)  {σ : rS}  {Q : Int32 → rS → Prop} (hp : csF σ ∧ 0 ≤ σ.1 70 ∧ σ.1 70 ≤ 1000) (h : ∀ (v : Int32) (σ' : rS), (frG [] [84] σ σ' ∧ kyN σ' (σ.1 58) ∧ (v = -1 ∨ (0 ≤ v ∧ v < σ.1 70))) → Q v σ') : cI C 1 m_stateNow [.ref (co C)] σ Q := by
  refine m_stateNow_run hC ?_
  unfold w_stateNow_0
  obtain ⟨hc, h0, h1⟩ := hp
  refine pack_c hC  ?_ (fun r1 σ_2 q3 => ?_)
  · clear h; exact ⟨Int32.le_trans (by decide) hc.1.1, hc.1.2⟩  -- p1
  unfold w_stateNow_7
  refine ⟨fun n l1 l2 τ => n = (σ.1 70 - l2).toNatClampNeg ∧ (τ = σ_2 ∧ 0 ≤ l2 ∧ l2 ≤ σ.1 70), ⟨_, rfl, ?_⟩, ?_⟩
  · clear h; exact ⟨rfl, by decide, h0⟩  -- j2
  rintro n7 x7_1 x7_2 σ7 ⟨hn7, i7⟩
  refine ⟨fun c4 => ?_, fun c4 => ?_⟩
  · skip
    refine h _ _ ?_
    · clear h; rw [i7.1]; exact ⟨q3.1, q3.2, Or.inl rfl⟩  -- q3
  · skip
    have e70 : σ7.1 70 = σ.1 70 := by rw [i7.1]; exact q3.1.1 70 (by decide)
    have u := uk i7.2.1 (by rw [← e70]; exact c4) h1
    refine ⟨ib_1000.mpr ?_, ?_⟩
    · clear h; exact ⟨i7.2.1, u.2.2.2.2.2⟩  -- b4
    refine ⟨fun c5 => ?_, fun c5 => ?_⟩
    · skip
      intro x6 hx6
      refine ⟨_, cn_lt2 hn7 ?_ ?_, rfl, ?_⟩
      · clear h; rw [hx6]; exact u.1  -- d5
      · clear h; rw [hx6]; exact u.2.1  -- d6
      · clear h; rw [hx6]; exact ⟨i7.1, u.2.2.1, u.2.2.2.1⟩  -- i7
    · skip
      refine isKey_c hC  ?_ (fun r7 q9 => ?_)
      · clear h; exact ⟨i7.2.1, u.2.2.2.2.2⟩  -- p8
      refine ⟨fun c10 => ?_, fun c10 => ?_⟩
      · skip
        intro x11 hx11
        refine ⟨_, cn_lt2 hn7 ?_ ?_, rfl, ?_⟩
        · clear h; rw [hx11]; exact u.1  -- d9
        · clear h; rw [hx11]; exact u.2.1  -- d10
        · clear h; rw [hx11]; exact ⟨i7.1, u.2.2.1, u.2.2.2.1⟩  -- i11
      · skip
        refine h _ _ ?_
        · clear h; rw [i7.1]; exact ⟨q3.1, q3.2, Or.inr ⟨i7.2.1, u.2.2.2.2.1⟩⟩  -- q12

theorem stateNumber_c {C : rCx} (hC : cOK C)  {σ : rS}  {Q : Int32 → rS → Prop} (hp : csF σ ∧ 0 ≤ σ.1 70 ∧ σ.1 70 ≤ σ.1 85 ∧ σ.1 85 ≤ 1000) (h : ∀ (v : Int32) (σ' : rS), (frG [70] [73, 74, 84] σ σ' ∧ (0 ≤ σ'.1 70 ∧ σ.1 70 ≤ σ'.1 70 ∧ σ'.1 70 ≤ σ.1 85) ∧ (v = -1 ∨ (0 ≤ v ∧ v < σ'.1 70)) ∧ (∀ k : Int32, 0 ≤ k → k < σ.1 70 → rowOK σ k → rowOK σ' k) ∧ (∀ k : Int32, 0 ≤ k → σ.1 70 ≤ k → k < σ'.1 70 → rowOK σ' k)) → Q v σ') : cI C 2 m_stateNumber [.ref (co C)] σ Q := by
  refine m_stateNumber_run hC ?_
  unfold w_stateNumber_0
  obtain ⟨hc, h0, h1, h2⟩ := hp
  refine stateNow_c hC  ?_ (fun r1 σ_2 q3 => ?_)
  · clear h; exact ⟨hc, h0, Int32.le_trans h1 h2⟩  -- p1
  have e70 : σ_2.1 70 = σ.1 70 := q3.1.1 70 (by decide)
  have old : ∀ v : Int32, (v = -1 ∨ (0 ≤ v ∧ v < σ.1 70)) → frG [70] [73, 74, 84] σ σ_2 ∧ (0 ≤ σ_2.1 70 ∧ σ.1 70 ≤ σ_2.1 70 ∧ σ_2.1 70 ≤ σ.1 85) ∧ (v = -1 ∨ (0 ≤ v ∧ v < σ_2.1 70)) ∧ (∀ k : Int32, 0 ≤ k → k < σ.1 70 → rowOK σ k → rowOK σ_2 k) ∧ (∀ k : Int32, 0 ≤ k → σ.1 70 ≤ k → k < σ_2.1 70 → rowOK σ_2 k) := fun v hv => by
    rw [e70]
    exact ⟨frG_mono q3.1 (by decide) (by decide), ⟨h0, Int32.le_refl _, h1⟩, hv, fun k _ _ r => row_o r (q3.1.2.2.1 73 (by decide)) (q3.1.2.2.1 30 (by decide)) (q3.1.1 19 (by decide)), fun k _ k1 k2 => absurd k2 (Int32.not_lt.mpr k1)⟩
  refine ⟨fun c4 => ?_, fun c4 => ?_⟩
  · skip
    refine h _ _ ?_
    · clear h; exact old _ q3.2.2  -- q2
  · skip
    refine ⟨fun c5 => ?_, fun c5 => ?_⟩
    · skip
      refine pack_c hC  ?_ (fun r6 σ_7 q8 => ?_)
      · clear h; rw [q3.1.1 58 (by decide)]; exact ⟨Int32.le_trans (by decide) hc.1.1, hc.1.2⟩  -- p3
      have lt := lt_85 h0 h1 h2 (by rw [← e70, ← q3.1.1 85 (by decide)]; exact c5)
      refine ⟨ib_1000.mpr ?_, ?_⟩
      · clear h; rw [e70]; exact ⟨h0, lt.1⟩  -- b4
      intro σ_9 hσ_9
      unfold w_stateNumber_38
      refine ⟨fun n l2 τ => n = (143 - l2).toNatClampNeg ∧ (frG [] [73, 74, 84] σ τ ∧ 0 ≤ l2 ∧ l2 ≤ 143 ∧ kyN τ (σ.1 58) ∧ (∀ j : Int32, 0 ≤ j → j < 143 * σ.1 70 → rd τ 73 j = rd σ 73 j) ∧ (∀ j : Int32, 0 ≤ j → j < l2 → rd τ 73 (143 * σ.1 70 + j) = rd τ 84 j)), ⟨_, rfl, ?_⟩, ?_⟩
      · clear h; have f9 : frG [] [73, 74, 84] σ σ_9 := frG_tr (frG_mono q3.1 (by decide) (by decide)) (frG_tr (frG_mono q8.1 (by decide) (by decide)) (by rw [hσ_9]; exact frG_1 (by decide)))
        have k7 := q8.2
        rw [q3.1.1 58 (by decide)] at k7
        have r73 : σ_9.2.2.1 73 = σ.2.2.1 73 := by rw [hσ_9, ri3 (by decide), q8.1.2.2.1 73 (by decide), q3.1.2.2.1 73 (by decide)]
        exact ⟨f9, by decide, by decide, ky_o k7 (by rw [hσ_9, ri1]) (by rw [hσ_9, ri3 (by decide)]) (by rw [hσ_9, ri3 (by decide)]), fun j _ _ => by rw [rd, r73], fun j j0 j1 => absurd j1 (Int32.not_lt.mpr j0)⟩
      rintro n38 x38_2 σ38 ⟨hn38, i38⟩
      refine ⟨fun c10 => ?_, fun c10 => ?_⟩
      · skip
        intro σ_11 hσ_11
        refine h _ _ ?_
        · clear h; obtain ⟨y1, y2, y3, y4, y5, y6⟩ := i38
          have e : x38_2 = 143 := Int32.le_antisymm y3 c10
          have s11 : σ_11.2 = σ38.2 := by rw [hσ_11, si2]
          have e11 : ∀ k, k ≠ 70 → σ_11.1 k = σ.1 k := fun k hk => by rw [hσ_11, si1, if_neg hk]; exact y1.1 k (by simp)
          have e70' : σ_11.1 70 = σ.1 70 + 1 := by rw [hσ_11, si1, if_pos rfl, y1.1 70 (by decide)]
          have r30 : σ_11.2.2.1 30 = σ.2.2.1 30 := by rw [s11]; exact y1.2.2.1 30 (by decide)
          rw [e70', lt.2.2.2.2.1]
          refine ⟨frG_tr (frG_mono y1 (by decide) (by decide)) (by rw [hσ_11]; exact frG_0 (by decide)), ⟨lt.2.2.1, lt.2.2.2.1, lt.2.1⟩, Or.inr ⟨h0, lt.2.2.2.2.2⟩, fun k k0 k1 r => ?_, fun k k0 k1 k2 => ?_⟩
          · exact row_old r k0 k1 lt.1 r30 (e11 19 (by decide)) (fun j j0 j1 => by rw [rd, s11]; exact y5 j j0 j1)
          · have ek : k = σ.1 70 := by
              rcases l1k h0 lt.1 k2 with z | z
              · exact z
              · exact absurd z (Int32.not_lt.mpr k1)
            rw [ek]
            have e58 : σ38.1 58 = σ.1 58 := y1.1 58 (by decide)
            refine row_new hc h0 lt.1 (ky_o y4 ((e11 58 (by decide)).trans e58.symm) (by rw [s11]) (by rw [s11])) (fun j j0 j1 => ?_) (e11 58 (by decide)) (by rw [s11]; exact y1.2.2.1 59 (by decide)) r30 (e11 19 (by decide))
            rw [rd, rd, s11]
            exact y6 j j0 (by rw [e]; exact j1)
      · skip
        obtain ⟨y1, y2, y3, y4, y5, y6⟩ := i38
        have u := u143 y2 c10
        have e70' : σ38.1 70 = σ.1 70 := y1.1 70 (by decide)
        refine ⟨ib_143.mpr ?_, ?_⟩
        · clear h; exact ⟨y2, u.2.2.2.2⟩  -- b7
        refine ⟨ib_143000.mpr ?_, ?_⟩
        · clear h; rw [e70']; exact (xr h0 lt.1 y2 u.2.2.2.2).1  -- b8
        intro σ_12 hσ_12
        intro x13 hx13
        refine ⟨_, cn_lt2 hn38 ?_ ?_, rfl, ?_⟩
        · clear h; rw [hx13]; exact u.1  -- d9
        · clear h; rw [hx13]; exact u.2.1  -- d10
        · clear h; rw [hx13]
          rw [e70'] at hσ_12
          refine ⟨frG_tr y1 (by rw [hσ_12]; exact frG_1 (by decide)), u.2.2.1, u.2.2.2.1, ky_o y4 (by rw [hσ_12, ri1]) (by rw [hσ_12, ri3 (by decide)]) (by rw [hσ_12, ri3 (by decide)]), fun j j0 j1 => ?_, fun j j0 j1 => ?_⟩
          · rw [rd, hσ_12, ri4, if_neg (cn_ne j0 (xr_in h0 lt.1 y2 u.2.2.2.2 j0 j1))]
            exact y5 j j0 j1
          · rw [rd, rd, hσ_12, ri4, ri3 (by decide)]
            rcases l1s y2 u.2.2.2.2 j1 with z | z
            · rw [z, if_pos rfl]
            · have w := xr_jn h0 lt.1 u.2.2.2.2 j0 z
              rw [if_neg (cn_ne w.2 w.1)]
              exact y6 j j0 z
    · skip
      refine h _ _ ?_
      · clear h; exact old _ (Or.inl c4)  -- q12

end
