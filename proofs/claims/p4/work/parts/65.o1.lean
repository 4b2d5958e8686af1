set_option maxHeartbeats 1600000
/-! the reference: expressions while a program runs, places, choices -/
abbrev xF : List Nat := [10, 11, 12, 13, 47, 48, 49]
abbrev xR : List Nat := [50, 51, 52]
/-- ready for an expression of a program that runs -/
def m1 (σ : rS) (B T : Int32) : Prop := rI σ B T ∧ σ.1 46 = 1 ∧ (1 ≤ σ.1 58 ∧ σ.1 58 ≤ 12) ∧ σ.1 11 = 0 ∧ σ.1 47 = 0 ∧ σ.1 13 = 0
/-- behind an expression at token a of a program that runs -/
def xQ (σ σ' : rS) (B T a : Int32) : Prop := frG xF xR σ σ' ∧ 0 ≤ σ'.1 47 ∧ (B ≤ σ'.1 10 ∧ σ'.1 10 ≤ T) ∧ (σ'.1 47 = 0 → m1 σ' B T ∧ ∀ e, ePa (σ.2.2.1 5) (σ.2.2.1 7) (σ.2.2.1 39) a e → σ'.1 10 = e)
theorem xR_n {σ σ' : rS} (h : frG xF xR σ σ') : frG rnF rnR σ σ' := frG_mono h (by decide) (by decide)
theorem xQ_of {σ σ' : rS} {B T a : Int32} (hp : m1 σ B T) (hf : frG xF xR σ σ') (h1 : 0 ≤ σ'.1 47) (h2 : B ≤ σ'.1 10 ∧ σ'.1 10 ≤ T) (h3 : σ'.1 47 = 0 → σ'.1 11 = 0 ∧ σ'.1 13 = 0 ∧ ∀ e, ePa (σ.2.2.1 5) (σ.2.2.1 7) (σ.2.2.1 39) a e → σ'.1 10 = e) : xQ σ σ' B T a := by
  obtain ⟨p1, p2, p3, p4, p5, p6⟩ := hp
  refine ⟨hf, h1, h2, fun z => ⟨⟨rI_fr p1 (xR_n hf), by rw [hf.1 46 (by decide)]; exact p2, by rw [hf.1 58 (by decide)]; exact p3, (h3 z).1, z, (h3 z).2.1⟩, (h3 z).2.2⟩⟩
theorem work_c {C : rCx} (hC : cOK C) (B T : Int32) {σ : rS} {a1 : Int32} {Q : Int32 → rS → Prop} (hp : m1 σ B T ∧ B ≤ a1 ∧ a1 ≤ T ∧ ∃ e, ePa (σ.2.2.1 5) (σ.2.2.1 7) (σ.2.2.1 39) a1 e) (h : ∀ (v : Int32) (σ' : rS), xQ σ σ' B T a1 → Q v σ') : cI C 7 m_workAt [.ref (co C), .int a1] σ Q := by
  obtain ⟨hm, hB, hT, he⟩ := hp
  have hm' := hm
  obtain ⟨⟨⟨g1, g2, g3, g4, g5⟩, k1, k2, k3, k4, k5, -⟩, p2, p3, p4, p5, p6⟩ := hm
  refine workAt_c hC B T ⟨⟨k1, k2, k3, k4, k5⟩, g1, g2, g3, p2, p3.1, p3.2, p4, p5, p6, hB, hT, he⟩ (fun v σ' q => h v σ' ?_)
  obtain ⟨q0, q1, q2, q3, q4, q5, q6, q7⟩ := q
  refine xQ_of hm' ⟨fun k z => q1 k (fun e => z (by rw [e]; decide)) (fun e => z (by rw [e]; decide)) (fun e => z (by rw [e]; decide)) (fun e => z (by rw [e]; decide)) (fun e => z (by rw [e]; decide)) (fun e => z (by rw [e]; decide)) (fun e => z (by rw [e]; decide)), q2, fun k z => q3 k (fun e => z (by rw [e]; decide)) (fun e => z (by rw [e]; decide)) (fun e => z (by rw [e]; decide)), q4⟩ q0 ⟨q5, q6⟩ q7
theorem expr1_c {C : rCx} (hC : cOK C) (B T : Int32) {σ : rS} {Q : Int32 → rS → Prop} (hp : m1 σ B T ∧ B ≤ σ.1 10 ∧ σ.1 10 ≤ T ∧ ∃ e, ePa (σ.2.2.1 5) (σ.2.2.1 7) (σ.2.2.1 39) (σ.1 10) e) (h : ∀ (v : Int32) (σ' : rS), xQ σ σ' B T (σ.1 10) → Q v σ') : cI C 6 m_expression [.ref (co C)] σ Q := by
  obtain ⟨hm, hB, hT, he⟩ := hp
  have hm' := hm
  obtain ⟨⟨⟨g1, g2, g3, g4, g5⟩, k1, k2, k3, k4, k5, -⟩, p2, p3, p4, p5, p6⟩ := hm
  have nz : σ.1 46 ≠ 0 := by rw [p2]; decide
  refine expression_c hC B T 0 ⟨⟨k1, k2, k3, ⟨k5, by rw [p4]; decide, by rw [p5]; decide⟩, hB, hT⟩, ⟨k1, hB, Int32.le_refl _, hT, k3, k4⟩, Or.inr ⟨p2, p3.1, p3.2, rfl⟩, g1, g2, g3, ⟨by rw [p6]; decide, by rw [p6]; decide, by rw [p6]; rfl⟩, fun z => absurd z nz, fun _ => ⟨p4, p5, he⟩⟩ (fun v σ' q => h v σ' ?_)
  obtain ⟨w1, w2, w3, w4, w5, w6, w7⟩ := q
  have r39 : σ'.2.2.1 39 = σ.2.2.1 39 := (w4 nz).1
  refine xQ_of hm' ⟨fun k z => w1.1 k (fun e => z (by rw [e]; decide)) (fun e => z (by rw [e]; decide)) (fun e => z (by rw [e]; decide)) (fun e => z (by rw [e]; decide)) (fun e => z (by rw [e]; decide)) (fun e => z (by rw [e]; decide)) (fun e => z (by rw [e]; decide)), w1.2.1, fun k z => ?_, w1.2.2.2.2⟩ w2.2.2.2.1.2.2 ⟨w2.2.2.2.2.1, w2.2.2.2.2.2⟩ (fun f => ?_)
  · by_cases e : k = 39
    · rw [e]; exact r39
    · exact w1.2.2.1 k e (fun e => z (by rw [e]; decide)) (fun e => z (by rw [e]; decide)) (fun e => z (by rw [e]; decide))
  · obtain ⟨f1, f2⟩ := (w4 nz).2 f
    have w := w6 f1 f
    exact ⟨f1, cn_inj w.2.2.2.1 (by decide) (by rw [w.2.2.2.2.2]; rfl), f2⟩
theorem m1_st {σ : rS} {B T s : Int32} (h : m1 σ B T) (h0 : 0 ≤ s) (h1 : s < σ.1 19) : stK (σ.2.2.1 5) (σ.2.2.1 7) (σ.2.2.1 39) B T (rd σ 30 s) (rd σ 31 s) (rd σ 32 s) := (h.1.2.2.2.2.2.2.1 s h0 h1).1
theorem m1_T {σ : rS} {B T : Int32} (h : m1 σ B T) : 0 ≤ B ∧ T < 131074 := ⟨h.1.2.1, h.1.2.2.2.1⟩
/-- a place that a value may go to -/
def plV (x : Int32) : Prop := (400 ≤ x ∧ x < 434) ∨ (100 ≤ x ∧ x < 108) ∨ (0 ≤ x ∧ x < 34)
/-- a token that names a place -/
def tgV (S N R : Nat → Int32) (B T t : Int32) : Prop := B ≤ t ∧ t < T ∧ (validV (R t.toNatClampNeg) ∨ (validC (R t.toNatClampNeg) ∧ xO S N R B T (t + 2)))
theorem tg_of {S N R : Nat → Int32} {B T k b x : Int32} (h : stK S N R B T k b x) (h5 : k ≠ 5) (hk : ¬ 4 < k) : (k = 1 → tgV S N R B T (b + 1)) ∧ (k ≠ 1 → tgV S N R B T b) := by
  rcases h with ⟨rfl, h1, h2, h3, h5', h6, h7⟩ | ⟨rfl, h1, h2⟩ | ⟨rfl, h1, h2, h3, h4⟩ | ⟨rfl, h1, h2, h3, h4⟩ | ⟨rfl, h1, h2⟩ | ⟨h1, h2⟩
  · exact ⟨fun _ => ⟨Int32.le_trans h1 (Int32.le_of_lt h2), h3, Or.inl h6⟩, fun z => absurd rfl z⟩
  · exact ⟨fun z => absurd z (by decide), fun _ => ⟨h1.1, h1.2.1, h1.2.2.2⟩⟩
  · exact ⟨fun z => absurd z (by decide), fun _ => ⟨h1.1, h1.2.1, h1.2.2.2⟩⟩
  · exact ⟨fun z => absurd z (by decide), fun _ => ⟨h1.1, h1.2.1, h1.2.2.2⟩⟩
  · exact absurd rfl h5
  · rcases h1 with rfl | rfl | rfl | rfl | rfl <;> exact absurd (by decide) hk
theorem vv_lt {x : Int32} (h : validV x) (h2 : ¬ x < 200) : False := by grind [validV]
theorem vc_ge {x : Int32} (h : validC x) (h2 : x < 200) : False := by grind [validC]
theorem pl_V {x : Int32} (h : validV x) : plV x := by grind [validV, plV]
theorem pl_4 {c : Int32} (h : 0 ≤ c) (h2 : c < 34) : plV (400 + c) := by grind [plV]
theorem m1_fr {σ τ : rS} {B T : Int32} (h : m1 σ B T) (hf : frG rnF rnR σ τ) (h46 : τ.1 46 = σ.1 46) (h58 : τ.1 58 = σ.1 58) (h11 : τ.1 11 = σ.1 11) (h47 : τ.1 47 = σ.1 47) (h13 : τ.1 13 = σ.1 13) : m1 τ B T := by
  obtain ⟨p1, p2, p3, p4, p5, p6⟩ := h
  exact ⟨rI_fr p1 hf, by rw [h46]; exact p2, by rw [h58]; exact p3, by rw [h11]; exact p4, by rw [h47]; exact p5, by rw [h13]; exact p6⟩
theorem le0 {x : Int32} (h : x ≤ 0) (h2 : 0 ≤ x) : x = 0 := Int32.le_antisymm h h2
theorem frG_61 {F R : List Nat} {σ τ : rS} (h : (∀ k, k ≠ 61 → τ.1 k = σ.1 k) ∧ τ.2 = σ.2) (hF : 61 ∈ F) : frG F R σ τ := ⟨fun k z => h.1 k (fun e => z (by rw [e]; exact hF)), fun k => by rw [h.2], fun k _ => by rw [h.2], fun k j => by rw [h.2]⟩
theorem frG_oc {F R : List Nat} {σ τ : rS} (h : (∀ k, k ≠ 63 → τ.1 k = σ.1 k) ∧ (∀ k,  τ.2.1 k = σ.2.1 k) ∧ (∀ k, k ≠ 64 → k ≠ 65 → τ.2.2.1 k = σ.2.2.1 k) ∧ (∀ k j, k ≠ 64 → k ≠ 65 → τ.2.2.1 k j = σ.2.2.1 k j) ∧ (∀ k j,  τ.2.2.2 k j = σ.2.2.2 k j)) (hF : 63 ∈ F) (h1 : 64 ∈ R) (h2 : 65 ∈ R) : frG F R σ τ := ⟨fun k z => h.1 k (fun e => z (by rw [e]; exact hF)), h.2.1, fun k z => h.2.2.1 k (fun e => z (by rw [e]; exact h1)) (fun e => z (by rw [e]; exact h2)), h.2.2.2.2⟩
theorem st_4 {S N R : Nat → Int32} {B T k b x : Int32} (h : stK S N R B T k b x) (hk : k = 4) : xO S N R B T (x + 2) := by
  rcases h with ⟨q, -⟩ | ⟨q, -⟩ | ⟨q, -⟩ | ⟨-, -, -, -, q⟩ | ⟨q, -⟩ | ⟨q, -⟩
  · rw [hk] at q; exact absurd q (by decide)
  · rw [hk] at q; exact absurd q (by decide)
  · rw [hk] at q; exact absurd q (by decide)
  · exact q
  · rw [hk] at q; exact absurd q (by decide)
  · rw [hk] at q; exact absurd q (by decide)
theorem xO_w {S N R : Nat → Int32} {B T a : Int32} (h : xO S N R B T a) : B ≤ a ∧ a ≤ T ∧ ∃ e, ePa S N R a e := by
  obtain ⟨h1, e, h2, h3, h4⟩ := h
  exact ⟨h1, Int32.le_trans h3 (Int32.le_of_lt h4), e, h2⟩
theorem up_n {x n : Int32} (h0 : 0 ≤ x) (h : ¬ n ≤ x) (hn : n ≤ 64) : 0 ≤ n - (x + 1) ∧ n - (x + 1) < n - x ∧ 0 ≤ x + 1 ∧ x + 1 ≤ n ∧ x < n ∧ x < 64 := by grind
theorem lt_sp {i x n : Int32} (h0 : 0 ≤ x) (h : ¬ n ≤ x) (hn : n ≤ 64) (hi : i < x + 1) : i = x ∨ i < x := by grind
theorem oc_ones {r r' : Nat → Int32} {x c : Int32} (x0 : 0 ≤ x) (x1 : x < 1000000) (hc : c = x) (h1 : r' c.toNatClampNeg = 1) (h2 : ∀ j, j ≠ c.toNatClampNeg → r' j = r j) (h : ∀ i, i < x.toNatClampNeg → r i = 1) : ∀ i, i < (x + 1).toNatClampNeg → r' i = 1 := by
  intro i hi
  subst hc
  rw [cn_succ x0 x1] at hi
  by_cases e : i = c.toNatClampNeg
  · rw [e]; exact h1
  · rw [h2 i e]; exact h i (by omega)
theorem n1 {x : Int32} (h : ¬ x < 1) : 1 ≤ x ∧ 0 ≤ x := by grind
theorem pl_st {x c : Int32} (h : plV x) (h1 : 1 ≤ c) (h2 : c ≤ 12) : (400 ≤ x ∧ x < 434) ∨ (100 ≤ x ∧ x < 108 ∧ 1 ≤ c ∧ c ≤ 12) ∨ (0 ≤ x ∧ x < 34) := by grind [plV]
theorem findPlace_c {C : rCx} (hC : cOK C) (B T : Int32) {σ : rS} {a1 : Int32} {Q : rS → Prop} (hp : m1 σ B T ∧ 0 ≤ a1 ∧ a1 < σ.1 19 ∧ rd σ 30 a1 ≠ 5 ∧ ¬ 4 < rd σ 30 a1) (h : ∀ (σ' : rS), (frG [10, 11, 12, 13, 47, 48, 49, 67] [50, 51, 52] σ σ' ∧ 0 ≤ σ'.1 47 ∧ (σ'.1 47 = 0 → m1 σ' B T ∧ plV (σ'.1 67))) → Q σ') : cV C 8 m_findPlace [.ref (co C), .int a1] σ Q := by
  refine m_findPlace_run hC ?_
  unfold w_findPlace_0
  obtain ⟨hm, h0, h1, h5, h4⟩ := hp
  have hs := tg_of (m1_st hm h0 h1) h5 h4
  have hT := m1_T hm
  have hj89 : ∀ (l3 : Int32) (s1 : Int32) (τ : rS), (frG [10, 11, 12, 13, 47, 48, 49, 67] [50, 51, 52] σ τ ∧ 0 ≤ s1 ∧ (s1 = 0 → m1 τ B T ∧ 0 ≤ l3 ∧ l3 < 34)) → w_findPlace_89 C Q  l3 s1 τ := by
    rintro y89_3 y89_s1 τ89 j89
    unfold w_findPlace_89
    intro σ_1 hσ_1
    intro σ_2 hσ_2
    refine h _ ?_
    · clear h; have e1 : ∀ k, k ≠ 47 → k ≠ 67 → σ_2.1 k = τ89.1 k := fun k z1 z2 => by rw [hσ_2, si1, if_neg z2, hσ_1, si1, if_neg z1]
      have e47 : σ_2.1 47 = y89_s1 := by rw [hσ_2, si1, if_neg (by decide), hσ_1, si1, if_pos rfl]
      have e67 : σ_2.1 67 = 400 + y89_3 := by rw [hσ_2, si1, if_pos rfl]
      have fr : frG [10, 11, 12, 13, 47, 48, 49, 67] [50, 51, 52] τ89 σ_2 := by rw [hσ_2, hσ_1]; exact frG_tr (frG_0 (by decide)) (frG_0 (by decide))
      refine ⟨frG_tr j89.1 fr, by rw [e47]; exact j89.2.1, fun z => ?_⟩
      rw [e47] at z
      obtain ⟨w1, w2, w3⟩ := j89.2.2 z
      exact ⟨m1_fr w1 (frG_mono fr (by decide) (by decide)) (e1 46 (by decide) (by decide)) (e1 58 (by decide) (by decide)) (e1 11 (by decide) (by decide)) (by rw [e47, z]; exact w1.2.2.2.2.1.symm) (e1 13 (by decide) (by decide)), by rw [e67]; exact pl_4 w2 w3⟩
  have hj27 : ∀ (s0 : Int32) (τ : rS), (σ = τ ∧ tgV (σ.2.2.1 5) (σ.2.2.1 7) (σ.2.2.1 39) B T s0) → w_findPlace_27 C Q  s0 τ := by
    rintro y27_s0 _ ⟨rfl, j27⟩
    unfold w_findPlace_27
    refine ⟨ib_131074.mpr ?_, ?_⟩
    · clear h; exact ⟨Int32.le_trans hT.1 j27.1, Int32.lt_trans j27.2.1 hT.2⟩  -- b2
    intro σ_3 hσ_3
    have e67 : σ_3.1 67 = rd σ 39 y27_s0 := by rw [hσ_3, si1, if_pos rfl]
    have e3 : ∀ k, k ≠ 67 → σ_3.1 k = σ.1 k := fun k hk => by rw [hσ_3, si1, if_neg hk]
    have s3 : σ_3.2 = σ.2 := by rw [hσ_3, si2]
    have f3 : frG [10, 11, 12, 13, 47, 48, 49, 67] [50, 51, 52] σ σ_3 := by rw [hσ_3]; exact frG_0 (by decide)
    have m3 : m1 σ_3 B T := m1_fr hm (frG_mono f3 (by decide) (by decide)) (e3 46 (by decide)) (e3 58 (by decide)) (e3 11 (by decide)) (e3 47 (by decide)) (e3 13 (by decide))
    refine ⟨fun c4 => ?_, fun c4 => ?_⟩
    · skip
      refine h _ ?_
      · clear h; refine ⟨f3, by rw [m3.2.2.2.2.1]; decide, fun _ => ⟨m3, ?_⟩⟩
        rw [e67] at c4 ⊢
        rcases j27.2.2 with z | z
        · exact pl_V z
        · exact absurd c4 (fun y => vc_ge z.1 y)
    · skip
      have hx : validC (rd σ 39 y27_s0) ∧ xO (σ.2.2.1 5) (σ.2.2.1 7) (σ.2.2.1 39) B T (y27_s0 + 2) := by
        rw [e67] at c4
        rcases j27.2.2 with z | z
        · exact absurd z (fun y => vv_lt y c4)
        · exact z
      refine work_c hC B T ?_ (fun r5 σ_6 q7 => ?_)
      · clear h; rw [s3]; exact ⟨m3, xO_w hx.2⟩  -- p4
      have f6 : frG [10, 11, 12, 13, 47, 48, 49, 67] [50, 51, 52] σ σ_6 := frG_tr f3 (frG_mono q7.1 (by decide) (by decide))
      have i6 := rI_fr m3.1 (xR_n q7.1)
      refine cellOf_c hC  ?_ (fun r8 q10 => ?_)
      · clear h; rw [e67]; exact ⟨hx.1, i6.1.2.2.1, i6.1.1⟩  -- p5
      refine ⟨fun c11 => ?_, fun c11 => ?_⟩
      · skip
        refine ⟨fun c12 => ?_, fun c12 => ?_⟩
        · skip
          refine hj89 _ _ _ ?_
          · clear h; refine ⟨f6, by decide, fun _ => ⟨(q7.2.2.2 (le0 c11 q7.2.1)).1, ?_⟩⟩
            rcases q10 with z | z
            · exact absurd z c12
            · exact z
        · skip
          refine hj89 _ _ _ ?_
          · clear h; exact ⟨f6, by decide, fun z => absurd z (by decide)⟩  -- k7
      · skip
        refine hj89 _ _ _ ?_
        · clear h; exact ⟨f6, q7.2.1, fun z => absurd (by rw [z]; decide) c11⟩  -- k8
  refine ⟨ib_150.mpr ?_, ?_⟩
  · clear h; exact ⟨h0, s150 hm.1 h1⟩  -- b9
  refine ⟨fun c13 => ?_, fun c13 => ?_⟩
  · skip
    refine ⟨ib_150.mpr ?_, ?_⟩
    · clear h; exact ⟨h0, s150 hm.1 h1⟩  -- b10
    refine hj27 _ _ ?_
    · clear h; exact ⟨rfl, hs.2 c13⟩  -- k11
  · skip
    refine ⟨ib_150.mpr ?_, ?_⟩
    · clear h; exact ⟨h0, s150 hm.1 h1⟩  -- b12
    refine hj27 _ _ ?_
    · clear h; exact ⟨rfl, hs.1 c13⟩  -- k13

theorem choose_c {C : rCx} (hC : cOK C) (B T : Int32) {σ : rS} {a1 : Int32} {Q : Int32 → rS → Prop} (hp : m1 σ B T ∧ 0 ≤ a1 ∧ a1 < σ.1 19 ∧ rd σ 30 a1 = 4) (h : ∀ (v : Int32) (σ' : rS), (frG [10, 11, 12, 13, 47, 48, 49, 61, 63, 66] [50, 51, 52, 64, 65] σ σ' ∧ (v = 2 ∨ (v = 5 ∧ 1 ≤ σ'.1 63 ∧ σ'.1 63 ≤ 8 ∧ ∀ i, i < (σ'.1 63).toNatClampNeg → σ'.2.2.1 65 i = 1))) → Q v σ') : cI C 8 m_choose [.ref (co C), .int a1] σ Q := by
  refine m_choose_run hC ?_
  unfold w_choose_0
  obtain ⟨hm, h0, h1, h4⟩ := hp
  have hT := m1_T hm
  have hj31 : ∀  (τ : rS), (frG xF xR σ τ) → w_choose_31 C Q   τ := by
    rintro  τ31 j31
    unfold w_choose_31
    refine ⟨fun c1 => ?_, fun c1 => ?_⟩
    · skip
      refine fail_c hC  (fun r2 σ_3 q4 => ?_)
      refine h _ _ ?_
      · clear h; exact ⟨frG_tr (frG_mono j31 (by decide) (by decide)) (frG_61 q4.1 (by decide)), Or.inl q4.2⟩  -- q1
    · skip
      refine fail_c hC  (fun r5 σ_6 q7 => ?_)
      refine h _ _ ?_
      · clear h; exact ⟨frG_tr (frG_mono j31 (by decide) (by decide)) (frG_61 q7.1 (by decide)), Or.inl q7.2⟩  -- q2
  refine ⟨ib_150.mpr ?_, ?_⟩
  · clear h; exact ⟨h0, s150 hm.1 h1⟩  -- b3
  refine work_c hC B T ?_ (fun r8 σ_9 q10 => ?_)
  · clear h; exact ⟨hm, xO_w (st_4 (m1_st hm h0 h1) h4)⟩  -- p4
  refine ⟨fun c11 => ?_, fun c11 => ?_⟩
  · skip
    refine hj31 _ ?_
    · clear h; exact q10.1  -- k5
  · skip
    refine ⟨fun c12 => ?_, fun c12 => ?_⟩
    · skip
      refine hj31 _ ?_
      · clear h; exact q10.1  -- k6
    · skip
      refine ⟨fun c13 => ?_, fun c13 => ?_⟩
      · skip
        intro σ_14 hσ_14
        unfold w_choose_58
        refine ⟨fun n l2 l3 τ => n = (l2 - l3).toNatClampNeg ∧ (frG [10, 11, 12, 13, 47, 48, 49, 61, 63, 66] [50, 51, 52, 64, 65] σ τ ∧ 1 ≤ l2 ∧ l2 ≤ 8 ∧ τ.1 63 = l3 ∧ 0 ≤ l3 ∧ l3 ≤ l2 ∧ ∀ i, i < l3.toNatClampNeg → τ.2.2.1 65 i = 1), ⟨_, rfl, ?_⟩, ?_⟩
        · clear h; exact ⟨frG_tr (frG_mono q10.1 (by decide) (by decide)) (by rw [hσ_14]; exact frG_0 (by decide)), (n1 c12).1, c13, by rw [hσ_14, si1, if_pos rfl], by decide, (n1 c12).2, fun i i1 => absurd i1 (Nat.not_lt_zero i)⟩  -- j7
        rintro n58 x58_2 x58_3 σ58 ⟨hn58, i58⟩
        refine ⟨fun c15 => ?_, fun c15 => ?_⟩
        · skip
          intro σ_16 hσ_16
          refine h _ _ ?_
          · clear h; obtain ⟨g1, g2, g3, g4, g5, g6, g7⟩ := i58
            have e : x58_3 = x58_2 := Int32.le_antisymm g6 c15
            have e63 : σ_16.1 63 = x58_3 := by rw [hσ_16, si1, if_neg (by decide)]; exact g4
            refine ⟨frG_tr g1 (by rw [hσ_16]; exact frG_0 (by decide)), Or.inr ⟨rfl, by rw [e63, e]; exact g2, by rw [e63, e]; exact g3, fun i i1 => ?_⟩⟩
            rw [e63] at i1
            rw [hσ_16, si2]
            exact g7 i i1
        · skip
          obtain ⟨g1, g2, g3, g4, g5, g6, g7⟩ := i58
          have u := up_n g5 c15 (Int32.le_trans g3 (by decide))
          refine outcome_c hC  ?_ (fun σ_17 q18 => ?_)
          · clear h; rw [g4]; exact ⟨g5, u.2.2.2.2.2⟩  -- p9
          intro x19 hx19
          refine ⟨_, cn_lt2 hn58 ?_ ?_, rfl, ?_⟩
          · clear h; rw [hx19]; exact u.1  -- d10
          · clear h; rw [hx19]; exact u.2.1  -- d11
          · clear h; rw [hx19]
            refine ⟨frG_tr g1 (frG_oc q18.1 (by decide) (by decide) (by decide)), g2, g3, by rw [q18.2.1, g4], u.2.2.1, u.2.2.2.1, fun i i1 => ?_⟩
            exact oc_ones g5 (Int32.lt_trans u.2.2.2.2.2 (by decide)) g4 q18.2.2.1 q18.2.2.2 g7 i i1
      · skip
        refine hj31 _ ?_
        · clear h; exact q10.1  -- k13

theorem get_c {C : rCx} (hC : cOK C) (B T : Int32) {σ : rS} {a1 : Int32} {Q : Int32 → rS → Prop} (hp : rI σ B T ∧ csF σ ∧ plV (σ.1 67) ∧ 0 ≤ a1 ∧ a1 < 64) (h : ∀ (v : Int32) (σ' : rS), (frG [58, 61] [57, 59, 60] σ σ' ∧ ((v = 0 ∧ csF σ') ∨ v = 1)) → Q v σ') : cI C 3 m_get [.ref (co C), .int a1] σ Q := by
  refine m_get_run hC ?_
  unfold w_get_0
  obtain ⟨hI, hc, hv, h0, h1⟩ := hp
  refine ⟨ib_64.mpr ?_, ?_⟩
  · clear h; exact ⟨h0, h1⟩  -- b1
  refine store_c hC  ?_ (fun σ_1 q2 => ?_)
  · clear h; exact pl_st hv hc.1.1 hc.1.2  -- p2
  have hI1 : rI σ_1 B T := rI_fr hI (frG_S q2 (by decide) (by decide))
  have hc1 : csF σ_1 := csF_o hc (q2.2.2.1 59 (by decide) (by decide)) (q2.2.2.1 30 (by decide) (by decide)) (q2.1 19) (q2.1 58)
  refine ⟨ib_12.mpr ?_, ?_⟩
  · clear h; exact c_m1 hc1.1.1 hc1.1.2  -- b3
  refine ⟨ib_150.mpr ?_, ?_⟩
  · clear h; exact ⟨hc1.2.2.1, s150 hI1 hc1.2.2.2⟩  -- b4
  refine moveTo_c hC B T ?_ (fun r3 σ_4 q5 => ?_)
  · clear h; exact ⟨hI1, hc1.1.1, hc1.1.2, hc1.2.1, fun z => fl_b hI1 hc1.2.2.1 hc1.2.2.2 z⟩  -- p5
  refine h _ _ ?_
  · clear h; exact ⟨frG_tr (frG_S q2 (by decide) (by decide)) q5.1, q5.2⟩  -- q6
