set_option maxHeartbeats 1600000
/-! the reference: a statement; the end of a block -/
theorem mS_U {σ τ : rS} {s B T : Int32} (h : mSR9 σ τ s B T) (h9 : τ.1 11 = 0 → σ.1 10 < τ.1 10 ∧ stK (σ.2.2.1 5) (σ.2.2.1 7) (τ.2.2.1 39) B (τ.1 10) (rd τ 30 s) (σ.1 10) (rd τ 32 s)) : sU σ τ B T ∧ (τ.1 11 = 0 → τ.1 42 = σ.1 42 ∧ τ.2.2.1 43 = σ.2.2.1 43 ∧ s = σ.1 19 ∧ sN σ τ B) := by
  obtain ⟨h1, h2, h3, h4, h5, h6, h7, h8⟩ := h
  refine ⟨⟨by clear h2 h3 h4 h7 h8 h9; grind, h2, h3, h4.1, h4.2, h7, fun f => ⟨Decidable.byContradiction (fun z => h7 z f), (h9 f).1, (h8 f).2.1.2⟩⟩, fun f => ?_⟩
  obtain ⟨m1, m2, m3, m4, m5, m6⟩ := h8 f
  obtain ⟨n1, n3⟩ := h9 f
  subst m1
  exact ⟨h1.1 42 (by decide) (by decide) (by decide) (by decide) (by decide) (by decide) (by decide), h1.2.2.1 43 (by decide) (by decide) (by decide) (by decide) (by decide) (by decide) (by decide) (by decide) (by decide) (by decide) (by decide) (by decide) (by decide) (by decide), rfl, m3, m4, m6.1, by rw [m5]; exact n3, m6.2⟩
/-- a block was opened -/
abbrev obQ (τ υ : rS) (a : Int32) : Prop := ((∀ k, k ≠ 42 → υ.1 k = τ.1 k) ∧ (∀ k,  υ.2.1 k = τ.2.1 k) ∧ (∀ k, k ≠ 43 → k ≠ 44 → k ≠ 45 → υ.2.2.1 k = τ.2.2.1 k) ∧ (∀ k j, k ≠ 43 → k ≠ 44 → k ≠ 45 → υ.2.2.1 k j = τ.2.2.1 k j) ∧ (∀ k j,  υ.2.2.2 k j = τ.2.2.2 k j)) ∧ tS υ ∧ υ.1 42 = τ.1 42 + 1 ∧ rd υ 43 (τ.1 42) = a ∧ (∀ i : Int32, 0 ≤ i → i < τ.1 42 → rd υ 43 i = rd τ 43 i)
theorem p0_ob {τ υ : rS} {B T a : Int32} (h : p0 τ B T) (q : obQ τ υ a) (hb : 0 ≤ τ.1 42) (hb2 : τ.1 42 < 64) : p0 υ B T := by
  obtain ⟨q1, q2, q3, q4, q5⟩ := q
  have e10 : υ.1 10 = τ.1 10 := q1.1 10 (by decide)
  refine p0_gen h ?_ ?_ (fun z hz => q1.2.2.1 z (by omega) (by omega) (by omega)) (q1.1 46 (by decide)) (q1.1 47 (by decide))
  · obtain ⟨t1, t2, t3, t4, t5, t6⟩ := h.1
    rw [← e10] at t5 t6
    exact ⟨t1, t2, t3, ⟨by rw [rd, q1.2.2.1 5 (by decide) (by decide) (by decide)]; exact t4.1, by rw [q1.1 11 (by decide)]; exact t4.2.1, by rw [q1.1 47 (by decide)]; exact t4.2.2⟩, t5, t6⟩
  · have t := h.2.2.1
    show tyF _ _ _ _ _ _ _ _
    rw [q1.1 15 (by decide), q1.1 16 (by decide), q1.1 17 (by decide), q1.1 18 (by decide), q1.1 19 (by decide), q1.1 40 (by decide), q1.1 41 (by decide), q3]
    clear h q1 q2 q4 q5
    grind [tyF]
theorem sU_ob {σ τ υ : rS} {B T a : Int32} (h : sU σ τ B T) (q : obQ τ υ a) (hb : 0 ≤ τ.1 42) (hb2 : τ.1 42 < 64) : sU σ υ B T := by
  have hp := p0_ob h.2.1 q hb hb2
  obtain ⟨h1, h2, h3, h4, h5, h6, h7⟩ := h
  obtain ⟨q1, q2, q3, q4, q5⟩ := q
  have e10 : υ.1 10 = τ.1 10 := q1.1 10 (by decide)
  have e11 : υ.1 11 = τ.1 11 := q1.1 11 (by decide)
  have e39 : υ.2.2.1 39 = τ.2.2.1 39 := q1.2.2.1 39 (by decide) (by decide) (by decide)
  refine ⟨?_, hp, q2, by rw [e39]; exact h4, by rw [e39]; exact h5, fun z => by rw [e11]; exact h6 z, fun f => by rw [e11] at f; rw [e10, e39]; exact h7 f⟩
  refine ⟨fun k z1 z2 z3 z4 z5 z6 z7 z8 => (q1.1 k z6).trans (h1.1 k z1 z2 z3 z4 z5 z6 z7 z8), fun k => (q1.2.1 k).trans (h1.2.1 k), ?_, ?_, fun k j => (q1.2.2.2.2 k j).trans (h1.2.2.2.2 k j)⟩
  · intro k z1 z2 z3 z4 z5 z6 z7 z8 z9 za zb zc zd ze zf zg zh zi
    exact (q1.2.2.1 k zd ze zf).trans (h1.2.2.1 k z1 z2 z3 z4 z5 z6 z7 z8 z9 za zb zc zd ze zf zg zh zi)
  · intro k j z1 z2 z3 z4 z5 z6 z7 z8 z9 za zb zc zd ze zf zg zh zi
    exact (q1.2.2.2.1 k j zd ze zf).trans (h1.2.2.2.1 k j z1 z2 z3 z4 z5 z6 z7 z8 z9 za zb zc zd ze zf zg zh zi)
theorem sN_ob {σ τ υ : rS} {B a : Int32} (h : sN σ τ B) (q : obQ τ υ a) : sN σ υ B := by
  obtain ⟨h1, h2, h3, h4, h5⟩ := h
  obtain ⟨q1, q2, q3, q4, q5⟩ := q
  have rr := q1.2.2.1
  refine ⟨by rw [q1.1 19 (by decide)]; exact h1, by rw [rd, rr 36 (by decide) (by decide) (by decide)]; exact h2, ?_, ?_, lkN_o h5 (rr 29 (by decide) (by decide) (by decide)) (rr 33 (by decide) (by decide) (by decide)) (rr 34 (by decide) (by decide) (by decide)) (rr 35 (by decide) (by decide) (by decide)) (q1.1 19 (by decide))⟩
  · rw [rr 30 (by decide) (by decide) (by decide), rr 31 (by decide) (by decide) (by decide), rr 32 (by decide) (by decide) (by decide), rr 36 (by decide) (by decide) (by decide)]
    exact h3
  · simp only [rd]
    rw [rr 30 (by decide) (by decide) (by decide), rr 31 (by decide) (by decide) (by decide), rr 32 (by decide) (by decide) (by decide), rr 39 (by decide) (by decide) (by decide), q1.1 10 (by decide)]
    exact h4
theorem p0_b42 {σ : rS} {B T x : Int32} (h : p0 σ B T) (h0 : 0 ≤ x) (h1 : x ≤ 64) : p0 (siU σ 42 x) B T := by
  obtain ⟨t1, t2, t3, t4, t5, t6, t7⟩ := h
  refine ⟨t1, t2, ?_, t4, t5, t6, t7⟩
  show tyF (σ.1 15) (σ.1 16) (σ.1 17) (σ.1 18) (σ.1 19) (σ.1 40) (σ.1 41) x
  clear t1 t2 t4 t5 t6 t7
  grind [tyF]
theorem bl_b {x : Int32} (h1 : 2 ≤ x) (h2 : x ≤ 40) : 0 ≤ x - 1 ∧ x - 1 < 64 ∧ x - 1 ≤ 64 ∧ 1 ≤ x - 1 ∧ x - 1 ≤ x ∧ x - 1 + 1 = x ∧ 1 ≤ x := by grind
theorem bl_i {i x : Int32} (h0 : 0 ≤ i) (h1 : i < x) : i = x - 1 ∨ i < x - 1 := by grind
theorem ob_b {x : Int32} (h1 : 1 ≤ x) (h2 : x ≤ 40) : 0 ≤ x ∧ x < 64 ∧ x ≤ 64 ∧ 0 ≤ x - 1 ∧ x - 1 < 64 := by grind
theorem tellStatement_c {C : rCx} (hC : cOK C) (B T : Int32) {σ : rS}  {Q : rS → Prop} (hp : p0 σ B T ∧ tS σ ∧ σ.1 11 = 0 ∧ 1 ≤ σ.1 42 ∧ σ.1 42 ≤ 40 ∧ σ.1 13 = σ.1 42) (h : ∀ (σ' : rS), (sU σ σ' B T ∧ (σ'.1 11 = 0 → sN σ σ' B ∧ σ'.1 13 = σ'.1 42 ∧ ((σ'.1 42 = σ.1 42 ∧ σ'.2.2.1 43 = σ.2.2.1 43) ∨ (σ'.1 42 = σ.1 42 + 1 ∧ σ.1 42 ≠ 40 ∧ rd σ' 43 (σ.1 42) = σ.1 19 ∧ ∀ i : Int32, 0 ≤ i → i < σ.1 42 → rd σ' 43 i = rd σ 43 i)))) → Q σ') : cV C 9 m_tellStatement [.ref (co C)] σ Q := by
  refine m_tellStatement_run hC ?_
  unfold w_tellStatement_0
  obtain ⟨hP, hS, h11, hb1, hb2, ho⟩ := hp
  have hA := aI_at (aI_refl hP)
  have hbb := ob_b hb1 hb2
  have o0 : 0 ≤ σ.1 13 ∧ σ.1 13 ≤ 40 := by rw [ho]; exact ⟨hbb.1, hb2⟩
  have hj164 : ∀ (s1 : Int32) (τ : rS), (σ = τ ∧ (s1 = 8 ∨ s1 = 9 ∨ s1 = 10) ∧ rd σ 5 (σ.1 10) = 6) → w_tellStatement_164 C Q  s1 τ := by
    rintro y164_s1 _ ⟨rfl, j164⟩
    unfold w_tellStatement_164
    refine newStatement_c hC B T ?_ (fun r1 σ_2 q3 => ?_)
    · clear h; exact ⟨hP.1, hP.2.2.1, hS, hb1, hbb.2.2.1, by rw [j164.2]; decide⟩  -- p1
    have m0 := mS_new hP q3
    refine go_c hC B T ?_ (fun σ_4 q5 => ?_)
    · clear h; exact ⟨m0.1.2.1.1, fun _ => by rw [rd, (mS_rows m0.1).1, m0.2.2.1]; show rd σ 5 (σ.1 10) ≠ 5; rw [j164.2]; decide⟩  -- p2
    have b1 := mS_go m0.1 q5
    refine ⟨ib_150.mpr ?_, ?_⟩
    · clear h; exact ⟨b1.1.2.2.2.2.1, b1.1.2.2.2.2.2.1⟩  -- b3
    intro σ_6 hσ_6
    have m' : mSR9 σ σ_6 r1 B T := by rw [hσ_6]; exact mS_ri b1.1 (Or.inr rfl)
    have e6 : ∀ k, σ_6.1 k = σ_4.1 k := fun k => by rw [hσ_6, ri1]
    have r6 : ∀ k, k ≠ 32 → σ_6.2.2.1 k = σ_4.2.2.1 k := fun k hk => by rw [hσ_6, ri3 hk]
    have v32 : rd σ_6 32 r1 = σ_6.1 10 := by rw [rd, e6, hσ_6, ri4, if_pos rfl]
    have gf : σ_6.1 11 = 0 → σ.1 10 < σ_6.1 10 ∧ σ_6.1 13 = σ.1 13 ∧ rd σ_6 30 r1 = y164_s1 := fun f => by
      rw [e6] at f
      obtain ⟨f2, l2, e2, o2⟩ := b1.2.2 f
      rw [m0.2.2.1] at l2
      exact ⟨by rw [e6]; exact l2, by rw [e6, o2, m0.2.2.2.1], by rw [rd, r6 30 (by decide), b1.2.1]; exact m0.2.1 f2⟩
    refine expr0_c hC B T ?_ (fun r7 σ_8 q9 => ?_)
    · clear h; exact ⟨m'.2.1, fun f => by rw [(gf f).2.1]; exact o0⟩  -- p4
    refine sign_c hC B T ?_ (fun σ_10 q11 => ?_)
    · clear h; exact q9.2.1.1  -- p5
    refine h _ ?_
    · clear h; have b4 := mS_expr m' q9
      have b5 := mS_sign b4.1 q11
      have u := mS_U b5.1 (fun f => by
        obtain ⟨f8, l8, e8, o8, -⟩ := b5.2.2 f
        obtain ⟨f6, l6, o6, z6⟩ := b4.2.2.2.2 f8
        have g := gf f6
        have k30 : rd σ_10 30 r1 = y164_s1 := by rw [rd, b5.2.1]; exact b4.2.2.1.trans g.2.2
        have k32 : rd σ_10 32 r1 = σ_6.1 10 := by rw [rd, b5.2.1]; exact b4.2.2.2.1.trans v32
        rw [k30, k32, b5.2.1]
        exact ⟨Int32.lt_of_lt_of_le g.1 (Int32.le_trans l6 (Int32.le_of_lt l8)), Or.inr (Or.inr (Or.inr (Or.inr (Or.inr ⟨Or.inr (Or.inr j164.1), m'.2.1.1.2.2.2.2.1, σ_8.1 10, z6, l6, l8⟩))))⟩)
      refine ⟨u.1, fun f => ⟨(u.2 f).2.2.2, ?_, Or.inl ⟨(u.2 f).1, (u.2 f).2.1⟩⟩⟩
      obtain ⟨f8, l8, e8, o8, -⟩ := b5.2.2 f
      obtain ⟨f6, l6, o6, z6⟩ := b4.2.2.2.2 f8
      rw [o8, o6, (gf f6).2.1, (u.2 f).1]; exact ho
  have hj133 : ∀  (τ : rS), (σ = τ ∧ rd σ 5 (σ.1 10) = 6) → w_tellStatement_133 C Q   τ := by
    rintro  _ ⟨rfl, j133⟩
    unfold w_tellStatement_133
    refine isWord_c hC  ?_ (fun r12 q14 => ?_)
    · clear h; exact hA.2.2.2  -- p7
    refine ⟨fun c15 => ?_, fun c15 => ?_⟩
    · skip
      refine isWord_c hC  ?_ (fun r16 q18 => ?_)
      · clear h; exact hA.2.2.2  -- p8
      refine ⟨fun c19 => ?_, fun c19 => ?_⟩
      · skip
        refine hj164 _ _ ?_
        · clear h; exact ⟨rfl, Or.inr (Or.inr rfl), j133⟩  -- k9
      · skip
        refine hj164 _ _ ?_
        · clear h; exact ⟨rfl, Or.inr (Or.inl rfl), j133⟩  -- k10
    · skip
      refine hj164 _ _ ?_
      · clear h; exact ⟨rfl, Or.inl rfl, j133⟩  -- k11
  have hj68 : ∀ (s1 : Int32) (τ : rS), (σ = τ ∧ (s1 = 6 ∨ s1 = 7) ∧ rd σ 5 (σ.1 10) = 6) → w_tellStatement_68 C Q  s1 τ := by
    rintro y68_s1 _ ⟨rfl, j68⟩
    unfold w_tellStatement_68
    refine newStatement_c hC B T ?_ (fun r20 σ_21 q22 => ?_)
    · clear h; exact ⟨hP.1, hP.2.2.1, hS, hb1, hbb.2.2.1, by rw [j68.2]; decide⟩  -- p12
    have m0 := mS_new hP q22
    refine go_c hC B T ?_ (fun σ_23 q24 => ?_)
    · clear h; exact ⟨m0.1.2.1.1, fun _ => by rw [rd, (mS_rows m0.1).1, m0.2.2.1]; show rd σ 5 (σ.1 10) ≠ 5; rw [j68.2]; decide⟩  -- p13
    have b1 := mS_go m0.1 q24
    refine ⟨ib_150.mpr ?_, ?_⟩
    · clear h; exact ⟨b1.1.2.2.2.2.1, b1.1.2.2.2.2.2.1⟩  -- b14
    intro σ_25 hσ_25
    have m' : mSR9 σ σ_25 r20 B T := by rw [hσ_25]; exact mS_ri b1.1 (Or.inr rfl)
    have e6 : ∀ k, σ_25.1 k = σ_23.1 k := fun k => by rw [hσ_25, ri1]
    have r6 : ∀ k, k ≠ 32 → σ_25.2.2.1 k = σ_23.2.2.1 k := fun k hk => by rw [hσ_25, ri3 hk]
    have v32 : rd σ_25 32 r20 = σ_25.1 10 := by rw [rd, e6, hσ_25, ri4, if_pos rfl]
    have gf : σ_25.1 11 = 0 → σ.1 10 < σ_25.1 10 ∧ σ_25.1 13 = σ.1 13 ∧ rd σ_25 30 r20 = y68_s1 := fun f => by
      rw [e6] at f
      obtain ⟨f2, l2, e2, o2⟩ := b1.2.2 f
      rw [m0.2.2.1] at l2
      exact ⟨by rw [e6]; exact l2, by rw [e6, o2, m0.2.2.2.1], by rw [rd, r6 30 (by decide), b1.2.1]; exact m0.2.1 f2⟩
    refine expr0_c hC B T ?_ (fun r26 σ_27 q28 => ?_)
    · clear h; exact ⟨m'.2.1, fun f => by rw [(gf f).2.1]; exact o0⟩  -- p15
    refine open_c hC B T ?_ (fun σ_29 q30 => ?_)
    · clear h; exact q28.2.1.1  -- p16
    have b4 := mS_expr m' q28
    have b5 := mS_open b4.1 q30
    have e42 : σ_29.1 42 = σ.1 42 := b5.1.1.1 42 (by decide) (by decide) (by decide) (by decide) (by decide) (by decide) (by decide)
    refine openBlock_c hC  ?_ (fun σ_31 q32 => ?_)
    · clear h; exact ⟨by rw [e42]; exact hbb.1, by rw [e42]; exact hbb.2.1, Int32.le_trans (by decide) b5.1.2.2.2.2.1, b5.1.2.2.2.2.2.1, b5.1.2.2.1⟩  -- p17
    refine h _ ?_
    · clear h; have u := mS_U b5.1 (fun f => by
        obtain ⟨f8, l8, e8, o8, -⟩ := b5.2.2 f
        obtain ⟨f6, l6, o6, z6⟩ := b4.2.2.2.2 f8
        have g := gf f6
        have k30 : rd σ_29 30 r20 = y68_s1 := by rw [rd, b5.2.1]; exact b4.2.2.1.trans g.2.2
        have k32 : rd σ_29 32 r20 = σ_25.1 10 := by rw [rd, b5.2.1]; exact b4.2.2.2.1.trans v32
        rw [k30, k32, b5.2.1]
        exact ⟨Int32.lt_of_lt_of_le g.1 (Int32.le_trans l6 (Int32.le_of_lt l8)), Or.inr (Or.inr (Or.inr (Or.inr (Or.inr ⟨by rcases j68.1 with z | z; exact Or.inl z; exact Or.inr (Or.inl z), m'.2.1.1.2.2.2.2.1, σ_27.1 10, z6, l6, l8⟩))))⟩)
      have e11 : σ_31.1 11 = σ_29.1 11 := q32.1.1 11 (by decide)
      refine ⟨sU_ob u.1 q32 (by rw [e42]; exact hbb.1) (by rw [e42]; exact hbb.2.1), fun f => ?_⟩
      rw [e11] at f
      obtain ⟨f8, l8, e8, o8, s8, ox⟩ := b5.2.2 f
      obtain ⟨f6, l6, o6, z6⟩ := b4.2.2.2.2 f8
      have w := u.2 f
      have oc1 : σ_27.1 13 = σ.1 13 := by rw [o6, (gf f6).2.1]
      refine ⟨sN_ob w.2.2.2 q32, ?_, Or.inr ⟨by rw [q32.2.2.1, e42], by rw [← ho, ← oc1]; exact ox, ?_, fun i hi hj => ?_⟩⟩
      · rw [q32.1.1 13 (by decide), o8, oc1, ho, q32.2.2.1, e42]
      · have := q32.2.2.2.1
        rw [e42] at this
        rw [this]; exact w.2.2.1
      · have := q32.2.2.2.2 i hi (by rw [e42]; exact hj)
        rw [this, rd, w.2.1]
  have hj52 : ∀  (τ : rS), (σ = τ ∧ rd σ 5 (σ.1 10) = 6) → w_tellStatement_52 C Q   τ := by
    rintro  _ ⟨rfl, j52⟩
    unfold w_tellStatement_52
    refine isWord_c hC  ?_ (fun r33 q35 => ?_)
    · clear h; exact hA.2.2.2  -- p19
    refine ⟨fun c36 => ?_, fun c36 => ?_⟩
    · skip
      refine hj68 _ _ ?_
      · clear h; exact ⟨rfl, Or.inr rfl, j52⟩  -- k20
    · skip
      refine hj68 _ _ ?_
      · clear h; exact ⟨rfl, Or.inl rfl, j52⟩  -- k21
  refine ⟨ib_131074.mpr ?_, ?_⟩
  · clear h; exact hA.2.2.2  -- b22
  refine ⟨fun c37 => ?_, fun c37 => ?_⟩
  · skip
    refine isWord_c hC  ?_ (fun r38 q40 => ?_)
    · clear h; exact hA.2.2.2  -- p23
    refine ⟨fun c41 => ?_, fun c41 => ?_⟩
    · skip
      refine isWord_c hC  ?_ (fun r42 q44 => ?_)
      · clear h; exact hA.2.2.2  -- p24
      refine ⟨fun c45 => ?_, fun c45 => ?_⟩
      · skip
        refine hj52 _ ?_
        · clear h; exact ⟨rfl, (q44.2.mp c45).1⟩  -- k25
      · skip
        refine isWord_c hC  ?_ (fun r46 q48 => ?_)
        · clear h; exact hA.2.2.2  -- p26
        refine ⟨fun c49 => ?_, fun c49 => ?_⟩
        · skip
          refine isWord_c hC  ?_ (fun r50 q52 => ?_)
          · clear h; exact hA.2.2.2  -- p27
          refine ⟨fun c53 => ?_, fun c53 => ?_⟩
          · skip
            refine hj133 _ ?_
            · clear h; exact ⟨rfl, (q52.2.mp c53).1⟩  -- k28
          · skip
            refine isWord_c hC  ?_ (fun r54 q56 => ?_)
            · clear h; exact hA.2.2.2  -- p29
            refine ⟨fun c57 => ?_, fun c57 => ?_⟩
            · skip
              refine hj133 _ ?_
              · clear h; exact ⟨rfl, (q56.2.mp c57).1⟩  -- k30
            · skip
              refine isWord_c hC  ?_ (fun r58 q60 => ?_)
              · clear h; exact hA.2.2.2  -- p31
              refine ⟨fun c61 => ?_, fun c61 => ?_⟩
              · skip
                refine flaw_c hC  ?_ (fun σ_62 q63 => ?_)
                · clear h; exact ⟨hA.2.2.2.1, hA.2.2.2.2, by decide⟩  -- p32
                refine h _ ?_
                · clear h; have a := aI_flaw (aI_refl hP) q63
                  refine ⟨⟨?_, a.1.2.1, by show tyS _ _ _ _ _ _ _ _; rw [a.2.1]; exact hS, by rw [a.2.1]; exact rHi_refl, by rw [a.2.1]; exact rLo_refl, fun _ => a.2.2, fun f => absurd f a.2.2⟩, fun f => absurd f a.2.2⟩
                  exact ⟨fun k _ z2 z3 _ _ _ _ _ => q63.1.1 k z2 z3, fun k => by rw [a.2.1], fun k _ _ _ _ _ _ _ _ _ _ _ _ _ _ _ _ _ _ => by rw [a.2.1], fun k j _ _ _ _ _ _ _ _ _ _ _ _ _ _ _ _ _ _ => by rw [a.2.1], fun k j => by rw [a.2.1]⟩
              · skip
                refine hj133 _ ?_
                · clear h; exact ⟨rfl, (q60.2.mp c61).1⟩  -- k34
        · skip
          refine hj52 _ ?_
          · clear h; exact ⟨rfl, (q48.2.mp c49).1⟩  -- k35
    · skip
      refine tellLocal_c hC B T ?_ (fun σ_64 q65 => ?_)
      · clear h; exact ⟨hP, hS, hb1, hbb.2.2.1, o0.1, o0.2, by rw [(q40.2.mp c41).1]; decide⟩  -- p36
      refine h _ ?_
      · clear h; refine ⟨q65.1, fun f => ?_⟩
        obtain ⟨a, b, c, d⟩ := q65.2 f
        exact ⟨d, by rw [a, b]; exact ho, Or.inl ⟨b, c⟩⟩
  · skip
    refine tellNamed_c hC B T ?_ (fun σ_66 q67 => ?_)
    · clear h; exact ⟨hP, hS, hb1, hbb.2.2.1, o0.1, o0.2, c37⟩  -- p38
    refine h _ ?_
    · clear h; have u := sT_U q67
      refine ⟨u.1, fun f => ?_⟩
      obtain ⟨a, b, c, d⟩ := u.2 f
      exact ⟨d, by rw [a, b]; exact ho, Or.inl ⟨b, c⟩⟩

theorem endBlock_c {C : rCx} (hC : cOK C) (B T : Int32) {σ : rS}  {Q : rS → Prop} (hp : p0 σ B T ∧ tS σ ∧ σ.1 11 = 0 ∧ 2 ≤ σ.1 42 ∧ σ.1 42 ≤ 40 ∧ σ.1 13 = σ.1 42 ∧ 0 ≤ rd σ 43 (σ.1 42 - 1)) (h : ∀ (σ' : rS), (((∀ k, k ≠ 10 → k ≠ 11 → k ≠ 12 → k ≠ 13 → k ≠ 42 → σ'.1 k = σ.1 k) ∧ (∀ k,  σ'.2.1 k = σ.2.1 k) ∧ (∀ k, k ≠ 43 → k ≠ 44 → k ≠ 45 → σ'.2.2.1 k = σ.2.2.1 k) ∧ (∀ k j, k ≠ 43 → k ≠ 44 → k ≠ 45 → σ'.2.2.1 k j = σ.2.2.1 k j) ∧ (∀ k j,  σ'.2.2.2 k j = σ.2.2.2 k j)) ∧ p0 σ' B T ∧ tS σ' ∧ (σ'.1 11 = 0 → σ.1 10 < σ'.1 10 ∧ σ'.1 13 = σ'.1 42 ∧ 1 ≤ σ'.1 42 ∧ σ'.1 42 ≤ σ.1 42 ∧ ∀ i : Int32, 0 ≤ i → i < σ'.1 42 → rd σ' 43 i = rd σ 43 i)) → Q σ') : cV C 5 m_endBlock [.ref (co C)] σ Q := by
  refine m_endBlock_run hC ?_
  unfold w_endBlock_0
  obtain ⟨hP, hS, h11, hb1, hb2, ho, hw⟩ := hp
  have hA := aI_at (aI_refl hP)
  refine ⟨ib_64.mpr ?_, ?_⟩
  · clear h; exact ⟨(bl_b hb1 hb2).1, (bl_b hb1 hb2).2.1⟩  -- b1
  intro x1 hx1
  refine ⟨ib_64.mpr ?_, ?_⟩
  · clear h; exact ⟨(bl_b hb1 hb2).1, (bl_b hb1 hb2).2.1⟩  -- b2
  intro x2 hx2
  intro σ_3 hσ_3
  have bb := bl_b hb1 hb2
  have pp : p0 σ_3 B T := by rw [hσ_3]; exact p0_b42 hP bb.1 bb.2.2.1
  have e3 : ∀ k, k ≠ 42 → σ_3.1 k = σ.1 k := fun k hk => by rw [hσ_3, si1, if_neg hk]
  have s3 : σ_3.2 = σ.2 := by rw [hσ_3, si2]
  have b3 : σ_3.1 42 = σ.1 42 - 1 := by rw [hσ_3, si1, if_pos rfl]
  refine close_c hC B T ?_ (fun σ_4 q5 => ?_)
  · clear h; exact pp.1  -- p3
  have a1 := aI_close (aI_refl pp) q5
  have s4 : σ_4.2 = σ.2 := a1.2.1.trans s3
  have b4 : σ_4.1 42 = σ.1 42 - 1 := (q5.1.1 42 (by decide) (by decide) (by decide) (by decide)).trans b3
  have fF : ((∀ k, k ≠ 10 → k ≠ 11 → k ≠ 12 → k ≠ 13 → k ≠ 42 → σ_4.1 k = σ.1 k) ∧ (∀ k,  σ_4.2.1 k = σ.2.1 k) ∧ (∀ k, k ≠ 43 → k ≠ 44 → k ≠ 45 → σ_4.2.2.1 k = σ.2.2.1 k) ∧ (∀ k j, k ≠ 43 → k ≠ 44 → k ≠ 45 → σ_4.2.2.1 k j = σ.2.2.1 k j) ∧ (∀ k j,  σ_4.2.2.2 k j = σ.2.2.2 k j)) := ⟨fun k z1 z2 z3 z4 z5 => (q5.1.1 k z1 z2 z3 z4).trans (e3 k z5), fun k => by rw [s4], fun k _ _ _ => by rw [s4], fun k j _ _ _ => by rw [s4], fun k j => by rw [s4]⟩
  have tS4 : tS σ_4 := by show tyS _ _ _ _ _ _ _ _; rw [s4]; exact hS
  have o4 : σ_4.1 11 = 0 → σ.1 10 < σ_4.1 10 ∧ σ_4.1 13 = σ_4.1 42 := fun f => by
    obtain ⟨f0, l0, e0, o0, -⟩ := a1.2.2 f
    rw [e3 10 (by decide)] at l0
    exact ⟨l0, by rw [o0, e3 13 (by decide), ho, b4]⟩
  have fin : ((∀ k, k ≠ 10 → k ≠ 11 → k ≠ 12 → k ≠ 13 → k ≠ 42 → σ_4.1 k = σ.1 k) ∧ (∀ k,  σ_4.2.1 k = σ.2.1 k) ∧ (∀ k, k ≠ 43 → k ≠ 44 → k ≠ 45 → σ_4.2.2.1 k = σ.2.2.1 k) ∧ (∀ k j, k ≠ 43 → k ≠ 44 → k ≠ 45 → σ_4.2.2.1 k j = σ.2.2.1 k j) ∧ (∀ k j,  σ_4.2.2.2 k j = σ.2.2.2 k j)) ∧ p0 σ_4 B T ∧ tS σ_4 ∧ (σ_4.1 11 = 0 → σ.1 10 < σ_4.1 10 ∧ σ_4.1 13 = σ_4.1 42 ∧ 1 ≤ σ_4.1 42 ∧ σ_4.1 42 ≤ σ.1 42 ∧ ∀ i : Int32, 0 ≤ i → i < σ_4.1 42 → rd σ_4 43 i = rd σ 43 i) := ⟨fF, a1.1.2.1, tS4, fun f => ⟨(o4 f).1, (o4 f).2, by rw [b4]; exact bb.2.2.2.1, by rw [b4]; exact bb.2.2.2.2.1, fun i _ _ => by rw [rd, s4]⟩⟩
  refine isRight_c hC  (fun r6 q8 => ?_)
  refine ⟨fun c9 => ?_, fun c9 => ?_⟩
  · skip
    refine h _ ?_
    · clear h; exact fin  -- q4
  · skip
    refine ⟨fun c10 => ?_, fun c10 => ?_⟩
    · skip
      refine h _ ?_
      · clear h; exact fin  -- q5
    · skip
      refine ⟨ib_150.mpr ?_, ?_⟩
      · clear h; exact ⟨by rw [hx1]; exact hw, by rw [hx1]; exact (hS.2.2.2.2.2.2.1 _).2⟩  -- b6
      refine ⟨fun c11 => ?_, fun c11 => ?_⟩
      · skip
        refine h _ ?_
        · clear h; exact fin  -- q7
      · skip
        refine isWord_c hC  ?_ (fun r12 q14 => ?_)
        · clear h; exact (aI_at a1.1).2.2.2  -- p8
        refine ⟨fun c15 => ?_, fun c15 => ?_⟩
        · skip
          refine h _ ?_
          · clear h; exact fin  -- q9
        · skip
          refine go_c hC B T ?_ (fun σ_16 q17 => ?_)
          · clear h; exact ⟨a1.1.2.1.1, fun _ => by rw [(q14.2.mp c15).1]; decide⟩  -- p10
          refine open_c hC B T ?_ (fun σ_18 q19 => ?_)
          · clear h; exact q17.2.1  -- p11
          have a2 := aI_go a1.1 q17
          have a3 := aI_open a2.1 q19
          have b18 : σ_18.1 42 = σ.1 42 - 1 := by rw [q19.1.1 42 (by decide) (by decide) (by decide) (by decide), q17.1.1 42 (by decide) (by decide) (by decide), b4]
          have s18 : σ_18.2 = σ.2 := a3.2.1.trans (a2.2.1.trans s4)
          refine openBlock_c hC  ?_ (fun σ_20 q21 => ?_)
          · clear h; exact ⟨by rw [b18]; exact bb.1, by rw [b18]; exact bb.2.1, by rw [hx1]; exact Int32.le_trans (by decide) hw, by rw [hx1]; exact (hS.2.2.2.2.2.2.1 _).2, by show tyS _ _ _ _ _ _ _ _; rw [s18]; exact hS⟩  -- p12
          refine h _ ?_
          · clear h; have pO := p0_ob a3.1.2.1 q21 (by rw [b18]; exact bb.1) (by rw [b18]; exact bb.2.1)
            refine ⟨⟨fun k z1 z2 z3 z4 z5 => ?_, fun k => ?_, fun k z1 z2 z3 => ?_, fun k j z1 z2 z3 => ?_, fun k j => ?_⟩, pO, q21.2.1, fun f => ?_⟩
            · rw [q21.1.1 k z5, q19.1.1 k z1 z2 z3 z4, q17.1.1 k z1 z2 z3]; exact fF.1 k z1 z2 z3 z4 z5
            · rw [q21.1.2.1 k, s18]
            · rw [q21.1.2.2.1 k z1 z2 z3, s18]
            · rw [q21.1.2.2.2.1 k j z1 z2 z3, s18]
            · rw [q21.1.2.2.2.2 k j, s18]
            · rw [q21.1.1 11 (by decide)] at f
              obtain ⟨f2, l2, e2, o2, -, -⟩ := a3.2.2 f
              obtain ⟨f1, l1, e1, o1⟩ := a2.2.2 f2
              have w := o4 f1
              have b20 : σ_20.1 42 = σ.1 42 := by rw [q21.2.2.1, b18]; exact bb.2.2.2.2.2.1
              refine ⟨by rw [q21.1.1 10 (by decide)]; exact Int32.lt_trans w.1 (Int32.lt_trans l1 l2), ?_, by rw [b20]; exact bb.2.2.2.2.2.2, by rw [b20]; exact Int32.le_refl _, fun i hi hj => ?_⟩
              · rw [q21.1.1 13 (by decide), o2, o1, w.2, b4, b20]; exact bb.2.2.2.2.2.1
              · rw [b20] at hj
                rcases bl_i hi hj with e | e
                · subst e
                  have := q21.2.2.2.1
                  rw [b18] at this
                  rw [this, hx1]
                · have := q21.2.2.2.2 i hi (by rw [b18]; exact e)
                  rw [this, rd, s18]
