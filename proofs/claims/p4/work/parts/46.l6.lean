set_option maxHeartbeats 1600000
/-! the reference: a statement, what stays and what it adds -/
/-- between a statement's beginning and its end, with what may change in names and blocks -/
def sU (σ τ : rS) (B T : Int32) : Prop :=
  ((∀ k, k ≠ 10 → k ≠ 11 → k ≠ 12 → k ≠ 13 → k ≠ 19 → k ≠ 42 → k ≠ 48 → k ≠ 49 → τ.1 k = σ.1 k) ∧ (∀ k,  τ.2.1 k = σ.2.1 k) ∧ (∀ k, k ≠ 27 → k ≠ 28 → k ≠ 29 → k ≠ 30 → k ≠ 31 → k ≠ 32 → k ≠ 33 → k ≠ 34 → k ≠ 35 → k ≠ 36 → k ≠ 38 → k ≠ 39 → k ≠ 43 → k ≠ 44 → k ≠ 45 → k ≠ 50 → k ≠ 51 → k ≠ 52 → τ.2.2.1 k = σ.2.2.1 k) ∧ (∀ k j, k ≠ 27 → k ≠ 28 → k ≠ 29 → k ≠ 30 → k ≠ 31 → k ≠ 32 → k ≠ 33 → k ≠ 34 → k ≠ 35 → k ≠ 36 → k ≠ 38 → k ≠ 39 → k ≠ 43 → k ≠ 44 → k ≠ 45 → k ≠ 50 → k ≠ 51 → k ≠ 52 → τ.2.2.1 k j = σ.2.2.1 k j) ∧ (∀ k j,  τ.2.2.2 k j = σ.2.2.2 k j)) ∧ p0 τ B T ∧ tS τ ∧ rHi (σ.2.2.1 39) (τ.2.2.1 39) T ∧ rLo (σ.2.2.1 39) (τ.2.2.1 39) B ∧ (σ.1 11 ≠ 0 → τ.1 11 ≠ 0) ∧
  (τ.1 11 = 0 → σ.1 11 = 0 ∧ σ.1 10 < τ.1 10 ∧ rLo (σ.2.2.1 39) (τ.2.2.1 39) (σ.1 10))
/-- one statement more -/
def sN (σ τ : rS) (B : Int32) : Prop := τ.1 19 = σ.1 19 + 1 ∧ rd τ 36 (σ.1 19) = rd σ 43 (σ.1 42 - 1) ∧ (∀ j, j ≠ (σ.1 19).toNatClampNeg → τ.2.2.1 30 j = σ.2.2.1 30 j ∧ τ.2.2.1 31 j = σ.2.2.1 31 j ∧ τ.2.2.1 32 j = σ.2.2.1 32 j ∧ τ.2.2.1 36 j = σ.2.2.1 36 j) ∧ stK (σ.2.2.1 5) (σ.2.2.1 7) (τ.2.2.1 39) B (τ.1 10) (rd τ 30 (σ.1 19)) (rd τ 31 (σ.1 19)) (rd τ 32 (σ.1 19)) ∧ lkN σ τ
theorem sT_U {σ τ : rS} {B T : Int32} (h : sT σ τ B T) : sU σ τ B T ∧ (τ.1 11 = 0 → τ.1 13 = σ.1 13 ∧ τ.1 42 = σ.1 42 ∧ τ.2.2.1 43 = σ.2.2.1 43 ∧ sN σ τ B) := by
  obtain ⟨s, ⟨h1, h2, h3, h4, h5, h6, h7, h8⟩, h9⟩ := h
  refine ⟨⟨by clear h2 h3 h4 h7 h8 h9; grind, h2, h3, h4.1, h4.2, h7, fun f => ⟨Decidable.byContradiction (fun z => h7 z f), (h9 f).1, (h8 f).2.1.2⟩⟩, fun f => ?_⟩
  obtain ⟨m1, m2, m3, m4, m5, m6⟩ := h8 f
  obtain ⟨n1, n2, n3⟩ := h9 f
  subst m1
  exact ⟨n2, h1.1 42 (by decide) (by decide) (by decide) (by decide) (by decide) (by decide) (by decide), h1.2.2.1 43 (by decide) (by decide) (by decide) (by decide) (by decide) (by decide) (by decide) (by decide) (by decide) (by decide) (by decide) (by decide) (by decide) (by decide), m3, m4, m6.1, by rw [m5]; exact n3, m6.2⟩
theorem fn_b {σ : rS} {B T : Int32} (h : p0 σ B T) : 0 ≤ σ.1 41 ∧ σ.1 41 < 10 := by
  have := h.2.2.1
  clear h
  grind [tyF]
theorem vr_b {σ : rS} {B T : Int32} (h : p0 σ B T) (k : Nat) : 0 ≤ σ.2.2.1 27 k ∧ σ.2.2.1 27 k < 9 := h.2.2.2.1.2.2.2.2.2 k
theorem ix_b {f x : Int32} (h0 : 0 ≤ f) (h1 : f < 10) (h2 : 0 ≤ x) (h3 : x < 8) : 0 ≤ 8 * f + x ∧ 8 * f + x < 80 := by grind
theorem v100 {x : Int32} (h0 : 0 ≤ x) (h1 : x < 8) : 100 ≤ 100 + x ∧ 100 + x < 108 := by grind
theorem up9 {x : Int32} (h0 : 0 ≤ x) (h1 : x < 8) : 0 ≤ x + 1 ∧ x + 1 < 9 := by grind
theorem upd_ne {r : Nat → Int32} {i j : Nat} {x : Int32} (h : j ≠ i) : upd r i x j = r j := by unfold upd; rw [if_neg h]
theorem upd_eq {r : Nat → Int32} {i : Nat} {x : Int32} : upd r i x i = x := by unfold upd; rw [if_pos rfl]
theorem tellLocal_c {C : rCx} (hC : cOK C) (B T : Int32) {σ : rS}  {Q : rS → Prop} (hp : p0 σ B T ∧ tS σ ∧ 1 ≤ σ.1 42 ∧ σ.1 42 ≤ 64 ∧ 0 ≤ σ.1 13 ∧ σ.1 13 ≤ 40 ∧ rd σ 5 (σ.1 10) ≠ 5) (h : ∀ (σ' : rS), (sU σ σ' B T ∧ (σ'.1 11 = 0 → σ'.1 13 = σ.1 13 ∧ σ'.1 42 = σ.1 42 ∧ σ'.2.2.1 43 = σ.2.2.1 43 ∧ sN σ σ' B)) → Q σ') : cV C 7 m_tellLocal [.ref (co C)] σ Q := by
  refine m_tellLocal_run hC ?_
  unfold w_tellLocal_0
  obtain ⟨hP, hS, hb1, hb2, ho1, ho2, hn⟩ := hp
  have hA := aI_at (aI_refl hP)
  refine newStatement_c hC B T ?_ (fun r1 σ_2 q3 => ?_)
  · clear h; exact ⟨hP.1, hP.2.2.1, hS, hb1, hb2, hn⟩  -- p1
  have m0 := mS_new hP q3
  refine go_c hC B T ?_ (fun σ_4 q5 => ?_)
  · clear h; exact ⟨m0.1.2.1.1, fun _ => by rw [rd, (mS_rows m0.1).1, m0.2.2.1]; exact hn⟩  -- p2
  have b1 := mS_go m0.1 q5
  refine ⟨ib_10.mpr ?_, ?_⟩
  · clear h; exact fn_b b1.1.2.1  -- b3
  refine fresh_c hC B T ?_ (fun r6 σ_7 q8 => ?_)
  · clear h; exact ⟨b1.1.2.1.1, b1.1.2.1.2.2.1, b1.1.2.1.2.2.2.1⟩  -- p4
  refine sign_c hC B T ?_ (fun σ_9 q10 => ?_)
  · clear h; exact q8.2.1  -- p5
  have b2 : mSR9 σ σ_7 r1 B T := mS_aI b1.1 (aI_fr (aI_refl b1.1.2.1) q8.2.1 ⟨fun k z1 z2 z3 _ => q8.1.1 k z1 z2 z3, q8.1.2⟩ (fun z e => z (q8.2.2.2.2 e).1)) (fun f => Int32.le_of_lt (at_up b1.1.2.1.1 q8.2.1.2.2.2.2.2 (q8.2.2.2.2 f).2.2.2.1))
  have b3 := mS_sign b2 q10
  refine ⟨ib_150.mpr ?_, ?_⟩
  · clear h; exact ⟨b2.2.2.2.2.1, b2.2.2.2.2.2.1⟩  -- b6
  intro σ_11 hσ_11
  have m' : mSR9 σ σ_11 r1 B T := by rw [hσ_11]; exact mS_ri b3.1 (Or.inr rfl)
  have e11 : ∀ k, σ_11.1 k = σ_9.1 k := fun k => by rw [hσ_11, ri1]
  have r11 : ∀ k, k ≠ 32 → σ_11.2.2.1 k = σ_9.2.2.1 k := fun k hk => by rw [hσ_11, ri3 hk]
  have v32 : rd σ_11 32 r1 = σ_11.1 10 := by rw [rd, e11, hσ_11, ri4, if_pos rfl]
  have gf : σ_11.1 11 = 0 → σ_4.1 10 = σ.1 10 + 1 ∧ σ.1 10 < σ_4.1 10 ∧ σ_4.1 10 < σ_11.1 10 ∧ σ_11.1 13 = σ.1 13 ∧ sg (σ.2.2.1 5) (σ.2.2.1 7) (σ.1 10 + 2) 61 ∧ rd σ_4 27 (σ_4.1 41) < 8 ∧ rd σ_2 30 r1 = 1 := fun f => by
    rw [e11] at f
    obtain ⟨f7, l7, e7, o7, s7⟩ := b3.2.2 f
    obtain ⟨f4, s4, lt4, e4, -⟩ := q8.2.2.2.2 f7
    obtain ⟨f2, l2, e2, o2⟩ := b1.2.2 f4
    have l4 := at_up b1.1.2.1.1 q8.2.1.2.2.2.2.2 e4
    rw [m0.2.2.1] at e2 l2
    rw [e4, e2, up_2] at s7
    exact ⟨e2, l2, by rw [e11]; exact Int32.lt_trans l4 l7, by rw [e11, o7, q8.1.1 13 (by decide) (by decide) (by decide), o2, m0.2.2.2.1], s7, lt4, m0.2.1 f2⟩
  refine expr0_c hC B T ?_ (fun r12 σ_13 q14 => ?_)
  · clear h; exact ⟨m'.2.1, fun f => by rw [(gf f).2.2.2.1]; exact ⟨ho1, ho2⟩⟩  -- p7
  refine sign_c hC B T ?_ (fun σ_15 q16 => ?_)
  · clear h; exact q14.2.1.1  -- p8
  have b4 := mS_expr m' q14
  have b5 := mS_sign b4.1 q16
  refine isRight_c hC  (fun r17 q19 => ?_)
  refine ⟨fun c20 => ?_, fun c20 => ?_⟩
  · skip
    refine h _ ?_
    · clear h; exact sT_U ⟨r1, b5.1, fun f => absurd c20 (q19.2.mpr f)⟩  -- q9
  · skip
    have f15 : σ_15.1 11 = 0 := q19.2.mp c20
    obtain ⟨f13, l13, e13, o13, -⟩ := b5.2.2 f15
    obtain ⟨fE, lE, oE, zE⟩ := b4.2.2.2.2 f13
    obtain ⟨g1, g2, g3, g4, g5, g6, g7⟩ := gf fE
    have r27 : σ_15.2.2.1 27 = σ_4.2.2.1 27 := by rw [b5.2.1, q14.1.2.2.1 27 (by decide) (by decide) (by decide) (by decide), r11 27 (by decide), b3.2.1, q8.1.2]
    have e41 : σ_15.1 41 = σ_4.1 41 := by rw [q16.1.1 41 (by decide) (by decide) (by decide), q14.1.1 41 (by decide) (by decide) (by decide) (by decide) (by decide) (by decide), e11, q10.1.1 41 (by decide) (by decide) (by decide), q8.1.1 41 (by decide) (by decide) (by decide)]
    have hv8 : rd σ_15 27 (σ_15.1 41) < 8 := by rw [rd, r27, e41]; exact g6
    have hv0 : 0 ≤ rd σ_15 27 (σ_15.1 41) := (vr_b b5.1.2.1 _).1
    have hfn := fn_b b5.1.2.1
    have h6 : 0 ≤ r6 ∧ r6 < 131074 := by rw [q8.2.2.1]; exact (mS_rows b1.1).2.2.2
    refine ⟨ib_10.mpr ?_, ?_⟩
    · clear h; exact hfn  -- b10
    refine ⟨ib_131074.mpr ?_, ?_⟩
    · clear h; exact h6  -- b11
    intro σ_21 hσ_21
    refine ⟨ib_10.mpr ?_, ?_⟩
    · clear h; rw [hσ_21, ri1]; exact hfn  -- b12
    refine ⟨ib_80.mpr ?_, ?_⟩
    · clear h; rw [hσ_21, ri1, ri3 (by decide)]; exact ix_b hfn.1 hfn.2 hv0 hv8  -- b13
    intro σ_22 hσ_22
    refine ⟨ib_10.mpr ?_, ?_⟩
    · clear h; rw [hσ_22, ri1, hσ_21, ri1]; exact hfn  -- b14
    refine ⟨ib_10.mpr ?_, ?_⟩
    · clear h; rw [hσ_22, ri1, hσ_21, ri1]; exact hfn  -- b15
    intro σ_23 hσ_23
    refine h _ ?_
    · clear h; have ff : ∀ k, σ_23.1 k = σ_15.1 k := fun k => by rw [hσ_23, ri1, hσ_22, ri1, hσ_21, ri1]
      have rr : ∀ k, k ≠ 27 → k ≠ 28 → k ≠ 39 → σ_23.2.2.1 k = σ_15.2.2.1 k := fun k z1 z2 z3 => by rw [hσ_23, ri3 z1, hσ_22, ri3 z2, hσ_21, ri3 z3]
      have R39 : σ_23.2.2.1 39 = upd (σ_15.2.2.1 39) r6.toNatClampNeg (100 + rd σ_15 27 (σ_15.1 41)) := by rw [hσ_23, ri3 (by decide), hσ_22, ri3 (by decide), hσ_21, ri_row]
      have R28 : ∃ i, σ_23.2.2.1 28 = upd (σ_15.2.2.1 28) i r6 := ⟨_, by rw [hσ_23, ri3 (by decide), hσ_22, ri_row, hσ_21, ri3 (by decide)]⟩
      have R27 : ∃ i, σ_23.2.2.1 27 = upd (σ_15.2.2.1 27) i (rd σ_15 27 (σ_15.1 41) + 1) := ⟨_, by rw [hσ_23, ri_row, hσ_22, ri3 (by decide), ri1, hσ_21, ri3 (by decide), ri1]⟩
      have lg1 : ∀ k j, σ_23.2.2.2 k j = σ_15.2.2.2 k j := fun k j => by rw [hσ_23, ri5, hσ_22, ri5, hσ_21, ri5]
      have lg2 : ∀ k, σ_23.2.1 k = σ_15.2.1 k := fun k => by rw [hσ_23, ri2, hσ_22, ri2, hσ_21, ri2]
      have e6 : r6 = σ.1 10 + 1 := q8.2.2.1.trans g1
      have l6 : σ.1 10 < r6 := by rw [q8.2.2.1]; exact g2
      have l6x : r6 < σ_11.1 10 := by rw [q8.2.2.1]; exact g3
      have lxP : σ_11.1 10 < σ_15.1 10 := Int32.lt_of_le_of_lt lE l13
      have lbP : σ.1 10 < σ_15.1 10 := Int32.lt_trans l6 (Int32.lt_trans l6x lxP)
      have h6T : r6 ≤ T := Int32.le_of_lt (Int32.lt_of_lt_of_le (Int32.lt_trans l6x lxP) b5.1.2.1.1.2.2.2.2.2)
      have hB := hP.1.2.2.2.2.1
      have lo : ∀ a, a ≤ r6 → rLo (σ_15.2.2.1 39) (σ_23.2.2.1 39) a := fun a ha t ht ht2 => by rw [R39]; exact upd_ne (cn_ne ht (Int32.lt_of_lt_of_le ht2 ha))
      have hi : rHi (σ_15.2.2.1 39) (σ_23.2.2.1 39) T := fun t ht => by rw [R39]; exact upd_ne (cn_ne h6.1 (Int32.lt_of_le_of_lt h6T ht)).symm
      obtain ⟨w1, w2, w3, w4, w5, w6, w7, w8⟩ := b5.1
      obtain ⟨m1, m2, m3, m4, m5, m6⟩ := w8 f15
      have pP : p0 σ_23 B T := by
        obtain ⟨t1, t2, t3, t4, t5, t6, t7⟩ := w2
        refine ⟨?_, t2, ?_, ?_, ?_, by rw [ff]; exact t6, by rw [ff]; exact t7⟩
        · obtain ⟨u1, u2, u3, u4, u5, u6⟩ := t1
          exact ⟨u1, u2, u3, ⟨by rw [rd, rr 5 (by decide) (by decide) (by decide)]; exact u4.1, by rw [ff]; exact u4.2.1, by rw [ff]; exact u4.2.2⟩, by rw [ff]; exact u5, by rw [ff]; exact u6⟩
        · show tyF _ _ _ _ _ _ _ _
          simp only [ff]; exact t3
        · show tyN _ _ _ _ _ _
          obtain ⟨i1, z1⟩ := R28
          obtain ⟨i2, z2⟩ := R27
          rw [rr 20 (by decide) (by decide) (by decide), rr 22 (by decide) (by decide) (by decide), rr 25 (by decide) (by decide) (by decide), rr 26 (by decide) (by decide) (by decide), z1, z2]
          obtain ⟨u1, u2, u3, u4, u5, u6⟩ := t4
          exact ⟨u1, u2, u3, eB_upd u4 h6.1 h6.2, u5, eB_upd u6 (up9 hv0 hv8).1 (up9 hv0 hv8).2⟩
        · show tyA _ _
          rw [rr 23 (by decide) (by decide) (by decide), rr 24 (by decide) (by decide) (by decide)]; exact t5
      refine ⟨⟨?_, pP, ?_, rHi_tr w4.1 hi, rLo_tr w4.2 (lo B (Int32.le_trans hB (Int32.le_of_lt l6))) (Int32.le_refl _), fun z => by rw [ff]; exact w7 z, fun _ => ⟨Decidable.byContradiction (fun z => w7 z f15), by rw [ff]; exact lbP, rLo_tr m2.2 (lo _ (Int32.le_of_lt l6)) (Int32.le_refl _)⟩⟩, fun _ => ⟨by rw [ff, o13, oE, g4], by rw [ff]; exact w1.1 42 (by decide) (by decide) (by decide) (by decide) (by decide) (by decide) (by decide), ?_, by rw [ff]; exact m3, ?_, fun j hj => ?_, ?_, lkN_o m6.2 (rr 29 (by decide) (by decide) (by decide)) (rr 33 (by decide) (by decide) (by decide)) (rr 34 (by decide) (by decide) (by decide)) (rr 35 (by decide) (by decide) (by decide)) (ff 19)⟩⟩
      · refine ⟨fun k z1 z2 z3 z4 z5 z6 z7 z8 => by rw [ff]; exact w1.1 k z1 z2 z3 z4 z5 z7 z8, fun k => by rw [lg2]; exact w1.2.1 k, ?_, ?_, fun k j => by rw [lg1]; exact w1.2.2.2.2 k j⟩
        · intro k z1 z2 z3 z4 z5 z6 z7 z8 z9 za zb zc zd ze zf zg zh zi
          rw [rr k z1 z2 zc]; exact w1.2.2.1 k z3 z4 z5 z6 z7 z8 z9 za zb zc ze zg zh zi
        · intro k j z1 z2 z3 z4 z5 z6 z7 z8 z9 za zb zc zd ze zf zg zh zi
          rw [rr k z1 z2 zc]; exact w1.2.2.2.1 k j z3 z4 z5 z6 z7 z8 z9 za zb zc ze zg zh zi
      · show tyS _ _ _ _ _ _ _ _
        rw [rr 29 (by decide) (by decide) (by decide), rr 33 (by decide) (by decide) (by decide), rr 34 (by decide) (by decide) (by decide), rr 35 (by decide) (by decide) (by decide), rr 36 (by decide) (by decide) (by decide), rr 38 (by decide) (by decide) (by decide), rr 43 (by decide) (by decide) (by decide), rr 44 (by decide) (by decide) (by decide)]
        exact w3
      · rw [rr 43 (by decide) (by decide) (by decide)]; exact w1.2.2.1 43 (by decide) (by decide) (by decide) (by decide) (by decide) (by decide) (by decide) (by decide) (by decide) (by decide) (by decide) (by decide) (by decide) (by decide)
      · rw [← m1, rd, rr 36 (by decide) (by decide) (by decide)]; exact m4
      · rw [← m1] at hj
        rw [rr 30 (by decide) (by decide) (by decide), rr 31 (by decide) (by decide) (by decide), rr 32 (by decide) (by decide) (by decide), rr 36 (by decide) (by decide) (by decide)]
        exact m6.1 j hj
      · have k30 : rd σ_23 30 (σ.1 19) = 1 := by
          rw [← m1, rd, rr 30 (by decide) (by decide) (by decide), b5.2.1]
          refine b4.2.2.1.trans ?_
          rw [rd, r11 30 (by decide), b3.2.1, q8.1.2, b1.2.1]; exact g7
        have k31 : rd σ_23 31 (σ.1 19) = σ.1 10 := by rw [← m1, rd, rr 31 (by decide) (by decide) (by decide)]; exact m5
        have k32 : rd σ_23 32 (σ.1 19) = σ_11.1 10 := by
          rw [← m1, rd, rr 32 (by decide) (by decide) (by decide), b5.2.1]
          exact b4.2.2.2.1.trans v32
        rw [k30, k31, k32, ff]
        refine Or.inl ⟨rfl, hB, by rw [← e6]; exact l6, by rw [← e6]; exact Int32.lt_trans l6x lxP, fun z => absurd (g5.2.symm.trans z.2) (by decide), ?_, m'.2.1.1.2.2.2.2.1, σ_13.1 10, ?_, lE, l13⟩
        · rw [← e6, R39, upd_eq]
          exact Or.inr (v100 hv0 hv8)
        · refine ePa_R zE (fun t ht ht2 _ => ?_)
          rw [R39, upd_ne (cn_ne h6.1 (Int32.lt_of_lt_of_le l6x ht)).symm, b5.2.1]
