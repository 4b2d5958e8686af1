set_option maxHeartbeats 1600000
/-! the reference: the statements of a function -/
def frB (σ τ : rS) : Prop := (∀ k, k ≠ 10 → k ≠ 11 → k ≠ 12 → k ≠ 13 → k ≠ 19 → k ≠ 42 → k ≠ 48 → k ≠ 49 → τ.1 k = σ.1 k) ∧ (∀ k,  τ.2.1 k = σ.2.1 k) ∧ (∀ k, k ≠ 27 → k ≠ 28 → k ≠ 29 → k ≠ 30 → k ≠ 31 → k ≠ 32 → k ≠ 33 → k ≠ 34 → k ≠ 35 → k ≠ 36 → k ≠ 38 → k ≠ 39 → k ≠ 43 → k ≠ 44 → k ≠ 45 → k ≠ 50 → k ≠ 51 → k ≠ 52 → τ.2.2.1 k = σ.2.2.1 k) ∧ (∀ k j, k ≠ 27 → k ≠ 28 → k ≠ 29 → k ≠ 30 → k ≠ 31 → k ≠ 32 → k ≠ 33 → k ≠ 34 → k ≠ 35 → k ≠ 36 → k ≠ 38 → k ≠ 39 → k ≠ 43 → k ≠ 44 → k ≠ 45 → k ≠ 50 → k ≠ 51 → k ≠ 52 → τ.2.2.1 k j = σ.2.2.1 k j) ∧ (∀ k j,  τ.2.2.2 k j = σ.2.2.2 k j)
theorem frB_tr {σ τ υ : rS} (h : frB σ τ) (g : frB τ υ) : frB σ υ := by
  refine ⟨fun k z1 z2 z3 z4 z5 z6 z7 z8 => (g.1 k z1 z2 z3 z4 z5 z6 z7 z8).trans (h.1 k z1 z2 z3 z4 z5 z6 z7 z8), fun k => (g.2.1 k).trans (h.2.1 k), ?_, ?_, fun k j => (g.2.2.2.2 k j).trans (h.2.2.2.2 k j)⟩
  · intro k z1 z2 z3 z4 z5 z6 z7 z8 z9 za zb zc zd ze zf zg zh zi
    exact (g.2.2.1 k z1 z2 z3 z4 z5 z6 z7 z8 z9 za zb zc zd ze zf zg zh zi).trans (h.2.2.1 k z1 z2 z3 z4 z5 z6 z7 z8 z9 za zb zc zd ze zf zg zh zi)
  · intro k j z1 z2 z3 z4 z5 z6 z7 z8 z9 za zb zc zd ze zf zg zh zi
    exact (g.2.2.2.1 k j z1 z2 z3 z4 z5 z6 z7 z8 z9 za zb zc zd ze zf zg zh zi).trans (h.2.2.2.1 k j z1 z2 z3 z4 z5 z6 z7 z8 z9 za zb zc zd ze zf zg zh zi)
theorem frB_rows {σ τ : rS} (h : frB σ τ) : τ.2.2.1 5 = σ.2.2.1 5 ∧ τ.2.2.1 7 = σ.2.2.1 7 := ⟨h.2.2.1 5 (by decide) (by decide) (by decide) (by decide) (by decide) (by decide) (by decide) (by decide) (by decide) (by decide) (by decide) (by decide) (by decide) (by decide) (by decide) (by decide) (by decide) (by decide), h.2.2.1 7 (by decide) (by decide) (by decide) (by decide) (by decide) (by decide) (by decide) (by decide) (by decide) (by decide) (by decide) (by decide) (by decide) (by decide) (by decide) (by decide) (by decide) (by decide)⟩
/-- all statements so far are in order, below token P -/
def stA (σ : rS) (B P : Int32) : Prop := ∀ s : Int32, 0 ≤ s → s < σ.1 19 → stK (σ.2.2.1 5) (σ.2.2.1 7) (σ.2.2.1 39) B P (rd σ 30 s) (rd σ 31 s) (rd σ 32 s) ∧ rd σ 36 s < s ∧ lkS σ s.toNatClampNeg (σ.1 19)
/-- first statements of functions stay below the number of statements -/
def lkF (σ τ : rS) : Prop := ∀ j, σ.2.2.1 29 j < σ.1 19 → τ.2.2.1 29 j < τ.1 19
theorem lkF_tr {σ τ υ : rS} (h : lkF σ τ) (g : lkF τ υ) : lkF σ υ := fun j hj => g j (h j hj)
theorem lkF_o {σ τ : rS} (h29 : τ.2.2.1 29 = σ.2.2.1 29) (h19 : τ.1 19 = σ.1 19) : lkF σ τ := fun j hj => by rw [h29, h19]; exact hj
theorem lkS_o {σ τ : rS} {j : Nat} {n : Int32} (h : lkS σ j n) (h33 : τ.2.2.1 33 = σ.2.2.1 33) (h34 : τ.2.2.1 34 = σ.2.2.1 34) (h35 : τ.2.2.1 35 = σ.2.2.1 35) : lkS τ j n := by
  unfold lkS at h ⊢
  rw [h33, h34, h35]; exact h
/-- the open blocks' owners are statements -/
def bI (σ : rS) : Prop := ∀ i : Int32, 0 ≤ i → i < σ.1 42 → (1 ≤ i → 0 ≤ rd σ 43 i) ∧ rd σ 43 i < σ.1 19
theorem s_cs {s n : Int32} (h0 : 0 ≤ n) (h1 : n ≤ 150) (h : s < n + 1) : s = n ∨ s < n := by grind
theorem st_b {σ : rS} {B T : Int32} (h : p0 σ B T) : 0 ≤ σ.1 19 ∧ σ.1 19 ≤ 150 := by
  have := h.2.2.1
  clear h
  grind [tyF]
theorem stA_up {σ τ : rS} {B P P' : Int32} (h0 : 0 ≤ B) (hP2 : P < 131074) (h : stA σ B P) (h5 : τ.2.2.1 5 = σ.2.2.1 5) (h7 : τ.2.2.1 7 = σ.2.2.1 7) (h19 : τ.1 19 = σ.1 19) (hr : τ.2.2.1 30 = σ.2.2.1 30 ∧ τ.2.2.1 31 = σ.2.2.1 31 ∧ τ.2.2.1 32 = σ.2.2.1 32 ∧ τ.2.2.1 36 = σ.2.2.1 36 ∧ τ.2.2.1 33 = σ.2.2.1 33 ∧ τ.2.2.1 34 = σ.2.2.1 34 ∧ τ.2.2.1 35 = σ.2.2.1 35) (hR : rLo (σ.2.2.1 39) (τ.2.2.1 39) P) (hP : P ≤ P') : stA τ B P' := by
  intro s hs0 hs1
  rw [h19] at hs1
  have := h s hs0 hs1
  simp only [rd] at this ⊢
  rw [h5, h7, hr.1, hr.2.1, hr.2.2.1, hr.2.2.2.1, h19]
  exact ⟨stK_up h0 hP2 this.1 hR hP, this.2.1, lkS_o this.2.2 hr.2.2.2.2.1 hr.2.2.2.2.2.1 hr.2.2.2.2.2.2⟩
theorem stA_N {σ τ : rS} {B T : Int32} (hP : p0 σ B T) (h : stA σ B (σ.1 10)) (u : sU σ τ B T) (f : τ.1 11 = 0) (n : sN σ τ B) (hb : rd σ 43 (σ.1 42 - 1) < σ.1 19) : stA τ B (τ.1 10) := by
  have hA := aI_at (aI_refl hP)
  have r := frB_rows u.1
  obtain ⟨n1, n2, n3, n4, n5⟩ := n
  obtain ⟨w1, w2, w3⟩ := u.2.2.2.2.2.2 f
  have sb := st_b hP
  intro s hs0 hs1
  rw [n1] at hs1
  rw [r.1, r.2]
  rcases s_cs sb.1 sb.2 hs1 with e | e
  · subst e
    exact ⟨n4, by rw [n2]; exact hb, n5.2.1⟩
  · have hj := n3 s.toNatClampNeg (cn_ne hs0 e)
    have g := h s hs0 e
    simp only [rd] at g ⊢
    rw [hj.1, hj.2.1, hj.2.2.1, hj.2.2.2]
    exact ⟨stK_up hP.1.1 hA.2.2.2.2 g.1 w3 (Int32.le_of_lt w2), g.2.1, n5.1 _ g.2.2⟩
/-- from a function's first statement on -/
def sW (σ τ : rS) (B T : Int32) : Prop :=
  frB σ τ ∧ p0 τ B T ∧ tS τ ∧ rHi (σ.2.2.1 39) (τ.2.2.1 39) T ∧ rLo (σ.2.2.1 39) (τ.2.2.1 39) B ∧ (σ.1 11 ≠ 0 → τ.1 11 ≠ 0) ∧
  (τ.1 11 = 0 → σ.1 11 = 0 ∧ σ.1 10 ≤ τ.1 10 ∧ rLo (σ.2.2.1 39) (τ.2.2.1 39) (σ.1 10) ∧ stA τ B (τ.1 10) ∧ 0 ≤ τ.1 42 ∧ τ.1 42 ≤ 40 ∧ (1 ≤ τ.1 42 → τ.1 13 = τ.1 42) ∧ (τ.1 42 = 0 → τ.1 13 = 1) ∧ bI τ ∧ lkF σ τ)
theorem b2n {x : Int32} (h1 : ¬ x ≤ 0) : 1 ≤ x := by grind
theorem b3n {x : Int32} (h1 : ¬ x ≤ 0) (h : ¬ x = 1) (h2 : x ≤ 40) : 2 ≤ x ∧ 0 ≤ x - 1 ∧ x - 1 < x ∧ 1 ≤ x - 1 := by grind
theorem b0n {x : Int32} (h1 : x ≤ 0) (h : 0 ≤ x) : x = 0 := by grind
theorem i0n {x : Int32} (h1 : 0 ≤ x) (h : x < 1) : x = 0 ∧ ¬ 1 ≤ x := by grind
theorem b40 {x : Int32} (h1 : 1 ≤ x) (h2 : x ≤ 40) (h3 : x ≠ 40) : 0 ≤ x + 1 ∧ x + 1 ≤ 40 ∧ ¬ x + 1 = 0 := by grind
theorem b1n {x : Int32} (h1 : 1 ≤ x) : 0 ≤ x ∧ ¬ x = 0 := by grind
theorem bi_c {i x : Int32} (h0 : 0 ≤ i) (h1 : 1 ≤ x) (h2 : x ≤ 40) (h : i < x + 1) : i = x ∨ i < x := by grind
theorem b1m {x : Int32} (h1 : 1 ≤ x) (h2 : x ≤ 40) : 0 ≤ x - 1 ∧ x - 1 < x := by grind
theorem lt_sn {a b : Int32} (h0 : 0 ≤ b) (h1 : b ≤ 150) (h : a < b) : a < b + 1 := by grind
theorem lt_s2 {b : Int32} (h0 : 0 ≤ b) (h1 : b ≤ 150) : b < b + 1 := by grind
theorem tellStatements_c {C : rCx} (hC : cOK C) (B T : Int32) {σ : rS}  {Q : rS → Prop} (hp : p0 σ B T ∧ tS σ ∧ (σ.1 11 = 0 → σ.1 13 = 1 ∧ stA σ B (σ.1 10))) (h : ∀ (σ' : rS), (frB σ σ' ∧ p0 σ' B T ∧ tS σ' ∧ rHi (σ.2.2.1 39) (σ'.2.2.1 39) T ∧ rLo (σ.2.2.1 39) (σ'.2.2.1 39) B ∧ (σ.1 11 ≠ 0 → σ'.1 11 ≠ 0) ∧ (σ'.1 11 = 0 → σ.1 11 = 0 ∧ σ.1 10 ≤ σ'.1 10 ∧ rLo (σ.2.2.1 39) (σ'.2.2.1 39) (σ.1 10) ∧ stA σ' B (σ'.1 10) ∧ σ'.1 13 = 1 ∧ lkF σ σ')) → Q σ') : cV C 10 m_tellStatements [.ref (co C)] σ Q := by
  refine m_tellStatements_run hC ?_
  unfold w_tellStatements_0
  obtain ⟨hP, hS, hf⟩ := hp
  have hA := aI_at (aI_refl hP)
  intro σ_1 hσ_1
  refine openBlock_c hC  ?_ (fun σ_2 q3 => ?_)
  · clear h; exact ⟨by rw [hσ_1, si1, if_pos rfl]; decide, by rw [hσ_1, si1, if_pos rfl]; decide, by decide, by decide, by show tyS _ _ _ _ _ _ _ _; rw [hσ_1, si2]; exact hS⟩  -- p1
  unfold w_tellStatements_11
  refine ⟨fun n  τ => n = eMs (τ.1 11) 0 (if τ.1 42 ≤ 0 then 2 else 0) (τ.1 10) T ∧ (sW σ τ B T), ⟨_, rfl, ?_⟩, ?_⟩
  · clear h; have pp : p0 σ_1 B T := by rw [hσ_1]; exact p0_b42 hP (by decide) (by decide)
    have e1 : ∀ k, k ≠ 42 → σ_1.1 k = σ.1 k := fun k hk => by rw [hσ_1, si1, if_neg hk]
    have s1 : σ_1.2 = σ.2 := by rw [hσ_1, si2]
    have b1 : σ_1.1 42 = 0 := by rw [hσ_1, si1, if_pos rfl]
    have p2 := p0_ob pp q3 (by rw [b1]; decide) (by rw [b1]; decide)
    have b2 : σ_2.1 42 = 1 := by rw [q3.2.2.1, b1]; rfl
    have ee : ∀ k, k ≠ 42 → σ_2.1 k = σ.1 k := fun k hk => (q3.1.1 k hk).trans (e1 k hk)
    have rr : ∀ k, k ≠ 43 → k ≠ 44 → k ≠ 45 → σ_2.2.2.1 k = σ.2.2.1 k := fun k z1 z2 z3 => (q3.1.2.2.1 k z1 z2 z3).trans (by rw [s1])
    have r39 := rr 39 (by decide) (by decide) (by decide)
    refine ⟨⟨fun k _ _ _ _ _ z6 _ _ => ee k z6, fun k => (q3.1.2.1 k).trans (by rw [s1]), fun k _ _ _ _ _ _ _ _ _ _ _ _ zd ze zf _ _ _ => rr k zd ze zf, fun k j _ _ _ _ _ _ _ _ _ _ _ _ zd ze zf _ _ _ => congrFun (rr k zd ze zf) j, fun k j => (q3.1.2.2.2.2 k j).trans (by rw [s1])⟩, p2, q3.2.1, by rw [r39]; exact rHi_refl, by rw [r39]; exact rLo_refl, fun z => by rw [ee 11 (by decide)]; exact z, fun f => ?_⟩
    rw [ee 11 (by decide)] at f
    have w := hf f
    refine ⟨f, by rw [ee 10 (by decide)]; exact Int32.le_refl _, by rw [r39]; exact rLo_refl, ?_, by rw [b2]; decide, by rw [b2]; decide, fun _ => by rw [b2, ee 13 (by decide)]; exact w.1, fun z => by rw [b2] at z; exact absurd z (by decide), fun i hi hj => ?_, lkF_o (rr 29 (by decide) (by decide) (by decide)) (ee 19 (by decide))⟩
    · rw [ee 10 (by decide)]
      exact stA_up hP.1.1 hA.2.2.2.2 w.2 (rr 5 (by decide) (by decide) (by decide)) (rr 7 (by decide) (by decide) (by decide)) (ee 19 (by decide)) ⟨rr 30 (by decide) (by decide) (by decide), rr 31 (by decide) (by decide) (by decide), rr 32 (by decide) (by decide) (by decide), rr 36 (by decide) (by decide) (by decide), rr 33 (by decide) (by decide) (by decide), rr 34 (by decide) (by decide) (by decide), rr 35 (by decide) (by decide) (by decide)⟩ (by rw [r39]; exact rLo_refl) (Int32.le_refl _)
    · rw [b2] at hj
      have z := i0n hi hj
      refine ⟨fun y => absurd y z.2, ?_⟩
      rw [z.1]
      have y := q3.2.2.2.1
      rw [b1] at y
      rw [y, ee 19 (by decide)]
      exact Int32.lt_of_lt_of_le (by decide) (st_b hP).1
  rintro n11  σ11 ⟨hn11, i11⟩
  refine isRight_c hC  (fun r4 q6 => ?_)
  refine ⟨fun c7 => ?_, fun c7 => ?_⟩
  · skip
    refine h _ ?_
    · clear h; obtain ⟨w1, w2, w3, w4, w5, w6, w7⟩ := i11
      exact ⟨w1, w2, w3, w4, w5, w6, fun f => absurd c7 (q6.2.mpr f)⟩
  · skip
    refine ⟨fun c8 => ?_, fun c8 => ?_⟩
    · skip
      refine h _ ?_
      · clear h; obtain ⟨w1, w2, w3, w4, w5, w6, w7⟩ := i11
        refine ⟨w1, w2, w3, w4, w5, w6, fun f => ?_⟩
        obtain ⟨m1, m2, m3, m4, m5, m6, m7, m8, m9, mk⟩ := w7 f
        exact ⟨m1, m2, m3, m4, m8 (b0n c8 m5), mk⟩
    · skip
      refine isAt_c hC  ?_ (fun r9 q11 => ?_)
      · clear h; exact (aI_at (aI_refl i11.2.1)).2.2.2  -- p5
      have f := q6.2.mp c7
      obtain ⟨w1, w2, w3, w4, w5, w6, w7⟩ := i11
      obtain ⟨m1, m2, m3, m4, m5, m6, m7, m8, m9, mk⟩ := w7 f
      have hb := b2n c8
      have hA2 := aI_at (aI_refl w2)
      have sb := st_b w2
      refine ⟨fun c12 => ?_, fun c12 => ?_⟩
      · skip
        refine ⟨fun c13 => ?_, fun c13 => ?_⟩
        · skip
          refine endBlock_c hC B T ?_ (fun σ_14 q15 => ?_)
          · clear h; have z := b3n c8 c13 m6
            exact ⟨w2, w3, f, z.1, m6, m7 hb, (m9 _ z.2.1 z.2.2.1).1 z.2.2.2⟩
          refine ⟨_, ?_, rfl, ?_⟩
          · clear h; show eMs (σ_14.1 11) 0 (if σ_14.1 42 ≤ 0 then 2 else 0) (σ_14.1 10) T < n11
            rw [hn11, f, if_neg c8]
            exact eMs_lt (by decide) (fun f' _ _ => (q15.2.2.2 f').1) hA2.2.2.2.1 q15.2.1.1.2.2.2.2.2
          · clear h; have rr := q15.1.2.2.1
            have r39 := rr 39 (by decide) (by decide) (by decide)
            have fr : frB σ11 σ_14 := ⟨fun k z1 z2 z3 z4 _ z6 _ _ => q15.1.1 k z1 z2 z3 z4 z6, q15.1.2.1, fun k _ _ _ _ _ _ _ _ _ _ _ _ zd ze zf _ _ _ => rr k zd ze zf, fun k j _ _ _ _ _ _ _ _ _ _ _ _ zd ze zf _ _ _ => q15.1.2.2.2.1 k j zd ze zf, q15.1.2.2.2.2⟩
            have e19 : σ_14.1 19 = σ11.1 19 := q15.1.1 19 (by decide) (by decide) (by decide) (by decide) (by decide)
            refine ⟨frB_tr w1 fr, q15.2.1, q15.2.2.1, by rw [r39]; exact w4, by rw [r39]; exact w5, fun z => absurd m1 z, fun f' => ?_⟩
            obtain ⟨n1, n2, n3, n4, n5⟩ := q15.2.2.2 f'
            have nz := b1n n3
            refine ⟨m1, Int32.le_trans m2 (Int32.le_of_lt n1), by rw [r39]; exact m3, ?_, nz.1, Int32.le_trans n4 m6, fun _ => n2, fun z => absurd z nz.2, fun i hi hj => ?_, lkF_tr mk (lkF_o (rr 29 (by decide) (by decide) (by decide)) e19)⟩
            · exact stA_up w2.1.1 hA2.2.2.2.2 m4 (rr 5 (by decide) (by decide) (by decide)) (rr 7 (by decide) (by decide) (by decide)) e19 ⟨rr 30 (by decide) (by decide) (by decide), rr 31 (by decide) (by decide) (by decide), rr 32 (by decide) (by decide) (by decide), rr 36 (by decide) (by decide) (by decide), rr 33 (by decide) (by decide) (by decide), rr 34 (by decide) (by decide) (by decide), rr 35 (by decide) (by decide) (by decide)⟩ (by rw [r39]; exact rLo_refl) (Int32.le_of_lt n1)
            · rw [n5 i hi hj, e19]; exact m9 i hi (Int32.lt_of_lt_of_le hj n4)
        · skip
          intro σ_16 hσ_16
          refine ⟨_, ?_, rfl, ?_⟩
          · clear h; show eMs (σ_16.1 11) 0 (if σ_16.1 42 ≤ 0 then 2 else 0) (σ_16.1 10) T < n11
            have z42 : σ_16.1 42 ≤ 0 := by rw [hσ_16, si1, if_pos rfl]; decide
            rw [hn11, f, if_neg c8, if_pos z42]
            exact eMs_lt (by decide) (fun _ _ z => absurd rfl z) hA2.2.2.2.1 (by rw [hσ_16, si1, if_neg (by decide)]; exact w2.1.2.2.2.2.2)
          · clear h; have ee : ∀ k, k ≠ 42 → σ_16.1 k = σ11.1 k := fun k hk => by rw [hσ_16, si1, if_neg hk]
            have s16 : σ_16.2 = σ11.2 := by rw [hσ_16, si2]
            have b16 : σ_16.1 42 = 0 := by rw [hσ_16, si1, if_pos rfl]
            have p16 : p0 σ_16 B T := by rw [hσ_16]; exact p0_b42 w2 (by decide) (by decide)
            have fr : frB σ11 σ_16 := ⟨fun k _ _ _ _ _ z6 _ _ => ee k z6, fun k => by rw [s16], fun k _ _ _ _ _ _ _ _ _ _ _ _ _ _ _ _ _ _ => by rw [s16], fun k j _ _ _ _ _ _ _ _ _ _ _ _ _ _ _ _ _ _ => by rw [s16], fun k j => by rw [s16]⟩
            refine ⟨frB_tr w1 fr, p16, by show tyS _ _ _ _ _ _ _ _; rw [s16]; exact w3, by rw [s16]; exact w4, by rw [s16]; exact w5, fun z => absurd m1 z, fun f' => ?_⟩
            refine ⟨m1, by rw [ee 10 (by decide)]; exact m2, by rw [s16]; exact m3, ?_, by rw [b16]; decide, by rw [b16]; decide, fun z => by rw [b16] at z; exact absurd z (by decide), fun _ => by rw [ee 13 (by decide), m7 hb]; exact c13, fun i hi hj => by rw [b16] at hj; exact absurd hj (Int32.not_lt.mpr hi), lkF_tr mk (lkF_o (by rw [s16]) (ee 19 (by decide)))⟩
            rw [ee 10 (by decide)]
            exact stA_up w2.1.1 hA2.2.2.2.2 m4 (by rw [s16]) (by rw [s16]) (ee 19 (by decide)) ⟨by rw [s16], by rw [s16], by rw [s16], by rw [s16], by rw [s16], by rw [s16], by rw [s16]⟩ (by rw [s16]; exact rLo_refl) (Int32.le_refl _)
      · skip
        refine tellStatement_c hC B T ?_ (fun σ_17 q18 => ?_)
        · clear h; exact ⟨w2, w3, f, hb, m6, m7 hb⟩  -- p11
        refine ⟨_, ?_, rfl, ?_⟩
        · clear h; show eMs (σ_17.1 11) 0 (if σ_17.1 42 ≤ 0 then 2 else 0) (σ_17.1 10) T < n11
          rw [hn11, f, if_neg c8]
          exact eMs_lt (by decide) (fun f' _ _ => (q18.1.2.2.2.2.2.2 f').2.1) hA2.2.2.2.1 q18.1.2.1.1.2.2.2.2.2
        · clear h; obtain ⟨u1, u2, u3, u4, u5, u6, u7⟩ := q18.1
          refine ⟨frB_tr w1 u1, u2, u3, rHi_tr w4 u4, rLo_tr w5 u5 (Int32.le_refl _), fun z => absurd m1 z, fun f' => ?_⟩
          obtain ⟨v1, v2, v3⟩ := u7 f'
          obtain ⟨n1, n2, n3⟩ := q18.2 f'
          have bm := b1m hb m6
          have own := (m9 _ bm.1 bm.2).2
          have e19 := n1.1
          have stn := stA_N w2 m4 q18.1 f' n1 own
          have mk' := lkF_tr mk n1.2.2.2.2.2.2
          rcases n3 with ⟨n4, n5⟩ | ⟨n4, n5, n6, n7⟩
          · have nz := b1n hb
            refine ⟨m1, Int32.le_trans m2 (Int32.le_of_lt v2), rLo_tr m3 v3 m2, stn, by rw [n4]; exact m5, by rw [n4]; exact m6, fun _ => n2, fun z => absurd (n4.symm.trans z) nz.2, fun i hi hj => ?_, mk'⟩
            rw [n4] at hj
            have z := m9 i hi hj
            rw [rd, n5, e19]
            exact ⟨z.1, lt_sn sb.1 sb.2 z.2⟩
          · have nz := b40 hb m6 n5
            refine ⟨m1, Int32.le_trans m2 (Int32.le_of_lt v2), rLo_tr m3 v3 m2, stn, by rw [n4]; exact nz.1, by rw [n4]; exact nz.2.1, fun _ => n2, fun z => absurd (n4.symm.trans z) nz.2.2, fun i hi hj => ?_, mk'⟩
            rw [n4] at hj
            rw [e19]
            rcases bi_c hi hb m6 hj with e | e
            · subst e
              rw [n6]
              exact ⟨fun _ => sb.1, lt_s2 sb.1 sb.2⟩
            · have z := m9 i hi e
              rw [n7 i hi e]
              exact ⟨z.1, lt_sn sb.1 sb.2 z.2⟩
