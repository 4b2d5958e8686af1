set_option maxHeartbeats 1600000
/-! expressions while a text is read -/
theorem fu_s5 : ∃ m, fu5 = m + 1 := ⟨4294967295, rfl⟩
theorem g5_ir_5 {σ : rS} (h : σ.1 11 ≠ 0) : g5_isRight σ = 0 := if_neg h
theorem g5_ir_05 {σ : rS} (h : σ.1 11 = 0) : g5_isRight σ = 1 := if_pos h
theorem g5_go_5 {σ : rS} (h : σ.1 11 ≠ 0) : g5_goesOn σ = 0 := by
  unfold g5_goesOn pb5
  rw [g5_ir_5 h]
  rfl
theorem expression_f5 {C : rCx} (hC : cOK C) {σ : rS} {Q : Int32 → rS → Prop} (hp : σ.1 11 ≠ 0) (h : ∀ (v : Int32) (σ' : rS), (((∀ k, k ≠ 48 → k ≠ 49 → σ'.1 k = σ.1 k) ∧ σ'.2 = σ.2) ∧ g5_expression σ = (σ', v)) → Q v σ') : cI C 6 m_expression [.ref (co C)] σ Q := by
  refine m_expression_run hC ?_
  unfold w_expression_0
  intro σ_1 hσ_1 σ_2 hσ_2
  have hf : σ_2.1 11 ≠ 0 := by rw [hσ_2, si1, if_neg (by decide), hσ_1, si1, if_neg (by decide)]; exact hp
  unfold w_expression_12
  refine ⟨fun n l τ => σ_2 = τ ∧ l = 0, ⟨0, rfl, rfl⟩, ?_⟩
  rintro n l _ ⟨rfl, rfl⟩
  refine goesOn_c hC (fun r q => ⟨fun c => ?_, fun c => absurd (q.2.mp c).1 hf⟩)
  unfold w_expression_51
  refine ⟨ib_66000.mpr ⟨by decide, by decide⟩, h _ _ ⟨?_, ?_⟩⟩
  · grind [si1, si2]
  · obtain ⟨m, e⟩ := fu_s5
    have e1 : g5_expression σ = g5_expression_12 fu5 0 σ_2 := by rw [hσ_2, hσ_1]; rfl
    rw [e1, e]
    unfold g5_expression_12
    rw [g5_go_5 hf]
    rfl
theorem expr0_g5 {C : rCx} (hC : cOK C) (B T : Int32) {σ : rS} {Q : Int32 → rS → Prop} (hp : p0 σ B T ∧ (σ.1 11 = 0 → 0 ≤ σ.1 13 ∧ σ.1 13 ≤ 40)) (h : ∀ (v : Int32) (σ' : rS), ((((∀ k, k ≠ 10 → k ≠ 11 → k ≠ 12 → k ≠ 13 → k ≠ 48 → k ≠ 49 → σ'.1 k = σ.1 k) ∧ (∀ k,  σ'.2.1 k = σ.2.1 k) ∧ (∀ k, k ≠ 39 → k ≠ 50 → k ≠ 51 → k ≠ 52 → σ'.2.2.1 k = σ.2.2.1 k) ∧ (∀ k j, k ≠ 39 → k ≠ 50 → k ≠ 51 → k ≠ 52 → σ'.2.2.1 k j = σ.2.2.1 k j) ∧ (∀ k j,  σ'.2.2.2 k j = σ.2.2.2 k j)) ∧ p0 σ' B T ∧ (σ.1 11 ≠ 0 → σ'.1 11 ≠ 0 ∧ σ'.2 = σ.2) ∧ rLo (σ.2.2.1 39) (σ'.2.2.1 39) (σ.1 10) ∧ (σ'.1 11 = 0 → σ.1 11 = 0 ∧ σ.1 10 ≤ σ'.1 10 ∧ σ'.1 13 = σ.1 13 ∧ ePa (σ.2.2.1 5) (σ.2.2.1 7) (σ'.2.2.1 39) (σ.1 10) (σ'.1 10)) ∧ rHi (σ.2.2.1 39) (σ'.2.2.1 39) T) ∧ g5_expression σ = (σ', v)) → Q v σ') : cI C 6 m_expression [.ref (co C)] σ Q := by
  obtain ⟨hP, ho⟩ := hp
  by_cases e : σ.1 11 = 0
  · obtain ⟨hK, hB, hF, hN, hA, h46, h47⟩ := hP
    have ho := ho e
    refine expression_g5 hC B T (σ.1 13).toNatClampNeg ⟨hK, ⟨hK.1, hK.2.2.2.2.1, Int32.le_refl _, hK.2.2.2.2.2, hK.2.2.1, hB⟩, Or.inl h46, hF, hN, hA, ⟨ho.1, ho.2, rfl⟩, fun _ => h47, fun z => absurd h46 z⟩ (fun v σ' q => h v σ' (and_5 ?_ (fun _ => q.2)))
    replace q := q.1
    obtain ⟨q1, q2, q3, q4, q5, q6, q7⟩ := q
    have f47 : σ'.1 47 = 0 := q3 h46
    have hfr : ∀ k, k ≠ 10 → k ≠ 11 → k ≠ 12 → k ≠ 13 → k ≠ 48 → k ≠ 49 → σ'.1 k = σ.1 k := by
      intro k z1 z2 z3 z4 z5 z6
      by_cases e7 : k = 47
      · subst e7; rw [f47, h47]
      · exact q1.1 k z1 z2 z3 z4 e7 z5 z6
    refine ⟨⟨hfr, q1.2⟩, p0_fr ⟨hK, hB, hF, hN, hA, h46, h47⟩ q2 hfr q1.2.2.1, fun z => absurd e z, q5, fun f1 => ?_, q7⟩
    obtain ⟨z1, z2, z3, z4⟩ := q6 f1 f47
    exact ⟨z1, z2.2.2.1, cn_inj z4.1 ho.1 (by rw [z4.2.2]; rfl), z3⟩
  · refine expression_f5 hC e (fun v σ' q => h v σ' (and_5 ?_ (fun _ => q.2)))
    replace q := q.1
    have hfr : ∀ k, k ≠ 10 → k ≠ 11 → k ≠ 12 → k ≠ 13 → k ≠ 48 → k ≠ 49 → σ'.1 k = σ.1 k := fun k _ _ _ _ z5 z6 => q.1 k z5 z6
    have e11 : σ'.1 11 = σ.1 11 := q.1 11 (by decide) (by decide)
    refine ⟨⟨hfr, fun k => by rw [q.2], fun k _ _ _ _ => by rw [q.2], fun k j _ _ _ _ => by rw [q.2], fun k j => by rw [q.2]⟩, p0_fr hP ?_ hfr (fun k _ _ _ _ => by rw [q.2]), fun _ => ⟨by rw [e11]; exact e, q.2⟩, by rw [q.2]; exact rLo_refl, fun z => absurd z (by rw [e11]; exact e), by rw [q.2]; exact rHi_refl⟩
    have := hP.1
    grind [tK]
