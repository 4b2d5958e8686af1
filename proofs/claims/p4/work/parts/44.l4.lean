set_option maxHeartbeats 1600000
/-! the reference: steps within a statement -/
theorem mS_rows {σ τ : rS} {s B T : Int32} (h : mSR9 σ τ s B T) : τ.2.2.1 5 = σ.2.2.1 5 ∧ τ.2.2.1 7 = σ.2.2.1 7 ∧ tK τ B T ∧ 0 ≤ τ.1 10 ∧ τ.1 10 < 131074 :=
  ⟨h.1.2.2.1 5 (by decide) (by decide) (by decide) (by decide) (by decide) (by decide) (by decide) (by decide) (by decide) (by decide) (by decide) (by decide) (by decide) (by decide), h.1.2.2.1 7 (by decide) (by decide) (by decide) (by decide) (by decide) (by decide) (by decide) (by decide) (by decide) (by decide) (by decide) (by decide) (by decide) (by decide), h.2.1.1, (aI_at (aI_refl h.2.1)).2.2.2⟩
theorem mS_sign {σ τ υ : rS} {s B T c : Int32} (h : mSR9 σ τ s B T) (q : ((∀ k, k ≠ 10 → k ≠ 11 → k ≠ 12 → υ.1 k = τ.1 k) ∧ υ.2 = τ.2) ∧ tK υ B T ∧ (τ.1 11 ≠ 0 → υ = τ) ∧ (υ.1 11 = 0 ↔ τ.1 11 = 0 ∧ rd τ 5 (τ.1 10) = 3 ∧ rd τ 7 (τ.1 10) = c ∧ rd τ 5 (τ.1 10 + 1) ≠ 4) ∧ (υ.1 11 = 0 → υ.1 10 = τ.1 10 + 1)) : mSR9 σ υ s B T ∧ υ.2 = τ.2 ∧ (υ.1 11 = 0 → τ.1 11 = 0 ∧ τ.1 10 < υ.1 10 ∧ υ.1 10 = τ.1 10 + 1 ∧ υ.1 13 = τ.1 13 ∧ sg (σ.2.2.1 5) (σ.2.2.1 7) (τ.1 10) c) := by
  have a := aI_sign (aI_refl h.2.1) q
  have r := mS_rows h
  refine ⟨mS_aI h a.1 (fun f => Int32.le_of_lt (a.2.2 f).2.1), a.2.1, fun f => ?_⟩
  rw [← r.1, ← r.2.1]
  exact a.2.2 f
theorem mS_open {σ τ υ : rS} {s B T c : Int32} (h : mSR9 σ τ s B T) (q : ((∀ k, k ≠ 10 → k ≠ 11 → k ≠ 12 → k ≠ 13 → υ.1 k = τ.1 k) ∧ υ.2 = τ.2) ∧ tK υ B T ∧ (υ.1 11 = 0 ↔ τ.1 11 = 0 ∧ rd τ 5 (τ.1 10) = 3 ∧ rd τ 7 (τ.1 10) = c ∧ rd τ 5 (τ.1 10 + 1) ≠ 4 ∧ τ.1 13 ≠ 40) ∧ (υ.1 11 = 0 → υ.1 10 = τ.1 10 + 1 ∧ υ.1 13 = τ.1 13 + 1)) : mSR9 σ υ s B T ∧ υ.2 = τ.2 ∧ (υ.1 11 = 0 → τ.1 11 = 0 ∧ τ.1 10 < υ.1 10 ∧ υ.1 10 = τ.1 10 + 1 ∧ υ.1 13 = τ.1 13 + 1 ∧ sg (σ.2.2.1 5) (σ.2.2.1 7) (τ.1 10) c ∧ τ.1 13 ≠ 40) := by
  have a := aI_open (aI_refl h.2.1) q
  have r := mS_rows h
  refine ⟨mS_aI h a.1 (fun f => Int32.le_of_lt (a.2.2 f).2.1), a.2.1, fun f => ?_⟩
  rw [← r.1, ← r.2.1]
  exact a.2.2 f
theorem mS_close {σ τ υ : rS} {s B T c : Int32} (h : mSR9 σ τ s B T) (q : ((∀ k, k ≠ 10 → k ≠ 11 → k ≠ 12 → k ≠ 13 → υ.1 k = τ.1 k) ∧ υ.2 = τ.2) ∧ tK υ B T ∧ (υ.1 11 = 0 ↔ τ.1 11 = 0 ∧ rd τ 5 (τ.1 10) = 3 ∧ rd τ 7 (τ.1 10) = c ∧ rd τ 5 (τ.1 10 + 1) ≠ 4) ∧ (υ.1 11 = 0 → υ.1 10 = τ.1 10 + 1 ∧ υ.1 13 = τ.1 13 - 1)) : mSR9 σ υ s B T ∧ υ.2 = τ.2 ∧ (υ.1 11 = 0 → τ.1 11 = 0 ∧ τ.1 10 < υ.1 10 ∧ υ.1 10 = τ.1 10 + 1 ∧ υ.1 13 = τ.1 13 - 1 ∧ sg (σ.2.2.1 5) (σ.2.2.1 7) (τ.1 10) c) := by
  have a := aI_close (aI_refl h.2.1) q
  have r := mS_rows h
  refine ⟨mS_aI h a.1 (fun f => Int32.le_of_lt (a.2.2 f).2.1), a.2.1, fun f => ?_⟩
  rw [← r.1, ← r.2.1]
  exact a.2.2 f
theorem mS_go {σ τ υ : rS} {s B T : Int32} (h : mSR9 σ τ s B T) (q : ((∀ k, k ≠ 10 → k ≠ 11 → k ≠ 12 → υ.1 k = τ.1 k) ∧ υ.2 = τ.2) ∧ tK υ B T ∧ (τ.1 11 ≠ 0 → υ = τ) ∧ (τ.1 11 = 0 → υ.1 10 = τ.1 10 + 1) ∧ (υ.1 11 = 0 ↔ τ.1 11 = 0 ∧ rd τ 5 (τ.1 10 + 1) ≠ 4)) : mSR9 σ υ s B T ∧ υ.2 = τ.2 ∧ (υ.1 11 = 0 → τ.1 11 = 0 ∧ τ.1 10 < υ.1 10 ∧ υ.1 10 = τ.1 10 + 1 ∧ υ.1 13 = τ.1 13) := by
  have a := aI_go (aI_refl h.2.1) q
  exact ⟨mS_aI h a.1 (fun f => Int32.le_of_lt (a.2.2 f).2.1), a.2.1, a.2.2⟩
theorem mS_flaw {σ τ υ : rS} {s B T : Int32} (h : mSR9 σ τ s B T) (q : ((∀ k, k ≠ 11 → k ≠ 12 → υ.1 k = τ.1 k) ∧ υ.2 = τ.2) ∧ (τ.1 11 ≠ 0 → υ = τ) ∧ υ.1 11 ≠ 0 ∧ (0 ≤ τ.1 11 → 0 ≤ υ.1 11)) : mSR9 σ υ s B T ∧ υ.1 11 ≠ 0 := by
  have a := aI_flaw (aI_refl h.2.1) q
  exact ⟨mS_aI h a.1 (fun f => absurd f a.2.2), a.2.2⟩
theorem mS_expr {σ τ υ : rS} {s B T : Int32} (h : mSR9 σ τ s B T) (q : ((∀ k, k ≠ 10 → k ≠ 11 → k ≠ 12 → k ≠ 13 → k ≠ 48 → k ≠ 49 → υ.1 k = τ.1 k) ∧ (∀ k,  υ.2.1 k = τ.2.1 k) ∧ (∀ k, k ≠ 39 → k ≠ 50 → k ≠ 51 → k ≠ 52 → υ.2.2.1 k = τ.2.2.1 k) ∧ (∀ k j, k ≠ 39 → k ≠ 50 → k ≠ 51 → k ≠ 52 → υ.2.2.1 k j = τ.2.2.1 k j) ∧ (∀ k j,  υ.2.2.2 k j = τ.2.2.2 k j)) ∧ p0 υ B T ∧ (τ.1 11 ≠ 0 → υ.1 11 ≠ 0 ∧ υ.2 = τ.2) ∧ rLo (τ.2.2.1 39) (υ.2.2.1 39) (τ.1 10) ∧ (υ.1 11 = 0 → τ.1 11 = 0 ∧ τ.1 10 ≤ υ.1 10 ∧ υ.1 13 = τ.1 13 ∧ ePa (τ.2.2.1 5) (τ.2.2.1 7) (υ.2.2.1 39) (τ.1 10) (υ.1 10)) ∧ rHi (τ.2.2.1 39) (υ.2.2.1 39) T) : mSR9 σ υ s B T ∧ rLo (τ.2.2.1 39) (υ.2.2.1 39) (τ.1 10) ∧ rd υ 30 s = rd τ 30 s ∧ rd υ 32 s = rd τ 32 s ∧ (υ.1 11 = 0 → τ.1 11 = 0 ∧ τ.1 10 ≤ υ.1 10 ∧ υ.1 13 = τ.1 13 ∧ ePa (σ.2.2.1 5) (σ.2.2.1 7) (υ.2.2.1 39) (τ.1 10) (υ.1 10)) := by
  have a := aI_expr (aI_refl h.2.1) q (fun _ => Int32.le_refl _)
  have r := mS_rows h
  refine ⟨mS_aI h a.1 (fun f => (a.2.2 f).2.1), a.2.1, by rw [rd, rd, a.1.1.2.2.1 30 (by decide) (by decide) (by decide) (by decide)], by rw [rd, rd, a.1.1.2.2.1 32 (by decide) (by decide) (by decide) (by decide)], fun f => ?_⟩
  rw [← r.1, ← r.2.1]
  exact a.2.2 f
theorem mS_new {σ σ' : rS} {v k B T : Int32} (hP : p0 σ B T) (q : ((∀ k, k ≠ 11 → k ≠ 12 → k ≠ 19 → σ'.1 k = σ.1 k) ∧ (∀ k,  σ'.2.1 k = σ.2.1 k) ∧ (∀ k, k ≠ 29 → k ≠ 30 → k ≠ 31 → k ≠ 32 → k ≠ 33 → k ≠ 34 → k ≠ 35 → k ≠ 36 → k ≠ 38 → k ≠ 44 → σ'.2.2.1 k = σ.2.2.1 k) ∧ (∀ k j, k ≠ 29 → k ≠ 30 → k ≠ 31 → k ≠ 32 → k ≠ 33 → k ≠ 34 → k ≠ 35 → k ≠ 36 → k ≠ 38 → k ≠ 44 → σ'.2.2.1 k j = σ.2.2.1 k j) ∧ (∀ k j,  σ'.2.2.2 k j = σ.2.2.2 k j)) ∧ tF σ' ∧ tS σ' ∧ 0 ≤ v ∧ v < 150 ∧ (σ'.1 11 = 0 → σ.1 11 = 0 ∧ v = σ.1 19 ∧ σ'.1 19 = σ.1 19 + 1 ∧ rd σ' 30 v = k ∧ rd σ' 31 v = σ.1 10 ∧ rd σ' 36 v = rd σ 43 (σ.1 42 - 1) ∧ (∀ j, j ≠ v.toNatClampNeg → σ'.2.2.1 30 j = σ.2.2.1 30 j ∧ σ'.2.2.1 31 j = σ.2.2.1 31 j ∧ σ'.2.2.1 32 j = σ.2.2.1 32 j ∧ σ'.2.2.1 36 j = σ.2.2.1 36 j) ∧ lkN σ σ') ∧ (σ.1 11 ≠ 0 → σ'.1 11 ≠ 0) ∧ (0 ≤ σ.1 11 → 0 ≤ σ'.1 11)) : mSR9 σ σ' v B T ∧ (σ'.1 11 = 0 → rd σ' 30 v = k) ∧ σ'.1 10 = σ.1 10 ∧ σ'.1 13 = σ.1 13 ∧ σ'.2.2.1 39 = σ.2.2.1 39 := by
  obtain ⟨q1, q2, q3, q4, q5, q6, q7⟩ := q
  have rr := q1.2.2.1
  have e39 : σ'.2.2.1 39 = σ.2.2.1 39 := rr 39 (by decide) (by decide) (by decide) (by decide) (by decide) (by decide) (by decide) (by decide) (by decide) (by decide)
  have e10 : σ'.1 10 = σ.1 10 := q1.1 10 (by decide) (by decide) (by decide)
  refine ⟨⟨by clear q2 q3 q6 q7 hP; grind, p0_gen hP ?_ q2 (fun z hz => rr z (by omega) (by omega) (by omega) (by omega) (by omega) (by omega) (by omega) (by omega) (by omega) (by omega)) (q1.1 46 (by decide) (by decide) (by decide)) (q1.1 47 (by decide) (by decide) (by decide)), q3, ?_, q4, q5, q7.1, fun f => ?_⟩, fun f => (q6 f).2.2.2.1, e10, q1.1 13 (by decide) (by decide) (by decide), e39⟩
  · obtain ⟨t1, t2, t3, t4, t5, t6⟩ := hP.1
    rw [← e10] at t5 t6
    exact ⟨t1, t2, t3, ⟨by rw [rd, rr 5 (by decide) (by decide) (by decide) (by decide) (by decide) (by decide) (by decide) (by decide) (by decide) (by decide)]; exact t4.1, q7.2 t4.2.1, by rw [q1.1 47 (by decide) (by decide) (by decide)]; exact t4.2.2⟩, t5, t6⟩
  · rw [e39]; exact ⟨rHi_refl, rLo_refl⟩
  · obtain ⟨m1, m2, m3, m4, m5, m6, m7⟩ := q6 f
    exact ⟨m2, ⟨by rw [e10]; exact Int32.le_refl _, by rw [e39]; exact rLo_refl⟩, m3, m6, m5, m7⟩
theorem mS_look {σ τ υ : rS} {s x B T : Int32} (h : mSR9 σ τ s B T) (hB : B ≤ σ.1 10) (hT : σ.1 10 ≤ T) (h0 : 0 ≤ σ.1 10) (q : ((∀ k, k ≠ 11 → k ≠ 12 → υ.1 k = τ.1 k) ∧ (∀ k,  υ.2.1 k = τ.2.1 k) ∧ (∀ k, k ≠ 39 → υ.2.2.1 k = τ.2.2.1 k) ∧ (∀ k j, k ≠ 39 → υ.2.2.1 k j = τ.2.2.1 k j) ∧ (∀ k j,  υ.2.2.2 k j = τ.2.2.2 k j)) ∧ (∀ j, j ≠ (σ.1 10).toNatClampNeg → υ.2.2.1 39 j = τ.2.2.1 39 j) ∧ rd υ 39 (σ.1 10) = x ∧ (υ.1 11 = 0 → τ.1 11 = 0 ∧ x ≠ -1) ∧ (0 ≤ τ.1 11 → 0 ≤ υ.1 11)) : mSR9 σ υ s B T := by
  obtain ⟨h1, h2, h3, h4, h5, h6, h7, h8⟩ := h
  obtain ⟨q1, q2, q3, q4, q5⟩ := q
  have rr := q1.2.2.1
  have lo : ∀ a : Int32, a ≤ σ.1 10 → rLo (τ.2.2.1 39) (υ.2.2.1 39) a := fun a ha t ht ht2 => q2 _ (cn_ne ht (Int32.lt_of_lt_of_le ht2 ha))
  have hi : rHi (τ.2.2.1 39) (υ.2.2.1 39) T := fun t ht => q2 _ (cn_ne h0 (Int32.lt_of_le_of_lt hT ht)).symm
  have e10 : υ.1 10 = τ.1 10 := q1.1 10 (by decide) (by decide)
  refine ⟨by clear h2 h3 h4 h8 q2 q3 q4 lo hi; grind, p0_gen h2 ?_ ?_ (fun z hz => rr z (by omega)) (q1.1 46 (by decide) (by decide)) (q1.1 47 (by decide) (by decide)), ?_, ⟨rHi_tr h4.1 hi, rLo_tr h4.2 (lo B hB) (Int32.le_refl _)⟩, h5, h6, fun z e => h7 z (q4 e).1, fun f => ?_⟩
  · obtain ⟨t1, t2, t3, t4, t5, t6⟩ := h2.1
    rw [← e10] at t5 t6
    exact ⟨t1, t2, t3, ⟨by rw [rd, rr 5 (by decide)]; exact t4.1, q5 t4.2.1, by rw [q1.1 47 (by decide) (by decide)]; exact t4.2.2⟩, t5, t6⟩
  · show tyF _ _ _ _ _ _ _ _
    rw [q1.1 15 (by decide) (by decide), q1.1 16 (by decide) (by decide), q1.1 17 (by decide) (by decide), q1.1 18 (by decide) (by decide), q1.1 19 (by decide) (by decide), q1.1 40 (by decide) (by decide), q1.1 41 (by decide) (by decide), q1.1 42 (by decide) (by decide)]
    exact h2.2.2.1
  · show tyS _ _ _ _ _ _ _ _
    rw [rr 29 (by decide), rr 33 (by decide), rr 34 (by decide), rr 35 (by decide), rr 36 (by decide), rr 38 (by decide), rr 43 (by decide), rr 44 (by decide)]
    exact h3
  · obtain ⟨m1, m2, m3, m4, m5, m6⟩ := h8 (q4 f).1
    simp only [rd]
    rw [rr 36 (by decide), rr 31 (by decide), rr 30 (by decide), rr 32 (by decide), q1.1 19 (by decide) (by decide), e10]
    exact ⟨m1, ⟨m2.1, rLo_tr m2.2 (lo _ (Int32.le_refl _)) (Int32.le_refl _)⟩, m3, m4, m5, m6.1, lkN_o m6.2 (rr 29 (by decide)) (rr 33 (by decide)) (rr 34 (by decide)) (rr 35 (by decide)) (q1.1 19 (by decide) (by decide))⟩
