set_option maxHeartbeats 1600000
/-! the reference: play, walk -/
theorem go_pre {σ τ : rS} {T : Int32} (h : (σ.1 14 ≠ 0 → rI σ (σ.1 3) T) ∧ exP σ ∧ 0 ≤ σ.1 104 ∧ σ.1 104 ≤ 200 ∧ plN σ) (hf : ∀ k, k ≠ 113 → τ.1 k = σ.1 k) (hr : τ.2.2 = σ.2.2) : (τ.1 14 ≠ 0 → rI τ (τ.1 3) T) ∧ exP τ ∧ 0 ≤ τ.1 104 ∧ τ.1 104 ≤ 200 ∧ plN τ := by
  obtain ⟨h1, h2, h3, h4, h5⟩ := h
  refine ⟨fun z => ?_, exP_o h2 (fun k hk => hf k (by omega)) (fun k _ => by rw [hr]), by rw [hf 104 (by decide)]; exact h3, by rw [hf 104 (by decide)]; exact h4, fun z => ?_⟩
  · rw [hf 14 (by decide)] at z
    rw [hf 3 (by decide)]
    exact rI_gen (h1 z) (fun k hk => hf k ((by decide : ∀ k, k ∈ [15, 16, 17, 18, 19, 40, 41, 42] → k ≠ 113) k hk)) (fun k _ => by rw [hr])
  · rw [hf 106 (by decide)] at z
    exact pyQ_r (h5 z) (by rw [hr]) (by rw [hr])
theorem play_c {C : rCx} (hC : cOK C) (T : Int32) {σ : rS} {a1 : Int64} {a3 : Int32} {Q : Int32 → rS → Prop} (hp : (σ.1 14 ≠ 0 → rI σ (σ.1 3) T) ∧ exP σ ∧ 0 ≤ σ.1 104 ∧ σ.1 104 ≤ 200 ∧ plN σ) (h : ∀ (v : Int32) (σ' : rS), (frW (siU (slU σ 112 a1) 113 1) σ' ∧ plN σ') → Q v σ') : cI C 11 m_play [.ref (co C), .long a1, .int a3] σ Q := by
  refine m_play_run hC ?_
  unfold w_play_0
  intro σ_1 hσ_1
  intro σ_2 hσ_2
  refine go2_c hC T ?_ (fun r3 σ_4 q5 => ?_)
  · clear h; rw [hσ_2, hσ_1]; exact go_pre hp (fun k hk => if_neg hk) rfl  -- p1
  refine h _ _ ?_
  · clear h; rw [hσ_2, hσ_1] at q5; exact q5  -- q2

theorem walk_c {C : rCx} (hC : cOK C) (T : Int32) {σ : rS} {a1 : Int32} {Q : Int32 → rS → Prop} (hp : (σ.1 14 ≠ 0 → rI σ (σ.1 3) T) ∧ exP σ ∧ 0 ≤ σ.1 104 ∧ σ.1 104 ≤ 200 ∧ plN σ) (h : ∀ (v : Int32) (σ' : rS), (frW (siU σ 113 0) σ' ∧ plN σ') → Q v σ') : cI C 11 m_walk [.ref (co C), .int a1] σ Q := by
  refine m_walk_run hC ?_
  unfold w_walk_0
  intro σ_1 hσ_1
  refine go2_c hC T ?_ (fun r2 σ_3 q4 => ?_)
  · clear h; rw [hσ_1]; exact go_pre hp (fun k hk => if_neg hk) rfl  -- p1
  refine h _ _ ?_
  · clear h; rw [hσ_1] at q4; exact q4  -- q2
