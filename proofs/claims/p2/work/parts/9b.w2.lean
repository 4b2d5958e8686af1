/-! the reference: what holds behind decide, show, solve, best, explore, program, play, walk -/
abbrev rjA : List Nat := [2, 3, 14, 15, 16, 17, 18, 19, 40, 41, 42, 104]
theorem rJ_x {σ τ : rS} (J : rJ σ) (hf : ∀ k, k ∈ rjA → τ.1 k = σ.1 k) (hr : ∀ k, k ∈ rjQ → τ.2.2.1 k = σ.2.2.1 k) (e : exP τ) (v : jVs τ) (w : jWo τ) (p : plN τ) (s : shO τ) : rJ τ ∧ τ.1 104 = σ.1 104 ∧ τ.1 2 = σ.1 2 :=
  ⟨⟨by rw [hf 2 (by decide)]; exact J.1, jBk_o J.2.1 (hf 3 (by decide)) (hf 14 (by decide)) (fun k hk => hf k ((by decide : ∀ k, k ∈ rjP → k ∈ rjA) k hk)) hr, e, v, w, p, s, by rw [hf 104 (by decide)]; exact J.2.2.2.2.2.2.2⟩, hf 104 (by decide), hf 2 (by decide)⟩
theorem rj_88 {σ : rS} (J : rJ σ) : 0 ≤ σ.1 88 := J.2.2.1.2.2.2.1
section callz
variable {C : rCx} {σ : rS} {a1 a2 : Int32}
theorem decide_j (hC : cOK C) (J : rJ σ) {Q : Int32 → rS → Prop} (h : ∀ v σ', rJ σ' → σ'.1 104 = σ.1 104 ∧ σ'.1 2 = σ.1 2 → Q v σ') : cI C 1 m_decide [.ref (co C), .int a1, .int a2] σ Q := decide_c hC J.2.2.1 (fun v σ' q => by
  obtain ⟨f, e, z⟩ := q
  have g := rJ_x J (fun k hk => f.1 k ((by decide : ∀ k, k ∈ rjA → k ∉ [0, 94]) k hk)) (fun k hk => f.2.2.1 k ((by decide : ∀ k, k ∈ rjQ → k ∉ [83]) k hk)) e (by
    rcases z with z | z
    · exact jVs_o J.2.2.2.1 (by rw [z.1 94 (by decide)]; exact fun y => y) (z.1 70 (by decide)) (z.2.2.1 102 (by decide))
    · exact fun y => absurd z y) (jWo_o J.2.2.2.2.1 (by rw [f.1 114 (by decide)]; exact fun y => y) (f.1 70 (by decide)) (f.2.2.1 115 (by decide)) (f.2.2.1 116 (by decide))) (plN_o J.2.2.2.2.2.1 (by rw [f.1 106 (by decide)]; exact fun y => y) (fun k hk => ⟨by rw [f.2.2.1 91 (by decide)], fun i _ => by rw [f.2.2.1 90 (by decide)]⟩)) (shO_o J.2.2.2.2.2.2.1 (f.1 103 (by decide)) (fun k hk => ⟨by rw [f.2.2.1 91 (by decide)], fun i _ => by rw [f.2.2.1 90 (by decide)]⟩))
  exact h v σ' g.1 g.2)
theorem show_j (hC : cOK C) (J : rJ σ) {Q : Int32 → rS → Prop} (h : ∀ v σ', rJ σ' → σ'.1 104 = σ.1 104 ∧ σ'.1 2 = σ.1 2 → Q v σ') : cI C 8 m_show [.ref (co C), .int a1, .int a2] σ Q := show_c hC _ ⟨pOK_of J.2.2.1, rfl, J.2.2.2.1, J.2.2.2.2.1, J.2.2.2.2.2.1, J.2.2.2.2.2.2.1⟩ (fun v σ' q => by
  obtain ⟨f, s⟩ := q
  have r : ∀ k, k ∈ rjR → σ'.2.2.1 k = σ.2.2.1 k := fun k hk => f.2.2.1 k ((by decide : ∀ k, k ∈ rjR → k ≠ 90) k hk) ((by decide : ∀ k, k ∈ rjR → k ≠ 91) k hk)
  have g := rJ_x J (fun k hk => f.1 k ((by decide : ∀ k, k ∈ rjA → k ∉ shF) k hk)) (fun k hk => r k ((by decide : ∀ k, k ∈ rjQ → k ∈ rjR) k hk)) (exP_o J.2.2.1 (fun k hk => f.1 k (by rcases hk with z | z | z | z <;> rw [z] <;> decide)) (fun k hk => r k (by rcases hk with z | z | z | z | z | z | z | z <;> rw [z] <;> decide))) (jVs_o J.2.2.2.1 (by rw [f.1 94 (by decide)]; exact fun y => y) (f.1 70 (by decide)) (r 102 (by decide))) (jWo_o J.2.2.2.2.1 (by rw [f.1 114 (by decide)]; exact fun y => y) (f.1 70 (by decide)) (r 115 (by decide)) (r 116 (by decide))) (plN_o J.2.2.2.2.2.1 (by rw [f.1 106 (by decide)]; exact fun y => y) (fun k hk => f.2.2.2.2 k (by rcases hk with z | z <;> rw [z] <;> decide))) s
  exact h v σ' g.1 g.2)
theorem solve_j (hC : cOK C) (J : rJ σ) {Q : Int32 → rS → Prop} (h : ∀ v σ', rJ σ' → σ'.1 104 = σ.1 104 ∧ σ'.1 2 = σ.1 2 → Q v σ') : cI C 8 m_solve [.ref (co C)] σ Q := solve_c hC _ ⟨pOK_of J.2.2.1, rfl, J.2.2.2.1⟩ (fun v σ' q => by
  obtain ⟨f, s, n⟩ := q
  have e70 := f.1 70 (by decide)
  have g := rJ_x J (fun k hk => f.1 k ((by decide : ∀ k, k ∈ rjA → k ∉ slF) k hk)) (fun k hk => f.2.2.1 k ((by decide : ∀ k, k ∈ rjQ → k ∉ slR) k hk)) (exP_o J.2.2.1 (fun k hk => f.1 k (by rcases hk with z | z | z | z <;> rw [z] <;> decide)) (fun k hk => f.2.2.1 k (by rcases hk with z | z | z | z | z | z | z | z <;> rw [z] <;> decide))) (fun y k hk => s y k (by rw [← e70]; exact hk)) (jWo_o J.2.2.2.2.1 (by rw [f.1 114 (by decide)]; exact fun y => y) e70 (f.2.2.1 115 (by decide)) (f.2.2.1 116 (by decide))) (plN_o J.2.2.2.2.2.1 (by rw [f.1 106 (by decide)]; exact fun y => y) (fun k hk => n k (by omega))) (shO_o J.2.2.2.2.2.2.1 (f.1 103 (by decide)) (fun k hk => n k (by omega)))
  exact h v σ' g.1 g.2)
theorem best_j (hC : cOK C) (J : rJ σ) {Q : Int32 → rS → Prop} (h : ∀ v σ', rJ σ' → σ'.1 104 = σ.1 104 ∧ σ'.1 2 = σ.1 2 → Q v σ') : cI C 7 m_best [.ref (co C)] σ Q := best_c hC _ ⟨J.2.2.1, rfl, J.2.2.2.2.1⟩ (fun v σ' q => by
  obtain ⟨f, e, s, v4, n⟩ := q
  have e70 := f.1 70 (by decide)
  have g := rJ_x J (fun k hk => f.1 k ((by decide : ∀ k, k ∈ rjA → k ∉ bfF) k hk)) (fun k hk => f.2.2.1 k ((by decide : ∀ k, k ∈ rjQ → k ∉ bfR) k hk)) e (jVs_o J.2.2.2.1 v4 e70 (f.2.2.1 102 (by decide))) (fun y k hk => s y k (by rw [← e70]; exact hk)) (plN_o J.2.2.2.2.2.1 (by rw [f.1 106 (by decide)]; exact fun y => y) (fun k hk => n k (by omega))) (shO_o J.2.2.2.2.2.2.1 (f.1 103 (by decide)) (fun k hk => n k (by omega)))
  exact h v σ' g.1 g.2)
theorem explore_j (hC : cOK C) (J : rJ σ) {Q : Int32 → rS → Prop} (h : ∀ v σ', rJ σ' → σ'.1 104 = σ.1 104 ∧ σ'.1 2 = σ.1 2 → Q v σ') : cI C 11 m_explore [.ref (co C), .int a1] σ Q := explore_c hC ⟨J.2.1.2.1, J.2.1.2.2, J.2.2.1⟩ (fun v σ' q => by
  obtain ⟨f, e, -, -, z⟩ := q
  have r0 := f.2.2.1 90 (by decide)
  have r1 := f.2.2.1 91 (by decide)
  have g := rJ_x J (fun k hk => f.1 k ((by decide : ∀ k, k ∈ rjA → k ∉ xpF) k hk)) (fun k hk => f.2.2.1 k ((by decide : ∀ k, k ∈ rjQ → k ∉ xpR) k hk)) e (by
    rcases z with z | z
    · exact jVs_o J.2.2.2.1 (by rw [z.1 94 (by decide)]; exact fun y => y) (z.1 70 (by decide)) (by rw [z.2])
    · exact fun y => absurd z.1 y) (by
    rcases z with z | z
    · exact jWo_o J.2.2.2.2.1 (by rw [z.1 114 (by decide)]; exact fun y => y) (z.1 70 (by decide)) (by rw [z.2]) (by rw [z.2])
    · exact fun y => absurd z.2 y) (plN_o J.2.2.2.2.2.1 (by rw [f.1 106 (by decide)]; exact fun y => y) (fun k hk => ⟨by rw [r1], fun i _ => by rw [r0]⟩)) (shO_o J.2.2.2.2.2.2.1 (f.1 103 (by decide)) (fun k hk => ⟨by rw [r1], fun i _ => by rw [r0]⟩))
  exact h v σ' g.1 g.2)
theorem program_j (hC : cOK C) (J : rJ σ) {Q : Int32 → rS → Prop} (h : ∀ v σ', rJ σ' → σ'.1 104 = σ.1 104 → σ'.1 2 = 0 → Q v σ') : cI C 13 m_program [.ref (co C)] σ Q := program_c hC ⟨J.2.1.1, J.1.1, J.1.2, J.2.1.2.1, J.2.1.2.2⟩ (fun v σ' q => by
  obtain ⟨b3, b2, ty, pg, f, z⟩ := q
  have r0 := f.2.2.1 90 (by decide)
  have r1 := f.2.2.1 91 (by decide)
  have e104 := f.1 104 (by decide)
  have e88 := f.1 88 (by decide)
  refine h v σ' ⟨by rw [b2]; decide, ⟨b3, ty, pg⟩, ?_, ?_, ?_, ?_, shO_o J.2.2.2.2.2.2.1 (f.1 103 (by decide)) (fun k hk => ⟨by rw [r1], fun i _ => by rw [r0]⟩), by rw [e104]; exact J.2.2.2.2.2.2.2⟩ e104 b2
  · rcases z with z | z
    · exact exP_o J.2.2.1 (fun k hk => by
        rcases hk with y | y | y | y <;> rw [y]
        · exact z.2.2.1
        · exact z.2.2.2.1
        · exact z.2.2.2.2.1
        · exact e88) (fun k hk => f.2.2.1 k (by rcases hk with z | z | z | z | z | z | z | z <;> rw [z] <;> decide))
    · exact exP_0 z.2.2.1 z.2.2.2.1 z.2.2.2.2.1 (by rw [e88]; exact rj_88 J)
  · rcases z with z | z
    · exact jVs_o J.2.2.2.1 (by rw [z.2.2.2.2.2.1]; exact fun y => y) z.2.2.1 (f.2.2.1 102 (by decide))
    · exact fun y => absurd z.2.2.2.2.2.1 y
  · rcases z with z | z
    · exact jWo_o J.2.2.2.2.1 (by rw [z.2.2.2.2.2.2.2]; exact fun y => y) z.2.2.1 (f.2.2.1 115 (by decide)) (f.2.2.1 116 (by decide))
    · exact fun y => absurd z.2.2.2.2.2.2.2 y
  · refine plN_o J.2.2.2.2.2.1 ?_ (fun k hk => ⟨by rw [r1], fun i _ => by rw [r0]⟩)
    rcases z with z | z
    · rw [z.2.2.2.2.2.2.1]; exact fun y => y
    · exact fun y => absurd z.2.2.2.2.2.2.1 y)
theorem rJ_w {σ ρ τ : rS} (J : rJ σ) (hρ : ∀ k, k ≠ 113 → ρ.1 k = σ.1 k) (hs : ρ.2.2 = σ.2.2) (f : frW ρ τ) (p : plN τ) : rJ τ ∧ τ.1 104 = σ.1 104 ∧ τ.1 2 = σ.1 2 := by
  have ef : ∀ k, k ∉ pyF → k ≠ 113 → τ.1 k = σ.1 k := fun k z1 z2 => (f.1 k z1).trans (hρ k z2)
  have er : ∀ k, k ≠ 90 → k ≠ 91 → k ∉ pyR → τ.2.2.1 k = σ.2.2.1 k := fun k z1 z2 z3 => (f.2.2.1 k z1 z2 z3).trans (by rw [hs])
  refine rJ_x J (fun k hk => ef k ((by decide : ∀ k, k ∈ rjA → k ∉ pyF) k hk) ((by decide : ∀ k, k ∈ rjA → k ≠ 113) k hk)) (fun k hk => er k ((by decide : ∀ k, k ∈ rjQ → k ≠ 90) k hk) ((by decide : ∀ k, k ∈ rjQ → k ≠ 91) k hk) ((by decide : ∀ k, k ∈ rjQ → k ∉ pyR) k hk)) (exP_o J.2.2.1 (fun k hk => ef k (by rcases hk with z | z | z | z <;> rw [z] <;> decide) (by rcases hk with z | z | z | z <;> rw [z] <;> decide)) (fun k hk => er k (by rcases hk with z | z | z | z | z | z | z | z <;> rw [z] <;> decide) (by rcases hk with z | z | z | z | z | z | z | z <;> rw [z] <;> decide) (by rcases hk with z | z | z | z | z | z | z | z <;> rw [z] <;> decide))) (jVs_o J.2.2.2.1 (by rw [ef 94 (by decide) (by decide)]; exact fun y => y) (ef 70 (by decide) (by decide)) (er 102 (by decide) (by decide) (by decide))) (jWo_o J.2.2.2.2.1 (by rw [ef 114 (by decide) (by decide)]; exact fun y => y) (ef 70 (by decide) (by decide)) (er 115 (by decide) (by decide) (by decide)) (er 116 (by decide) (by decide) (by decide))) p (shO_o J.2.2.2.2.2.2.1 (ef 103 (by decide) (by decide)) (fun k hk => by
    have y := f.2.2.2.2 k (by rcases hk with z | z <;> rw [z] <;> decide)
    rw [hs] at y
    exact y))
theorem rj_T (J : rJ σ) : ∃ T, (σ.1 14 ≠ 0 → rI σ (σ.1 3) T) := by
  by_cases z : σ.1 14 = 0
  · exact ⟨0, fun y => absurd z y⟩
  · obtain ⟨T, g⟩ := J.2.1.2.2 z
    exact ⟨T, fun _ => ⟨J.2.1.2.1, g⟩⟩
theorem play_j {x : Int64} (hC : cOK C) (J : rJ σ) {Q : Int32 → rS → Prop} (h : ∀ v σ', rJ σ' → σ'.1 104 = σ.1 104 ∧ σ'.1 2 = σ.1 2 → Q v σ') : cI C 11 m_play [.ref (co C), .long x, .int a1] σ Q := by
  obtain ⟨T, hT⟩ := rj_T J
  exact play_c hC T ⟨hT, J.2.2.1, J.2.2.2.2.2.2.2.1, J.2.2.2.2.2.2.2.2, J.2.2.2.2.2.1⟩ (fun v σ' q => h v σ' (rJ_w (ρ := siU (slU σ 112 x) 113 1) J (fun k hk => if_neg hk) rfl q.1 q.2).1 (rJ_w (ρ := siU (slU σ 112 x) 113 1) J (fun k hk => if_neg hk) rfl q.1 q.2).2)
theorem walk_j (hC : cOK C) (J : rJ σ) {Q : Int32 → rS → Prop} (h : ∀ v σ', rJ σ' → σ'.1 104 = σ.1 104 ∧ σ'.1 2 = σ.1 2 → Q v σ') : cI C 11 m_walk [.ref (co C), .int a1] σ Q := by
  obtain ⟨T, hT⟩ := rj_T J
  exact walk_c hC T ⟨hT, J.2.2.1, J.2.2.2.2.2.2.2.1, J.2.2.2.2.2.2.2.2, J.2.2.2.2.2.1⟩ (fun v σ' q => h v σ' (rJ_w (ρ := siU σ 113 0) J (fun k hk => if_neg hk) rfl q.1 q.2).1 (rJ_w (ρ := siU σ 113 0) J (fun k hk => if_neg hk) rfl q.1 q.2).2)
end callz
