section
set_option maxHeartbeats 1600000
/-! the reference: what holds between calls -/
theorem nu_k {σ τ : rS} {k : Nat} (g : τ.2.2.1 91 k = σ.2.2.1 91 k ∧ ∀ i, i < 40000 → τ.2.2.1 90 (40000 * k + i) = σ.2.2.1 90 (40000 * k + i)) (h : numO σ k) : numO τ k ∧ nV τ k = nV σ k ∧ nL τ k = nL σ k := by
  have el : nL τ k = nL σ k := by show (τ.2.2.1 91 k).toNatClampNeg = _; rw [g.1]
  have le := nL_le h
  refine ⟨⟨by rw [g.1]; exact h.1, by rw [g.1]; exact h.2.1, fun i hi => ?_, ?_⟩, ?_, el⟩
  · rw [el] at hi
    rw [g.2 i (by omega)]; exact h.2.2.1 i hi
  · rw [el]
    rcases h.2.2.2 with z | ⟨m, z1, z2⟩
    · exact Or.inl z
    · exact Or.inr ⟨m, z1, by rw [g.2 m (by omega)]; exact z2⟩
  · unfold nV
    rw [el]
    exact dv_congr (fun i hi => g.2 i (by omega))
abbrev rjP : List Nat := [15, 16, 17, 18, 19, 40, 41, 42]
abbrev rjQ : List Nat := [5, 7, 20, 22, 23, 24, 25, 26, 27, 28, 29, 30, 31, 32, 33, 34, 35, 36, 37, 38, 39, 43, 44]
/-- the book and the tape -/
def jBk (σ : rS) : Prop := (σ.1 3 = 0 ∨ σ.1 3 = 65537) ∧ tyAll σ ∧ (σ.1 14 ≠ 0 → ∃ T, progOK σ (σ.1 3) T)
def jVs (σ : rS) : Prop := σ.1 94 ≠ 0 → ∀ k, k < (σ.1 70).toNatClampNeg → vOK σ k
def jWo (σ : rS) : Prop := σ.1 114 ≠ 0 → ∀ k, k < (σ.1 70).toNatClampNeg → wkO σ 115 116 k
/-- what holds between calls -/
def rJ (σ : rS) : Prop := (0 ≤ σ.1 2 ∧ σ.1 2 ≤ 65536) ∧ jBk σ ∧ exP σ ∧ jVs σ ∧ jWo σ ∧ plN σ ∧ shO σ ∧ 0 ≤ σ.1 104 ∧ σ.1 104 ≤ 200
theorem ty_g9 {σ τ : rS} (h : tyAll σ) (ff : ∀ k, k ∈ rjP → τ.1 k = σ.1 k) (rr : ∀ k, k ∈ rjQ → τ.2.2.1 k = σ.2.2.1 k) : tyAll τ := by
  obtain ⟨g1, g3, g4, g5, g6⟩ := h
  refine ⟨?_, ?_, ?_, ?_, by rw [rr 37 (by decide)]; exact g6⟩
  · show tyF _ _ _ _ _ _ _ _
    rw [ff 15 (by decide), ff 16 (by decide), ff 17 (by decide), ff 18 (by decide), ff 19 (by decide), ff 40 (by decide), ff 41 (by decide), ff 42 (by decide)]
    exact g1
  · show tyN _ _ _ _ _ _
    rw [rr 20 (by decide), rr 22 (by decide), rr 25 (by decide), rr 28 (by decide), rr 26 (by decide), rr 27 (by decide)]
    exact g3
  · show tyA _ _
    rw [rr 23 (by decide), rr 24 (by decide)]
    exact g4
  · show tyS _ _ _ _ _ _ _ _
    rw [rr 29 (by decide), rr 33 (by decide), rr 34 (by decide), rr 35 (by decide), rr 36 (by decide), rr 38 (by decide), rr 43 (by decide), rr 44 (by decide)]
    exact g5
theorem jBk_o {σ τ : rS} (h : jBk σ) (h3 : τ.1 3 = σ.1 3) (h14 : τ.1 14 = σ.1 14) (ff : ∀ k, k ∈ rjP → τ.1 k = σ.1 k) (rr : ∀ k, k ∈ rjQ → τ.2.2.1 k = σ.2.2.1 k) : jBk τ := by
  refine ⟨by rw [h3]; exact h.1, ty_g9 h.2.1 ff rr, fun z => ?_⟩
  rw [h14] at z
  obtain ⟨T, g⟩ := h.2.2 z
  exact ⟨T, by rw [h3]; exact (rI_gen ⟨h.2.1, g⟩ ff rr).2⟩
theorem jVs_o {σ τ : rS} (h : jVs σ) (h94 : τ.1 94 ≠ 0 → σ.1 94 ≠ 0) (h70 : τ.1 70 = σ.1 70) (r : τ.2.2.1 102 = σ.2.2.1 102) : jVs τ := fun z k hk => vOK_f r (h (h94 z) k (by rw [← h70]; exact hk))
theorem jWo_o {σ τ : rS} (h : jWo σ) (h114 : τ.1 114 ≠ 0 → σ.1 114 ≠ 0) (h70 : τ.1 70 = σ.1 70) (r : τ.2.2.1 115 = σ.2.2.1 115) (r2 : τ.2.2.1 116 = σ.2.2.1 116) : jWo τ := fun z k hk => wkO_f r r2 (h (h114 z) k (by rw [← h70]; exact hk))
theorem plN_o {σ τ : rS} (h : plN σ) (h106 : τ.1 106 ≠ -1 → σ.1 106 ≠ -1) (hn : ∀ k, k = 17 ∨ k = 18 → τ.2.2.1 91 k = σ.2.2.1 91 k ∧ ∀ i, i < 40000 → τ.2.2.1 90 (40000 * k + i) = σ.2.2.1 90 (40000 * k + i)) : plN τ := by
  intro z
  have q := h (h106 z)
  have a := nu_k (hn 17 (Or.inl rfl)) q.1
  have b := nu_k (hn 18 (Or.inr rfl)) q.2.1
  rw [a.2.2, b.2.2, b.2.1]
  exact ⟨a.1, b.1, q.2.2⟩
theorem shO_o {σ τ : rS} (h : shO σ) (h103 : τ.1 103 = σ.1 103) (hn : ∀ k, k = 15 ∨ k = 16 → τ.2.2.1 91 k = σ.2.2.1 91 k ∧ ∀ i, i < 40000 → τ.2.2.1 90 (40000 * k + i) = σ.2.2.1 90 (40000 * k + i)) : shO τ := by
  intro z
  rw [h103] at z
  have q := h z
  exact ⟨(nu_k (hn 15 (Or.inl rfl)) q.1).1, (nu_k (hn 16 (Or.inr rfl)) q.2).1⟩
theorem rj34 {σ : rS} (h : tyAll σ) : 0 ≤ σ.1 15 + σ.1 17 ∧ σ.1 15 + σ.1 17 ≤ 34 := by
  have g : tyF _ _ _ _ _ _ _ _ := h.1
  obtain ⟨a0, a1, b0, b1, c0, c1, -⟩ := g
  generalize σ.1 15 = v at *
  generalize σ.1 16 = r at *
  generalize σ.1 17 = c at *
  have c24 : c ≤ 24 := by
    have e : r = 0 ∨ r = 1 ∨ r = 2 ∨ r = 3 := by grind
    rcases e with e | e | e | e <;> rw [e] at c1 <;> exact Int32.le_trans c1 (by decide)
  grind
abbrev rjF : List Nat := [3, 14, 15, 16, 17, 18, 19, 40, 41, 42, 70, 71, 72, 88, 94, 103, 106, 114]
abbrev rjR : List Nat := [5, 7, 20, 22, 23, 24, 25, 26, 27, 28, 29, 30, 31, 32, 33, 34, 35, 36, 37, 38, 39, 43, 44, 73, 76, 77, 78, 79, 80, 81, 83, 102, 115, 116]
def rjN (σ τ : rS) : Prop := ∀ k, 14 < k → k < 19 → τ.2.2.1 91 k = σ.2.2.1 91 k ∧ ∀ i, i < 40000 → τ.2.2.1 90 (40000 * k + i) = σ.2.2.1 90 (40000 * k + i)
theorem rjN_r {σ τ : rS} (h0 : τ.2.2.1 90 = σ.2.2.1 90) (h1 : τ.2.2.1 91 = σ.2.2.1 91) : rjN σ τ := fun k _ _ => ⟨by rw [h1], fun i _ => by rw [h0]⟩
theorem rjN_l {l : List Nat} {σ τ : rS} (h : ∀ k, k ∉ l → τ.2.2.1 91 k = σ.2.2.1 91 k ∧ ∀ i, i < 40000 → τ.2.2.1 90 (40000 * k + i) = σ.2.2.1 90 (40000 * k + i)) (hl : 15 ∉ l ∧ 16 ∉ l ∧ 17 ∉ l ∧ 18 ∉ l) : rjN σ τ := fun k z1 z2 => h k (by
  have e : k = 15 ∨ k = 16 ∨ k = 17 ∨ k = 18 := by omega
  rcases e with e | e | e | e <;> rw [e]
  · exact hl.1
  · exact hl.2.1
  · exact hl.2.2.1
  · exact hl.2.2.2)
/-- a call that changes nothing of it but the tape's size and the draws told -/
theorem rJ_c {σ τ : rS} (h : rJ σ) (h2 : 0 ≤ τ.1 2 ∧ τ.1 2 ≤ 65536) (h104 : 0 ≤ τ.1 104 ∧ τ.1 104 ≤ 200) (hf : ∀ k, k ∈ rjF → τ.1 k = σ.1 k) (hr : ∀ k, k ∈ rjR → τ.2.2.1 k = σ.2.2.1 k) (hn : rjN σ τ) : rJ τ := by
  obtain ⟨g1, g2, g3, g4, g5, g6, g7, g8⟩ := h
  refine ⟨h2, jBk_o g2 (hf 3 (by decide)) (hf 14 (by decide)) (fun k hk => hf k ((by decide : ∀ k, k ∈ rjP → k ∈ rjF) k hk)) (fun k hk => hr k ((by decide : ∀ k, k ∈ rjQ → k ∈ rjR) k hk)), exP_o g3 (fun k hk => hf k (by rcases hk with z | z | z | z <;> rw [z] <;> decide)) (fun k hk => hr k (by rcases hk with z | z | z | z | z | z | z | z <;> rw [z] <;> decide)), jVs_o g4 (by rw [hf 94 (by decide)]; exact fun z => z) (hf 70 (by decide)) (hr 102 (by decide)), jWo_o g5 (by rw [hf 114 (by decide)]; exact fun z => z) (hf 70 (by decide)) (hr 115 (by decide)) (hr 116 (by decide)), plN_o g6 (by rw [hf 106 (by decide)]; exact fun z => z) (fun k hk => hn k (by omega) (by omega)), shO_o g7 (hf 103 (by decide)) (fun k hk => hn k (by omega) (by omega)), h104⟩
theorem rJ_G {σ τ : rS} (h : rJ σ) (f : frG [0] [] σ τ) : rJ τ ∧ pR8 σ τ := ⟨rJ_c h (by rw [f.1 2 (by decide)]; exact h.1) (by rw [f.1 104 (by decide)]; exact h.2.2.2.2.2.2.2) (fun k hk => f.1 k ((by decide : ∀ k, k ∈ rjF → k ∉ [0]) k hk)) (fun k _ => f.2.2.1 k List.not_mem_nil) (rjN_r (f.2.2.1 90 List.not_mem_nil) (f.2.2.1 91 List.not_mem_nil)), ⟨⟨oR_k9 (f.1 2 (by decide)) (f.1 53 (by decide)) (f.2.2.1 1 List.not_mem_nil), kR_f7 (fun k hk => f.1 k ((by decide : ∀ k, k ∈ kf7 → k ∉ [0]) k hk)) (fun k _ => f.2.2.1 k List.not_mem_nil) (fun j => f.2.2.2 8 j)⟩, kS_f8 (fun k hk => f.1 k ((by decide : ∀ k, k ∈ ke8 → k ∉ [0]) k hk)) (fun k _ => f.2.2.1 k List.not_mem_nil)⟩⟩
theorem rJ_T {σ τ : rS} (h : rJ σ) (f : frT [0] [] σ τ) : rJ τ ∧ pR8 σ τ := ⟨rJ_c h (by rw [f.1 2 (by decide)]; exact h.1) (by rw [f.1 104 (by decide)]; exact h.2.2.2.2.2.2.2) (fun k hk => f.1 k ((by decide : ∀ k, k ∈ rjF → k ∉ [0]) k hk)) (fun k hk => f.2.2.1 k ((by decide : ∀ k, k ∈ rjR → k ≠ 90) k hk) ((by decide : ∀ k, k ∈ rjR → k ≠ 91) k hk)) (rjN_l f.2.2.2.2 (by decide)), ⟨⟨oR_k9 (f.1 2 (by decide)) (f.1 53 (by decide)) (f.2.2.1 1 (by decide) (by decide)), kR_f7 (fun k hk => f.1 k ((by decide : ∀ k, k ∈ kf7 → k ∉ [0]) k hk)) (fun k hk => f.2.2.1 k ((by decide : ∀ k, k ∈ kz7 → k ≠ 90) k hk) ((by decide : ∀ k, k ∈ kz7 → k ≠ 91) k hk)) (fun j => by rw [f.2.2.2.1])⟩, kS_f8 (fun k hk => f.1 k ((by decide : ∀ k, k ∈ ke8 → k ∉ [0]) k hk)) (fun k hk => f.2.2.1 k ((by decide : ∀ k, k ∈ kx8 → k ≠ 90) k hk) ((by decide : ∀ k, k ∈ kx8 → k ≠ 91) k hk))⟩⟩
theorem rJ_U {σ τ : rS} (h : rJ σ) (f : frU ifF ifR ifL σ τ) : rJ τ ∧ pR8 σ τ := ⟨rJ_c h (by rw [f.1 2 (by decide)]; exact h.1) (by rw [f.1 104 (by decide)]; exact h.2.2.2.2.2.2.2) (fun k hk => f.1 k ((by decide : ∀ k, k ∈ rjF → k ∉ ifF) k hk)) (fun k hk => f.2.2.1 k ((by decide : ∀ k, k ∈ rjR → k ≠ 90) k hk) ((by decide : ∀ k, k ∈ rjR → k ≠ 91) k hk) ((by decide : ∀ k, k ∈ rjR → k ∉ ifR) k hk)) (rjN_l f.2.2.2.2 (by decide)), ⟨⟨oR_k9 (f.1 2 (by decide)) (f.1 53 (by decide)) (f.2.2.1 1 (by decide) (by decide) (by decide)), kR_f7 (fun k hk => f.1 k ((by decide : ∀ k, k ∈ kf7 → k ∉ ifF) k hk)) (fun k hk => f.2.2.1 k ((by decide : ∀ k, k ∈ kz7 → k ≠ 90) k hk) ((by decide : ∀ k, k ∈ kz7 → k ≠ 91) k hk) ((by decide : ∀ k, k ∈ kz7 → k ∉ ifR) k hk)) (fun j => by rw [f.2.2.2.1])⟩, kS_f8 (fun k hk => f.1 k ((by decide : ∀ k, k ∈ ke8 → k ∉ ifF) k hk)) (fun k hk => f.2.2.1 k ((by decide : ∀ k, k ∈ kx8 → k ≠ 90) k hk) ((by decide : ∀ k, k ∈ kx8 → k ≠ 91) k hk) ((by decide : ∀ k, k ∈ kx8 → k ∉ ifR) k hk))⟩⟩
section calls
variable {C : rCx} {σ : rS} {a1 a2 a3 a4 a5 : Int32}
theorem count_j (hC : cOK C) (J : rJ σ) {Q : Int32 → rS → Prop} (h : ∀ v σ', rJ σ' → pR8 σ σ' → Q v σ') : cI C 1 m_count [.ref (co C), .int a1] σ Q := count_c hC ⟨J.2.2.1.1.1.1, J.2.2.1.1.1.2⟩ (fun v σ' q => h v σ' (rJ_G J q).1 (rJ_G J q).2)
theorem state_j (hC : cOK C) (J : rJ σ) {Q : Int32 → rS → Prop} (h : ∀ v σ', rJ σ' → pR8 σ σ' → Q v σ') : cI C 1 m_state [.ref (co C), .int a1, .int a2] σ Q := state_c hC J.2.2.1 (fun v σ' q => h v σ' (rJ_G J q).1 (rJ_G J q).2)
theorem value_j (hC : cOK C) (J : rJ σ) {Q : Int32 → rS → Prop} (h : ∀ v σ', rJ σ' → pR8 σ σ' → Q v σ') : cI C 1 m_value [.ref (co C), .int a1, .int a2, .int a3] σ Q := value_c hC ⟨J.2.2.1, J.2.1.2.1⟩ (fun v σ' q => h v σ' (rJ_G J q).1 (rJ_G J q).2)
theorem next_j (hC : cOK C) (J : rJ σ) {Q : Int32 → rS → Prop} (h : ∀ v σ', rJ σ' → pR8 σ σ' → Q v σ') : cI C 1 m_next [.ref (co C), .int a1, .int a2, .int a3] σ Q := next_c hC J.2.2.1 (fun v σ' q => h v σ' (rJ_G J q).1 (rJ_G J q).2)
theorem ending_j (hC : cOK C) (J : rJ σ) {Q : Int32 → rS → Prop} (h : ∀ v σ', rJ σ' → pR8 σ σ' → Q v σ') : cI C 0 m_ending [.ref (co C), .int a1, .int a2] σ Q := ending_c hC ⟨J.2.2.1, J.2.1.2.1⟩ (fun v σ' q => h v σ' (rJ_G J q).1 (rJ_G J q).2)
theorem decided_j (hC : cOK C) (J : rJ σ) {Q : Int32 → rS → Prop} (h : ∀ v σ', rJ σ' → pR8 σ σ' → Q v σ') : cI C 1 m_decided [.ref (co C), .int a1] σ Q := decided_c hC J.2.2.1 (fun v σ' q => h v σ' (rJ_G J q).1 (rJ_G J q).2)
theorem size_j (hC : cOK C) (J : rJ σ) {Q : Int32 → rS → Prop} (h : ∀ v σ', rJ σ' → pR8 σ σ' → Q v σ') : cI C 1 m_size [.ref (co C), .int a1] σ Q := size_c hC J.2.2.2.2.2.2.1 (fun v σ' q => h v σ' (rJ_T J q).1 (rJ_T J q).2)
theorem limb_j (hC : cOK C) (J : rJ σ) {Q : Int32 → rS → Prop} (h : ∀ v σ', rJ σ' → pR8 σ σ' → Q v σ') : cI C 1 m_limb [.ref (co C), .int a1, .int a2] σ Q := limb_c hC J.2.2.2.2.2.2.1 (fun v σ' q => h v σ' (rJ_T J q).1 (rJ_T J q).2)
theorem played_j (hC : cOK C) (J : rJ σ) {Q : Int64 → rS → Prop} (h : ∀ v σ', rJ σ' → pR8 σ σ' → Q v σ') : cJ C 0 m_played [.ref (co C), .int a1] σ Q := played_c hC (rj34 J.2.1.2.1) (fun v σ' q => h v σ' (rJ_T J q).1 (rJ_T J q).2)
theorem independent_j (hC : cOK C) (J : rJ σ) {Q : Int32 → rS → Prop} (h : ∀ v σ', rJ σ' → pR8 σ σ' → Q v σ') : cI C 9 m_independent [.ref (co C), .int a1, .int a2] σ Q := independent_c hC _ ⟨pOK_of J.2.2.1, rfl, J.2.2.2.1, (rj34 J.2.1.2.1).2⟩ (fun v σ' q => h v σ' (rJ_U J q).1 (rJ_U J q).2)
theorem given_j (hC : cOK C) (J : rJ σ) {Q : Int32 → rS → Prop} (h : ∀ v σ', rJ σ' → pR8 σ σ' → Q v σ') : cI C 9 m_given [.ref (co C), .int a1, .int a2, .int a3] σ Q := given_c hC _ ⟨pOK_of J.2.2.1, rfl, J.2.2.2.1, (rj34 J.2.1.2.1).2⟩ (fun v σ' q => h v σ' (rJ_U J q).1 (rJ_U J q).2)
end calls

end
section
set_option maxHeartbeats 1600000
/-! the reference: feed by its bytes; feed, end, fault, tell, forget -/
/-- on feed's way: the bytes written so far -/
def fbI9 (a b c d e : Int32) (σ : rS) (l : Int32) (τ : rS) : Prop := (∀ j, j < (σ.1 2).toInt.toNat → τ.2.2.1 1 j = σ.2.2.1 1 j) ∧ (∀ i : Nat, (i : Int) < l.toInt → τ.2.2.1 1 ((σ.1 2).toInt.toNat + i) = by9 a b c d e i)
theorem fb_09 {a b c d e x : Int32} {σ : rS} : fbI9 a b c d e σ 0 (siU σ 0 x) := ⟨fun _ _ => rfl, fun i hi => absurd hi (by rw [t0i]; omega)⟩
theorem fb_s9 {a b c d e l s0 : Int32} {σ τ : rS} (h0 : 0 ≤ σ.1 2) (h60 : σ.1 2 ≤ 60000) (h2 : τ.1 2 = σ.1 2 + l) (l0 : 0 ≤ l) (l20 : l < 20) (hs : s0 = vs9 a b c d e l.toInt.toNat) (h : fbI9 a b c d e σ l τ) : fbI9 a b c d e σ (l + 1) (siU (riU τ 1 (τ.1 2).toNatClampNeg (vp_nar .byte ((s0 >>> (((24 : Int32) - ((8 : Int32) * (l &&& (3 : Int32)))) &&& 31))).toInt8.toInt32)) 2 ((riU τ 1 (τ.1 2).toNatClampNeg (vp_nar .byte ((s0 >>> (((24 : Int32) - ((8 : Int32) * (l &&& (3 : Int32)))) &&& 31))).toInt8.toInt32)).1 2 + 1)) := by
  have t60 : (60000 : Int32).toInt = 60000 := rfl
  have t20 : (20 : Int32).toInt = 20 := rfl
  rw [lei, t0i] at h0 l0
  rw [lei, t60] at h60
  rw [lti, t20] at l20
  have e2 : (τ.1 2).toInt = (σ.1 2).toInt + l.toInt := by rw [h2, add_i (by omega) (by omega)]
  have el : (l + 1).toInt = l.toInt + 1 := by rw [add_i (by rw [t1i]; omega) (by rw [t1i]; omega), t1i]
  have ci : (τ.1 2).toNatClampNeg = (σ.1 2).toInt.toNat + l.toInt.toNat := by
    have z := cnk (x := τ.1 2) (by omega)
    omega
  have lo : l = Int32.ofNat l.toInt.toNat := Int32.toInt_inj.mp (by rw [ofn_i (by omega)]; omega)
  have sh : (((24 : Int32) - ((8 : Int32) * (l &&& (3 : Int32)))) &&& 31) = (((24 : Int32) - 8 * Int32.ofNat (l.toInt.toNat % 4)) &&& 31) := by
    have z := sh_49 l.toInt.toNat (by omega)
    rw [← lo] at z
    exact z
  have rw1 : ∀ j, (siU (riU τ 1 (τ.1 2).toNatClampNeg (vp_nar .byte ((s0 >>> (((24 : Int32) - ((8 : Int32) * (l &&& (3 : Int32)))) &&& 31))).toInt8.toInt32)) 2 ((riU τ 1 (τ.1 2).toNatClampNeg (vp_nar .byte ((s0 >>> (((24 : Int32) - ((8 : Int32) * (l &&& (3 : Int32)))) &&& 31))).toInt8.toInt32)).1 2 + 1)).2.2.1 1 j = if j = (σ.1 2).toInt.toNat + l.toInt.toNat then by9 a b c d e l.toInt.toNat else τ.2.2.1 1 j := fun j => by
    show (riU τ 1 (τ.1 2).toNatClampNeg _).2.2.1 1 j = _
    rw [ri4, ci]
    unfold by9 bw9
    rw [← hs, sh]
  refine ⟨fun j hj => ?_, fun i hi => ?_⟩
  · rw [rw1, if_neg (by omega)]
    exact h.1 j hj
  · rw [rw1]
    rw [el] at hi
    by_cases q : i = l.toInt.toNat
    · rw [if_pos (by omega), q]
    · rw [if_neg (by omega)]
      exact h.2 i (by omega)
theorem feed_c9 {C : rCx} (hC : cOK C)  {σ : rS} {a1 : Int32} {a2 : Int32} {a3 : Int32} {a4 : Int32} {a5 : Int32} {Q : Int32 → rS → Prop} (hp : 0 ≤ σ.1 2 ∧ σ.1 2 ≤ 60000) (h : ∀ (v : Int32) (σ' : rS), (((∀ k, k ≠ 0 → k ≠ 2 → σ'.1 k = σ.1 k) ∧ (∀ k,  σ'.2.1 k = σ.2.1 k) ∧ (∀ k, k ≠ 1 → σ'.2.2.1 k = σ.2.2.1 k) ∧ (∀ k j, k ≠ 1 → σ'.2.2.1 k j = σ.2.2.1 k j) ∧ (∀ k j,  σ'.2.2.2 k j = σ.2.2.2 k j)) ∧ 0 ≤ σ'.1 2 ∧ σ'.1 2 ≤ 65536 ∧ v = σ.1 2 + 20 ∧ σ'.1 2 = σ.1 2 + 20 ∧ σ'.1 0 = 0 ∧ (∀ j, j < (σ.1 2).toInt.toNat → σ'.2.2.1 1 j = σ.2.2.1 1 j) ∧ (∀ i, i < 20 → σ'.2.2.1 1 ((σ.1 2).toInt.toNat + i) = by9 a1 a2 a3 a4 a5 i)) → Q v σ') : cI C 0 m_feed [.ref (co C), .int a1, .int a2, .int a3, .int a4, .int a5] σ Q := by
  refine m_feed_run hC ?_
  unfold w_feed_0
  have hj18 : ∀ (l1 : Int32) (l2 : Int32) (l3 : Int32) (l4 : Int32) (l5 : Int32) (s1 : Int32) (τ : rS), (l1 = a1 ∧ l2 = a2 ∧ l3 = a3 ∧ l4 = a4 ∧ l5 = a5 ∧ τ = σ ∧ s1 = 0) → w_feed_18 C Q  l1 l2 l3 l4 l5 s1 τ := by
    rintro y18_1 y18_2 y18_3 y18_4 y18_5 y18_s1 τ18 j18
    unfold w_feed_18
    intro σ_1 hσ_1
    refine ⟨fun c2 => ?_, fun c2 => ?_⟩
    · skip
      unfold w_feed_33
      refine ⟨fun n l1 l2 l3 l4 l5 l6 τ => n = (20 - l6).toNatClampNeg ∧ (l1 = a1 ∧ l2 = a2 ∧ l3 = a3 ∧ l4 = a4 ∧ l5 = a5 ∧ ((∀ k, k ≠ 0 → k ≠ 2 → τ.1 k = σ.1 k) ∧ (∀ k,  τ.2.1 k = σ.2.1 k) ∧ (∀ k, k ≠ 1 → τ.2.2.1 k = σ.2.2.1 k) ∧ (∀ k j, k ≠ 1 → τ.2.2.1 k j = σ.2.2.1 k j) ∧ (∀ k j,  τ.2.2.2 k j = σ.2.2.2 k j)) ∧ τ.1 0 = 0 ∧ τ.1 2 = σ.1 2 + l6 ∧ 0 ≤ l6 ∧ l6 ≤ 20 ∧ σ.1 2 + 20 ≤ 65536 ∧ fbI9 a1 a2 a3 a4 a5 σ l6 τ), ⟨_, rfl, ?_⟩, ?_⟩
      · clear h
        obtain ⟨j1, j2, j3, j4, j5, j6, j7⟩ := j18
        have fb : fbI9 a1 a2 a3 a4 a5 σ 0 σ_1 := by
          rw [hσ_1, j6]
          exact fb_09
        refine ⟨j1, j2, j3, j4, j5, ?_, ?_, ?_, by decide, by decide, ?_, fb⟩
        · grind (splits := 24) [si1, si2, ri1, ri2, ri3, ri34, ri5, ob_ri, ob_si2, ob_only, ob_refl, vb5]
        · grind (splits := 24) [si1, si2, ri1, ri2, ri3, ri34, ri5, ob_ri, ob_si2, ob_only, ob_refl, vb5]
        · grind (splits := 24) [si1, si2, ri1, ri2, ri3, ri34, ri5, ob_ri, ob_si2, ob_only, ob_refl, vb5]
        · clear fb; grind (splits := 24) [si1, si2, ri1, ri2, ri3, ri34, ri5, ob_ri, ob_si2, ob_only, ob_refl, vb5]
      rintro n33 x33_1 x33_2 x33_3 x33_4 x33_5 x33_6 σ33 ⟨hn33, i33⟩
      have hj86 : ∀ (l1 : Int32) (l2 : Int32) (l3 : Int32) (l4 : Int32) (l5 : Int32) (l6 : Int32) (s0 : Int32) (τ : rS), (l1 = a1 ∧ l2 = a2 ∧ l3 = a3 ∧ l4 = a4 ∧ l5 = a5 ∧ τ = σ33 ∧ l6 = x33_6 ∧ l6 < 20 ∧ s0 = vs9 a1 a2 a3 a4 a5 l6.toInt.toNat) → w_feed_86 C Q (fun l1' l2' l3' l4' l5' l6' τ => ∃ k < n33, (fun n l1 l2 l3 l4 l5 l6 τ => n = (20 - l6).toNatClampNeg ∧ (l1 = a1 ∧ l2 = a2 ∧ l3 = a3 ∧ l4 = a4 ∧ l5 = a5 ∧ ((∀ k, k ≠ 0 → k ≠ 2 → τ.1 k = σ.1 k) ∧ (∀ k,  τ.2.1 k = σ.2.1 k) ∧ (∀ k, k ≠ 1 → τ.2.2.1 k = σ.2.2.1 k) ∧ (∀ k j, k ≠ 1 → τ.2.2.1 k j = σ.2.2.1 k j) ∧ (∀ k j,  τ.2.2.2 k j = σ.2.2.2 k j)) ∧ τ.1 0 = 0 ∧ τ.1 2 = σ.1 2 + l6 ∧ 0 ≤ l6 ∧ l6 ≤ 20 ∧ σ.1 2 + 20 ≤ 65536 ∧ fbI9 a1 a2 a3 a4 a5 σ l6 τ)) k l1' l2' l3' l4' l5' l6' τ) l1 l2 l3 l4 l5 l6 s0 τ := by
        rintro y86_1 y86_2 y86_3 y86_4 y86_5 y86_6 y86_s0 τ86 j86
        unfold w_feed_86
        refine ⟨ib_65536.mpr ?_, ?_⟩
        · clear h; grind (splits := 24) [si1, si2, ri1, ri2, ri3, ri34, ri5, ob_ri, ob_si2, ob_only, ob_refl, vb5]  -- b2
        intro σ_3 hσ_3
        intro σ_4 hσ_4
        intro x5 hx5
        refine ⟨_, cn_lt2 hn33 ?_ ?_, rfl, ?_⟩
        · clear h; grind (splits := 24) [si1, si2, ri1, ri2, ri3, ri34, ri5, ob_ri, ob_si2, ob_only, ob_refl, vb5]  -- d3
        · clear h; grind (splits := 24) [si1, si2, ri1, ri2, ri3, ri34, ri5, ob_ri, ob_si2, ob_only, ob_refl, vb5]  -- d4
        · clear h
          obtain ⟨j1, j2, j3, j4, j5, j6, j7, j8, j9⟩ := j86
          obtain ⟨i1, i2, i3, i4, i5, i6, i7, i8, i9, i10, i11, fb⟩ := i33
          have fb2 : fbI9 a1 a2 a3 a4 a5 σ x5 σ_4 := by
            rw [hσ_4, hσ_3, j6, hx5, j7]
            exact fb_s9 hp.1 hp.2 i8 i9 (by rw [← j7]; exact j8) (by rw [← j7]; exact j9) fb
          refine ⟨j1, j2, j3, j4, j5, ?_, ?_, ?_, ?_, ?_, i11, fb2⟩ <;> (clear fb fb2; grind (splits := 24) [si1, si2, ri1, ri2, ri3, ri34, ri5, ob_ri, ob_si2, ob_only, ob_refl, vb5])
      refine ⟨fun c6 => ?_, fun c6 => ?_⟩
      · skip
        refine h _ _ ?_
        · clear h
          obtain ⟨i1, i2, i3, i4, i5, i6, i7, i8, i9, i10, i11, fb⟩ := i33
          have e6 : x33_6 = 20 := Int32.le_antisymm i10 c6
          rw [e6] at i8 fb
          refine ⟨i6, ?_, ?_, i8, i8, i7, fb.1, fun i hi => fb.2 i (by show (i : Int) < 20; omega)⟩ <;> (clear fb; grind (splits := 24) [si1, si2, ri1, ri2, ri3, ri34, ri5, ob_ri, ob_si2, ob_only, ob_refl, vb5])
      · skip
        refine ⟨fun c7 => ?_, fun c7 => ?_⟩
        · skip
          refine ⟨fun c8 => ?_, fun c8 => ?_⟩
          · skip
            refine ⟨fun c9 => ?_, fun c9 => ?_⟩
            · skip
              refine ⟨fun c10 => ?_, fun c10 => ?_⟩
              · skip
                refine hj86 _ _ _ _ _ _ _ _ ?_
                · clear h
                  obtain ⟨i1, i2, i3, i4, i5, i6, i7, i8, i9, i10, i11, fb⟩ := i33
                  refine ⟨i1, i2, i3, i4, i5, rfl, rfl, n_lt c6, ?_⟩
                  have t4 : (4 : Int32).toInt = 4 := rfl
                  have t8 : (8 : Int32).toInt = 8 := rfl
                  have t12 : (12 : Int32).toInt = 12 := rfl
                  have t16 : (16 : Int32).toInt = 16 := rfl
                  have t20 : (20 : Int32).toInt = 20 := rfl
                  rw [lei] at c6 i9 c7 c8 c9 c10
                  rw [t0i] at i9
                  unfold vs9
                  rw [if_neg (by omega), if_neg (by omega), if_neg (by omega), if_neg (by omega)]
                  exact i5
              · skip
                refine hj86 _ _ _ _ _ _ _ _ ?_
                · clear h
                  obtain ⟨i1, i2, i3, i4, i5, i6, i7, i8, i9, i10, i11, fb⟩ := i33
                  refine ⟨i1, i2, i3, i4, i5, rfl, rfl, n_lt c6, ?_⟩
                  have t4 : (4 : Int32).toInt = 4 := rfl
                  have t8 : (8 : Int32).toInt = 8 := rfl
                  have t12 : (12 : Int32).toInt = 12 := rfl
                  have t16 : (16 : Int32).toInt = 16 := rfl
                  have t20 : (20 : Int32).toInt = 20 := rfl
                  rw [lei] at c6 i9 c7 c8 c9 c10
                  rw [t0i] at i9
                  unfold vs9
                  rw [if_neg (by omega), if_neg (by omega), if_neg (by omega), if_pos (by omega)]
                  exact i4
            · skip
              refine hj86 _ _ _ _ _ _ _ _ ?_
              · clear h
                obtain ⟨i1, i2, i3, i4, i5, i6, i7, i8, i9, i10, i11, fb⟩ := i33
                refine ⟨i1, i2, i3, i4, i5, rfl, rfl, n_lt c6, ?_⟩
                have t4 : (4 : Int32).toInt = 4 := rfl
                have t8 : (8 : Int32).toInt = 8 := rfl
                have t12 : (12 : Int32).toInt = 12 := rfl
                have t16 : (16 : Int32).toInt = 16 := rfl
                have t20 : (20 : Int32).toInt = 20 := rfl
                rw [lei] at c6 i9 c7 c8 c9
                rw [t0i] at i9
                unfold vs9
                rw [if_neg (by omega), if_neg (by omega), if_pos (by omega)]
                exact i3
          · skip
            refine hj86 _ _ _ _ _ _ _ _ ?_
            · clear h
              obtain ⟨i1, i2, i3, i4, i5, i6, i7, i8, i9, i10, i11, fb⟩ := i33
              refine ⟨i1, i2, i3, i4, i5, rfl, rfl, n_lt c6, ?_⟩
              have t4 : (4 : Int32).toInt = 4 := rfl
              have t8 : (8 : Int32).toInt = 8 := rfl
              have t12 : (12 : Int32).toInt = 12 := rfl
              have t16 : (16 : Int32).toInt = 16 := rfl
              have t20 : (20 : Int32).toInt = 20 := rfl
              rw [lei] at c6 i9 c7 c8
              rw [t0i] at i9
              unfold vs9
              rw [if_neg (by omega), if_pos (by omega)]
              exact i2
        · skip
          refine hj86 _ _ _ _ _ _ _ _ ?_
          · clear h
            obtain ⟨i1, i2, i3, i4, i5, i6, i7, i8, i9, i10, i11, fb⟩ := i33
            refine ⟨i1, i2, i3, i4, i5, rfl, rfl, n_lt c6, ?_⟩
            have t4 : (4 : Int32).toInt = 4 := rfl
            have t8 : (8 : Int32).toInt = 8 := rfl
            have t12 : (12 : Int32).toInt = 12 := rfl
            have t16 : (16 : Int32).toInt = 16 := rfl
            have t20 : (20 : Int32).toInt = 20 := rfl
            rw [lei] at c6 i9 c7
            rw [t0i] at i9
            unfold vs9
            rw [if_pos (by omega)]
            exact i1
    · skip
      refine h _ _ ?_
      · clear h; grind (splits := 24) [si1, si2, ri1, ri2, ri3, ri34, ri5, ob_ri, ob_si2, ob_only, ob_refl, vb5]  -- q12
  refine ⟨fun c11 => ?_, fun c11 => ?_⟩
  · skip
    refine hj18 _ _ _ _ _ _ _ ?_
    · clear h; grind (splits := 24) [si1, si2, ri1, ri2, ri3, ri34, ri5, ob_ri, ob_si2, ob_only, ob_refl, vb5]  -- k13
  · skip
    refine hj18 _ _ _ _ _ _ _ ?_
    · clear h; grind (splits := 24) [si1, si2, ri1, ri2, ri3, ri34, ri5, ob_ri, ob_si2, ob_only, ob_refl, vb5]  -- k14

theorem end_c2 {C : rCx} (hC : cOK C)  {σ : rS} {a1 : Int32} {Q : rS → Prop} (hp : 0 ≤ σ.1 2 ∧ σ.1 2 ≤ 65536) (h : ∀ (σ' : rS), (((∀ k, k ≠ 0 → k ≠ 2 → σ'.1 k = σ.1 k) ∧ σ'.2 = σ.2) ∧ 0 ≤ σ'.1 2 ∧ σ'.1 2 ≤ 65536 ∧ ((0 ≤ a1 ∧ a1 ≤ σ.1 2) → σ'.1 0 = 0 ∧ σ'.1 2 = a1) ∧ (¬ (0 ≤ a1 ∧ a1 ≤ σ.1 2) → σ'.1 0 = 1 ∧ σ'.1 2 = σ.1 2)) → Q σ') : cV C 0 m_end [.ref (co C), .int a1] σ Q := by
  refine m_end_run hC ?_
  unfold w_end_0
  refine ⟨fun c1 => ?_, fun c1 => ?_⟩
  · skip
    unfold w_end_18
    intro σ_2 hσ_2
    refine ⟨fun c3 => ?_, fun c3 => ?_⟩
    · skip
      intro σ_4 hσ_4
      refine h _ ?_
      · clear h; grind (splits := 24) [si1, si2, ri1, ri2, ri3, ri34, ri5, ob_ri, ob_si2, ob_only, ob_refl, vb5]  -- q1
    · skip
      intro σ_5 hσ_5
      refine h _ ?_
      · clear h; grind (splits := 24) [si1, si2, ri1, ri2, ri3, ri34, ri5, ob_ri, ob_si2, ob_only, ob_refl, vb5]  -- q2
  · skip
    refine ⟨fun c6 => ?_, fun c6 => ?_⟩
    · skip
      unfold w_end_18
      intro σ_7 hσ_7
      refine ⟨fun c8 => ?_, fun c8 => ?_⟩
      · skip
        intro σ_9 hσ_9
        refine h _ ?_
        · clear h; grind (splits := 24) [si1, si2, ri1, ri2, ri3, ri34, ri5, ob_ri, ob_si2, ob_only, ob_refl, vb5]  -- q3
      · skip
        intro σ_10 hσ_10
        refine h _ ?_
        · clear h; grind (splits := 24) [si1, si2, ri1, ri2, ri3, ri34, ri5, ob_ri, ob_si2, ob_only, ob_refl, vb5]  -- q4
    · skip
      unfold w_end_18
      intro σ_11 hσ_11
      refine ⟨fun c12 => ?_, fun c12 => ?_⟩
      · skip
        intro σ_13 hσ_13
        refine h _ ?_
        · clear h; grind (splits := 24) [si1, si2, ri1, ri2, ri3, ri34, ri5, ob_ri, ob_si2, ob_only, ob_refl, vb5]  -- q5
      · skip
        intro σ_14 hσ_14
        refine h _ ?_
        · clear h; grind (splits := 24) [si1, si2, ri1, ri2, ri3, ri34, ri5, ob_ri, ob_si2, ob_only, ob_refl, vb5]  -- q6

theorem feed_j {C : rCx} {σ : rS} {a1 a2 a3 a4 a5 : Int32} (hC : cOK C) (J : rJ σ) (h60 : σ.1 2 ≤ 60000) {Q : Int32 → rS → Prop} (h : ∀ v σ', rJ σ' → (oR9 σ' = fdO9 (oR9 σ) (by9 a1 a2 a3 a4 a5) ∧ kR7 σ σ') ∧ kS8 σ σ' → Q v σ') : cI C 0 m_feed [.ref (co C), .int a1, .int a2, .int a3, .int a4, .int a5] σ Q := feed_c9 hC ⟨J.1.1, h60⟩ (fun v σ' q => h v σ' (rJ_c J ⟨q.2.1, q.2.2.1⟩ (by rw [q.1.1 104 (by decide) (by decide)]; exact J.2.2.2.2.2.2.2) (fun k hk => q.1.1 k ((by decide : ∀ k, k ∈ rjF → k ≠ 0) k hk) ((by decide : ∀ k, k ∈ rjF → k ≠ 2) k hk)) (fun k hk => q.1.2.2.1 k ((by decide : ∀ k, k ∈ rjR → k ≠ 1) k hk)) (rjN_r (q.1.2.2.1 90 (by decide)) (q.1.2.2.1 91 (by decide)))) ⟨⟨(by
    have h0 := J.1.1
    have t60 : (60000 : Int32).toInt = 60000 := rfl
    have h61 := h60
    rw [lei, t0i] at h0
    rw [lei, t60] at h61
    have z := fd_m9 (f := σ.2.2.1 1) (f' := σ'.2.2.1 1) (G := by9 a1 a2 a3 a4 a5) (x := σ.1 53) h0 h61 q.2.2.2.2.1 q.2.2.2.2.2.2.1 q.2.2.2.2.2.2.2
    unfold oR9
    rw [q.1.1 53 (by decide) (by decide)]
    exact z), kR_f7 (fun k hk => q.1.1 k ((by decide : ∀ k, k ∈ kf7 → k ≠ 0) k hk) ((by decide : ∀ k, k ∈ kf7 → k ≠ 2) k hk)) (fun k hk => q.1.2.2.1 k ((by decide : ∀ k, k ∈ kz7 → k ≠ 1) k hk)) (fun j => q.1.2.2.2.2 8 j)⟩, kS_f8 (fun k hk => q.1.1 k ((by decide : ∀ k, k ∈ ke8 → k ≠ 0) k hk) ((by decide : ∀ k, k ∈ ke8 → k ≠ 2) k hk)) (fun k hk => q.1.2.2.1 k ((by decide : ∀ k, k ∈ kx8 → k ≠ 1) k hk))⟩)
theorem end_j {C : rCx} {σ : rS} {a1 : Int32} (hC : cOK C) (J : rJ σ) {Q : rS → Prop} (h : ∀ σ', rJ σ' → (oR9 σ' = trO9 (oR9 σ) a1 ∧ kR7 σ σ') ∧ kS8 σ σ' → Q σ') : cV C 0 m_end [.ref (co C), .int a1] σ Q := end_c2 hC J.1 (fun σ' q => h σ' (rJ_c J ⟨q.2.1, q.2.2.1⟩ (by rw [q.1.1 104 (by decide) (by decide)]; exact J.2.2.2.2.2.2.2) (fun k hk => q.1.1 k ((by decide : ∀ k, k ∈ rjF → k ≠ 0) k hk) ((by decide : ∀ k, k ∈ rjF → k ≠ 2) k hk)) (fun k _ => by rw [q.1.2]) (rjN_r (by rw [q.1.2]) (by rw [q.1.2]))) ⟨⟨(by
    unfold oR9
    rw [q.1.1 53 (by decide) (by decide), q.1.2]
    by_cases c : 0 ≤ a1 ∧ a1 ≤ σ.1 2
    · rw [tr_m9 c, (q.2.2.2.1 c).2]
    · rw [tr_n9 c, (q.2.2.2.2 c).2]), kR_f7 (fun k hk => q.1.1 k ((by decide : ∀ k, k ∈ kf7 → k ≠ 0) k hk) ((by decide : ∀ k, k ∈ kf7 → k ≠ 2) k hk)) (fun k _ => by rw [q.1.2]) (fun j => by rw [q.1.2])⟩, kS_f8 (fun k hk => q.1.1 k ((by decide : ∀ k, k ∈ ke8 → k ≠ 0) k hk) ((by decide : ∀ k, k ∈ ke8 → k ≠ 2) k hk)) (fun k _ => by rw [q.1.2])⟩)
theorem fault_j {C : rCx} {σ : rS} (hC : cOK C) (J : rJ σ) {Q : Int32 → rS → Prop} (h : ∀ v σ', rJ σ' → v = σ.1 53 → pR8 σ σ' → Q v σ') : cI C 0 m_fault [.ref (co C)] σ Q := fault_c9 hC (fun σ' q => h _ σ' (rJ_c J (by rw [q.1 2 (by decide)]; exact J.1) (by rw [q.1 104 (by decide)]; exact J.2.2.2.2.2.2.2) (fun k hk => q.1 k ((by decide : ∀ k, k ∈ rjF → k ≠ 0) k hk)) (fun k _ => by rw [q.2]) (rjN_r (by rw [q.2]) (by rw [q.2]))) rfl ⟨⟨oR_k9 (q.1 2 (by decide)) (q.1 53 (by decide)) (by rw [q.2]), kR_f7 (fun k hk => q.1 k ((by decide : ∀ k, k ∈ kf7 → k ≠ 0) k hk)) (fun k _ => by rw [q.2]) (fun j => by rw [q.2])⟩, kS_f8 (fun k hk => q.1 k ((by decide : ∀ k, k ∈ ke8 → k ≠ 0) k hk)) (fun k _ => by rw [q.2])⟩)
theorem forget_j {C : rCx} {σ : rS} (hC : cOK C) (J : rJ σ) {Q : Int32 → rS → Prop} (h : ∀ v σ', rJ σ' → pR8 σ σ' → Q v σ') : cI C 0 m_forget [.ref (co C)] σ Q := forget_c hC (fun v σ' q => h v σ' (rJ_c J (by rw [q.1.1 2 (by decide) (by decide)]; exact J.1) (by rw [q.2.2]; decide) (fun k hk => q.1.1 k ((by decide : ∀ k, k ∈ rjF → k ≠ 0) k hk) ((by decide : ∀ k, k ∈ rjF → k ≠ 104) k hk)) (fun k _ => by rw [q.1.2]) (rjN_r (by rw [q.1.2]) (by rw [q.1.2]))) ⟨⟨oR_k9 (q.1.1 2 (by decide) (by decide)) (q.1.1 53 (by decide) (by decide)) (by rw [q.1.2]), kR_f7 (fun k hk => q.1.1 k ((by decide : ∀ k, k ∈ kf7 → k ≠ 0) k hk) ((by decide : ∀ k, k ∈ kf7 → k ≠ 104) k hk)) (fun k _ => by rw [q.1.2]) (fun j => by rw [q.1.2])⟩, kS_f8 (fun k hk => q.1.1 k ((by decide : ∀ k, k ∈ ke8 → k ≠ 0) k hk) ((by decide : ∀ k, k ∈ ke8 → k ≠ 104) k hk)) (fun k _ => by rw [q.1.2])⟩)
theorem tell_j {C : rCx} {σ : rS} {a1 : Int32} (hC : cOK C) (J : rJ σ) {Q : Int32 → rS → Prop} (h : ∀ v σ', rJ σ' → pR8 σ σ' → Q v σ') : cI C 0 m_tell [.ref (co C), .int a1] σ Q := tell_c hC J.2.2.2.2.2.2.2 (fun v σ' q => h v σ' (rJ_c J (by rw [q.1.1 2 (by decide) (by decide)]; exact J.1) ⟨q.2.1, q.2.2.1⟩ (fun k hk => q.1.1 k ((by decide : ∀ k, k ∈ rjF → k ≠ 0) k hk) ((by decide : ∀ k, k ∈ rjF → k ≠ 104) k hk)) (fun k hk => q.1.2.2.1 k ((by decide : ∀ k, k ∈ rjR → k ≠ 105) k hk)) (rjN_r (q.1.2.2.1 90 (by decide)) (q.1.2.2.1 91 (by decide)))) ⟨⟨oR_k9 (q.1.1 2 (by decide) (by decide)) (q.1.1 53 (by decide) (by decide)) (q.1.2.2.1 1 (by decide)), kR_f7 (fun k hk => q.1.1 k ((by decide : ∀ k, k ∈ kf7 → k ≠ 0) k hk) ((by decide : ∀ k, k ∈ kf7 → k ≠ 104) k hk)) (fun k hk => q.1.2.2.1 k ((by decide : ∀ k, k ∈ kz7 → k ≠ 105) k hk)) (fun j => q.1.2.2.2.2 8 j)⟩, kS_f8 (fun k hk => q.1.1 k ((by decide : ∀ k, k ∈ ke8 → k ≠ 0) k hk) ((by decide : ∀ k, k ∈ ke8 → k ≠ 104) k hk)) (fun k hk => q.1.2.2.1 k ((by decide : ∀ k, k ∈ kx8 → k ≠ 105) k hk))⟩)

end
section
set_option maxHeartbeats 1600000
/-- what program answers, by its reading -/
def pQ9 (σ : rS) (v : Int32) (σ' : rS) : Prop := ∃ σ2 : rS, (σ2.1 2 = σ.1 2 ∧ σ2.2.2.1 1 = σ.2.2.1 1 ∧ σ2.1 3 = σ.1 3 ∧ (σ.1 3 = 0 ∨ σ.1 3 = 65537)) ∧ σ'.1 53 = (g5_tellProgram σ2).1 11 ∧ ((g5_tellProgram σ2).1 11 = 0 → v = (g5_tellProgram σ2).1 19 ∧ σ'.1 14 = 1 ∧ (∀ g, g ∈ kf7 → g ≠ 14 → σ'.1 g = (g5_tellProgram σ2).1 g) ∧ σ'.2 = (g5_tellProgram σ2).2 ∧ eB (σ'.2.2.1 26) 0 5 ∧ ((g5_tellProgram σ2).1 3 = 0 ∨ (g5_tellProgram σ2).1 3 = 65537) ∧ (g5_tellProgram σ2).1 3 ≠ σ.1 3 ∧ σ'.1 69 = 0 ∧ no8 σ') ∧ ((g5_tellProgram σ2).1 11 ≠ 0 → v = (-1 : Int32) - (g5_tellProgram σ2).1 12 ∧ kR7 σ σ' ∧ kS8 σ σ')
/-- a text that fails leaves the code that stands -/
theorem kR_b7 {σ σ1 σ4 σ7 τ : rS} (q : back σ1 σ7 τ) (hb : σ.1 3 = 0 ∨ σ.1 3 = 65537) (t3 : σ4.1 3 = 0 ∨ σ4.1 3 = 65537) (t4 : σ4.1 3 ≠ σ.1 3) (t5 : ∀ k, (k = 5 ∨ k = 6 ∨ k = 7 ∨ k = 9 ∨ k = 39) → ∀ t : Int32, 0 ≤ t → (t < σ4.1 3 ∨ σ4.1 3 + 65536 < t) → rd σ4 k t = rd σ k t) (e1 : ∀ k, k ≠ 0 → σ1.1 k = σ.1 k) (s1 : σ1.2 = σ.2) (h14 : σ7.1 14 = σ.1 14) (s7 : σ7.2 = σ4.2) (hl : ∀ j, (if σ.1 3 = 0 then j ≤ 65536 else 65537 ≤ j) → σ4.2.2.2 8 j = σ.2.2.2 8 j) : kR7 σ τ := by
  obtain ⟨b1, b15, b16, b17, b18, b19, b40, b3, b5, b6, b7, b8⟩ := q
  refine ⟨fun g hg => ?_, fun p hp i hi => by rw [(b8 p hp).1 i hi, s1], fun k hk j hj => ?_, fun j hj => ?_⟩
  · have c : g = 3 ∨ g = 14 ∨ g = 15 ∨ g = 16 ∨ g = 17 ∨ g = 18 ∨ g = 19 ∨ g = 40 := by
      have z : ∀ g, g ∈ kf7 → g = 3 ∨ g = 14 ∨ g = 15 ∨ g = 16 ∨ g = 17 ∨ g = 18 ∨ g = 19 ∨ g = 40 := by decide
      exact z g hg
    rcases c with c | c | c | c | c | c | c | c <;> rw [c]
    · exact b3.trans (e1 3 (by decide))
    · exact (b1 14 (by decide) (by decide) (by decide) (by decide) (by decide) (by decide) (by decide) (by decide)).trans h14
    · exact b15.trans (e1 15 (by decide))
    · exact b16.trans (e1 16 (by decide))
    · exact b17.trans (e1 17 (by decide))
    · exact b18.trans (e1 18 (by decide))
    · exact b19.trans (e1 19 (by decide))
    · exact b40.trans (e1 40 (by decide))
  · have y : τ.2.2.1 k = σ4.2.2.1 k := by
      rw [b7 k (by omega) (by rcases hk with c | c | c | c | c <;> rw [c] <;> decide), s7]
    have jj : j ≤ 131073 := by
      unfold hf7 at hj
      by_cases c : σ.1 3 = 0
      · rw [if_pos c] at hj; omega
      · rw [if_neg c] at hj; omega
    have lj := ofn_i (n := j) (by omega)
    have z := t5 k hk (Int32.ofNat j) (by rw [lei, t0i]; omega) (by
      unfold hf7 at hj
      rcases hb with b | b
      · have t : σ4.1 3 = 65537 := by
          rcases t3 with t | t
          · exact absurd (t.trans b.symm) t4
          · exact t
        left
        rw [if_pos b] at hj
        rw [t, lti, lj]
        show (j : Int) < 65537
        omega
      · have t : σ4.1 3 = 0 := by
          rcases t3 with t | t
          · exact t
          · exact absurd (t.trans b.symm) t4
        right
        rw [b, if_neg (by decide)] at hj
        rw [t, lti, lj]
        show (65536 : Int) < j
        omega)
    unfold rd at z
    rw [cl_5 (by omega)] at z
    rw [y]
    exact z
  · rw [b6 8 j, s7]
    refine hl j ?_
    unfold hf7 at hj
    by_cases c : σ.1 3 = 0
    · rw [if_pos c] at hj ⊢; exact hj
    · rw [if_neg c] at hj ⊢; exact hj.1
theorem program_c9 {C : rCx} (hC : cOK C)  {σ : rS}  {Q : Int32 → rS → Prop} (hp : (σ.1 3 = 0 ∨ σ.1 3 = 65537) ∧ 0 ≤ σ.1 2 ∧ σ.1 2 ≤ 65536 ∧ tyAll σ ∧ (σ.1 14 ≠ 0 → ∃ T, progOK σ (σ.1 3) T)) (h : ∀ (v : Int32) (σ' : rS), (prQ σ σ' ∧ pQ9 σ v σ') → Q v σ') : cI C 13 m_program [.ref (co C)] σ Q := by
  refine m_program_run hC ?_
  unfold w_program_0
  obtain ⟨hb, hs0, hs1, hT, hP⟩ := hp
  intro σ_1 hσ_1
  refine swingAll_c_s hC  (fun σ_2 q3 => ?_)
  have e1 : ∀ k, k ≠ 0 → σ_1.1 k = σ.1 k := fun k hk => by rw [hσ_1, si1, if_neg hk]
  have s1 : σ_1.2 = σ.2 := by rw [hσ_1, si2]
  have e2 : ∀ k, k ≠ 0 → k ≠ 55 → σ_2.1 k = σ.1 k := fun k z1 z2 => (q3.1.1 k z2).trans (e1 k z1)
  have r2 : ∀ k, k ≠ 54 → k ≠ 56 → σ_2.2.2.1 k = σ.2.2.1 k := fun k z1 z2 => (q3.1.2.2.1 k z1 z2).trans (by rw [s1])
  have T1 : tyAll σ_1 := ty_s hT (fun k hk => e1 k (by omega)) (fun k _ _ => by rw [s1])
  have T2 : tyAll σ_2 := ty_s hT (fun k hk => e2 k (by omega) (by omega)) r2
  have F2 : frH zFF zRR σ σ_2 := ⟨fun k z => e2 k (fun e => z (by rw [e]; decide)) (fun e => z (by rw [e]; decide)), fun k => (q3.1.2.1 k).trans (by rw [s1]), fun k z => r2 k (fun e => z (by rw [e]; decide)) (fun e => z (by rw [e]; decide)), fun k j _ => (q3.1.2.2.2.2 k j).trans (by rw [s1])⟩
  refine tellProgram_g5 hC  ?_ (fun σ_4 q5z => ?_)
  · clear h; exact ⟨by rw [e2 3 (by decide) (by decide)]; exact hb, by rw [e2 2 (by decide) (by decide)]; exact hs0, by rw [e2 2 (by decide) (by decide)]; exact hs1, T2⟩  -- p1
  obtain ⟨q5, zg⟩ := q5z
  intro σ_6 hσ_6
  intro σ_7 hσ_7
  obtain ⟨t1, t2, t3, t4, t5, t6, t7⟩ := q5
  have e7 : ∀ k, k ≠ 2 → k ≠ 53 → σ_7.1 k = σ_4.1 k := fun k z1 z2 => by rw [hσ_7, si1, if_neg z2, hσ_6, si1, if_neg z1]
  have v7 : σ_7.1 2 = 0 := by rw [hσ_7, si1, if_neg (by decide), hσ_6, si1, if_pos rfl]
  have s7 : σ_7.2 = σ_4.2 := by rw [hσ_7, si2, hσ_6, si2]
  have F7 : frH zFF zRR σ σ_7 := frH_tr F2 (frH_tr (frZ_q t1) (by rw [hσ_7, hσ_6]; exact frH_tr (frZ_si (by decide)) (frZ_si (by decide))))
  have T7 : tyAll σ_7 := ty_s t2 (fun k hk => e7 k (by omega) (by omega)) (fun k _ _ => by rw [s7])
  have k7 : ∀ k, k ∉ qFF → k ≠ 0 → k ≠ 55 → k ≠ 2 → k ≠ 53 → σ_7.1 k = σ.1 k := fun k z1 z2 z3 z4 z5 => (e7 k z4 z5).trans ((t1.1 k z1).trans (e2 k z2 z3))
  refine ⟨fun c8 => ?_, fun c8 => ?_⟩
  · skip
    intro σ_9 hσ_9
    intro σ_10 hσ_10
    intro σ_11 hσ_11
    intro σ_12 hσ_12
    intro σ_13 hσ_13
    intro σ_14 hσ_14
    intro σ_15 hσ_15
    intro σ_16 hσ_16
    have x16 : ∀ k, k ≠ 14 → k ≠ 69 → k ≠ 94 → k ≠ 114 → k ≠ 106 → k ≠ 70 → k ≠ 71 → k ≠ 72 → σ_16.1 k = σ_7.1 k := fun k z1 z2 z3 z4 z5 z6 z7 z8 => by rw [hσ_16, si1, if_neg z8, hσ_15, si1, if_neg z7, hσ_14, si1, if_neg z6, hσ_13, si1, if_neg z5, hσ_12, si1, if_neg z4, hσ_11, si1, if_neg z3, hσ_10, si1, if_neg z2, hσ_9, si1, if_neg z1]
    have x53 : σ_7.1 53 = σ_4.1 11 := by rw [hσ_7, si1, if_pos rfl, hσ_6, si1, if_neg (by decide)]
    have z0 : σ_4.1 11 = 0 := by
      have c9 := c8
      rw [e7 11 (by decide) (by decide)] at c9
      exact Int32.le_antisymm c9 t7
    have s16z : σ_16.2 = σ_4.2 := by rw [hσ_16, si2, hσ_15, si2, hσ_14, si2, hσ_13, si2, hσ_12, si2, hσ_11, si2, hσ_10, si2, hσ_9, si2]; exact s7
    have y14 : σ_16.1 14 = 1 := by rw [hσ_16, si1, if_neg (by decide), hσ_15, si1, if_neg (by decide), hσ_14, si1, if_neg (by decide), hσ_13, si1, if_neg (by decide), hσ_12, si1, if_neg (by decide), hσ_11, si1, if_neg (by decide), hσ_10, si1, if_neg (by decide), hσ_9, si1, if_pos rfl]
    have y26 : eB (σ_16.2.2.1 26) 0 5 := by
      obtain ⟨_, z3, _⟩ := t2
      obtain ⟨_, _, _, _, z4, _⟩ := z3
      rw [s16z]
      exact z4
    have pq : pQ9 σ (σ_16.1 19) σ_16 := ⟨σ_2, ⟨e2 2 (by decide) (by decide), r2 1 (by decide) (by decide), e2 3 (by decide) (by decide), hb⟩, by rw [zg, x16 53 (by decide) (by decide) (by decide) (by decide) (by decide) (by decide) (by decide) (by decide), x53], fun _ => ⟨by rw [zg, x16 19 (by decide) (by decide) (by decide) (by decide) (by decide) (by decide) (by decide) (by decide), e7 19 (by decide) (by decide)], y14, fun g hg n14 => by
      rw [zg, x16 g n14 ((by decide : ∀ g, g ∈ kf7 → g ≠ 69) g hg) ((by decide : ∀ g, g ∈ kf7 → g ≠ 94) g hg) ((by decide : ∀ g, g ∈ kf7 → g ≠ 114) g hg) ((by decide : ∀ g, g ∈ kf7 → g ≠ 106) g hg) ((by decide : ∀ g, g ∈ kf7 → g ≠ 70) g hg) ((by decide : ∀ g, g ∈ kf7 → g ≠ 71) g hg) ((by decide : ∀ g, g ∈ kf7 → g ≠ 72) g hg), e7 g ((by decide : ∀ g, g ∈ kf7 → g ≠ 2) g hg) ((by decide : ∀ g, g ∈ kf7 → g ≠ 53) g hg)], by rw [zg]; exact s16z, y26, by rw [zg]; exact t3, by rw [zg, ← e2 3 (by decide) (by decide)]; exact t4, by rw [hσ_16, si1, if_neg (by decide), hσ_15, si1, if_neg (by decide), hσ_14, si1, if_neg (by decide), hσ_13, si1, if_neg (by decide), hσ_12, si1, if_neg (by decide), hσ_11, si1, if_neg (by decide), hσ_10, si1, if_pos rfl], by rw [hσ_16, si1, if_neg (by decide), hσ_15, si1, if_neg (by decide), hσ_14, si1, if_pos rfl], by rw [hσ_16, si1, if_neg (by decide), hσ_15, si1, if_pos rfl], by rw [hσ_16, si1, if_pos rfl]⟩, fun z => absurd (by rw [zg]; exact z0) z⟩
    refine h _ _ ⟨?_, pq⟩
    · clear h; have s16 : σ_16.2 = σ_4.2 := by rw [hσ_16, si2, hσ_15, si2, hσ_14, si2, hσ_13, si2, hσ_12, si2, hσ_11, si2, hσ_10, si2, hσ_9, si2]; exact s7
      have e16 : ∀ k, k ≠ 14 → k ≠ 69 → k ≠ 94 → k ≠ 114 → k ≠ 106 → k ≠ 70 → k ≠ 71 → k ≠ 72 → σ_16.1 k = σ_7.1 k := fun k z1 z2 z3 z4 z5 z6 z7 z8 => by rw [hσ_16, si1, if_neg z8, hσ_15, si1, if_neg z7, hσ_14, si1, if_neg z6, hσ_13, si1, if_neg z5, hσ_12, si1, if_neg z4, hσ_11, si1, if_neg z3, hσ_10, si1, if_neg z2, hσ_9, si1, if_neg z1]
      have e4 : ∀ k, k ≠ 2 → k ≠ 53 → k ≠ 14 → k ≠ 69 → k ≠ 94 → k ≠ 114 → k ≠ 106 → k ≠ 70 → k ≠ 71 → k ≠ 72 → σ_16.1 k = σ_4.1 k := fun k y1 y2 z1 z2 z3 z4 z5 z6 z7 z8 => (e16 k z1 z2 z3 z4 z5 z6 z7 z8).trans (e7 k y1 y2)
      have f0 : σ_4.1 11 = 0 := by
        rw [e7 11 (by decide) (by decide)] at c8
        exact Int32.le_antisymm c8 t7
      obtain ⟨T, pk⟩ := t6 f0
      have d3 := e4 3 (by decide) (by decide) (by decide) (by decide) (by decide) (by decide) (by decide) (by decide) (by decide) (by decide)
      refine ⟨by rw [d3]; exact t3, by rw [e16 2 (by decide) (by decide) (by decide) (by decide) (by decide) (by decide) (by decide) (by decide)]; exact v7, ?_, fun _ => ⟨T, ?_⟩, ?_, Or.inr ⟨?_, ?_, ?_, ?_, ?_, ?_, ?_, ?_⟩⟩
      · exact ty_s t2 (fun k hk => e4 k (by omega) (by omega) (by omega) (by omega) (by omega) (by omega) (by omega) (by omega) (by omega) (by omega)) (fun k _ _ => by rw [s16])
      · rw [d3]
        exact progOK_L t2 pk (fun t _ _ => by rw [s16]) (fun t _ _ => by rw [s16]) (fun t _ _ => by rw [s16]) (e4 18 (by decide) (by decide) (by decide) (by decide) (by decide) (by decide) (by decide) (by decide) (by decide) (by decide)) (e4 19 (by decide) (by decide) (by decide) (by decide) (by decide) (by decide) (by decide) (by decide) (by decide) (by decide)) (e4 40 (by decide) (by decide) (by decide) (by decide) (by decide) (by decide) (by decide) (by decide) (by decide) (by decide)) (fun k _ j _ => by rw [s16]) (fun k _ j _ => by rw [s16])
      · refine frH_tr F7 ⟨fun k z => e16 k ?_ ?_ ?_ ?_ ?_ ?_ ?_ ?_, fun k => by rw [s16, s7], fun k _ => by rw [s16, s7], fun k j _ => by rw [s16, s7]⟩ <;> exact fun e => z (by rw [e]; decide)
      · rw [hσ_16, si1, if_neg (by decide), hσ_15, si1, if_neg (by decide), hσ_14, si1, if_neg (by decide), hσ_13, si1, if_neg (by decide), hσ_12, si1, if_neg (by decide), hσ_11, si1, if_neg (by decide), hσ_10, si1, if_neg (by decide), hσ_9, si1, if_pos rfl]
      · rw [hσ_16, si1, if_neg (by decide), hσ_15, si1, if_neg (by decide), hσ_14, si1, if_neg (by decide), hσ_13, si1, if_neg (by decide), hσ_12, si1, if_neg (by decide), hσ_11, si1, if_neg (by decide), hσ_10, si1, if_pos rfl]
      · rw [hσ_16, si1, if_neg (by decide), hσ_15, si1, if_neg (by decide), hσ_14, si1, if_pos rfl]
      · rw [hσ_16, si1, if_neg (by decide), hσ_15, si1, if_pos rfl]
      · rw [hσ_16, si1, if_pos rfl]
      · rw [hσ_16, si1, if_neg (by decide), hσ_15, si1, if_neg (by decide), hσ_14, si1, if_neg (by decide), hσ_13, si1, if_neg (by decide), hσ_12, si1, if_neg (by decide), hσ_11, si1, if_pos rfl]
      · rw [hσ_16, si1, if_neg (by decide), hσ_15, si1, if_neg (by decide), hσ_14, si1, if_neg (by decide), hσ_13, si1, if_pos rfl]
      · rw [hσ_16, si1, if_neg (by decide), hσ_15, si1, if_neg (by decide), hσ_14, si1, if_neg (by decide), hσ_13, si1, if_neg (by decide), hσ_12, si1, if_pos rfl]
  · skip
    refine swingAll_c_b hC σ_1 ?_ (fun σ_17 q18 => ?_)
    · clear h; exact kept_s q3.2 (by rw [s7]; exact t1.2.2.1 54 (by decide))  -- p3
    have y53 : σ_17.1 53 = σ_4.1 11 := by rw [q18.1 53 (by decide) (by decide) (by decide) (by decide) (by decide) (by decide) (by decide) (by decide), hσ_7, si1, if_pos rfl, hσ_6, si1, if_neg (by decide)]
    have y12 : σ_17.1 12 = σ_4.1 12 := by rw [q18.1 12 (by decide) (by decide) (by decide) (by decide) (by decide) (by decide) (by decide) (by decide), e7 12 (by decide) (by decide)]
    have n0 : ¬ σ_4.1 11 = 0 := fun z => c8 (by rw [e7 11 (by decide) (by decide), z]; decide)
    have okS2 : okS5 σ_2 := by
      have j0 := hs0
      have j1 := hs1
      rw [lei, t0i] at j0
      rw [lei, show (65536 : Int32).toInt = 65536 from rfl] at j1
      unfold okS5
      rw [e2 2 (by decide) (by decide)]
      exact ⟨j0, j1⟩
    have kr : kR7 σ σ_17 := kR_b7 q18 hb t3 (by rw [← e2 3 (by decide) (by decide)]; exact t4) (fun k hk t h1 h2 => by
        rw [rd, rd, ← r2 k (by omega) (by omega)]
        exact t5 k hk t h1 h2) e1 s1 (by
        rw [e7 14 (by decide) (by decide)]
        exact (t1.1 14 (by decide)).trans (e2 14 (by decide) (by decide))) s7 (fun j hj => by
        rw [← zg, tell_l6 okS2 j (by
          rw [e2 3 (by decide) (by decide)]
          exact hj), q3.1.2.2.2.2 8 j, s1])
    have ks : kS8 σ σ_17 := by
      obtain ⟨b1, _, _, _, _, _, _, _, _, _, b7, _⟩ := q18
      refine ⟨fun g hg => ?_, fun g hg => ?_⟩
      · rw [b1 g ((by decide : ∀ g, g ∈ ke8 → g ≠ 55) g hg) ((by decide : ∀ g, g ∈ ke8 → g ≠ 15) g hg) ((by decide : ∀ g, g ∈ ke8 → g ≠ 16) g hg) ((by decide : ∀ g, g ∈ ke8 → g ≠ 17) g hg) ((by decide : ∀ g, g ∈ ke8 → g ≠ 18) g hg) ((by decide : ∀ g, g ∈ ke8 → g ≠ 19) g hg) ((by decide : ∀ g, g ∈ ke8 → g ≠ 40) g hg) ((by decide : ∀ g, g ∈ ke8 → g ≠ 3) g hg)]
        exact k7 g ((by decide : ∀ g, g ∈ ke8 → g ∉ qFF) g hg) ((by decide : ∀ g, g ∈ ke8 → g ≠ 0) g hg) ((by decide : ∀ g, g ∈ ke8 → g ≠ 55) g hg) ((by decide : ∀ g, g ∈ ke8 → g ≠ 2) g hg) ((by decide : ∀ g, g ∈ ke8 → g ≠ 53) g hg)
      · rw [b7 g ((by decide : ∀ g, g ∈ kx8 → g ≠ 56) g hg) (fun p hp e => (by decide : ∀ p, p ∈ kPt → p.1 ∉ kx8) p hp (by rw [e]; exact hg)), s7, t1.2.2.1 g ((by decide : ∀ g, g ∈ kx8 → g ∉ qRR) g hg)]
        exact r2 g ((by decide : ∀ g, g ∈ kx8 → g ≠ 54) g hg) ((by decide : ∀ g, g ∈ kx8 → g ≠ 56) g hg)
    have pq : pQ9 σ ((-1 : Int32) - σ_17.1 12) σ_17 := ⟨σ_2, ⟨e2 2 (by decide) (by decide), r2 1 (by decide) (by decide), e2 3 (by decide) (by decide), hb⟩, by rw [zg, y53], fun z => absurd (by rw [← zg]; exact z) n0, fun _ => ⟨by rw [zg, y12], kr, ks⟩⟩
    refine h _ _ ⟨?_, pq⟩
    · clear h; have T17 := ty_back q18 T1 T7
      obtain ⟨b1, b15, b16, b17, b18, b19, b40, b3, b5, b6, b7, b8⟩ := q18
      have bf : ∀ k, k ∉ [55, 15, 16, 17, 18, 19, 40, 3] → σ_17.1 k = σ_7.1 k := fun k z => b1 k (fun e => z (by rw [e]; decide)) (fun e => z (by rw [e]; decide)) (fun e => z (by rw [e]; decide)) (fun e => z (by rw [e]; decide)) (fun e => z (by rw [e]; decide)) (fun e => z (by rw [e]; decide)) (fun e => z (by rw [e]; decide)) (fun e => z (by rw [e]; decide))
      have d3 : σ_17.1 3 = σ.1 3 := b3.trans (e1 3 (by decide))
      have kk : ∀ k, k ∉ [55, 15, 16, 17, 18, 19, 40, 3] → k ∉ qFF → k ≠ 0 → k ≠ 55 → k ≠ 2 → k ≠ 53 → σ_17.1 k = σ.1 k := fun k z1 z2 z3 z4 z5 z6 => (bf k z1).trans (k7 k z2 z3 z4 z5 z6)
      have d14 : σ_17.1 14 = σ.1 14 := kk 14 (by decide) (by decide) (by decide) (by decide) (by decide) (by decide)
      refine ⟨by rw [d3]; exact hb, by rw [bf 2 (by decide)]; exact v7, T17, fun z => ?_, ?_, Or.inl ⟨d14, kk 69 (by decide) (by decide) (by decide) (by decide) (by decide) (by decide), kk 70 (by decide) (by decide) (by decide) (by decide) (by decide) (by decide), kk 71 (by decide) (by decide) (by decide) (by decide) (by decide) (by decide), kk 72 (by decide) (by decide) (by decide) (by decide) (by decide) (by decide), kk 94 (by decide) (by decide) (by decide) (by decide) (by decide) (by decide), kk 106 (by decide) (by decide) (by decide) (by decide) (by decide) (by decide), kk 114 (by decide) (by decide) (by decide) (by decide) (by decide) (by decide)⟩⟩
      · rw [d14] at z
        obtain ⟨T, pk⟩ := hP z
        have tok : ∀ k, k = 5 ∨ k = 7 ∨ k = 39 → lc (σ.2.2.1 k) (σ_17.2.2.1 k) (σ.1 3) T := fun k hk t ht ht2 => by
          have w := two_b hb t3 (by rw [← e2 3 (by decide) (by decide)]; exact t4) pk.2.2.1 pk.2.2.2.1 ht ht2
          have x := t5 k (by omega) t w.1 w.2
          have y : σ_17.2.2.1 k = σ_4.2.2.1 k := by
            rcases hk with rfl | rfl | rfl
            · rw [b7 5 (by decide) (by decide), s7]
            · rw [b7 7 (by decide) (by decide), s7]
            · rw [b7 39 (by decide) (by decide), s7]
          rw [y]
          refine x.trans ?_
          rw [rd, r2 k (by omega) (by omega)]
        have rw1 : ∀ p ∈ kPt, ∀ j, j < p.2.2 → σ_17.2.2.1 p.1 j = σ.2.2.1 p.1 j := fun p hp j hj => by rw [(b8 p hp).1 j hj, s1]
        refine ⟨T, ?_⟩
        rw [d3]
        refine progOK_L hT pk (tok 5 (by decide)) (tok 7 (by decide)) (tok 39 (by decide)) (b18.trans (e1 18 (by decide))) (b19.trans (e1 19 (by decide))) (b40.trans (e1 40 (by decide))) (fun k hk j hj => ?_) (fun k hk j hj => ?_)
        · rcases hk with rfl | rfl | rfl | rfl | rfl | rfl | rfl | rfl
          · exact rw1 (30, 157, 150) (by decide) j hj
          · exact rw1 (31, 307, 150) (by decide) j hj
          · exact rw1 (32, 457, 150) (by decide) j hj
          · exact rw1 (33, 607, 150) (by decide) j hj
          · exact rw1 (34, 757, 150) (by decide) j hj
          · exact rw1 (35, 907, 150) (by decide) j hj
          · exact rw1 (36, 1057, 150) (by decide) j hj
          · exact rw1 (37, 1207, 150) (by decide) j hj
        · rcases hk with rfl | rfl
          · exact rw1 (26, 47, 10) (by decide) j hj
          · exact rw1 (29, 147, 10) (by decide) j hj
      · refine frH_tr F7 ⟨fun k z => bf k (fun e => z ((by decide : ∀ q ∈ [55, 15, 16, 17, 18, 19, 40, 3], q ∈ zFF) k e)), b5, fun k z => b7 k (fun e => z (by rw [e]; decide)) (fun p hp e => z (by rw [← e]; exact (by decide : ∀ p ∈ kPt, p.1 ∈ zRR) p hp)), fun k j _ => b6 k j⟩

/-! the reference: what holds behind decide, show, solve, best, explore, program, play, walk -/
abbrev rjA : List Nat := [2, 53, 3, 14, 15, 16, 17, 18, 19, 40, 41, 42, 104]
abbrev rjZ : List Nat := 1 :: 6 :: 9 :: 21 :: rjQ
abbrev rjY : List Nat := 1 :: 6 :: 9 :: 21 :: rjR
theorem rJ_x {σ τ : rS} (J : rJ σ) (hf : ∀ k, k ∈ rjA → τ.1 k = σ.1 k) (hr : ∀ k, k ∈ rjZ → τ.2.2.1 k = σ.2.2.1 k) (hl : ∀ j, τ.2.2.2 8 j = σ.2.2.2 8 j) (e : exP τ) (v : jVs τ) (w : jWo τ) (p : plN τ) (s : shO τ) : rJ τ ∧ pR7 σ τ :=
  ⟨⟨by rw [hf 2 (by decide)]; exact J.1, jBk_o J.2.1 (hf 3 (by decide)) (hf 14 (by decide)) (fun k hk => hf k ((by decide : ∀ k, k ∈ rjP → k ∈ rjA) k hk)) (fun k hk => hr k (List.mem_cons_of_mem _ (List.mem_cons_of_mem _ (List.mem_cons_of_mem _ (List.mem_cons_of_mem _ hk))))), e, v, w, p, s, by rw [hf 104 (by decide)]; exact J.2.2.2.2.2.2.2⟩, ⟨oR_k9 (hf 2 (by decide)) (hf 53 (by decide)) (hr 1 (by decide)), kR_f7 (fun k hk => hf k ((by decide : ∀ k, k ∈ kf7 → k ∈ rjA) k hk)) (fun k hk => hr k ((by decide : ∀ k, k ∈ kz7 → k ∈ rjZ) k hk)) hl⟩⟩
theorem rj_88 {σ : rS} (J : rJ σ) : 0 ≤ σ.1 88 := J.2.2.1.2.2.2.1
section callz
variable {C : rCx} {σ : rS} {a1 a2 : Int32}
theorem show_j (hC : cOK C) (J : rJ σ) {Q : Int32 → rS → Prop} (h : ∀ v σ', rJ σ' → pR8 σ σ' → Q v σ') : cI C 8 m_show [.ref (co C), .int a1, .int a2] σ Q := show_c hC _ ⟨pOK_of J.2.2.1, rfl, J.2.2.2.1, J.2.2.2.2.1, J.2.2.2.2.2.1, J.2.2.2.2.2.2.1⟩ (fun v σ' q => by
  obtain ⟨f, s⟩ := q
  have r : ∀ k, k ∈ rjY → σ'.2.2.1 k = σ.2.2.1 k := fun k hk => f.2.2.1 k ((by decide : ∀ k, k ∈ rjY → k ≠ 90) k hk) ((by decide : ∀ k, k ∈ rjY → k ≠ 91) k hk)
  have g := rJ_x J (fun k hk => f.1 k ((by decide : ∀ k, k ∈ rjA → k ∉ shF) k hk)) (fun k hk => r k ((by decide : ∀ k, k ∈ rjZ → k ∈ rjY) k hk)) (fun j => by rw [f.2.2.2.1]) (exP_o J.2.2.1 (fun k hk => f.1 k (by rcases hk with z | z | z | z <;> rw [z] <;> decide)) (fun k hk => r k (by rcases hk with z | z | z | z | z | z | z | z <;> rw [z] <;> decide))) (jVs_o J.2.2.2.1 (by rw [f.1 94 (by decide)]; exact fun y => y) (f.1 70 (by decide)) (r 102 (by decide))) (jWo_o J.2.2.2.2.1 (by rw [f.1 114 (by decide)]; exact fun y => y) (f.1 70 (by decide)) (r 115 (by decide)) (r 116 (by decide))) (plN_o J.2.2.2.2.2.1 (by rw [f.1 106 (by decide)]; exact fun y => y) (fun k hk => f.2.2.2.2 k (by rcases hk with z | z <;> rw [z] <;> decide))) s
  exact h v σ' g.1 ⟨g.2, kS_f8 (fun k hk => f.1 k ((by decide : ∀ k, k ∈ ke8 → k ∉ shF) k hk)) (fun k hk => f.2.2.1 k ((by decide : ∀ k, k ∈ kx8 → k ≠ 90) k hk) ((by decide : ∀ k, k ∈ kx8 → k ≠ 91) k hk))⟩)
theorem solve_j (hC : cOK C) (J : rJ σ) {Q : Int32 → rS → Prop} (h : ∀ v σ', rJ σ' → pR8 σ σ' → Q v σ') : cI C 8 m_solve [.ref (co C)] σ Q := solve_c hC _ ⟨pOK_of J.2.2.1, rfl, J.2.2.2.1⟩ (fun v σ' q => by
  obtain ⟨f, s, n⟩ := q
  have e70 := f.1 70 (by decide)
  have g := rJ_x J (fun k hk => f.1 k ((by decide : ∀ k, k ∈ rjA → k ∉ slF) k hk)) (fun k hk => f.2.2.1 k ((by decide : ∀ k, k ∈ rjZ → k ∉ slR) k hk)) (fun j => by rw [f.2.2.2 8 (by decide)]) (exP_o J.2.2.1 (fun k hk => f.1 k (by rcases hk with z | z | z | z <;> rw [z] <;> decide)) (fun k hk => f.2.2.1 k (by rcases hk with z | z | z | z | z | z | z | z <;> rw [z] <;> decide))) (fun y k hk => s y k (by rw [← e70]; exact hk)) (jWo_o J.2.2.2.2.1 (by rw [f.1 114 (by decide)]; exact fun y => y) e70 (f.2.2.1 115 (by decide)) (f.2.2.1 116 (by decide))) (plN_o J.2.2.2.2.2.1 (by rw [f.1 106 (by decide)]; exact fun y => y) (fun k hk => n k (by omega))) (shO_o J.2.2.2.2.2.2.1 (f.1 103 (by decide)) (fun k hk => n k (by omega)))
  exact h v σ' g.1 ⟨g.2, kS_f8 (fun k hk => f.1 k ((by decide : ∀ k, k ∈ ke8 → k ∉ slF) k hk)) (fun k hk => f.2.2.1 k ((by decide : ∀ k, k ∈ kx8 → k ∉ slR) k hk))⟩)
theorem explore_j (hC : cOK C) (J : rJ σ) {Q : Int32 → rS → Prop} (h : ∀ v σ', rJ σ' → pR7 σ σ' → XS7 a1 σ σ' v → Q v σ') : cI C 11 m_explore [.ref (co C), .int a1] σ Q := explore_g7 hC ⟨J.2.1.2.1, J.2.1.2.2, J.2.2.1⟩ (fun v σ' q => by
  obtain ⟨⟨f, e, -, -, z⟩, xs⟩ := q
  have r0 := f.2.2.1 90 (by decide)
  have r1 := f.2.2.1 91 (by decide)
  have g := rJ_x J (fun k hk => f.1 k ((by decide : ∀ k, k ∈ rjA → k ∉ xpF) k hk)) (fun k hk => f.2.2.1 k ((by decide : ∀ k, k ∈ rjZ → k ∉ xpR) k hk)) (fun j => by rw [f.2.2.2 8 (by decide)]) e (by
    rcases z with z | z
    · exact jVs_o J.2.2.2.1 (by rw [z.1 94 (by decide)]; exact fun y => y) (z.1 70 (by decide)) (by rw [z.2])
    · exact fun y => absurd z.1 y) (by
    rcases z with z | z
    · exact jWo_o J.2.2.2.2.1 (by rw [z.1 114 (by decide)]; exact fun y => y) (z.1 70 (by decide)) (by rw [z.2]) (by rw [z.2])
    · exact fun y => absurd z.2 y) (plN_o J.2.2.2.2.2.1 (by rw [f.1 106 (by decide)]; exact fun y => y) (fun k hk => ⟨by rw [r1], fun i _ => by rw [r0]⟩)) (shO_o J.2.2.2.2.2.2.1 (f.1 103 (by decide)) (fun k hk => ⟨by rw [r1], fun i _ => by rw [r0]⟩))
  exact h v σ' g.1 g.2 xs)
theorem program_j (hC : cOK C) (J : rJ σ) {Q : Int32 → rS → Prop} (h : ∀ v σ', rJ σ' → oR9 σ' = ((fun _ => 0, 0, σ'.1 53) : Ob9) → pQ9 σ v σ' → Q v σ') : cI C 13 m_program [.ref (co C)] σ Q := program_c9 hC ⟨J.2.1.1, J.1.1, J.1.2, J.2.1.2.1, J.2.1.2.2⟩ (fun v σ' q => by
  obtain ⟨⟨b3, b2, ty, pg, f, z⟩, pq⟩ := q
  have r0 := f.2.2.1 90 (by decide)
  have r1 := f.2.2.1 91 (by decide)
  have e104 := f.1 104 (by decide)
  have e88 := f.1 88 (by decide)
  refine h v σ' ⟨by rw [b2]; decide, ⟨b3, ty, pg⟩, ?_, ?_, ?_, ?_, shO_o J.2.2.2.2.2.2.1 (f.1 103 (by decide)) (fun k hk => ⟨by rw [r1], fun i _ => by rw [r0]⟩), by rw [e104]; exact J.2.2.2.2.2.2.2⟩ (by unfold oR9; rw [b2]; exact mk_09) pq
  · rcases z with z | z
    · exact exP_o J.2.2.1 (fun k hk => by
        rcases hk with y | y | y | y <;> rw [y]
        · exact z.2.2.1
        · exact z.2.2.2.1
        · exact z.2.2.2.2.1
        · exact e88) (fun k hk => f.2.2.1 k (by rcases hk with z | z | z | z | z | z | z | z <;> rw [z] <;> decide))
    · exact exP_0 z.2.2.1 z.2.2.2.1 z.2.2.2.2.1 (by rw [e88]; exact rj_88 J)
  · rcases z with z | z
    · exact jVs_o J.2.2.2.1 (by rw [z.2.2.2.2.2.1]; exact fun y => y) z.2.2.1 (f.2.2.1 102 (by decide))
    · exact fun y => absurd z.2.2.2.2.2.1 y
  · rcases z with z | z
    · exact jWo_o J.2.2.2.2.1 (by rw [z.2.2.2.2.2.2.2]; exact fun y => y) z.2.2.1 (f.2.2.1 115 (by decide)) (f.2.2.1 116 (by decide))
    · exact fun y => absurd z.2.2.2.2.2.2.2 y
  · refine plN_o J.2.2.2.2.2.1 ?_ (fun k hk => ⟨by rw [r1], fun i _ => by rw [r0]⟩)
    rcases z with z | z
    · rw [z.2.2.2.2.2.2.1]; exact fun y => y
    · exact fun y => absurd z.2.2.2.2.2.2.1 y)
theorem rJ_w {σ ρ τ : rS} (J : rJ σ) (hρ : ∀ k, k ≠ 113 → ρ.1 k = σ.1 k) (hs : ρ.2.2 = σ.2.2) (f : frW ρ τ) (p : plN τ) : rJ τ ∧ pR8 σ τ := by
  have ef : ∀ k, k ∉ pyF → k ≠ 113 → τ.1 k = σ.1 k := fun k z1 z2 => (f.1 k z1).trans (hρ k z2)
  have er : ∀ k, k ≠ 90 → k ≠ 91 → k ∉ pyR → τ.2.2.1 k = σ.2.2.1 k := fun k z1 z2 z3 => (f.2.2.1 k z1 z2 z3).trans (by rw [hs])
  have g := rJ_x J (fun k hk => ef k ((by decide : ∀ k, k ∈ rjA → k ∉ pyF) k hk) ((by decide : ∀ k, k ∈ rjA → k ≠ 113) k hk)) (fun k hk => er k ((by decide : ∀ k, k ∈ rjZ → k ≠ 90) k hk) ((by decide : ∀ k, k ∈ rjZ → k ≠ 91) k hk) ((by decide : ∀ k, k ∈ rjZ → k ∉ pyR) k hk)) (fun j => (f.2.2.2.1 8 j).trans (by rw [hs])) (exP_o J.2.2.1 (fun k hk => ef k (by rcases hk with z | z | z | z <;> rw [z] <;> decide) (by rcases hk with z | z | z | z <;> rw [z] <;> decide)) (fun k hk => er k (by rcases hk with z | z | z | z | z | z | z | z <;> rw [z] <;> decide) (by rcases hk with z | z | z | z | z | z | z | z <;> rw [z] <;> decide) (by rcases hk with z | z | z | z | z | z | z | z <;> rw [z] <;> decide))) (jVs_o J.2.2.2.1 (by rw [ef 94 (by decide) (by decide)]; exact fun y => y) (ef 70 (by decide) (by decide)) (er 102 (by decide) (by decide) (by decide))) (jWo_o J.2.2.2.2.1 (by rw [ef 114 (by decide) (by decide)]; exact fun y => y) (ef 70 (by decide) (by decide)) (er 115 (by decide) (by decide) (by decide)) (er 116 (by decide) (by decide) (by decide))) p (shO_o J.2.2.2.2.2.2.1 (ef 103 (by decide) (by decide)) (fun k hk => by
    have y := f.2.2.2.2 k (by rcases hk with z | z <;> rw [z] <;> decide)
    rw [hs] at y
    exact y))
  exact ⟨g.1, g.2, kS_f8 (fun k hk => ef k ((by decide : ∀ k, k ∈ ke8 → k ∉ pyF) k hk) ((by decide : ∀ k, k ∈ ke8 → k ≠ 113) k hk)) (fun k hk => er k ((by decide : ∀ k, k ∈ kx8 → k ≠ 90) k hk) ((by decide : ∀ k, k ∈ kx8 → k ≠ 91) k hk) ((by decide : ∀ k, k ∈ kx8 → k ∉ pyR) k hk))⟩
theorem rj_T (J : rJ σ) : ∃ T, (σ.1 14 ≠ 0 → rI σ (σ.1 3) T) := by
  by_cases z : σ.1 14 = 0
  · exact ⟨0, fun y => absurd z y⟩
  · obtain ⟨T, g⟩ := J.2.1.2.2 z
    exact ⟨T, fun _ => ⟨J.2.1.2.1, g⟩⟩
theorem play_j {x : Int64} (hC : cOK C) (J : rJ σ) {Q : Int32 → rS → Prop} (h : ∀ v σ', rJ σ' → pR8 σ σ' → Q v σ') : cI C 11 m_play [.ref (co C), .long x, .int a1] σ Q := by
  obtain ⟨T, hT⟩ := rj_T J
  exact play_c hC T ⟨hT, J.2.2.1, J.2.2.2.2.2.2.2.1, J.2.2.2.2.2.2.2.2, J.2.2.2.2.2.1⟩ (fun v σ' q => h v σ' (rJ_w (ρ := siU (slU σ 112 x) 113 1) J (fun k hk => if_neg hk) rfl q.1 q.2).1 (rJ_w (ρ := siU (slU σ 112 x) 113 1) J (fun k hk => if_neg hk) rfl q.1 q.2).2)
theorem walk_j (hC : cOK C) (J : rJ σ) {Q : Int32 → rS → Prop} (h : ∀ v σ', rJ σ' → pR8 σ σ' → Q v σ') : cI C 11 m_walk [.ref (co C), .int a1] σ Q := by
  obtain ⟨T, hT⟩ := rj_T J
  exact walk_c hC T ⟨hT, J.2.2.1, J.2.2.2.2.2.2.2.1, J.2.2.2.2.2.2.2.2, J.2.2.2.2.2.1⟩ (fun v σ' q => h v σ' (rJ_w (ρ := siU σ 113 0) J (fun k hk => if_neg hk) rfl q.1 q.2).1 (rJ_w (ρ := siU σ 113 0) J (fun k hk => if_neg hk) rfl q.1 q.2).2)
end callz

end
section
set_option maxHeartbeats 1600000
/-! the reference: next, ending, value by what they answer; what holds behind them -/
section callx
variable {C : rCx} {σ : rS} {a1 a2 a3 : Int32}
theorem next_j8 (hC : cOK C) (J : rJ σ) {Q : Int32 → rS → Prop} (h : ∀ v σ', rJ σ' → pR8 σ σ' → XN8 a1 a2 a3 σ σ' v → Q v σ') : cI C 1 m_next [.ref (co C), .int a1, .int a2, .int a3] σ Q := next_g5 hC J.2.2.1 (fun v σ' q => h v σ' (rJ_G J q.1).1 (rJ_G J q.1).2 q.2)
theorem value_j8 (hC : cOK C) (J : rJ σ) {Q : Int32 → rS → Prop} (h : ∀ v σ', rJ σ' → pR8 σ σ' → XV8 a1 a2 a3 σ σ' v → Q v σ') : cI C 1 m_value [.ref (co C), .int a1, .int a2, .int a3] σ Q := value_g5 hC ⟨J.2.2.1, J.2.1.2.1⟩ (fun v σ' q => h v σ' (rJ_G J q.1).1 (rJ_G J q.1).2 q.2)
theorem ending_j8 (hC : cOK C) (J : rJ σ) {Q : Int32 → rS → Prop} (h : ∀ v σ', rJ σ' → pR8 σ σ' → XE8 a1 a2 σ σ' v → Q v σ') : cI C 0 m_ending [.ref (co C), .int a1, .int a2] σ Q := ending_g5 hC ⟨J.2.2.1, J.2.1.2.1⟩ (fun v σ' q => h v σ' (rJ_G J q.1).1 (rJ_G J q.1).2 q.2)
theorem state_j8 (hC : cOK C) (J : rJ σ) {Q : Int32 → rS → Prop} (h : ∀ v σ', rJ σ' → pR8 σ σ' → XT8 a1 a2 σ σ' v → Q v σ') : cI C 1 m_state [.ref (co C), .int a1, .int a2] σ Q := state_g5 hC J.2.2.1 (fun v σ' q => h v σ' (rJ_G J q.1).1 (rJ_G J q.1).2 q.2)
theorem count_j8 (hC : cOK C) (J : rJ σ) {Q : Int32 → rS → Prop} (h : ∀ v σ', rJ σ' → pR8 σ σ' → XK8 a1 σ σ' v → Q v σ') : cI C 1 m_count [.ref (co C), .int a1] σ Q := count_g5 hC ⟨J.2.2.1.1.1.1, J.2.2.1.1.1.2⟩ (fun v σ' q => h v σ' (rJ_G J q.1).1 (rJ_G J q.1).2 q.2)
theorem best_j8 (hC : cOK C) (J : rJ σ) {Q : Int32 → rS → Prop} (h : ∀ v σ', rJ σ' → pT8 σ σ' → XB8 σ σ' v → Q v σ') : cI C 7 m_best [.ref (co C)] σ Q := best_g5 hC _ ⟨J.2.2.1, rfl, J.2.2.2.2.1⟩ (fun v σ' q => by
  obtain ⟨⟨f, e, s, v4, n⟩, xb⟩ := q
  have e70 := f.1 70 (by decide)
  have g := rJ_x J (fun k hk => f.1 k ((by decide : ∀ k, k ∈ rjA → k ∉ bfF) k hk)) (fun k hk => f.2.2.1 k ((by decide : ∀ k, k ∈ rjZ → k ∉ bfR) k hk)) (fun j => by rw [f.2.2.2 8 (by decide)]) e (jVs_o J.2.2.2.1 v4 e70 (f.2.2.1 102 (by decide))) (fun y k hk => s y k (by rw [← e70]; exact hk)) (plN_o J.2.2.2.2.2.1 (by rw [f.1 106 (by decide)]; exact fun y => y) (fun k hk => n k (by omega))) (shO_o J.2.2.2.2.2.2.1 (f.1 103 (by decide)) (fun k hk => n k (by omega)))
  exact h v σ' g.1 ⟨g.2, ⟨fun k hk => f.1 k ((by decide : ∀ k, k ∈ ke8 → k ∉ bfF) k hk), fun k hk => f.2.2.1 k ((by decide : ∀ k, k ∈ ky8 → k ∉ bfR) k hk)⟩⟩ xb)
theorem decide_j8 (hC : cOK C) (J : rJ σ) {Q : Int32 → rS → Prop} (h : ∀ v σ', rJ σ' → pD8 a1 a2 σ σ' → XD8 a1 a2 σ σ' v → Q v σ') : cI C 1 m_decide [.ref (co C), .int a1, .int a2] σ Q := decide_g5 hC J.2.2.1 (fun v σ' q => by
  obtain ⟨⟨f, e, z⟩, xd, xu⟩ := q
  have g := rJ_x J (fun k hk => f.1 k ((by decide : ∀ k, k ∈ rjA → k ∉ [0, 94]) k hk)) (fun k hk => f.2.2.1 k ((by decide : ∀ k, k ∈ rjZ → k ∉ [83]) k hk)) (fun j => f.2.2.2 8 j) e (by
    rcases z with z | z
    · exact jVs_o J.2.2.2.1 (by rw [z.1 94 (by decide)]; exact fun y => y) (z.1 70 (by decide)) (z.2.2.1 102 (by decide))
    · exact fun y => absurd z y) (jWo_o J.2.2.2.2.1 (by rw [f.1 114 (by decide)]; exact fun y => y) (f.1 70 (by decide)) (f.2.2.1 115 (by decide)) (f.2.2.1 116 (by decide))) (plN_o J.2.2.2.2.2.1 (by rw [f.1 106 (by decide)]; exact fun y => y) (fun k hk => ⟨by rw [f.2.2.1 91 (by decide)], fun i _ => by rw [f.2.2.1 90 (by decide)]⟩)) (shO_o J.2.2.2.2.2.2.1 (f.1 103 (by decide)) (fun k hk => ⟨by rw [f.2.2.1 91 (by decide)], fun i _ => by rw [f.2.2.1 90 (by decide)]⟩))
  exact h v σ' g.1 ⟨⟨g.2, fun k hk => f.1 k ((by decide : ∀ k, k ∈ ke8 → k ∉ [0, 94]) k hk), fun k hk => f.2.2.1 k ((by decide : ∀ k, k ∈ ky8 → k ∉ [83]) k hk)⟩, xu⟩ xd)
theorem decided_j8 (hC : cOK C) (J : rJ σ) {Q : Int32 → rS → Prop} (h : ∀ v σ', rJ σ' → pR8 σ σ' → XG8 a1 σ σ' v → Q v σ') : cI C 1 m_decided [.ref (co C), .int a1] σ Q := decided_g5 hC J.2.2.1 (fun v σ' q => h v σ' (rJ_G J q.1).1 (rJ_G J q.1).2 q.2)
end callx

end
section
set_option maxHeartbeats 1600000
/-! the class: ChanceWorks' perform -/
theorem ch_a9 {C : zC} {n0 b : Nat} {F : Nat → Nat → Prop} {κ τ : zS} (W : zW C n0 κ) (T : zT κ b = 3) (Z : zF F κ τ) (hF : ∀ f x, F f x → zT κ x ≠ 3 ∧ zT κ x ≠ 6) (H : atH κ b) : atH τ b ∧ (atM κ b → atM τ b) ∧ zI τ atExplored b = zI κ atExplored b := by
  have no : ∀ f, ¬ F f b := fun f z => (hF f b z).1 T
  refine ⟨⟨?_, ?_⟩, fun M => ?_, Z.i (no _)⟩
  · rw [Z.r (no atStates)]
    exact hoI_zF Z W (ty_atStates W T) (fun f z => (hF f _ z).2 (ty_atStates W T)) H.1
  · rw [Z.r (no atEndings)]
    exact hoI_zF Z W (ty_atEndings W T) (fun f z => (hF f _ z).2 (ty_atEndings W T)) H.2
  · obtain ⟨m1, m2, m3, m4, m5, m6⟩ := M
    exact ⟨by rw [Z.r (no _), Z.l (ty_atFirsts W T)]; exact m1, by rw [Z.r (no _), Z.l (ty_atTotals W T)]; exact m2, by rw [Z.r (no _), Z.l (ty_atGains W T)]; exact m3, by rw [Z.r (no _), Z.l (ty_atPlan W T)]; exact m4, by rw [Z.r (no _), Z.l (ty_atChooses W T)]; exact m5, by rw [Z.r (no _), Z.l (ty_atHopeless W T)]; exact m6⟩
/-- on the way of a play -/
def pfJ9 (κ τ : zS) (a : Nat) : Prop := zF (dwF9 (zR κ chMachine a) a) κ τ ∧ (∀ f, f ≠ chDrawnWeights → f ≠ chDrawnTotals → zR τ f a = zR κ f a) ∧ mkI τ (zR κ chMachine a) ∧ dwI9 τ a
def pfF9 (m a : Nat) : Nat → Nat → Prop := fun f b => b = m ∨ (b = a ∧ (f = chDrawnWeights ∨ f = chDrawnTotals ∨ f = chRecord ∨ f = chLastShared ∨ f = chPlayMade))
theorem pf_m9 {C : zC} {n0 a : Nat} {κ τ σ : zS} (W : zW C n0 τ) (T : zT τ (zR κ chMachine a) = 7) (J : pfJ9 κ τ a) (q : mF τ σ (zR κ chMachine a)) : pfJ9 κ σ a := by
  refine ⟨J.1.tr (q.1.mono (fun f b z => Or.inl z)), fun f h1 h2 => ?_, (mkI_f q W T J.2.2.1).1, ?_⟩
  · rw [q.2.1]
    exact J.2.1 f h1 h2
  · unfold dwI9
    rw [q.2.1, q.2.2.1]
    exact J.2.2.2
theorem Ch_perform_c {C : zC} {n0 : Nat} {a0 : Nat} {a1 : Int32} {a2 : Int64} {a4 : Int32} {κ : zS} {Q : Int32 → zS → Prop} (W : zW C n0 κ) (Ta0 : zT κ a0 = 15)  (hp : maL κ (zR κ chMachine a0) ∧ coI κ (zR κ chCode a0) ∧ dwI9 κ a0 ∧ ((zN κ (zR κ chRecord a0)) = 5 ∧ (zN κ (zR κ chLastShared a0)) = 34 ∧ (zN κ (zR κ chTold a0)) = 200 ∧ (zI κ chTolds a0).toInt ≤ 200) ∧ atH κ (zR κ chAtlas a0) ∧ (zI κ atExplored (zR κ chAtlas a0) ≠ 0 → atM κ (zR κ chAtlas a0)) ∧ a4.toInt ≤ 2000) (h : ∀ (v : Int32) (κ' : zS), (zF (pfF9 (zR κ chMachine a0) a0) κ κ' ∧ (∀ f, f ≠ chDrawnWeights → f ≠ chDrawnTotals → zR κ' f a0 = zR κ f a0) ∧ mkI κ' (zR κ chMachine a0) ∧ dwI9 κ' a0) → Q v κ') : zRun C 5 mCh_perform [.ref a0, .int a1, .long a2, .int a4] κ (oI Q noX) := by
  refine Ch_perform_run W Ta0 ?_
  replace W := W.lo (Nat.le_trans W.1.2.1 W.1.2.2) (Nat.le_refl (zn κ))
  unfold w_Ch_perform_0
  have am := ch_m9 W Ta0
  have tm := ty_chMachine W Ta0
  obtain ⟨L0, C0, D0, ⟨n5, n34, n200, t20⟩, H0, M0, l4⟩ := hp
  have F7 : ∀ f x, dwF9 (zR κ chMachine a0) a0 f x → zT κ x = 7 ∨ zT κ x = 15 := by
    rintro f x (z | z)
    · left; rw [z]; exact tm
    · right; rw [z.1]; exact Ta0
  have e1 : (1 : Int32).toInt = 1 := rfl
  have hj180 : ∀ (l0 : Nat) (l7 : Int32) (l8 : Int32) (l9 : Int64) (τ : zS), zW C (zn κ) τ → zT τ l0 = 15 → (a0 = l0 ∧ pfJ9 κ τ a0) → w_Ch_perform_180 C (zn κ) Q  l0 l7 l8 l9 τ := by
    rintro _ y180_7 y180_8 y180_9 τ180 W180 T180_0 ⟨rfl, j180⟩
    unfold w_Ch_perform_180
    intro T1
    refine Ch_note_c W180 T1  ?_ (fun κ_2 q3 => ?_)
    · obtain ⟨Z1, R1, K1, D1⟩ := j180
      rw [R1 chMachine (by decide) (by decide), R1 chCode (by decide) (by decide), R1 chRecord (by decide) (by decide), R1 chLastShared (by decide) (by decide)]
      refine ⟨K1, coI_zF Z1 W (ty_chCode W Ta0) (fun f z => ?_) C0, (Z1.l (ty_chRecord W Ta0)).trans n5, (Z1.l (ty_chLastShared W Ta0)).trans n34⟩
      have t5 := ty_chCode W Ta0
      rcases F7 _ _ z with y | y <;> rw [y] at t5 <;> exact absurd t5 (by decide)
    intro W4
    intro M5
    refine h _ _ ?_
    · obtain ⟨Z1, R1, K1, D1⟩ := j180
      have am1 := ch_m9 W180 T180_0
      rw [R1 chMachine (by decide) (by decide)] at am1
      refine ⟨(Z1.mono (fun f b z => ?_)).tr (q3.1.mono (fun f b z => ?_)), fun f h1 h2 => ?_, mkI_zF q3.1 W180 (Z1.t tm (by decide)) (fun f z => am1.1 z.1.symm) (fun f z => am1.2.1 z.1.symm) K1, ?_⟩
      · rcases z with z | ⟨z, y | y⟩
        · exact Or.inl z
        · exact Or.inr ⟨z, Or.inl y⟩
        · exact Or.inr ⟨z, Or.inr (Or.inl y)⟩
      · exact Or.inr ⟨z.1, Or.inr (Or.inr z.2)⟩
      · rw [q3.2]; exact R1 f h1 h2
      · unfold dwI9
        rw [q3.2, q3.1.l (ty_chDrawnWeights W180 T180_0), q3.1.l (ty_chDrawnTotals W180 T180_0)]
        exact D1
  intro T6
  intro T7
  refine Ma_begin_c W T6 T7  ?_ (fun κ_8 q9 => ?_)
  · exact ⟨L0, C0⟩  -- p3
  intro W10
  intro M11
  unfold w_Ch_perform_26
  refine ⟨fun n l0 l1 l4 l5 l7 l8 l9 l11 τ => n = (a4.toInt - l11.toInt).toNat ∧ (a0 = l0 ∧ a1 = l1 ∧ a4 = l4 ∧ pfJ9 κ τ a0 ∧ (zI τ maOutcome (zR κ chMachine a0) = 0 → mO τ (zR κ chMachine a0)) ∧ (0 ≤ l8.toInt ∧ l8.toInt ≤ l11.toInt)), ⟨_, rfl, ?_⟩, ?_⟩
  · refine ⟨rfl, rfl, rfl, ⟨q9.1.mono (fun f b z => Or.inl z), fun f _ _ => q9.1.r (fun z => am.1 z), q9.2.2.1, ?_⟩, fun z => ?_, by decide, by decide⟩
    · unfold dwI9
      rw [q9.1.r (fun z => am.1 z), q9.1.r (fun z => am.1 z), q9.1.l (ty_chDrawnWeights W Ta0), q9.1.l (ty_chDrawnTotals W Ta0)]
      exact D0
    · rcases q9.2.2.2.2.1 with y | y
      · exact y
      · rw [y] at z
        exact absurd z (by decide)
  rintro n26 _ _ _ x26_5 x26_7 x26_8 x26_9 x26_11 κ26 W26 T26_0 ⟨hn26, rfl, rfl, rfl, i26⟩
  have hj158 : ∀ (l0 : Nat) (l1 : Int32) (l4 : Int32) (l5 : Int64) (l7 : Int32) (l8 : Int32) (l9 : Int64) (l11 : Int32) (τ : zS), zW C (zn κ) τ → zT τ l0 = 15 → (a0 = l0 ∧ a1 = l1 ∧ a4 = l4 ∧ pfJ9 κ τ a0 ∧ (zI τ maOutcome (zR κ chMachine a0) = 0 → mO τ (zR κ chMachine a0)) ∧ (0 ≤ l8.toInt ∧ l8.toInt ≤ l11.toInt + 1) ∧ l11 = x26_11 ∧ (0 ≤ l11.toInt ∧ l11.toInt < a4.toInt)) → w_Ch_perform_158 C (zn κ) Q (fun (l0' : Nat) (l1' : Int32) (l4' : Int32) (l5' : Int64) (l7' : Int32) (l8' : Int32) (l9' : Int64) (l11' : Int32) (τ : zS) => ∃ k < n26, (fun (n : Nat) (l0 : Nat) (l1 : Int32) (l4 : Int32) (l5 : Int64) (l7 : Int32) (l8 : Int32) (l9 : Int64) (l11 : Int32) (τ : zS) => n = (a4.toInt - l11.toInt).toNat ∧ (a0 = l0 ∧ a1 = l1 ∧ a4 = l4 ∧ pfJ9 κ τ a0 ∧ (zI τ maOutcome (zR κ chMachine a0) = 0 → mO τ (zR κ chMachine a0)) ∧ (0 ≤ l8.toInt ∧ l8.toInt ≤ l11.toInt))) k l0' l1' l4' l5' l7' l8' l9' l11' τ) l0 l1 l4 l5 l7 l8 l9 l11 τ := by
    rintro _ _ _ y158_5 y158_7 y158_8 y158_9 y158_11 τ158 W158 T158_0 ⟨rfl, rfl, rfl, j158⟩
    unfold w_Ch_perform_158
    intro x12 hx12
    intro x13 hx13
    intro x14 hx14
    obtain ⟨J6, O6, ⟨b0, b1⟩, ex, x0, x1⟩ := j158
    have ix := cn1 (x := y158_11) x0 (by omega)
    refine ⟨_, ?_, rfl, ?_⟩
    · rw [hn26, hx14, ix.2, ← ex]; omega  -- d5
    · exact ⟨rfl, rfl, rfl, J6, O6, b0, by rw [hx14, ix.2]; omega⟩  -- i6
  have hj150 : ∀ (l0 : Nat) (l1 : Int32) (l4 : Int32) (l5 : Int64) (l7 : Int32) (l8 : Int32) (l9 : Int64) (l11 : Int32) (s0 : Int32) (s1 : Nat) (s2 : Int32) (τ : zS), zW C (zn κ) τ → zT τ l0 = 15 → zT τ s1 = 15 → (a0 = l0 ∧ a1 = l1 ∧ a4 = l4 ∧ pfJ9 κ τ a0 ∧ (mO τ (zR κ chMachine a0) ∧ (zI τ maWays (zR κ chMachine a0)).toInt ≤ 64) ∧ (0 ≤ l8.toInt ∧ l8.toInt ≤ l11.toInt) ∧ (l11 = x26_11 ∧ l11.toInt < a4.toInt) ∧ s0 = l8 ∧ s1 = a0) → w_Ch_perform_150 C (zn κ) Q (fun (l0' : Nat) (l1' : Int32) (l4' : Int32) (l5' : Int64) (l7' : Int32) (l8' : Int32) (l9' : Int64) (l11' : Int32) (τ : zS) => ∃ k < n26, (fun (n : Nat) (l0 : Nat) (l1 : Int32) (l4 : Int32) (l5 : Int64) (l7 : Int32) (l8 : Int32) (l9 : Int64) (l11 : Int32) (τ : zS) => n = (a4.toInt - l11.toInt).toNat ∧ (a0 = l0 ∧ a1 = l1 ∧ a4 = l4 ∧ pfJ9 κ τ a0 ∧ (zI τ maOutcome (zR κ chMachine a0) = 0 → mO τ (zR κ chMachine a0)) ∧ (0 ≤ l8.toInt ∧ l8.toInt ≤ l11.toInt))) k l0' l1' l4' l5' l7' l8' l9' l11' τ) l0 l1 l4 l5 l7 l8 l9 l11 s0 s1 s2 τ := by
    rintro _ _ _ y150_5 y150_7 y150_8 y150_9 y150_11 y150_s0 y150_s1 y150_s2 τ150 W150 T150_0 T150_1 ⟨rfl, rfl, rfl, j150⟩
    unfold w_Ch_perform_150
    intro T15
    obtain ⟨J5, ⟨O5, w5⟩, ⟨b0, b1⟩, ⟨ex, x1⟩, es0, es1⟩ := j150
    have rm := J5.2.1 chMachine (by decide) (by decide)
    rw [es1]
    rw [es1] at T15
    refine Ch_drawn_c W150 T15  ?_ (fun r16 κ_17 q18 => ?_)
    · rw [rm]
      exact ⟨J5.2.2.1, ⟨O5, w5⟩, J5.2.2.2, b0, by omega⟩
    intro W19
    intro M20
    intro x21 hx21
    refine hj158 _ _ _ _ _ _ _ _ _ W19 ?_ ?_
    · exact q18.1.t T15 (by decide)  -- t8
    · rw [rm] at q18
      have xb : x21.toInt = y150_8.toInt + r16.toInt ∧ 0 ≤ r16.toInt ∧ r16.toInt ≤ 1 := by
        have t0 : (0 : Int32).toInt = 0 := rfl
        rw [hx21, es0]
        rcases q18.2.2.2.2.2 with y | y <;> rw [y]
        · rw [add_i (by rw [t0]; omega) (by rw [t0]; omega), t0]
          omega
        · rw [add_i (by rw [e1]; omega) (by rw [e1]; omega), e1]
          omega
      refine ⟨rfl, rfl, rfl, ⟨J5.1.tr q18.1, fun f h1 h2 => (q18.2.1 f h1 h2).trans (J5.2.1 f h1 h2), q18.2.2.1, q18.2.2.2.2.1⟩, q18.2.2.2.1, ⟨by omega, by omega⟩, ex, by omega, x1⟩
  have hj109 : ∀ (l0 : Nat) (l1 : Int32) (l4 : Int32) (l5 : Int64) (l7 : Int32) (l8 : Int32) (l9 : Int64) (l11 : Int32) (τ : zS), zW C (zn κ) τ → zT τ l0 = 15 → (a0 = l0 ∧ a1 = l1 ∧ a4 = l4 ∧ pfJ9 κ τ a0 ∧ (mO τ (zR κ chMachine a0) ∧ (zI τ maWays (zR κ chMachine a0)).toInt ≤ 64) ∧ (0 ≤ l8.toInt ∧ l8.toInt ≤ l11.toInt) ∧ (l11 = x26_11 ∧ l11.toInt < a4.toInt) ∧ (¬ a1 = 0 → l8.toInt < 200)) → w_Ch_perform_109 C (zn κ) Q (fun (l0' : Nat) (l1' : Int32) (l4' : Int32) (l5' : Int64) (l7' : Int32) (l8' : Int32) (l9' : Int64) (l11' : Int32) (τ : zS) => ∃ k < n26, (fun (n : Nat) (l0 : Nat) (l1 : Int32) (l4 : Int32) (l5 : Int64) (l7 : Int32) (l8 : Int32) (l9 : Int64) (l11 : Int32) (τ : zS) => n = (a4.toInt - l11.toInt).toNat ∧ (a0 = l0 ∧ a1 = l1 ∧ a4 = l4 ∧ pfJ9 κ τ a0 ∧ (zI τ maOutcome (zR κ chMachine a0) = 0 → mO τ (zR κ chMachine a0)) ∧ (0 ≤ l8.toInt ∧ l8.toInt ≤ l11.toInt))) k l0' l1' l4' l5' l7' l8' l9' l11' τ) l0 l1 l4 l5 l7 l8 l9 l11 τ := by
    rintro _ _ _ y109_5 y109_7 y109_8 y109_9 y109_11 τ109 W109 T109_0 ⟨rfl, rfl, rfl, j109⟩
    unfold w_Ch_perform_109
    intro x22 hx22
    obtain ⟨J9, ⟨O9, w9⟩, b9, ex, h20⟩ := j109
    have rm := J9.2.1 chMachine (by decide) (by decide)
    refine ⟨fun c23 => ?_, fun c23 => ?_⟩
    · skip
      intro T24
      refine Ma_wayAt_c W109 T24  ?_ (fun r25 q27 => ?_)
      · rw [rm]
        exact ⟨J9.2.2.1.1, w9⟩
      intro W28
      intro M29
      refine hj150 _ _ _ _ _ _ _ _ _ _ _ _ W28 ?_ ?_ ?_
      · exact T109_0  -- t11
      · exact T109_0  -- t12
      · exact ⟨rfl, rfl, rfl, J9, ⟨O9, w9⟩, b9, ex, rfl, rfl⟩  -- k13
    · skip
      refine ⟨?_, ?_⟩
      · rw [inb_iff, J9.2.1 chTold (by decide) (by decide), J9.1.l (ty_chTold W Ta0), n200]
        have := h20 c23
        omega
      refine hj150 _ _ _ _ _ _ _ _ _ _ _ _ W109 ?_ ?_ ?_
      · exact T109_0  -- t15
      · exact T109_0  -- t16
      · exact ⟨rfl, rfl, rfl, J9, ⟨O9, w9⟩, b9, ex, rfl, rfl⟩  -- k17
  obtain ⟨J2, O2, b20, b21⟩ := i26
  have rm := J2.2.1 chMachine (by decide) (by decide)
  have tm2 : zT κ26 (zR κ chMachine a0) = 7 := J2.1.t tm (by decide)
  refine ⟨fun c30 => ?_, fun c30 => ?_⟩
  · skip
    refine hj180 _ _ _ _ _ W26 ?_ ?_
    · exact T26_0  -- t18
    · exact ⟨rfl, J2⟩  -- k19
  · skip
    refine ⟨fun c31 => ?_, fun c31 => ?_⟩
    · skip
      refine hj180 _ _ _ _ _ W26 ?_ ?_
      · exact T26_0  -- t20
      · exact ⟨rfl, J2⟩  -- k21
    · skip
      intro T32
      refine Ma_act_c2 W26 T32  ?_ (fun κ_33 q34 => ?_)
      · rw [rm] at c31 ⊢
        exact ⟨J2.2.2.1, O2 c31⟩
      intro W35
      intro M36
      rw [rm] at q34
      rw [lei] at c30
      have J3 := pf_m9 W26 tm2 J2 q34.1
      have T33 : zT κ_33 a0 = 15 := J3.1.t Ta0 (by decide)
      have rm3 := J3.2.1 chMachine (by decide) (by decide)
      rw [rm3]
      have O3 : zI κ_33 maOutcome (zR κ chMachine a0) = 0 → mO κ_33 (zR κ chMachine a0) := fun z => by
        rcases q34.2.2.1 with y | y
        · exact y
        · rw [y] at z
          exact absurd z (by decide)
      have D3 : zI κ_33 maWants (zR κ chMachine a0) = 3 ∨ zI κ_33 maWants (zR κ chMachine a0) = 4 → mO κ_33 (zR κ chMachine a0) ∧ (zI κ_33 maWays (zR κ chMachine a0)).toInt ≤ 64 := fun z => by
        have ne : zI κ_33 maWants (zR κ chMachine a0) ≠ -1 := fun y => by
          rw [y] at z
          rcases z with z | z <;> exact absurd z (by decide)
        refine ⟨q34.2.2.2.2 ne, ?_⟩
        rcases q34.2.2.2.1 with y | y | y
        · exact absurd y ne
        · exact y.2.1.2
        · have := y.2.1.2
          omega
      refine ⟨fun c37 => ?_, fun c37 => ?_⟩
      · skip
        refine ⟨fun c38 => ?_, fun c38 => ?_⟩
        · skip
          refine hj158 _ _ _ _ _ _ _ _ _ W35 ?_ ?_
          · exact T33  -- t23
          · exact ⟨rfl, rfl, rfl, J3, O3, ⟨b20, by omega⟩, rfl, by omega, by omega⟩  -- k24
        · skip
          refine ⟨fun c39 => ?_, fun c39 => ?_⟩
          · skip
            refine hj109 _ _ _ _ _ _ _ _ _ W35 ?_ ?_
            · exact T33  -- t25
            · exact ⟨rfl, rfl, rfl, J3, D3 (Or.inl c38), ⟨b20, b21⟩, ⟨rfl, by omega⟩, fun z => absurd c39 z⟩  -- k26
          · skip
            refine ⟨fun c40 => ?_, fun c40 => ?_⟩
            · skip
              refine hj109 _ _ _ _ _ _ _ _ _ W35 ?_ ?_
              · exact T33  -- t27
              · refine ⟨rfl, rfl, rfl, J3, D3 (Or.inl c38), ⟨b20, b21⟩, ⟨rfl, by omega⟩, fun z => ?_⟩
                have it : zI κ_33 chTolds a0 = zI κ chTolds a0 := J3.1.i (fun y => by
                  rcases y with y | ⟨_, y | y⟩
                  · exact am.1 y
                  · exact absurd y (by decide)
                  · exact absurd y (by decide))
                rw [lti, it] at c40
                omega
            · skip
              refine hj180 _ _ _ _ _ W35 ?_ ?_
              · exact T33  -- t29
              · exact ⟨rfl, J3⟩  -- k30
      · skip
        intro T41
        intro T42
        have A3 := ch_a9 W (ty_chAtlas W Ta0) J3.1 (fun f x z => by rcases F7 f x z with y | y <;> rw [y] <;> decide) H0
        refine At_chosen_c W35 T41 T42  ?_ (fun r43 q45 => ?_)
        · rw [J3.2.1 chAtlas (by decide) (by decide)]
          exact ⟨A3.1, fun z => A3.2.1 (M0 (by rw [← A3.2.2]; exact z))⟩
        intro W46
        intro M47
        intro T48
        refine Ma_settle_c W46 T48  ?_ (fun κ_49 q50 => ?_)
        · exact ⟨J3.2.2.1, D3 (Or.inr c37)⟩  -- p32
        intro W51
        intro M52
        refine hj158 _ _ _ _ _ _ _ _ _ W51 ?_ ?_
        · exact q50.1.1.t T33 (by decide)  -- t33
        · refine ⟨rfl, rfl, rfl, pf_m9 W46 (J3.1.t tm (by decide)) J3 q50.1, fun z => ?_, ⟨b20, by omega⟩, rfl, by omega, by omega⟩
          rcases q50.2.2.1 with y | y
          · exact y
          · rw [y] at z
            exact absurd z (by decide)

end
section
set_option maxHeartbeats 1600000
/-! the class: ChanceWorks between calls; what is not touched stays -/
/-- no field of an object of this class is in the frame -/
def un9 (F : Nat → Nat → Prop) (x K : Nat) : Prop := ∀ f, f / 100 = K → ¬ F f x
theorem ta_u9 {C : zC} {n0 t : Nat} {F : Nat → Nat → Prop} {κ τ : zS} (Z : zF F κ τ) (W : zW C n0 κ) (T : zT κ t = 13) (h : un9 F t 13) (H : taI κ t ∧ tokI κ t) : (taI τ t ∧ tokI τ t) ∧ zI τ taLength t = zI κ taLength t := by
  have i : ∀ f, f / 100 = 13 → zI τ f t = zI κ f t := fun f hf => Z.i (h f hf)
  have r : ∀ f, f / 100 = 13 → zR τ f t = zR κ f t := fun f hf => Z.r (h f hf)
  have p := (Z.row W (show zr taPlaces = some 20 by decide +kernel) (by decide) T (h taPlaces (by decide))).1
  have l := (Z.row W (show zr taLengths = some 20 by decide +kernel) (by decide) T (h taLengths (by decide))).1
  refine ⟨⟨?_, ?_⟩, i _ (by decide)⟩
  · unfold taI
    rw [i taLength (by decide), i taTotal (by decide), r taBytes (by decide), r taKinds (by decide), r taPlaces (by decide), r taLengths (by decide), Z.l (ty_taBytes W T), Z.l (ty_taKinds W T), Z.l (ty_taPlaces W T), Z.l (ty_taLengths W T)]
    exact H.1
  · unfold tokI
    rw [p, l, r taBytes (by decide), r taKinds (by decide), Z.l (ty_taBytes W T), Z.l (ty_taKinds W T)]
    exact H.2
theorem co_u9 {C : zC} {n0 c : Nat} {F : Nat → Nat → Prop} {κ τ : zS} (Z : zF F κ τ) (W : zW C n0 κ) (T : zT κ c = 5) (n : un9 F c 5) : (coI κ c → coI τ c) ∧ zI τ coVars c = zI κ coVars c ∧ zI τ coCells c = zI κ coCells c := by
  have i5 : ∀ f, f ∈ coIf → f / 100 = 5 := by decide
  refine ⟨fun I => coI_g I (fun f hf => Z.i (n f (i5 f hf))) (fun f hf => Z.r (n f (coRf_r f hf).2)) (fun f hf => Z.l (coRf_t W T hf)) (fun f hf => ?_), Z.i (n _ (by decide)), Z.i (n _ (by decide))⟩
  have m : f ∈ coRf := by rcases hf with rfl | rfl <;> decide
  have r := (Z.row W (coRf_r f m).1 (by decide) (T.trans (coRf_r f m).2.symm) (n f (coRf_r f m).2)).1
  rw [Z.r (n f (coRf_r f m).2)] at r
  exact r
theorem pa_u9 {C : zC} {n0 p : Nat} {F : Nat → Nat → Prop} {κ τ : zS} (Z : zF F κ τ) (W : zW C n0 κ) (T : zT κ p = 10) (n : un9 F p 10) (H : paL κ p ∧ paC κ p) : (paL τ p ∧ paC τ p) ∧ zR τ paTape p = zR κ paTape p := by
  have i : ∀ f, f / 100 = 10 → zI τ f p = zI κ f p := fun f hf => Z.i (n f hf)
  have r : ∀ f, f / 100 = 10 → zR τ f p = zR κ f p := fun f hf => Z.r (n f hf)
  refine ⟨⟨?_, ?_⟩, r _ (by decide)⟩
  · unfold paL
    rw [r paVarNames (by decide), r paArrayNames (by decide), r paFunctionNames (by decide), r paOwnNames (by decide), r paOwners (by decide), r paLasts (by decide), r paElses (by decide), Z.l (ty_paVarNames W T), Z.l (ty_paArrayNames W T), Z.l (ty_paFunctionNames W T), Z.l (ty_paOwnNames W T), Z.l (ty_paOwners W T), Z.l (ty_paLasts W T), Z.l (ty_paElses W T)]
    exact H.1
  · unfold paC
    rw [i paOwns (by decide), i paBlocks (by decide), i paWaits (by decide), r paWaiting (by decide), Z.l (ty_paWaiting W T)]
    exact H.2
theorem ma_u9 {C : zC} {n0 m : Nat} {F : Nat → Nat → Prop} {κ τ : zS} (Z : zF F κ τ) (W : zW C n0 κ) (T : zT κ m = 7) (n : un9 F m 7) (H : maL κ m) : maL τ m := by
  have r : ∀ f, f / 100 = 7 → zR τ f m = zR κ f m := fun f hf => Z.r (n f hf)
  unfold maL
  rw [r maMemory (by decide), r maStack (by decide), r maWorked (by decide), r maValues (by decide), r maWeights (by decide), Z.l (ty_maMemory W T), Z.l (ty_maStack W T), Z.l (ty_maWorked W T), Z.l (ty_maValues W T), Z.l (ty_maWeights W T)]
  exact H
theorem ho_u9 {C : zC} {n0 h M D S : Nat} {F : Nat → Nat → Prop} {κ τ : zS} (Z : zF F κ τ) (W : zW C n0 κ) (T : zT κ h = 6) (n : un9 F h 6) : (hoI κ h M D S → hoI τ h M D S) ∧ pV9 τ h = pV9 κ h ∧ zI τ hoTotal h = zI κ hoTotal h := by
  have q : ∀ f, f = hoStarts ∨ f = hoTable ∨ f = hoPool → zR τ f h = zR κ f h ∧ zA τ (zR κ f h) = zA κ (zR κ f h) ∧ zN τ (zR κ f h) = zN κ (zR κ f h) := fun f hf => by
    have q : zr f = some 20 ∧ f / 100 = 6 := by rcases hf with rfl | rfl | rfl <;> decide +kernel
    have w := (Z.row W q.1 (by decide) (T.trans q.2.symm) (n f q.2)).1
    have e := Z.r (n f q.2)
    rw [e] at w
    exact ⟨e, w, Z.l (W.r q.1 (T.trans q.2.symm))⟩
  have t : zI τ hoTotal h = zI κ hoTotal h := Z.i (n hoTotal (by decide))
  refine ⟨fun I => hoI_f I (fun f hf => Z.i (n f hf)) q, ?_, t⟩
  funext k i
  have s := q hoStarts (Or.inl rfl)
  have p := q hoPool (Or.inr (Or.inr rfl))
  unfold pV9
  rw [t, s.1, p.1, s.2.1, p.2.1]
theorem we_u9 {C : zC} {n0 w : Nat} {F : Nat → Nat → Prop} {κ τ : zS} (Z : zF F κ τ) (W : zW C n0 κ) (T : zT κ w = 14) (n : un9 F w 14) : (weM κ w → weM τ w) ∧ (weU κ w → weU τ w) ∧ (weL κ w → weL τ w) := by
  have h : ∀ f, f ∈ weRf → zN τ (zR τ f w) = zN κ (zR κ f w) := fun f hf => by
    obtain ⟨⟨t, h1, h2⟩, h3⟩ := weRf_r f hf
    have ty := W.r h1 (T.trans h3.symm)
    have t1 : zT κ (zR κ f w) = (t - 1) + 1 := by omega
    rw [Z.r (n f h3)]
    exact Z.l t1
  refine ⟨fun M => ?_, fun M => ?_, fun M => ?_⟩
  · unfold weM
    rw [h weFirsts (by decide), h weBackFirsts (by decide), h weOpen (by decide), h weKnotFirsts (by decide), h weKnotOf (by decide), h weOrder (by decide), h weSeen (by decide), h weLow (by decide), h weCursor (by decide), h wePath (by decide), h weHeap (by decide)]
    exact M
  · unfold weU
    rw [h weFirsts (by decide), h weBackFirsts (by decide), h weOpen (by decide), h weKnotFirsts (by decide), h weKnotOf (by decide), h weOrder (by decide), h weSeen (by decide), h weLow (by decide), h weCursor (by decide), h wePath (by decide), h weHeap (by decide)]
    exact M
  · unfold weL
    rw [h weTargets (by decide), h weSources (by decide), h weEdges (by decide)]
    exact M
/-- an atlas's rows and numbers: the plan may be touched -/
theorem at_u9 {C : zC} {n0 a : Nat} {F : Nat → Nat → Prop} {κ τ : zS} (Z : zF F κ τ) (W : zW C n0 κ) (T : zT κ a = 3) (n : ∀ f, f / 100 = 3 → f ≠ atPlan → ¬ F f a) (hp : zR τ atPlan a = zR κ atPlan a) : (∀ f, f / 100 = 3 → zR τ f a = zR κ f a) ∧ (∀ f, f ∈ atRf → zN τ (zR κ f a) = zN κ (zR κ f a) ∧ (f ≠ atPlan → zA τ (zR κ f a) = zA κ (zR κ f a))) := by
  have r : ∀ f, f / 100 = 3 → zR τ f a = zR κ f a := fun f hf => by
    by_cases e : f = atPlan
    · rw [e]; exact hp
    · exact Z.r (n f hf e)
  refine ⟨r, fun f hf => ?_⟩
  obtain ⟨⟨t, h1, h2⟩, h3⟩ := atRf_r f hf
  have ty := W.r h1 (T.trans h3.symm)
  have t1 : zT κ (zR κ f a) = (t - 1) + 1 := by omega
  refine ⟨Z.l t1, fun e => ?_⟩
  have q := (Z.row W h1 h2 (T.trans h3.symm) (n f h3 e)).1
  rw [r f h3] at q
  exact q
theorem atM_u9 {a : Nat} {κ τ : zS} (g : (∀ f, f / 100 = 3 → zR τ f a = zR κ f a) ∧ (∀ f, f ∈ atRf → zN τ (zR κ f a) = zN κ (zR κ f a) ∧ (f ≠ atPlan → zA τ (zR κ f a) = zA κ (zR κ f a)))) : (atM κ a → atM τ a) ∧ (atU κ a → atU τ a) ∧ (atL κ a → atL τ a) := by
  obtain ⟨r, g⟩ := g
  refine ⟨fun A1 => ?_, fun A1 => ?_, fun A2 => ?_⟩
  · unfold atM
    rw [r atFirsts (by decide), r atTotals (by decide), r atGains (by decide), r atPlan (by decide), r atChooses (by decide), r atHopeless (by decide), (g atFirsts (by decide)).1, (g atTotals (by decide)).1, (g atGains (by decide)).1, (g atPlan (by decide)).1, (g atChooses (by decide)).1, (g atHopeless (by decide)).1]
    exact A1
  · unfold atU
    rw [r atFirsts (by decide), r atTotals (by decide), r atGains (by decide), r atPlan (by decide), r atChooses (by decide), r atHopeless (by decide), (g atFirsts (by decide)).1, (g atTotals (by decide)).1, (g atGains (by decide)).1, (g atPlan (by decide)).1, (g atChooses (by decide)).1, (g atHopeless (by decide)).1]
    exact A1
  · unfold atL
    rw [r atSorts (by decide), r atNumbers (by decide), r atWeights (by decide), (g atSorts (by decide)).1, (g atNumbers (by decide)).1, (g atWeights (by decide)).1]
    exact A2
/-- atW stays, both ways -/
theorem atW_u9 {a n : Nat} {κ τ : zS} (g : (∀ f, f / 100 = 3 → zR τ f a = zR κ f a) ∧ (∀ f, f ∈ atRf → zN τ (zR κ f a) = zN κ (zR κ f a) ∧ (f ≠ atPlan → zA τ (zR κ f a) = zA κ (zR κ f a)))) (ix : zI τ atNexts a = zI κ atNexts a) (is : zI τ hoTotal (zR κ atStates a) = zI κ hoTotal (zR κ atStates a)) (ie : zI τ hoTotal (zR κ atEndings a) = zI κ hoTotal (zR κ atEndings a)) : atW τ a n ↔ atW κ a n := by
  obtain ⟨r, g⟩ := g
  unfold atW atM atL exK
  rw [r atFirsts (by decide), r atTotals (by decide), r atGains (by decide), r atPlan (by decide), r atChooses (by decide), r atHopeless (by decide), r atSorts (by decide), r atNumbers (by decide), r atWeights (by decide), r atStates (by decide), r atEndings (by decide), is, ie, ix, (g atFirsts (by decide)).1, (g atTotals (by decide)).1, (g atGains (by decide)).1, (g atPlan (by decide)).1, (g atChooses (by decide)).1, (g atHopeless (by decide)).1, (g atSorts (by decide)).1, (g atNumbers (by decide)).1, (g atWeights (by decide)).1, (g atFirsts (by decide)).2 (by decide), (g atTotals (by decide)).2 (by decide), (g atChooses (by decide)).2 (by decide), (g atSorts (by decide)).2 (by decide), (g atNumbers (by decide)).2 (by decide), (g atWeights (by decide)).2 (by decide)]

end
section
set_option maxHeartbeats 1600000
/-! what is seen of the class's tape and fault -/
def oC9 (κ : zS) (a : Nat) : Ob9 := mkO9 (zA κ (zR κ taBytes (zR κ chTape a))) (zI κ taLength (zR κ chTape a)) (zI κ chFaultCode a)
theorem oC_u9 {C : zC} {n0 a : Nat} {F : Nat → Nat → Prop} {κ τ : zS} (W : zW C n0 κ) (T : zT κ a = 15) (Z : zF F κ τ) (n1 : ¬ F chTape a) (n2 : ¬ F chFaultCode a) (n3 : ¬ F taLength (zR κ chTape a)) (n4 : ¬ F taBytes (zR κ chTape a)) : oC9 τ a = oC9 κ a := by
  have A := (Z.row W (show zr taBytes = some 21 by decide +kernel) (by decide) (ty_chTape W T) n4).1
  unfold oC9
  rw [Z.r n1, A, Z.i n3, Z.i n2]
theorem oC_v9 {C : zC} {n0 a : Nat} {F : Nat → Nat → Prop} {κ τ : zS} (W : zW C n0 κ) (T : zT κ a = 15) (Z : zF F κ τ) (h1 : un9 F a 15) (h2 : un9 F (zR κ chTape a) 13) : oC9 τ a = oC9 κ a := oC_u9 W T Z (h1 _ (by decide)) (h1 _ (by decide)) (h2 _ (by decide)) (h2 _ (by decide))
/-- the class's code stays -/
def kC7 (κ κ' : zS) (a : Nat) : Prop := zI κ' chReady a = zI κ chReady a ∧ cu7 κ' (zR κ' chCode a) = cu7 κ (zR κ chCode a)
def pC7 (κ κ' : zS) (a : Nat) : Prop := oC9 κ' a = oC9 κ a ∧ kC7 κ κ' a
theorem kC_z7 {C : zC} {n0 a : Nat} {F : Nat → Nat → Prop} {κ τ : zS} (W : zW C n0 κ) (T : zT κ a = 15) (Z : zF F κ τ) (n1 : ¬ F chReady a) (n2 : ¬ F chCode a) (h3 : un9 F (zR κ chCode a) 5) : kC7 κ τ a := ⟨Z.i n1, by rw [Z.r n2]; exact cu_f7 W (ty_chCode W T) Z h3⟩
theorem pC_v7 {C : zC} {n0 a : Nat} {F : Nat → Nat → Prop} {κ τ : zS} (W : zW C n0 κ) (T : zT κ a = 15) (Z : zF F κ τ) (h1 : un9 F a 15) (h2 : un9 F (zR κ chTape a) 13) (h3 : un9 F (zR κ chCode a) 5) : pC7 κ τ a := ⟨oC_v9 W T Z h1 h2, kC_z7 W T Z (h1 _ (by decide)) (h1 _ (by decide)) h3⟩
theorem kC_t7 {κ τ υ : zS} {a : Nat} (h : kC7 κ τ a) (g : kC7 τ υ a) : kC7 κ υ a := ⟨g.1.trans h.1, g.2.trans h.2⟩
theorem pC_t7 {κ τ υ : zS} {a : Nat} (h : pC7 κ τ a) (g : pC7 τ υ a) : pC7 κ υ a := ⟨g.1.trans h.1, kC_t7 h.2 g.2⟩
/-- what holds of both sides between calls -/
def RC7 (κ : zS) (a : Nat) (σ : rS) : Prop := oR9 σ = oC9 κ a ∧ (σ.1 14 = 0 ↔ zI κ chReady a = 0) ∧ (σ.1 14 ≠ 0 → ∃ nv s w, CR7 nv s w (cu7 κ (zR κ chCode a)) σ)
theorem rk_7 {κ κ' : zS} {a : Nat} {σ σ' : rS} (k : kR7 σ σ') (h : RC7 κ a σ) (c : kC7 κ κ' a) (o : oR9 σ' = oC9 κ' a) : RC7 κ' a σ' := by
  have e14 : σ'.1 14 = σ.1 14 := k.1 14 (by decide)
  refine ⟨o, by rw [e14, c.1]; exact h.2.1, fun z => ?_⟩
  rw [e14] at z
  obtain ⟨nv, s, w, g⟩ := h.2.2 z
  refine ⟨nv, s, w, ?_⟩
  rw [c.2]
  exact CR_k7 g k
theorem re_7 {κ κ' : zS} {a : Nat} {σ σ' : rS} (k : pR7 σ σ') (h : RC7 κ a σ) (c : pC7 κ κ' a) : RC7 κ' a σ' := rk_7 k.2 h c.2 (k.1.trans (h.1.trans c.1.symm))
/-- what the class has explored stays -/
def plC8 (κ : zS) (a : Nat) : Nat → Int32 := zA κ (zR κ atPlan (zR κ chAtlas a))
/-- the same, the plan aside -/
def kB8 (κ κ' : zS) (a : Nat) : Prop := zI κ' atExplored (zR κ' chAtlas a) = zI κ atExplored (zR κ chAtlas a) ∧ av8 κ' (zR κ' chAtlas a) = av8 κ (zR κ chAtlas a) ∧ zR κ' chAtlas a = zR κ chAtlas a
def kA8 (κ κ' : zS) (a : Nat) : Prop := zI κ' atExplored (zR κ' chAtlas a) = zI κ atExplored (zR κ chAtlas a) ∧ (av8 κ' (zR κ' chAtlas a), plC8 κ' a, zR κ' chAtlas a) = (av8 κ (zR κ chAtlas a), plC8 κ a, zR κ chAtlas a)
theorem kA_b8 {κ κ' : zS} {a : Nat} (h : kA8 κ κ' a) : kB8 κ κ' a := ⟨h.1, (Prod.mk.inj h.2).1, (Prod.mk.inj (Prod.mk.inj h.2).2).2⟩
def pB8 (κ κ' : zS) (a : Nat) : Prop := pC7 κ κ' a ∧ kB8 κ κ' a
def pC8 (κ κ' : zS) (a : Nat) : Prop := pC7 κ κ' a ∧ kA8 κ κ' a
theorem kB_z8 {C : zC} {n0 a : Nat} {F : Nat → Nat → Prop} {κ τ : zS} (W : zW C n0 κ) (T : zT κ a = 15) (Z : zF F κ τ) (n1 : ¬ F chAtlas a) (h : ∀ f, f / 100 = 3 → f ≠ atPlan → ¬ F f (zR κ chAtlas a)) (h1 : un9 F (zR κ atStates (zR κ chAtlas a)) 6) (h2 : un9 F (zR κ atEndings (zR κ chAtlas a)) 6) : kB8 κ τ a := by
  unfold kB8
  rw [Z.r n1]
  exact ⟨Z.i (h _ (by decide) (by decide)), av_f8 W (ty_chAtlas W T) Z h h1 h2, rfl⟩
theorem kA_z8 {C : zC} {n0 a : Nat} {F : Nat → Nat → Prop} {κ τ : zS} (W : zW C n0 κ) (T : zT κ a = 15) (Z : zF F κ τ) (n1 : ¬ F chAtlas a) (h : ∀ f, f / 100 = 3 → True → ¬ F f (zR κ chAtlas a)) (h1 : un9 F (zR κ atStates (zR κ chAtlas a)) 6) (h2 : un9 F (zR κ atEndings (zR κ chAtlas a)) 6) : kA8 κ τ a := by
  have b := kB_z8 W T Z n1 (fun f hf _ => h f hf trivial) h1 h2
  refine ⟨b.1, ?_⟩
  have p : plC8 τ a = plC8 κ a := by
    unfold plC8
    rw [Z.r n1]
    exact (Z.row W (show zr atPlan = some 20 by decide +kernel) (by decide) (ty_chAtlas W T) (h atPlan (by decide) trivial)).1
  rw [b.2.1, p, b.2.2]
theorem kA_t8 {κ τ υ : zS} {a : Nat} (h : kA8 κ τ a) (g : kA8 τ υ a) : kA8 κ υ a := ⟨g.1.trans h.1, g.2.trans h.2⟩
theorem pC_t8 {κ τ υ : zS} {a : Nat} (h : pC8 κ τ a) (g : pC8 τ υ a) : pC8 κ υ a := ⟨pC_t7 h.1 g.1, kA_t8 h.2 g.2⟩
def RA8 (κ : zS) (a : Nat) (σ : rS) : Prop := (σ.1 69 = 0 ↔ zI κ atExplored (zR κ chAtlas a) = 0) ∧ (σ.1 69 ≠ 0 → (∃ nv s w, CR7 nv s w (cu7 κ (zR κ chCode a)) σ ∧ AT8 w s (av8 κ (zR κ chAtlas a)) σ) ∧ HQ8 (av8 κ (zR κ chAtlas a)) σ ∧ RQ8 (av8 κ (zR κ chAtlas a)) σ ∧ ZQ8 σ ∧ PL8 (plC8 κ a) σ) ∧ (σ.1 69 = 0 → no8 σ)
def RC8 (κ : zS) (a : Nat) (σ : rS) : Prop := RC7 κ a σ ∧ RA8 κ a σ
theorem rc_8 {κ κ' : zS} {a : Nat} {σ σ' : rS} (k : kR7 σ σ') (k2 : kT8 σ σ') (h : RA8 κ a σ) (c : kC7 κ κ' a) (c2 : kB8 κ κ' a) (p : σ.1 69 ≠ 0 → PL8 (plC8 κ a) σ → PL8 (plC8 κ' a) σ') : RA8 κ' a σ' := by
  have e69 : σ'.1 69 = σ.1 69 := k2.1 69 (by decide)
  refine ⟨by rw [e69, c2.1]; exact h.1, fun z => ?_, fun z => no_k8 (h.2.2 (by rw [← e69]; exact z)) k2⟩
  rw [e69] at z
  obtain ⟨⟨nv, s, w, g1, g2⟩, g3, g4, g5, g6⟩ := h.2.1 z
  refine ⟨⟨nv, s, w, ?_, ?_⟩, by rw [c2.2.1]; exact ⟨HQ_k8 g3 k2, RQ_k8 g4 k2, ZQ_k8 g5 k2, p z g6⟩⟩
  · rw [c.2]
    exact CR_k7 g1 k
  · rw [c2.2.1]
    exact AT_k8 g2 (fun g q => k2.1 g (by rcases q with q | q | q <;> rw [q] <;> decide)) (fun g q => k2.2 g ((by decide : ∀ g, g ∈ kt8 → g ∈ ky8) g q))
theorem ra_8 {κ κ' : zS} {a : Nat} {σ σ' : rS} (k : kR7 σ σ') (k2 : kS8 σ σ') (h : RA8 κ a σ) (c : kC7 κ κ' a) (c2 : kA8 κ κ' a) : RA8 κ' a σ' := rc_8 k (kS_t8 k2) h c (kA_b8 c2) (fun _ g j hj => by
  rw [k2.1 70 (by decide)] at hj
  rw [show plC8 κ' a = plC8 κ a from (Prod.mk.inj (Prod.mk.inj c2.2).2).1, k2.2 83 (by decide)]
  exact g j hj)
theorem re_8 {κ κ' : zS} {a : Nat} {σ σ' : rS} (k : pR8 σ σ') (h : RC8 κ a σ) (c : pC8 κ κ' a) : RC8 κ' a σ' := ⟨re_7 k.1 h.1 c.1, ra_8 k.1.2 k.2 h.2 c.1.2 c.2⟩
theorem pC_w8 {κ τ : zS} {a : Nat} {P Q : Prop} (h : kA8 κ τ a) (g : P ∧ Q ∧ pC7 κ τ a) : P ∧ Q ∧ pC8 κ τ a := ⟨g.1, g.2.1, g.2.2, h⟩
theorem pB_w8 {κ τ : zS} {a : Nat} {P Q : Prop} (h : kB8 κ τ a) (g : P ∧ Q ∧ pC7 κ τ a) : P ∧ Q ∧ pB8 κ τ a := ⟨g.1, g.2.1, g.2.2, h⟩
theorem pC_b8 {κ τ : zS} {a : Nat} {P Q : Prop} (h : kA8 κ τ a) (g : P ∧ Q ∧ pB8 κ τ a) : P ∧ Q ∧ pC8 κ τ a := ⟨g.1, g.2.1, g.2.2.1, h⟩
/-- decide, best: what they leave -/
def pDc8 (κ κ' : zS) (a : Nat) (σ : rS) (k c : Int32) : Prop := pB8 κ κ' a ∧ (dc8 σ k c → plC8 κ' a = upd (plC8 κ a) k.toNatClampNeg c) ∧ (¬ dc8 σ k c → plC8 κ' a = plC8 κ a)
theorem rd_8 {κ κ' : zS} {a : Nat} {σ σ' : rS} {x y : Int32} (k : pD8 x y σ σ') (ht : RC8 κ a σ) (c : pDc8 κ κ' a σ x y) : RC8 κ' a σ' := ⟨re_7 k.1.1 ht.1 c.1.1, rc_8 k.1.1.2 k.1.2 ht.2 c.1.1.2 c.1.2 (fun _ g j hj => by
  rw [k.1.2.1 70 (by decide)] at hj
  by_cases z : dc8 σ x y
  · rw [c.2.1 z, k.2.1 z]
    by_cases e : j = x.toNatClampNeg
    · rw [e, upd_eq, upd_eq]
    · rw [upd_ne e, upd_ne e]
      exact g j hj
  · rw [c.2.2 z, k.2.2 z]
    exact g j hj)⟩
def bp9 (κ κ' : zS) (t : Nat) (σ : rS) : Prop := (bv8 σ = 0 → ∀ k, k < (σ.1 70).toNatClampNeg → zA κ' (zR κ' atPlan t) k = pbW8 σ k) ∧ (bv8 σ ≠ 0 → zA κ' (zR κ' atPlan t) = zA κ (zR κ atPlan t))
def BB9 (κ κ' : zS) (a : Nat) (σ : rS) : Prop := pB8 κ κ' a ∧ (bc8 σ → bp9 κ κ' (zR κ chAtlas a) σ)
theorem rb_8 {κ κ' : zS} {a : Nat} {σ σ' : rS} {v : Int32} (ht : RC8 κ a σ) (k : pR7 σ σ' ∧ kT8 σ σ') (X : XB8 σ σ' v) (c : BB9 κ κ' a σ) : RC8 κ' a σ' := by
  refine ⟨re_7 k.1 ht.1 c.1.1, rc_8 k.1.2 k.2 ht.2 c.1.1.2 c.1.2 (fun ex g j hj => ?_)⟩
  obtain ⟨b0, b1⟩ := c.2 ex
  rw [k.2.1 70 (by decide)] at hj
  have gj : zA κ (zR κ atPlan (zR κ chAtlas a)) j = σ.2.2.1 83 j := g j hj
  show zA κ' (zR κ' atPlan (zR κ' chAtlas a)) j = _
  rw [c.1.2.2.2]
  rcases X with ⟨z, _⟩ | ⟨_, _, X⟩
  · exact absurd z ex
  · rcases X with ⟨h1, h2, bk⟩ | ⟨h1, ⟨h2, h3, bk⟩ | ⟨h2, h3, _⟩⟩
    · rw [b1 (by rw [bv_28 h1]; decide), bk.1 83 (Or.inl rfl)]; exact gj
    · rw [b1 (by rw [bv_38 h1 h3]; decide), bk.1 83 (Or.inl rfl)]; exact gj
    · rw [b0 (bv_08 h1 (fun k hk => (h3 k hk).2.1)) j hj]; exact (h3 j hj).2.2.symm

end
section
set_option maxHeartbeats 1600000
/-! the class: ChanceWorks between calls -/
/-- tape, codes, parser -/
def chA9 (κ : zS) (a : Nat) : Prop := (taI κ (zR κ chTape a) ∧ tokI κ (zR κ chTape a)) ∧ ((coI κ (zR κ chCode a) ∧ coI κ (zR κ chSpare a)) ∧ zR κ chCode a ≠ zR κ chSpare a) ∧ ((paL κ (zR κ chParser a) ∧ paC κ (zR κ chParser a)) ∧ zR κ paTape (zR κ chParser a) = zR κ chTape a)
/-- atlas and machine -/
def chB9 (κ : zS) (a : Nat) : Prop := atI κ (zR κ chAtlas a) ∧ zR κ atMachine (zR κ chAtlas a) = zR κ chMachine a ∧ (zI κ atExplored (zR κ chAtlas a) ≠ 0 → (zR κ atCode (zR κ chAtlas a) = zR κ chCode a ∧ 0 ≤ (zI κ atNexts (zR κ chAtlas a)).toInt) ∧ ((zI κ hoTotal (zR κ atStates (zR κ chAtlas a))).toInt = 0 → enZ9 κ (zR κ chAtlas a)))
/-- solver -/
def chC9 (ρ : Nat → Nat) (κ : zS) (a : Nat) : Prop := soR9 ρ κ (zR κ chSolver a) ∧ ((zN κ (zR κ soTaken (zR κ chSolver a))) = 0 ∨ (zN κ (zR κ soTaken (zR κ chSolver a))) = 1000) ∧ (zR κ soAtlas (zR κ chSolver a) = zR κ chAtlas a ∧ zR κ soWeb (zR κ chSolver a) = zR κ atWeb (zR κ chAtlas a)) ∧ ρ (zR κ chShown a) = 30
/-- what is solved, what is planned -/
def chS9 (ρ : Nat → Nat) (κ : zS) (a : Nat) : Prop := (zI κ soSolved (zR κ chSolver a) ≠ 0 → zI κ atExplored (zR κ chAtlas a) ≠ 0 ∧ ∃ P, (0 < P ∧ P < pB9 1490) ∧ ∀ n, atW κ (zR κ chAtlas a) n → vsI9 ρ κ (zR κ chSolver a) n P ∧ n ≤ (zN κ (zR κ soVisits (zR κ chSolver a)))) ∧ (zI κ soPlanned (zR κ chSolver a) ≠ 0 → zI κ atExplored (zR κ chAtlas a) ≠ 0 ∧ ∀ n, atW κ (zR κ chAtlas a) n → n ≤ (zN κ (zR κ soWorths (zR κ chSolver a))) ∧ ∀ k, k < n → ∃ u, zQ κ (zR κ soWorths (zR κ chSolver a)) k = some u)
/-- odds -/
def chD9 (ρ : Nat → Nat) (κ : zS) (a : Nat) : Prop := (zR κ odAtlas (zR κ chOdds a) = zR κ chAtlas a ∧ zR κ odSolver (zR κ chOdds a) = zR κ chSolver a ∧ zR κ odCalc (zR κ chOdds a) = zR κ soCalc (zR κ chSolver a)) ∧ ρ (zR κ odHeld (zR κ chOdds a)) = 15 ∧ ((odU9 κ (zR κ chOdds a) ∨ tbL9 κ (zR κ chOdds a)) ∧ (zN κ (zR κ odLinks (zR κ chOdds a))) ≤ 20000) ∧ (hoI κ (zR κ odGroups (zR κ chOdds a)) 3000 3 8192 ∧ (zN κ (zR κ odKey (zR κ chOdds a))) = 3) ∧ (∀ j u, j < 31 → zQ κ (zR κ odEdges (zR κ chOdds a)) j = some u → ρ u = 2000000 + j) ∧ (zR κ atStates (zR κ chAtlas a) ≠ zR κ odGroups (zR κ chOdds a) ∧ zR κ atEndings (zR κ chAtlas a) ≠ zR κ odGroups (zR κ chOdds a))
/-- its own rows -/
def chE9 (κ : zS) (a : Nat) : Prop := ((zN κ (zR κ chTold a)) = 200 ∧ 0 ≤ (zI κ chTolds a).toInt ∧ (zI κ chTolds a).toInt ≤ 200) ∧ ((zN κ (zR κ chRecord a)) = 5 ∧ (zN κ (zR κ chLastShared a)) = 34) ∧ dwI9 κ a
/-- how many numbers and fractions there are: those of the constructors, and those in places of rows -/
def cK9 (κ : zS) (a : Nat) : Prop := nT9 8 κ ≤ 17 + (nn9 κ (zR κ soCells (zR κ chSolver a)) + nn9 κ (zR κ odEdges (zR κ chOdds a)) + 2 * zV9 κ (zR κ chSolver a)) ∧ nT9 11 κ ≤ 2 + zV9 κ (zR κ chSolver a)
theorem cK_z9 {C : zC} {n0 a : Nat} {F : Nat → Nat → Prop} {κ τ : zS} (W : zW C n0 κ) (T : zT κ a = 15) (Z : zF F κ τ) (hs : zR τ chSolver a = zR κ chSolver a) (ho : zR τ chOdds a = zR κ chOdds a) (h : ∀ b, zn κ ≤ b → ¬ F 0 b) (nS : ∀ f, f = soCells ∨ f = soVisits ∨ f = soWorths → ¬ F f (zR κ chSolver a)) (he : nn9 κ (zR κ odEdges (zR κ chOdds a)) ≤ nn9 τ (zR τ odEdges (zR κ chOdds a))) (K : cK9 κ a) : cK9 τ a := by
  have tS := ty_chSolver W T
  have v := zV_z9 W tS Z (nS _ (Or.inr (Or.inl rfl))) (nS _ (Or.inr (Or.inr rfl)))
  have c := nC_z9 W tS Z (nS _ (Or.inl rfl))
  have n8 := nT_z9 W Z h (t := 8) (by decide)
  have n11 := nT_z9 W Z h (t := 11) (by decide)
  obtain ⟨k1, k2⟩ := K
  unfold cK9
  rw [hs, ho, v, c]
  exact ⟨by omega, by omega⟩
theorem cK_k9 {C : zC} {n0 a : Nat} {F : Nat → Nat → Prop} {κ τ : zS} (W : zW C n0 κ) (T : zT κ a = 15) (Z : zF F κ τ) (hs : zR τ chSolver a = zR κ chSolver a) (ho : zR τ chOdds a = zR κ chOdds a) (ne : ¬ F odEdges (zR κ chOdds a)) (kz : zK9 κ τ (zR κ chSolver a)) (K : cK9 κ a) : cK9 τ a := by
  have e := nE_z9 W (ty_chOdds W T) Z ne
  obtain ⟨k1, k2⟩ := K
  obtain ⟨z1, z2⟩ := kz
  unfold cK9
  rw [hs, ho, e]
  exact ⟨by omega, by omega⟩
theorem cK_e9 {C : zC} {n0 a : Nat} {F : Nat → Nat → Prop} {κ τ : zS} (W : zW C n0 κ) (T : zT κ a = 15) (Z : zF F κ τ) (hs : zR τ chSolver a = zR κ chSolver a) (ho : zR τ chOdds a = zR κ chOdds a) (nS : ∀ f, f = soCells ∨ f = soVisits ∨ f = soWorths → ¬ F f (zR κ chSolver a)) (ke : zE9 κ τ (zR κ chOdds a)) (K : cK9 κ a) : cK9 τ a := by
  have tS := ty_chSolver W T
  have v := zV_z9 W tS Z (nS _ (Or.inr (Or.inl rfl))) (nS _ (Or.inr (Or.inr rfl)))
  have c := nC_z9 W tS Z (nS _ (Or.inl rfl))
  obtain ⟨k1, k2⟩ := K
  obtain ⟨z1, z2⟩ := ke
  unfold cK9
  rw [hs, ho, v, c]
  exact ⟨by omega, by omega⟩
theorem zT_o9 {C : zC} {n0 x : Nat} {κ : zS} (W : zW C n0 κ) (h : zn κ ≤ x) : zT κ x = 0 := by
  by_cases z : zT κ x = 0
  · exact z
  · have y := (W.2.1 x z).2
    omega
def chI9 (ρ : Nat → Nat) (κ : zS) (a : Nat) (L : Int) : Prop := chA9 κ a ∧ chB9 κ a ∧ chC9 ρ κ a ∧ chS9 ρ κ a ∧ chD9 ρ κ a ∧ chE9 κ a ∧ (zI κ taLength (zR κ chTape a)).toInt ≤ L ∧ cK9 κ a
theorem un_t9 {F : Nat → Nat → Prop} {κ : zS} {x K : Nat} (h : ∀ f x, F f x → zT κ x = 7 ∨ zT κ x = 13 ∨ zT κ x = 15) (T : zT κ x = K) (hK : K ≠ 7 ∧ K ≠ 13 ∧ K ≠ 15) : ∀ f, ¬ F f x := fun f z => by
  have y := h f x z
  rw [T] at y
  rcases y with y | y | y
  · exact hK.1 y
  · exact hK.2.1 y
  · exact hK.2.2 y
theorem odd_u9 {C : zC} {n0 b : Nat} {F : Nat → Nat → Prop} {κ τ : zS} (Z : zF F κ τ) (W : zW C n0 κ) (T : zT κ b = 9) (n : un9 F b 9) : (∀ f, f / 100 = 9 → zR τ f b = zR κ f b) ∧ (odU9 κ b ∨ tbL9 κ b → odU9 τ b ∨ tbL9 τ b) ∧ (zN τ (zR τ odLinks b)) = (zN κ (zR κ odLinks b)) ∧ (zN τ (zR τ odKey b)) = (zN κ (zR κ odKey b)) ∧ zQ τ (zR τ odEdges b) = zQ κ (zR κ odEdges b) := by
  have r : ∀ f, f / 100 = 9 → zR τ f b = zR κ f b := fun f hf => Z.r (n f hf)
  have e1 : zN τ (zR τ odLefts b) = zN κ (zR κ odLefts b) := by rw [r _ (by decide)]; exact Z.l (ty_odLefts W T)
  have e2 : zN τ (zR τ odRights b) = zN κ (zR κ odRights b) := by rw [r _ (by decide)]; exact Z.l (ty_odRights W T)
  have e3 : zN τ (zR τ odBases b) = zN κ (zR κ odBases b) := by rw [r _ (by decide)]; exact Z.l (ty_odBases W T)
  have e4 : zN τ (zR τ odRanks b) = zN κ (zR κ odRanks b) := by rw [r _ (by decide)]; exact Z.l (ty_odRanks W T)
  have e5 : zN τ (zR τ odCellOf b) = zN κ (zR κ odCellOf b) := by rw [r _ (by decide)]; exact Z.l (ty_odCellOf W T)
  have e6 : zN τ (zR τ odHeads b) = zN κ (zR κ odHeads b) := by rw [r _ (by decide)]; exact Z.l (ty_odHeads W T)
  have e7 : zN τ (zR τ odEdges b) = zN κ (zR κ odEdges b) := by rw [r _ (by decide)]; exact Z.l (ty_odEdges W T)
  refine ⟨r, fun h => ?_, by rw [r _ (by decide)]; exact Z.l (ty_odLinks W T), by rw [r _ (by decide)]; exact Z.l (ty_odKey W T), (Z.row W (show zr odEdges = some 24 by decide +kernel) (by decide) (T.trans (by decide)) (n _ (by decide))).2.2⟩
  unfold odU9 tbL9
  rw [e1, e2, e3, e4, e5, e6, e7]
  exact h
/-- the atlas, where neither it nor its hoards nor its web nor the code are touched -/
theorem chB_u9 {C : zC} {n0 a : Nat} {F : Nat → Nat → Prop} {κ τ : zS} (W : zW C n0 κ) (T : zT κ a = 15) (Z : zF F κ τ) (hO : ∀ f, f / 100 = 15 → f ≠ chDrawnWeights → f ≠ chDrawnTotals → zR τ f a = zR κ f a) (n3 : un9 F (zR κ chAtlas a) 3) (ns : un9 F (zR κ atStates (zR κ chAtlas a)) 6) (ne : un9 F (zR κ atEndings (zR κ chAtlas a)) 6) (nw : un9 F (zR κ atWeb (zR κ chAtlas a)) 14) (nc : zI κ atExplored (zR κ chAtlas a) ≠ 0 → un9 F (zR κ atCode (zR κ chAtlas a)) 5) (hm : maL τ (zR κ chMachine a)) (B : chB9 κ a) : chB9 τ a ∧ (∀ n, atW τ (zR κ chAtlas a) n ↔ atW κ (zR κ chAtlas a) n) ∧ (zI τ atExplored (zR κ chAtlas a) = zI κ atExplored (zR κ chAtlas a)) ∧ (∀ f, f / 100 = 3 → zR τ f (zR κ chAtlas a) = zR κ f (zR κ chAtlas a)) := by
  have tA := ty_chAtlas W T
  have g := at_u9 Z W tA (fun f hf _ => n3 f hf) (Z.r (n3 atPlan (by decide)))
  obtain ⟨⟨⟨b1, b2, b3, b4⟩, b5, ⟨b6, b7⟩, b8, b9⟩, c1, c2⟩ := B
  have M := atM_u9 g
  have S := ho_u9 (M := 1000) (D := 142) (S := 2048) Z W (ty_atStates W tA) ns
  have E := ho_u9 (M := 1000) (D := 35) (S := 2048) Z W (ty_atEndings W tA) ne
  have V := we_u9 Z W (ty_atWeb W tA) nw
  have ex : zI τ atExplored (zR κ chAtlas a) = zI κ atExplored (zR κ chAtlas a) := Z.i (n3 _ (by decide))
  have Wn : ∀ n, atW τ (zR κ chAtlas a) n ↔ atW κ (zR κ chAtlas a) n := fun n => atW_u9 g (Z.i (n3 _ (by decide))) S.2.2 E.2.2
  have r := g.1
  refine ⟨?_, Wn, ex, r⟩
  unfold chB9 atI
  rw [hO chAtlas (by decide) (by decide) (by decide), hO chMachine (by decide) (by decide) (by decide), hO chCode (by decide) (by decide) (by decide), r atMachine (by decide), r atWeb (by decide), r atStates (by decide), r atEndings (by decide), r atCode (by decide), ex, S.2.2]
  refine ⟨⟨⟨b1.elim (fun z => Or.inl (M.2.1 z)) (fun z => Or.inr (M.1 z)), M.2.2 b2, ⟨?_, ?_⟩, b4⟩, by rw [c1]; exact hm, ⟨b6.elim (fun z => Or.inl (V.2.1 z)) (fun z => Or.inr (V.1 z)), V.2.2 b7⟩, b8, fun z => ?_⟩, c1, fun z => ⟨⟨(c2 z).1.1, by rw [Z.i (n3 atNexts (by decide))]; exact (c2 z).1.2⟩, fun y => ?_⟩⟩
  · rw [r atStates (by decide)]; exact S.1 b3.1
  · rw [r atEndings (by decide)]; exact E.1 b3.2
  · obtain ⟨n, hn⟩ := b9 z
    exact ⟨n, (Wn n).mpr hn⟩
  · have K := co_u9 Z W (ty_atCode W tA) (nc z)
    intro i hi
    rw [r atCode (by decide), K.2.1, K.2.2] at hi
    rw [r atEndings (by decide), E.2.1]
    exact (c2 z).2 y i hi
/-- a call that touches the tape, the machine and own fields alone -/
theorem chI_s9 {C : zC} {n0 a : Nat} {L L' : Int} {ρ : Nat → Nat} {F : Nat → Nat → Prop} {κ τ : zS} (W : zW C n0 κ) (T : zT κ a = 15) (Z : zF F κ τ) (hT : ∀ f x, F f x → zT κ x = 7 ∨ zT κ x = 13 ∨ zT κ x = 15) (hO : ∀ f, f / 100 = 15 → f ≠ chDrawnWeights → f ≠ chDrawnTotals → zR τ f a = zR κ f a) (hta : taI τ (zR κ chTape a) ∧ tokI τ (zR κ chTape a)) (hma : maL τ (zR κ chMachine a)) (hE : chE9 τ a) (hL : (zI τ taLength (zR κ chTape a)).toInt ≤ L') (I : chI9 ρ κ a L) : chI9 ρ τ a L' := by
  obtain ⟨⟨A1, ⟨⟨A2, A3⟩, A4⟩, A5, A6⟩, B, ⟨C1, C2, C3, C4⟩, ⟨S1, S2⟩, ⟨D1, D2, D3, ⟨D4, D5⟩, D6, D7⟩, _, _, K0⟩ := I
  have tA := ty_chAtlas W T
  have tS := ty_chSolver W T
  have tO := ty_chOdds W T
  have o := fun f h1 h2 h3 => hO f h1 h2 h3
  have hB := chB_u9 W T Z hO (fun f _ => un_t9 hT tA (by decide) f) (fun f _ => un_t9 hT (ty_atStates W tA) (by decide) f) (fun f _ => un_t9 hT (ty_atEndings W tA) (by decide) f) (fun f _ => un_t9 hT (ty_atWeb W tA) (by decide) f) (fun _ f _ => un_t9 hT (ty_atCode W tA) (by decide) f) hma B
  have hS := rs_h9 W tS C1 Z (fun f w y => un_t9 hT y (by decide) f) (fun f w y => un_t9 hT y (by decide) f) (fun f w y => un_t9 hT y (by decide) f) (fun f _ _ => un_t9 hT tS (by decide) f)
  have nS : ∀ f, ¬ F f (zR κ chSolver a) := un_t9 hT tS (by decide)
  have nO : ∀ f, ¬ F f (zR κ chOdds a) := un_t9 hT tO (by decide)
  have P := pa_u9 Z W (ty_chParser W T) (fun f _ => un_t9 hT (ty_chParser W T) (by decide) f) A5
  have K1 := co_u9 Z W (ty_chCode W T) (fun f _ => un_t9 hT (ty_chCode W T) (by decide) f)
  have K2 := co_u9 Z W (ty_chSpare W T) (fun f _ => un_t9 hT (ty_chSpare W T) (by decide) f)
  have G := odd_u9 Z W tO (fun f _ => nO f)
  have H := ho_u9 (M := 3000) (D := 3) (S := 8192) Z W (ty_odGroups W tO) (fun f _ => un_t9 hT (ty_odGroups W tO) (by decide) f)
  have sv : zQ τ (zR κ soVisits (zR κ chSolver a)) = zQ κ (zR κ soVisits (zR κ chSolver a)) ∧ zN τ (zR κ soVisits (zR κ chSolver a)) = zN κ (zR κ soVisits (zR κ chSolver a)) := by
    have q := (Z.row W (show zr soVisits = some 25 by decide +kernel) (by decide) (tS.trans (by decide)) (nS _)).2.2
    rw [Z.r (nS _)] at q
    exact ⟨q, Z.l (ty_soVisits W tS)⟩
  have sw : zQ τ (zR κ soWorths (zR κ chSolver a)) = zQ κ (zR κ soWorths (zR κ chSolver a)) ∧ zN τ (zR κ soWorths (zR κ chSolver a)) = zN κ (zR κ soWorths (zR κ chSolver a)) := by
    have q := (Z.row W (show zr soWorths = some 25 by decide +kernel) (by decide) (tS.trans (by decide)) (nS _)).2.2
    rw [Z.r (nS _)] at q
    exact ⟨q, Z.l (ty_soWorths W tS)⟩
  have rS : ∀ f, zR τ f (zR κ chSolver a) = zR κ f (zR κ chSolver a) := fun f => Z.r (nS f)
  have iS : ∀ f, zI τ f (zR κ chSolver a) = zI κ f (zR κ chSolver a) := fun f => Z.i (nS f)
  refine ⟨⟨?_, ?_, ?_⟩, hB.1, ?_, ?_, ?_, hE, ?_, ?_⟩
  · rw [o chTape (by decide) (by decide) (by decide)]; exact hta
  · rw [o chCode (by decide) (by decide) (by decide), o chSpare (by decide) (by decide) (by decide)]
    exact ⟨⟨K1.1 A2, K2.1 A3⟩, A4⟩
  · rw [o chParser (by decide) (by decide) (by decide), o chTape (by decide) (by decide) (by decide)]
    exact ⟨P.1, P.2.trans A6⟩
  · unfold chC9
    rw [o chSolver (by decide) (by decide) (by decide), o chAtlas (by decide) (by decide) (by decide), o chShown (by decide) (by decide) (by decide), rS, rS, rS, Z.l (ty_soTaken W tS), hB.2.2.2 atWeb (by decide)]
    exact ⟨hS.1, C2, C3, C4⟩
  · unfold chS9
    rw [o chSolver (by decide) (by decide) (by decide), o chAtlas (by decide) (by decide) (by decide), iS, iS, rS, rS, sv.2, sw.1, sw.2, hB.2.2.1]
    refine ⟨fun z => ?_, fun z => ?_⟩
    · obtain ⟨x1, P9, x2, x3⟩ := S1 z
      refine ⟨x1, P9, x2, fun n hn => ?_⟩
      have y := x3 n ((hB.2.1 n).mp hn)
      exact ⟨vs_h9 W tS Z (fun f w y => un_t9 hT y (by decide) f) (fun f w y => un_t9 hT y (by decide) f) (fun f w y => un_t9 hT y (by decide) f) nS y.1, y.2⟩
    · obtain ⟨x1, x3⟩ := S2 z
      exact ⟨x1, fun n hn => x3 n ((hB.2.1 n).mp hn)⟩
  · unfold chD9
    rw [o chSolver (by decide) (by decide) (by decide), o chAtlas (by decide) (by decide) (by decide), o chOdds (by decide) (by decide) (by decide), G.2.2.2.2, G.2.2.1, G.2.2.2.1, G.1 odAtlas (by decide), G.1 odSolver (by decide), G.1 odCalc (by decide), G.1 odHeld (by decide), G.1 odGroups (by decide), rS, hB.2.2.2 atStates (by decide), hB.2.2.2 atEndings (by decide)]
    exact ⟨D1, D2, ⟨G.2.1 D3.1, D3.2⟩, ⟨H.1 D4, D5⟩, D6, D7⟩
  · rw [o chTape (by decide) (by decide) (by decide)]; exact hL
  · exact cK_z9 W T Z (o chSolver (by decide) (by decide) (by decide)) (o chOdds (by decide) (by decide) (by decide)) (fun b hb => un_t9 hT (zT_o9 W hb) (by decide) 0) (fun f _ => nS f) (Nat.le_of_eq (nE_z9 W tO Z (nO _)).symm) K0

end
