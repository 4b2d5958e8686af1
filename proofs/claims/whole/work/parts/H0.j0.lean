set_option maxHeartbeats 1600000
/-! the reference's calls, as the law asks for them; the law's run -/
theorem cI_u9 {C : rCx} {d d' : Nat} {m : dM} {as : List Value} {σ : rS} {Q : Int32 → rS → Prop} (hle : d ≤ d') (h : cI C d m as σ Q) : cI C d' m as σ Q := by
  obtain ⟨x, σ', r, q⟩ := h
  exact ⟨x, σ', rMM_up hle r, q⟩
theorem cJ_u9 {C : rCx} {d d' : Nat} {m : dM} {as : List Value} {σ : rS} {Q : Int64 → rS → Prop} (hle : d ≤ d') (h : cJ C d m as σ Q) : cJ C d' m as σ Q := by
  obtain ⟨x, σ', r, q⟩ := h
  exact ⟨x, σ', rMM_up hle r, q⟩
theorem cV_u9 {C : rCx} {d d' : Nat} {m : dM} {as : List Value} {σ : rS} {Q : rS → Prop} (hle : d ≤ d') (h : cV C d m as σ Q) : cV C d' m as σ Q := by
  obtain ⟨σ', r, q⟩ := h
  exact ⟨σ', rMM_up hle r, q⟩
abbrev m_thrown9 : dM := (yX13_thrown, cX13_thrown, 1, (some .int), false, 16, 0)
theorem dX13_thrown_0 : decode cX13_thrown 0 = .ok (.aload_n 0, 1) := by decide +kernel
theorem dX13_thrown_1 : decode cX13_thrown 1 = .ok (.getfield 1, 3) := by decide +kernel
theorem dX13_thrown_4 : decode cX13_thrown 4 = .ok (.ireturn, 1) := by decide +kernel
theorem thrown_c9 {C : rCx} (hC : cOK C) {σ : rS} {Q : Int32 → rS → Prop} (h : Q (σ.1 0) σ) : cI C 0 m_thrown9 [.ref (co C)] σ Q := by
  have w9 : wG C 0 m_thrown9 0 [some (.ref (co C))] [] σ (qI Q) := by
    refine s_aln dX13_thrown_0 rfl ?_
    refine gf_1 dX13_thrown_1 rfl ?_
    exact s_ri dX13_thrown_4 rfl in_nar h
  exact m_I (m_ent _ 0) w9
theorem rB_9 : rB9 rJ := ⟨fun _ _ _ _ _ C σ hC J h60 => cI_u9 (by decide) (feed_w hC J h60 (fun v σ' a b c => ⟨a, c, b⟩)),
  fun _ C σ hC J => cV_u9 (by decide) (end_w hC J (fun σ' a b c => ⟨a, c, b⟩)),
  fun C σ hC J => cI_u9 (by decide) (program_j hC J (fun v σ' a b c => ⟨a, b, c⟩)),
  fun C σ hC J => cI_u9 (by decide) (fault_j hC J (fun v σ' a b c => ⟨a, b, c⟩)),
  fun _ C σ hC J => cI_u9 (by decide) (count_j8 hC J (fun v σ' a b c => ⟨a, b, c⟩)),
  fun _ C σ hC J => cI_u9 (by decide) (explore_j hC J (fun v σ' a b c => ⟨a, b, c⟩)),
  fun _ _ C σ hC J => cI_u9 (by decide) (state_j8 hC J (fun v σ' a b c => ⟨a, b, c⟩)),
  fun _ _ _ C σ hC J => cI_u9 (by decide) (value_j8 hC J (fun v σ' a b c => ⟨a, b, c⟩)),
  fun _ _ _ C σ hC J => cI_u9 (by decide) (next_j8 hC J (fun v σ' a b c => ⟨a, b, c⟩)),
  fun _ _ C σ hC J => cI_u9 (by decide) (ending_j8 hC J (fun v σ' a b c => ⟨a, b, c⟩)),
  fun _ _ C σ hC J => cI_u9 (by decide) (decide_j8 hC J (fun v σ' a b c => ⟨a, b, c⟩)),
  fun _ C σ hC J => cI_u9 (by decide) (decided_j8 hC J (fun v σ' a b c => ⟨a, b, c⟩)),
  fun C σ hC J => cI_u9 (by decide) (best_j8 hC J (fun v σ' a b c => ⟨a, b, c⟩)),
  fun C σ hC J => cI_u9 (by decide) (solve_j8 hC J (fun v σ' a b _ => ⟨a, b⟩)),
  fun _ _ C σ hC J => cI_u9 (by decide) (show_j8 hC J (fun v σ' a b => ⟨a, b⟩)),
  fun _ C σ hC J => cI_u9 (by decide) (size_j8 hC J (fun v σ' a b c => ⟨a, b, c⟩)),
  fun _ _ C σ hC J => cI_u9 (by decide) (limb_j8 hC J (fun v σ' a b c => ⟨a, b, c⟩)),
  fun _ C σ hC J => cI_u9 (by decide) (tell_w hC J (fun v σ' a b c => ⟨a, c, b⟩)),
  fun C σ hC J => cI_u9 (by decide) (forget_w hC J (fun v σ' a b c => ⟨a, c, b⟩)),
  fun _ _ C σ hC J => cI_u9 (by decide) (play_j8 hC J (fun v σ' a b => ⟨a, b⟩)),
  fun _ C σ hC J => cI_u9 (by decide) (walk_j8 hC J (fun v σ' a b => ⟨a, b⟩)),
  fun _ C σ hC J => cJ_u9 (by decide) (played_j8 hC J (fun v σ' a b c => ⟨a, b, c⟩)),
  fun _ _ C σ hC J => cI_u9 (by decide) (independent_j8 hC J (fun v σ' a b c => ⟨a, b, c⟩)),
  fun _ _ _ C σ hC J => cI_u9 (by decide) (given_j8 hC J (fun v σ' a b c => ⟨a, b, c⟩)),
  fun C σ hC => cI_u9 (by decide) (thrown_c9 hC ⟨rfl, rfl⟩)⟩
theorem eB_09 {lo hi : Int32} (h : lo ≤ 0 ∧ 0 < hi) : eB (fun _ => 0) lo hi := fun _ => h
theorem rJ_09 : rJ sg9 := by
  refine ⟨by decide, ⟨Or.inl rfl, ⟨by unfold tF tyF; decide, ⟨eB_09 (by decide), eB_09 (by decide), eB_09 (by decide), eB_09 (by decide), eB_09 (by decide), eB_09 (by decide)⟩, ⟨eB_09 (by decide), eB_09 (by decide)⟩, ⟨eB_09 (by decide), eB_09 (by decide), eB_09 (by decide), eB_09 (by decide), eB_09 (by decide), eB_09 (by decide), eB_09 (by decide), eB_09 (by decide)⟩, eB_09 (by decide)⟩, fun h => absurd rfl h⟩, exP_0 rfl rfl rfl (by decide), fun h => absurd rfl h, fun h => absurd rfl h, fun h => absurd rfl h, fun h => absurd rfl h, by decide, by decide⟩
/-- the law's run, whole: 1, within the room -/
theorem law_99 {sa : Nat → Nat} {TL : List (Nat × Nat × List Int32)} {b scr L : Nat} {xs : Nat → Int32} (hb : 0 < b) (hT : cTx (c09 sa TL b)) (hX : tx5 (c59 sa TL b)) (hL : L ≤ 3072) : ∃ n, dwp (dEE sa TL) dXX dKK b scr L xs lawP9 n 16 rLaw 0 (dent [.ref scr]) [] (some b, fun _ => none) 0 0 := law_9 hX (fun _ J => J.1) (fun _ J => ⟨pOK_of J.2.2.1, PB_j21 J, J.2.2.2.1⟩) rB_9 rJ_09 hb hT hL
