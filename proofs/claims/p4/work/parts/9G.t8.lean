set_option maxHeartbeats 1600000
/-! the reference: the order of solving -/
theorem endN_q {σ τ : rS} (hr : ∀ k, k = 76 ∨ k = 77 ∨ k = 81 ∨ k = 83 → τ.2.2.1 k = σ.2.2.1 k) : endN τ = endN σ := by
  funext p a
  unfold endN
  simp only [rd]
  rw [hr 76 (by decide), hr 77 (by decide), hr 81 (by decide), hr 83 (by decide)]
theorem edN_q {σ τ : rS} {o : Nat} (hr : ∀ k, k = 76 ∨ k = 77 ∨ k = 78 ∨ k = 81 ∨ k = 83 ∨ k = o → τ.2.2.1 k = σ.2.2.1 k) {p l : Int32} : edN τ p o l = edN σ p o l := by
  funext a b
  unfold edN edI edg
  simp only [rd]
  rw [hr 76 (Or.inl rfl), hr 77 (by omega), hr 78 (by omega), hr 81 (by omega), hr 83 (by omega), hr o (by omega)]
theorem edN_1 {σ τ : rS} {o : Nat} (hr : ∀ k, k = 76 ∨ k = 77 ∨ k = 78 ∨ k = 81 ∨ k = 83 → τ.2.2.1 k = σ.2.2.1 k) {p l : Int32} (hl : l ≠ 0) : edN τ p o l = edN σ p o l := by
  funext a b
  exact propext (edN_o hr hl)
theorem cnE_o {σ τ : rS} (h70 : τ.1 70 = σ.1 70) (hr : ∀ k, k = 76 ∨ k = 77 ∨ k = 78 ∨ k = 81 ∨ k = 83 → τ.2.2.1 k = σ.2.2.1 k) : cnE τ = cnE σ := by
  funext k
  unfold cnE
  rw [endN_q (fun k hk => hr k (by omega)), edN_1 hr (by decide), h70]
theorem nm_not {k : Nat} {l : List Nat} (h : l.contains k = false) : k ∉ l := fun z => by rw [List.contains_iff_mem.mpr z] at h; exact absurd h (by decide)
/-- only the rows of a list differ -/
def frX (R : List Nat) (σ τ : rS) : Prop := τ.1 = σ.1 ∧ τ.2.1 = σ.2.1 ∧ (∀ k, k ∉ R → τ.2.2.1 k = σ.2.2.1 k) ∧ τ.2.2.2 = σ.2.2.2
theorem frX_rf {R : List Nat} {σ : rS} : frX R σ σ := ⟨rfl, rfl, fun _ _ => rfl, rfl⟩
theorem frX_tr {R : List Nat} {σ τ υ : rS} (h : frX R σ τ) (g : frX R τ υ) : frX R σ υ := ⟨g.1.trans h.1, g.2.1.trans h.2.1, fun k z => (g.2.2.1 k z).trans (h.2.2.1 k z), g.2.2.2.trans h.2.2.2⟩
theorem frX_w {R S : List Nat} {σ τ : rS} (h : frX R σ τ) (hl : ∀ k, k ∈ R → k ∈ S) : frX S σ τ := ⟨h.1, h.2.1, fun k z => h.2.2.1 k (fun e => z (hl k e)), h.2.2.2⟩
theorem frX_1 {R : List Nat} {σ : rS} {k i : Nat} {x : Int32} (hk : k ∈ R) : frX R σ (riU σ k i x) := ⟨rfl, rfl, fun q z => ri3 (fun e => z (by rw [e]; exact hk)), rfl⟩
theorem frX_N {l R : List Nat} {σ τ : rS} (h : frN l σ τ) (h0 : 90 ∈ R) (h1 : 91 ∈ R) : frX R σ τ := ⟨h.1, h.2.1, fun k z => h.2.2.1 k (fun e => z (by rw [e]; exact h0)) (fun e => z (by rw [e]; exact h1)), h.2.2.2.1⟩
theorem frX_R {k u v : Nat} {R : List Nat} {σ τ : rS} (h : frR k u v σ τ) (hk : k ∈ R) : frX R σ τ := ⟨h.1, h.2.1, fun j z => h.2.2.1 j (fun e => z (by rw [e]; exact hk)), h.2.2.2.1⟩
theorem frM_w {F G R S : List Nat} {σ τ : rS} (h : frM F R σ τ) (hf : ∀ k, k ∈ F → k ∈ G) (hl : ∀ k, k ∈ R → k ∈ S) : frM G S σ τ := ⟨fun k z => h.1 k (fun e => z (hf k e)), h.2.1, fun k z => h.2.2.1 k (fun e => z (hl k e)), h.2.2.2⟩
theorem frM_X {F R S : List Nat} {σ τ : rS} (h : frX R σ τ) (hl : ∀ k, k ∈ R → k ∈ S) : frM F S σ τ := ⟨fun k _ => by rw [h.1], h.2.1, fun k z => h.2.2.1 k (fun e => z (hl k e)), fun k _ => by rw [h.2.2.2]⟩
theorem i_dn {x k : Int32} (h : ¬ x ≤ 0) (h1 : x ≤ k) (hk : k < 1000) : 0 < x ∧ 0 ≤ x - 1 ∧ x - 1 < 1000 ∧ x < 1000 ∧ 0 ≤ x + -1 ∧ x + -1 < x ∧ x + -1 ≤ k ∧ x + -1 = x - 1 ∧ x < 1000000 := by grind
theorem nar_0 {x : Int32} (h : vp_nar .boolean x ≠ 0) : x ≠ 0 := fun e => h (by rw [e]; rfl)
theorem findOrder_c {C : rCx} (hC : cOK C) (s : Nat) {σ : rS}  {Q : rS → Prop} (hp : pOK σ ∧ s = (σ.1 70).toNatClampNeg) (h : ∀ (σ' : rS), (frM [] [90, 91, 95, 96, 97, 98, 102] σ σ' ∧ (∀ k, k < s → vOK σ' k) ∧ (∀ i, i < s → 0 ≤ σ'.2.2.1 98 i ∧ σ'.2.2.1 98 i < σ.1 70) ∧ (∀ k, k < s → σ'.2.2.1 95 k ≠ 0 → cnE σ k) ∧ (∀ a b, a < s → b < s → (bR (σ'.2.2.2 86) a b = true ↔ Tr (edN σ' 1 95 0) a b)) ∧ nK σ σ') → Q σ') : cV C 3 m_findOrder [.ref (co C)] σ Q := by
  refine m_findOrder_run hC ?_
  unfold w_findOrder_0
  obtain ⟨hO, hs⟩ := hp
  refine findReach_c hC  ?_ (fun σ_1 q2 => ?_)
  · clear h; exact ⟨hO.1, Or.inr rfl⟩  -- p1
  unfold w_findOrder_12
  refine ⟨fun n l1 τ => n = (σ.1 70 - l1).toNatClampNeg ∧ (frM [] [95] σ τ ∧ (∀ a b, a < s → b < s → (bR (τ.2.2.2 86) a b = true ↔ Tr (edN σ 1 95 1) a b)) ∧ 0 ≤ l1 ∧ l1 ≤ σ.1 70 ∧ ∀ k, k < l1.toNatClampNeg → τ.2.2.1 95 k ≠ 0 → cnE σ k), ⟨_, rfl, ?_⟩, ?_⟩
  · clear h; rw [← hs] at q2
    exact ⟨frM_L q2.1, q2.2, by decide, hO.1.1.1, fun k hk => absurd hk (Nat.not_lt_zero k)⟩
  rintro n12 x12_1 σ12 ⟨hn12, i12⟩
  obtain ⟨F, B, a0, a1, E⟩ := i12
  have e70 := F.1 70 (by decide)
  have hO12 : pOK σ12 := pOK_o hO (fun k _ => F.1 k (List.not_mem_nil)) (fun k hk => F.2.2.1 k (fun z => by have := List.mem_singleton.mp z; omega))
  rw [e70]
  refine ⟨fun c3 => ?_, fun c3 => ?_⟩
  · skip
    refine findReach_c hC  ?_ (fun σ_4 q5 => ?_)
    · clear h; exact ⟨hO12.1, Or.inr rfl⟩  -- p3
    unfold w_findOrder_50
    refine ⟨fun n l1 τ => n = (σ.1 70 - l1).toNatClampNeg ∧ (frM [] [90, 91, 95, 96, 97, 98, 102] σ τ ∧ 0 ≤ l1 ∧ l1 ≤ σ.1 70 ∧ (∀ k, k < s → τ.2.2.1 95 k ≠ 0 → cnE σ k) ∧ (∀ a b, a < s → b < s → (bR (τ.2.2.2 86) a b = true ↔ Tr (edN τ 1 95 0) a b)) ∧ (∀ k, k < l1.toNatClampNeg → vOK τ k) ∧ (∀ i, i < l1.toNatClampNeg → 0 ≤ τ.2.2.1 98 i ∧ τ.2.2.1 98 i < σ.1 70) ∧ nK σ τ), ⟨_, rfl, ?_⟩, ?_⟩
    · clear h; rw [e70, ← hs] at q5
      have e : x12_1 = σ.1 70 := Int32.le_antisymm a1 c3
      rw [e, ← hs] at E
      exact ⟨frM_w (frM_tr F (frM_L q5.1)) (fun k hk => hk) (sub_of rfl), by decide, hO.1.1.1, fun k hk z => E k hk (by rw [← q5.1.2.2.1]; exact z), fun a b ha hb => by rw [edN_q (σ := σ12) (fun k _ => by rw [q5.1.2.2.1])]; exact q5.2 a b ha hb, fun k hk => absurd hk (Nat.not_lt_zero k), fun k hk => absurd hk (Nat.not_lt_zero k), nK_r (by rw [q5.1.2.2.1]; exact F.2.2.1 90 (by decide)) (by rw [q5.1.2.2.1]; exact F.2.2.1 91 (by decide))⟩
    rintro n50 x50_1 σ50 ⟨hn50, i50⟩
    have hj175 : ∀ (l1 : Int32) (l2 : Int32) (τ : rS), (l1 = x50_1 ∧ ¬ σ.1 70 ≤ x50_1 ∧ frX [97, 98] σ50 τ ∧ 0 ≤ l2 ∧ l2 ≤ x50_1 ∧ ∀ j, j ≤ x50_1.toNatClampNeg → j ≠ l2.toNatClampNeg → 0 ≤ τ.2.2.1 98 j ∧ τ.2.2.1 98 j < σ.1 70) → w_findOrder_175 C Q (fun l1' τ => ∃ k < n50, (fun n l1 τ => n = (σ.1 70 - l1).toNatClampNeg ∧ (frM [] [90, 91, 95, 96, 97, 98, 102] σ τ ∧ 0 ≤ l1 ∧ l1 ≤ σ.1 70 ∧ (∀ k, k < s → τ.2.2.1 95 k ≠ 0 → cnE σ k) ∧ (∀ a b, a < s → b < s → (bR (τ.2.2.2 86) a b = true ↔ Tr (edN τ 1 95 0) a b)) ∧ (∀ k, k < l1.toNatClampNeg → vOK τ k) ∧ (∀ i, i < l1.toNatClampNeg → 0 ≤ τ.2.2.1 98 i ∧ τ.2.2.1 98 i < σ.1 70) ∧ nK σ τ)) k l1' τ) l1 l2 τ := by
      rintro y175_1 y175_2 τ175 j175
      unfold w_findOrder_175
      obtain ⟨G, b0, b1, E5, B5, V5, O5, K5⟩ := i50
      obtain ⟨y1, y2, Y, y3, y4, y5⟩ := j175
      have u := uk b0 y2 hO.1.1.2
      have bs := cn_succ b0 (Int32.lt_trans u.2.2.2.2.2 (by decide))
      rw [y1]
      refine ⟨ib_1000.mpr ?_, ?_⟩
      · clear h; exact ⟨y3, Int32.lt_of_le_of_lt y4 u.2.2.2.2.2⟩  -- b5
      intro σ_6 hσ_6
      refine ⟨ib_1000.mpr ?_, ?_⟩
      · clear h; exact ⟨b0, u.2.2.2.2.2⟩  -- b6
      intro σ_7 hσ_7
      refine ⟨ib_30.mpr ?_, ?_⟩
      · clear h; exact ⟨by decide, by decide⟩  -- b7
      intro σ_8 hσ_8
      refine set_c hC  ?_ (fun σ_9 q10 => ?_)
      · clear h; exact ⟨by decide, by decide, by decide⟩  -- p8
      simp only [kn] at q10 hσ_8
      have z8 : σ_8.2.2.1 91 4 = 0 := by rw [hσ_8, ri34, if_pos rfl, if_pos rfl]
      have l8 : nL σ_8 4 = 0 := by unfold nL; rw [z8]; rfl
      have n8 : numO σ_8 4 := ⟨by rw [z8]; decide, by rw [z8]; decide, fun i hi => absurd hi (by rw [l8]; exact Nat.not_lt_zero i), Or.inl l8⟩
      have n9 := nV_fr q10.1 (k := 4) (by decide) n8
      have Y8 : frX [90, 91, 96, 97, 98, 102] σ50 σ_8 := by
        rw [hσ_8, hσ_7, hσ_6]
        exact frX_tr (frX_tr (frX_tr (frX_w Y (sub_of rfl)) (frX_1 (by decide))) (frX_1 (by decide))) (frX_1 (by decide))
      have Y9 := frX_tr Y8 (frX_N q10.1 (by decide) (by decide))
      have l94 : nL σ_9 4 ≤ 16 := by rw [n9.2.2, l8]; decide
      have l95 : nL σ_9 5 ≤ 16 := by have := q10.2.2.2; omega
      refine keepVisits_c hC  ?_ (fun σ_11 q12 => ?_)
      · clear h; exact ⟨b0, u.2.2.2.2.2, n9.1, q10.2.1⟩  -- p9
      intro x13 hx13
      refine ⟨_, cn_lt2 hn50 ?_ ?_, rfl, ?_⟩
      · clear h; rw [hx13]; exact u.1  -- d10
      · clear h; rw [hx13]; exact u.2.1  -- d11
      · clear h; have Y11 := frX_tr Y9 (frX_R q12.1 (by decide))
        have s4 := q12.2.1 l94
        have s5 := q12.2.2 l95
        have r102 : σ_9.2.2.1 102 = σ50.2.2.1 102 := by
          rw [q10.1.2.2.1 102 (by decide) (by decide), hσ_8, ri3 (by decide), hσ_7, ri3 (by decide), hσ_6, ri3 (by decide), Y.2.2.1 102 (by decide)]
        have r98 : ∀ i, σ_11.2.2.1 98 i = if i = y175_2.toNatClampNeg then x50_1 else τ175.2.2.1 98 i := fun i => by
          rw [q12.1.2.2.1 98 (by decide), q10.1.2.2.1 98 (by decide) (by decide), hσ_8, ri3 (by decide), hσ_7, ri3 (by decide), hσ_6, ri34, if_pos rfl]
        have K8 : nK σ50 σ_8 := fun k hk => ⟨by rw [hσ_8, ri34, if_pos rfl, if_neg (by omega), hσ_7, ri3 (by decide), hσ_6, ri3 (by decide), Y.2.2.1 91 (by decide)], fun i _ => by rw [hσ_8, ri3 (by decide), hσ_7, ri3 (by decide), hσ_6, ri3 (by decide), Y.2.2.1 90 (by decide)]⟩
        have K11 : nK σ50 σ_11 := nK_tr K8 (nK_tr (nK_l q10.1.2.2.2.2 (by decide)) (nK_r (q12.1.2.2.1 90 (by decide)) (q12.1.2.2.1 91 (by decide))))
        rw [hx13, bs]
        refine ⟨frM_tr G (frM_X Y11 (sub_of rfl)), u.2.2.1, u.2.2.2.1, fun k hk z => E5 k hk (by rw [← Y11.2.2.1 95 (by decide)]; exact z), fun a b ha hb => ?_, fun k hk => ?_, fun i hi => ?_, nK_tr K5 K11⟩
        · rw [Y11.2.2.2, edN_q (σ := σ50) (fun k hk => Y11.2.2.1 k (by rcases hk with z | z | z | z | z | z <;> rw [z] <;> decide))]
          exact B5 a b ha hb
        · by_cases e : k = x50_1.toNatClampNeg
          · rw [e]
            exact ⟨s4.1, s5.1, by rw [s5.2, q10.2.2.1]; decide⟩
          · exact vOK_e (fun i i1 i2 => q12.1.2.2.2.2 i (by omega)) (vOK_f r102 (V5 k (by omega)))
        · rw [r98 i]
          split
          · exact ⟨b0, u.2.2.2.2.1⟩
          · rename_i e
            exact y5 i (by omega) e
    have hj125 : ∀ (l1 : Int32) (s1 : Int32) (s2 : Int32) (s3 : Int32) (τ : rS), (l1 = x50_1 ∧ s1 = x50_1 ∧ ¬ σ.1 70 ≤ x50_1 ∧ frX [97] σ50 τ) → w_findOrder_125 C Q (fun l1' τ => ∃ k < n50, (fun n l1 τ => n = (σ.1 70 - l1).toNatClampNeg ∧ (frM [] [90, 91, 95, 96, 97, 98, 102] σ τ ∧ 0 ≤ l1 ∧ l1 ≤ σ.1 70 ∧ (∀ k, k < s → τ.2.2.1 95 k ≠ 0 → cnE σ k) ∧ (∀ a b, a < s → b < s → (bR (τ.2.2.2 86) a b = true ↔ Tr (edN τ 1 95 0) a b)) ∧ (∀ k, k < l1.toNatClampNeg → vOK τ k) ∧ (∀ i, i < l1.toNatClampNeg → 0 ≤ τ.2.2.1 98 i ∧ τ.2.2.1 98 i < σ.1 70) ∧ nK σ τ)) k l1' τ) l1 s1 s2 s3 τ := by
      rintro y125_1 y125_s1 y125_s2 y125_s3 τ125 j125
      unfold w_findOrder_125
      obtain ⟨G, b0, b1, E5, B5, V5, O5, K5⟩ := i50
      obtain ⟨y1, y2, y3, Y⟩ := j125
      have u := uk b0 y3 hO.1.1.2
      rw [y1, y2]
      refine ⟨ib_1000.mpr ?_, ?_⟩
      · clear h; exact ⟨b0, u.2.2.2.2.2⟩  -- b13
      intro σ_14 hσ_14
      unfold w_findOrder_129
      refine ⟨fun n l1 l2 τ => n = (l2).toNatClampNeg ∧ (l1 = x50_1 ∧ frX [97, 98] σ50 τ ∧ 0 ≤ l2 ∧ l2 ≤ x50_1 ∧ ∀ j, j ≤ x50_1.toNatClampNeg → j ≠ l2.toNatClampNeg → 0 ≤ τ.2.2.1 98 j ∧ τ.2.2.1 98 j < σ.1 70), ⟨_, rfl, ?_⟩, ?_⟩
      · clear h; have r98 : σ_14.2.2.1 98 = σ50.2.2.1 98 := by rw [hσ_14, ri3 (by decide), Y.2.2.1 98 (by decide)]
        refine ⟨rfl, frX_tr (frX_w Y (sub_of rfl)) (by rw [hσ_14]; exact frX_1 (by decide)), b0, Int32.le_refl _, fun j j1 j2 => ?_⟩
        rw [r98]
        exact O5 j (by omega)
      rintro n129 x129_1 x129_2 σ129 ⟨hn129, i129⟩
      obtain ⟨z1, Z, c0, c1, P⟩ := i129
      rw [z1]
      refine ⟨fun c15 => ?_, fun c15 => ?_⟩
      · skip
        refine hj175 _ _ _ ?_
        · clear h; exact ⟨rfl, y3, Z, c0, c1, P⟩  -- k15
      · skip
        have w := i_dn c15 c1 u.2.2.2.2.2
        have wp := cn_pred w.1 w.2.2.2.2.2.2.2.2
        have wl := cn_l c1 c0
        have p := P (x129_2 - 1).toNatClampNeg (by omega) (by omega)
        refine ⟨ib_1000.mpr ?_, ?_⟩
        · clear h; exact ⟨w.2.1, w.2.2.1⟩  -- b16
        refine ⟨ib_1000.mpr ?_, ?_⟩
        · clear h; exact ⟨p.1, Int32.lt_of_lt_of_le p.2 hO.1.1.2⟩  -- b17
        refine ⟨ib_1000.mpr ?_, ?_⟩
        · clear h; exact ⟨b0, u.2.2.2.2.2⟩  -- b18
        refine ⟨fun c16 => ?_, fun c16 => ?_⟩
        · skip
          refine hj175 _ _ _ ?_
          · clear h; exact ⟨rfl, y3, Z, c0, c1, P⟩  -- k19
        · skip
          refine ⟨ib_1000.mpr ?_, ?_⟩
          · clear h; exact ⟨w.2.1, w.2.2.1⟩  -- b20
          refine ⟨ib_1000.mpr ?_, ?_⟩
          · clear h; exact ⟨c0, w.2.2.2.1⟩  -- b21
          intro σ_17 hσ_17
          intro x18 hx18
          refine ⟨_, cn_lt2 hn129 ?_ ?_, rfl, ?_⟩
          · clear h; rw [hx18]; exact w.2.2.2.2.1  -- d22
          · clear h; rw [hx18]; exact w.2.2.2.2.2.1  -- d23
          · clear h; rw [hx18]
            refine ⟨rfl, frX_tr Z (by rw [hσ_17]; exact frX_1 (by decide)), w.2.2.2.2.1, w.2.2.2.2.2.2.1, fun j j1 j2 => ?_⟩
            rw [hσ_17, ri34, if_pos rfl]
            split
            · exact p
            · rename_i e
              exact P j j1 e
    obtain ⟨G, b0, b1, E5, B5, V5, O5, K5⟩ := i50
    have g70 := G.1 70 (by decide)
    rw [g70]
    refine ⟨fun c19 => ?_, fun c19 => ?_⟩
    · skip
      refine h _ ?_
      · clear h; have e : x50_1 = σ.1 70 := Int32.le_antisymm b1 c19
        rw [e, ← hs] at V5 O5
        exact ⟨G, V5, O5, E5, B5, K5⟩
    · skip
      have u := uk b0 c19 hO.1.1.2
      refine ⟨ib_1000.mpr ?_, ?_⟩
      · clear h; exact ⟨b0, u.2.2.2.2.2⟩  -- b26
      intro σ_20 hσ_20
      unfold w_findOrder_67
      refine ⟨fun n l1 l2 τ => n = (σ.1 70 - l2).toNatClampNeg ∧ (l1 = x50_1 ∧ frX [97] σ50 τ ∧ 0 ≤ l2 ∧ l2 ≤ σ.1 70), ⟨_, rfl, ?_⟩, ?_⟩
      · clear h; exact ⟨rfl, by rw [hσ_20]; exact frX_1 (by decide), by decide, hO.1.1.1⟩  -- j27
      rintro n67 x67_1 x67_2 σ67 ⟨hn67, i67⟩
      have hj96 : ∀ (l1 : Int32) (l2 : Int32) (s1 : Int32) (s2 : Int32) (s3 : Int32) (τ : rS), (l1 = x50_1 ∧ l2 = x67_2 ∧ s1 = x50_1 ∧ ¬ σ.1 70 ≤ x67_2 ∧ frX [97] σ50 τ) → w_findOrder_96 C Q (fun l1' τ => ∃ k < n50, (fun n l1 τ => n = (σ.1 70 - l1).toNatClampNeg ∧ (frM [] [90, 91, 95, 96, 97, 98, 102] σ τ ∧ 0 ≤ l1 ∧ l1 ≤ σ.1 70 ∧ (∀ k, k < s → τ.2.2.1 95 k ≠ 0 → cnE σ k) ∧ (∀ a b, a < s → b < s → (bR (τ.2.2.2 86) a b = true ↔ Tr (edN τ 1 95 0) a b)) ∧ (∀ k, k < l1.toNatClampNeg → vOK τ k) ∧ (∀ i, i < l1.toNatClampNeg → 0 ≤ τ.2.2.1 98 i ∧ τ.2.2.1 98 i < σ.1 70) ∧ nK σ τ)) k l1' τ) (fun l1' l2' τ => ∃ k < n67, (fun n l1 l2 τ => n = (σ.1 70 - l2).toNatClampNeg ∧ (l1 = x50_1 ∧ frX [97] σ50 τ ∧ 0 ≤ l2 ∧ l2 ≤ σ.1 70)) k l1' l2' τ) l1 l2 s1 s2 s3 τ := by
        rintro y96_1 y96_2 y96_s1 y96_s2 y96_s3 τ96 j96
        unfold w_findOrder_96
        obtain ⟨z1, Z, w0, w1⟩ := i67
        obtain ⟨y1, y2, y3, y4, Y⟩ := j96
        have w := uk w0 y4 hO.1.1.2
        refine ⟨ib_1000.mpr ?_, ?_⟩
        · clear h; rw [y3]; exact ⟨b0, u.2.2.2.2.2⟩  -- b28
        intro σ_21 hσ_21
        intro x22 hx22
        refine ⟨_, cn_lt2 hn67 ?_ ?_, rfl, ?_⟩
        · clear h; rw [hx22, y2]; exact w.1  -- d29
        · clear h; rw [hx22, y2]; exact w.2.1  -- d30
        · clear h; rw [hx22, y2, hσ_21]
          exact ⟨y1, frX_tr Y (frX_1 (by decide)), w.2.2.1, w.2.2.2.1⟩
      obtain ⟨z1, Z, w0, w1⟩ := i67
      have z70 : σ67.1 70 = σ.1 70 := by rw [Z.1, g70]
      rw [z70, z1]
      refine ⟨fun c23 => ?_, fun c23 => ?_⟩
      · skip
        refine ⟨ib_1000.mpr ?_, ?_⟩
        · clear h; exact ⟨b0, u.2.2.2.2.2⟩  -- b32
        refine leads_c hC  ?_ (fun r24 q26 => ?_)
        · clear h; exact ⟨b0, u.2.2.2.2.2, b0, u.2.2.2.2.2⟩  -- p33
        refine ⟨fun c27 => ?_, fun c27 => ?_⟩
        · skip
          refine hj125 _ _ _ _ _ ?_
          · clear h; exact ⟨rfl, rfl, c19, Z⟩  -- k34
        · skip
          refine hj125 _ _ _ _ _ ?_
          · clear h; exact ⟨rfl, rfl, c19, Z⟩  -- k35
      · skip
        refine ⟨ib_1000.mpr ?_, ?_⟩
        · clear h; exact ⟨b0, u.2.2.2.2.2⟩  -- b36
        refine leads_c hC  ?_ (fun r28 q30 => ?_)
        · clear h; have w := uk w0 c23 hO.1.1.2
          exact ⟨w0, w.2.2.2.2.2, b0, u.2.2.2.2.2⟩
        refine ⟨fun c31 => ?_, fun c31 => ?_⟩
        · skip
          refine hj96 _ _ _ _ _ _ ?_
          · clear h; exact ⟨rfl, rfl, rfl, c23, Z⟩  -- k38
        · skip
          refine hj96 _ _ _ _ _ _ ?_
          · clear h; exact ⟨rfl, rfl, rfl, c23, Z⟩  -- k39
  · skip
    have u := uk a0 c3 hO.1.1.2
    have as := cn_succ a0 (Int32.lt_trans u.2.2.2.2.2 (by decide))
    refine canEnd_c hC  ?_ (fun r32 q34 => ?_)
    · clear h; exact ⟨hO12.1, a0, by rw [e70]; exact u.2.2.2.2.1⟩  -- p40
    rw [e70, ← hs] at q34
    have qe := q34.2
    rw [endN_q (σ := σ) (fun k hk => F.2.2.1 k (fun z => by have := List.mem_singleton.mp z; omega))] at qe
    refine ⟨ib_1000.mpr ?_, ?_⟩
    · clear h; exact ⟨a0, u.2.2.2.2.2⟩  -- b41
    intro σ_35 hσ_35
    intro x36 hx36
    refine ⟨_, cn_lt2 hn12 ?_ ?_, rfl, ?_⟩
    · clear h; rw [hx36]; exact u.1  -- d42
    · clear h; rw [hx36]; exact u.2.1  -- d43
    · clear h; rw [hx36, as, hσ_35]
      refine ⟨frM_tr F (frM_1 (by decide)), B, u.2.2.1, u.2.2.2.1, fun k hk z => ?_⟩
      by_cases e : k = x12_1.toNatClampNeg
      · rw [ri34, if_pos rfl, if_pos e] at z
        have ks : x12_1.toNatClampNeg < s := by rw [hs]; exact cn_lt a0 u.2.2.2.2.1
        rw [e]
        rcases qe.mp (nar_0 z) with y | ⟨m, hm, y1, y2⟩
        · exact Or.inl y
        · exact Or.inr ⟨m, by rw [← hs]; exact hm, (B _ m ks hm).mp y1, y2⟩
      · rw [ri34, if_pos rfl, if_neg e] at z
        exact E k (by omega) z
