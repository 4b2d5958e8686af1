section
set_option maxHeartbeats 1600000
/-! the reference: show: where it throws, what is shown stays -/
def kX16 (σ τ : rS) : Prop := τ.1 103 = σ.1 103 ∧ ∀ k, 15 ≤ k → k ≤ 16 → τ.2.2.1 91 k = σ.2.2.1 91 k ∧ ∀ i, i < 40000 → τ.2.2.1 90 (40000 * k + i) = σ.2.2.1 90 (40000 * k + i)
theorem kX_r16 {σ : rS} : kX16 σ σ := ⟨rfl, fun _ _ _ => ⟨rfl, fun _ _ => rfl⟩⟩
theorem kX_s16 {σ τ : rS} {k : Nat} {v : Int32} (hk : 103 ≠ k) (h : kX16 σ τ) : kX16 σ (siU τ k v) := by
  refine ⟨(si1.trans (if_neg hk)).trans h.1, fun j a b => ?_⟩
  have e : (siU τ k v).2 = τ.2 := si2
  rw [e]
  exact h.2 j a b
theorem kX_f16 {σ τ υ : rS} {l : List Nat} (h : kX16 σ τ) (f : frS l τ υ) (h15 : 15 ∉ l) (h16 : 16 ∉ l) : kX16 σ υ := ⟨(f.1 103 (by decide)).trans h.1, fun j a b => by
  have nj : j ∉ l := by
    have : j = 15 ∨ j = 16 := by omega
    rcases this with e | e <;> rw [e]
    · exact h15
    · exact h16
  have y := f.2.2.2.2 j nj
  have z := h.2 j a b
  exact ⟨y.1.trans z.1, fun i hi => (y.2 i hi).trans (z.2 i hi)⟩⟩
theorem show_n16 {C : rCx} (hC : cOK C) (s : Nat) {σ : rS} {a1 : Int32} {a2 : Int32} {Q : Int32 → rS → Prop} (hp : pOK σ ∧ s = (σ.1 70).toNatClampNeg ∧ (σ.1 94 ≠ 0 → ∀ k, k < s → vOK σ k) ∧ (σ.1 114 ≠ 0 → ∀ k, k < s → wkO σ 115 116 k) ∧ plN σ ∧ shO σ) (h : ∀ (v : Int32) (σ' : rS), ((frT shF shL σ σ' ∧ shO σ') ∧ ((¬ σ'.1 0 ≤ 0 → kX16 σ σ'))) → Q v σ') : cI C 8 m_show [.ref (co C), .int a1, .int a2] σ Q := by
  refine m_show_run hC ?_
  unfold w_show_0
  obtain ⟨hO, hs, hv, hw, hn, hh⟩ := hp
  have hj352 : ∀  (τ : rS), ((frT shF shL σ τ ∧ numO τ 4 ∧ numO τ 5) ∧ τ.1 0 ≤ 0) → w_show_352 C Q   τ := by
    rintro  τ352 ⟨j352, hE⟩
    unfold w_show_352
    obtain ⟨F, o4, o5⟩ := j352
    refine copy_v hC  ?_ (fun σ_1 q2 => ?_)
    · clear h; simp only [kn, kn2]; exact ⟨by decide, by decide, by decide, by decide, by decide, o4⟩  -- p1
    simp only [kn, kn2] at q2
    have g5 := nV_fr q2.1 (k := 5) (by decide) o5
    refine copy_v hC  ?_ (fun σ_3 q4 => ?_)
    · clear h; simp only [kn, kn2]; exact ⟨by decide, by decide, by decide, by decide, by decide, g5.1⟩  -- p2
    simp only [kn, kn2] at q4
    have m15 := nV_fr q4.1 (k := 15) (by decide) q2.2.1
    intro σ_5 hσ_5
    refine isZero_c hC  ?_ (fun r6 q8 => ?_)
    · clear h; exact ⟨by decide, by decide⟩  -- p3
    refine ⟨fun c9 => ?_, fun c9 => ?_⟩
    · skip
      refine h _ _ ?_
      · refine and_5 ?_ (fun o9 => fun z => absurd (show σ_5.1 0 ≤ 0 by rw [hσ_5, si1, if_neg (by decide), q4.1.1, q2.1.1]; exact hE) z)  -- q4
        clear h; rw [hσ_5]; exact ⟨frT_tr F (frT_tr (frT_N q2.1 (sub_of rfl)) (frT_tr (frT_N q4.1 (sub_of rfl)) (frT_0 (by decide)))), fun _ => ⟨m15.1, q4.2.1⟩⟩
    · skip
      refine h _ _ ?_
      · refine and_5 ?_ (fun o9 => fun z => absurd (show σ_5.1 0 ≤ 0 by rw [hσ_5, si1, if_neg (by decide), q4.1.1, q2.1.1]; exact hE) z)  -- q5
        clear h; rw [hσ_5]; exact ⟨frT_tr F (frT_tr (frT_N q2.1 (sub_of rfl)) (frT_tr (frT_N q4.1 (sub_of rfl)) (frT_0 (by decide)))), fun _ => ⟨m15.1, q4.2.1⟩⟩
  have hj235 : ∀ (l1 : Int32) (τ : rS), ((l1 = a1 ∧ frT shF shL σ τ ∧ σ.1 94 ≠ 0) ∧ τ.1 0 ≤ 0) → w_show_235 C Q  l1 τ := by
    rintro y235_1 τ235 ⟨j235, hE⟩
    unfold w_show_235
    obtain ⟨y1, F, n94⟩ := j235
    have P1 := pOK_T hO F (by decide) (by decide) (by decide)
    have P2 : s = (τ235.1 70).toNatClampNeg := by rw [F.1 70 (by decide)]; exact hs
    have P3 : ∀ k, k < s → vOK τ235 k := fun k hk => vOK_f (F.2.2.1 102 (by decide) (by decide)) (hv n94 k hk)
    refine ⟨fun c10 => ?_, fun c10 => ?_⟩
    · skip
      refine sumVisits_c hC s ?_ (fun σ_11 q12 => ?_)
      · clear h; exact ⟨P1, P2, P3⟩  -- p6
      refine hj352 _ ?_
      · refine and_5 ?_ (fun o9 => by rw [q12.1.1 0 (by decide)]; exact hE)  -- k7
        clear h; obtain ⟨S, J⟩ := q12.2
        have L := siS_L P1 P2 P3 (by decide) J
        exact ⟨frT_tr F (frT_S q12.1 (by decide) (sub_of rfl)), L.1, L.2.1⟩
    · skip
      refine sumVisits_c hC s ?_ (fun σ_13 q14 => ?_)
      · clear h; exact ⟨P1, P2, P3⟩  -- p8
      refine hj352 _ ?_
      · refine and_5 ?_ (fun o9 => by rw [q14.1.1 0 (by decide)]; exact hE)  -- k9
        clear h; obtain ⟨S, J⟩ := q14.2
        have L := siS_L P1 P2 P3 (by decide) J
        exact ⟨frT_tr F (frT_S q14.1 (by decide) (sub_of rfl)), L.1, L.2.1⟩
  have hj181 : ∀ (l1 : Int32) (l2 : Int32) (τ : rS), ((l1 = a1 ∧ l2 = a2 ∧ frT shF shL σ τ ∧ shO τ ∧ (τ.1 0 ≤ 0 → shD σ a1 ∧ ((a1 = 8 ∨ a1 = 11) → 0 ≤ a2 ∧ a2 < σ.1 70))) ∧ kX16 σ τ) → w_show_181 C Q  l1 l2 τ := by
    rintro y181_1 y181_2 τ181 ⟨j181, hE⟩
    unfold w_show_181
    obtain ⟨y1, y2, F, H, D⟩ := j181
    have P1 := pOK_T hO F (by decide) (by decide) (by decide)
    have P2 : s = (τ181.1 70).toNatClampNeg := by rw [F.1 70 (by decide)]; exact hs
    have P3 : σ.1 94 ≠ 0 → ∀ k, k < s → vOK τ181 k := fun n94 k hk => vOK_f (F.2.2.1 102 (by decide) (by decide)) (hv n94 k hk)
    have P4 : swQ τ181 = swQ σ := swQ_o (F.1 70 (by decide)) F.2.2.1
    rw [y1, y2]
    refine ⟨fun c15 => ?_, fun c15 => ?_⟩
    · skip
      refine ⟨fun c16 => ?_, fun c16 => ?_⟩
      · skip
        refine ⟨fun c17 => ?_, fun c17 => ?_⟩
        · skip
          refine ⟨fun c18 => ?_, fun c18 => ?_⟩
          · skip
            refine hj235 _ _ ?_
            · refine and_5 ?_ (fun o9 => c15)  -- k10
              clear h; exact ⟨rfl, F, (D c15).1.1.2.2.1 (by rw [c18]; decide)⟩
          · skip
            refine ⟨fun c19 => ?_, fun c19 => ?_⟩
            · skip
              refine ⟨fun c20 => ?_, fun c20 => ?_⟩
              · skip
                refine ⟨fun c21 => ?_, fun c21 => ?_⟩
                · skip
                  refine ⟨fun c22 => ?_, fun c22 => ?_⟩
                  · skip
                    refine copy_v hC  ?_ (fun σ_23 q24 => ?_)
                    · clear h; have n := hn ((D c15).1.1.1 (sh_12 c17 (D c15).1.1.2.2.2 c18 c20 c19 c21 c22))
                      simp only [kn, kn2]; exact ⟨by decide, by decide, by decide, by decide, by decide, (nV_T F (by decide) n.1).1⟩
                    simp only [kn, kn2] at q24
                    have n := hn ((D c15).1.1.1 (sh_12 c17 (D c15).1.1.2.2.2 c18 c20 c19 c21 c22))
                    have n17 := nV_T F (k := 17) (by decide) n.1
                    have n18 := nV_T F (k := 18) (by decide) n.2.1
                    have m18 := nV_fr q24.1 (k := 18) (by decide) n18.1
                    refine copy_v hC  ?_ (fun σ_25 q26 => ?_)
                    · clear h; simp only [kn, kn2]; exact ⟨by decide, by decide, by decide, by decide, by decide, m18.1⟩  -- p12
                    simp only [kn, kn2] at q26
                    have m4 := nV_fr q26.1 (k := 4) (by decide) q24.2.1
                    refine reduce_c hC  ?_ (fun σ_27 q28 => ?_)
                    · clear h; simp only [kn, kn2]
                      exact ⟨by decide, by decide, by decide, by decide, by decide, m4.1, q26.2.1, by rw [q26.2.2.1, m18.2.1, n18.2.1]; exact n.2.2.1, by have := m4.2.2; have := q24.2.2.2; have := n17.2.2; have := n.2.2.2.1; omega, by have := q26.2.2.2; have := m18.2.2; have := n18.2.2; have := n.2.2.2.2; omega⟩
                    intro σ_29 hσ_29
                    refine hj352 _ ?_
                    · refine and_5 ?_ (fun o9 => ?_)  -- k14
                      · clear h; simp only [kn, kn2] at q28
                        rw [hσ_29]
                        exact ⟨frT_tr F (frT_tr (frT_N q24.1 (sub_of rfl)) (frT_tr (frT_N q26.1 (sub_of rfl)) (frT_tr (frT_N q28.1 (sub_of rfl)) (frT_0 (by decide))))), nV_92.2.1.mpr q28.2.1, nV_92.2.1.mpr q28.2.2.1⟩
                      · clear o9
                        simp only [kn, kn2] at q28
                        rw [hσ_29, si1, if_neg (by decide), q28.1.1, q26.1.1, q24.1.1]
                        exact c15
                  · skip
                    refine clearSum_c hC  (fun σ_30 q31 => ?_)
                    have r := (D c15).2 (Or.inr c22)
                    have r1 := Int32.lt_of_lt_of_le r.2 hO.1.1.2
                    have W := wkO_f ((q31.1.2.2.1 115 (by decide) (by decide)).trans (F.2.2.1 115 (by decide) (by decide))) ((q31.1.2.2.1 116 (by decide) (by decide)).trans (F.2.2.1 116 (by decide) (by decide))) (hw ((D c15).1.1.2.1 c22) a2.toNatClampNeg (by rw [hs]; exact cn_lt r.1 r.2))
                    refine loadWorth_c hC  ?_ (fun σ_32 q33 => ?_)
                    · clear h; exact ⟨Or.inl rfl, r.1, r1, W.1, W.2.1⟩  -- p15
                    have p7 : 0 < nV σ_32 7 := by rw [q33.2.2.2.2.1]; exact W.2.2.1
                    have fb := fQ_b q33.2.1 p7 q33.2.2.2.2.2.1
                    have m7 := nV_lt q33.2.2.1 q33.2.2.2.2.2.2
                    have A := siG_add (a := 16) (M := nV σ_32 7) (x := σ_32.2.2.1 116 a2.toNatClampNeg) (by rw [q33.1.2.2.1 116 (by decide) (by decide)]; exact W.2.2.2) p7 m7 (by decide) (by decide) (siG_N q33.1 (by decide) (by decide) (siG_0 q31.2)) q33.2.1 q33.2.2.1 p7 (by have := q33.2.2.2.2.2.1; omega) (by have := q33.2.2.2.2.2.2; omega) (Rat.le_trans fb.2.1 p16_wB) fb.2.2
                    refine ⟨ib_1000.mpr ?_, ?_⟩
                    · clear h; exact ⟨r.1, r1⟩  -- b16
                    refine add_c hC  ?_ (fun σ_34 q35 => ?_)
                    · clear h; exact A.1  -- p17
                    refine hj352 _ ?_
                    · refine and_5 ?_ (fun o9 => by rw [q35.1.1 0 (by decide), q33.1.1, q31.1.1 0 (by decide)]; exact c15)  -- k18
                      clear h; have L := siG_L (a := 16) p7 m7 (by decide) (A.2 _ q35.2)
                      exact ⟨frT_tr F (frT_tr (frT_S q31.1 (by decide) (sub_of rfl)) (frT_tr (frT_N q33.1 (sub_of rfl)) (frT_S q35.1 (by decide) (sub_of rfl)))), L.1, L.2.1⟩
                · skip
                  refine sumOver_c hC s ?_ (fun σ_36 q37 => ?_)
                  · clear h; exact ⟨P1, P2, P3 ((D c15).1.1.2.2.1 (by rw [c21]; decide)), fun _ => rfl, by rw [P4]; exact (D c15).1.2.2 c21⟩  -- p19
                  refine hj352 _ ?_
                  · refine and_5 ?_ (fun o9 => by rw [q37.1.1 0 (by decide)]; exact c15)  -- k20
                    clear h; exact ⟨frT_tr F (frT_S q37.1 (by decide) (sub_of rfl)), q37.2.1, q37.2.2.1⟩
              · skip
                refine clearSum_c hC  (fun σ_38 q39 => ?_)
                have r := (D c15).2 (Or.inl c20)
                have r1 := Int32.lt_of_lt_of_le r.2 hO.1.1.2
                have V := vOK_f (q39.1.2.2.1 102 (by decide) (by decide)) (P3 ((D c15).1.1.2.2.1 (by rw [c20]; decide)) a2.toNatClampNeg (by rw [hs]; exact cn_lt r.1 r.2))
                refine loadVisits_c hC  ?_ (fun σ_40 q41 => ?_)
                · clear h; exact ⟨r.1, r1, V.1, V.2.1⟩  -- p21
                have p7 : 0 < nV σ_40 7 := by rw [q41.2.2.2.2.1]; exact V.2.2
                have fb := fQ_b q41.2.1 p7 q41.2.2.2.2.2.1
                have m7 := nV_lt q41.2.2.1 q41.2.2.2.2.2.2
                have A := siG_add (a := 16) (M := nV σ_40 7) (x := 1) (Or.inl rfl) p7 m7 (by decide) (by decide) (siG_N q41.1 (by decide) (by decide) (siG_0 q39.2)) q41.2.1 q41.2.2.1 p7 (by have := q41.2.2.2.2.2.1; omega) (by have := q41.2.2.2.2.2.2; omega) (Rat.le_trans fb.2.1 p16_wB) fb.2.2
                refine add_c hC  ?_ (fun σ_42 q43 => ?_)
                · clear h; exact A.1  -- p22
                refine hj352 _ ?_
                · refine and_5 ?_ (fun o9 => by rw [q43.1.1 0 (by decide), q41.1.1, q39.1.1 0 (by decide)]; exact c15)  -- k23
                  clear h; have L := siG_L (a := 16) p7 m7 (by decide) (A.2 _ q43.2)
                  exact ⟨frT_tr F (frT_tr (frT_S q39.1 (by decide) (sub_of rfl)) (frT_tr (frT_N q41.1 (sub_of rfl)) (frT_S q43.1 (by decide) (sub_of rfl)))), L.1, L.2.1⟩
            · skip
              refine hj235 _ _ ?_
              · refine and_5 ?_ (fun o9 => c15)  -- k24
                clear h; exact ⟨rfl, F, (D c15).1.1.2.2.1 (by rw [c19]; decide)⟩
        · skip
          refine sumWeights_c hC s ?_ (fun σ_44 q45 => ?_)
          · clear h; exact ⟨P1, P2, P3 ((D c15).1.1.2.2.1 (sh_l7 c17)), fun z => absurd rfl z⟩  -- p25
          refine hj352 _ ?_
          · refine and_5 ?_ (fun o9 => by rw [q45.1.1 0 (by decide)]; exact c15)  -- k26
            clear h; have L := siS_L P1 P2 (P3 ((D c15).1.1.2.2.1 (sh_l7 c17))) (by decide) q45.2
            exact ⟨frT_tr F (frT_S q45.1 (by decide) (sub_of rfl)), L.1, L.2.1⟩
      · skip
        refine sumOver_c hC s ?_ (fun σ_46 q47 => ?_)
        · clear h; exact ⟨P1, P2, P3 ((D c15).1.1.2.2.1 (sh_l2 c16).1), fun z => absurd rfl z, by rw [P4]; exact (D c15).1.2.1 (sh_l2 c16).2⟩  -- p27
        refine hj352 _ ?_
        · refine and_5 ?_ (fun o9 => by rw [q47.1.1 0 (by decide)]; exact c15)  -- k28
          clear h; exact ⟨frT_tr F (frT_S q47.1 (by decide) (sub_of rfl)), q47.2.1, q47.2.2.1⟩
    · skip
      refine h _ _ ?_
      · refine and_5 ?_ (fun o9 => fun _ => hE)  -- q29
        clear h; exact ⟨F, H⟩
  have hj162 : ∀ (l1 : Int32) (l2 : Int32) (τ : rS), ((l1 = a1 ∧ l2 = a2 ∧ frT shF shL σ τ ∧ shO τ ∧ shD σ a1) ∧ kX16 σ τ) → w_show_162 C Q  l1 l2 τ := by
    rintro y162_1 y162_2 τ162 ⟨j162, hE⟩
    unfold w_show_162
    obtain ⟨y1, y2, F, H, D⟩ := j162
    refine isSlot_c hC  (fun r48 q50 => ?_)
    refine ⟨fun c51 => ?_, fun c51 => ?_⟩
    · skip
      intro σ_52 hσ_52
      refine hj181 _ _ _ ?_
      · refine and_5 ?_ (fun o9 => by rw [hσ_52]; exact kX_s16 (by decide) hE)  -- k30
        clear h; rw [hσ_52]
        have q := q50.2.mp c51
        rw [y2, F.1 70 (by decide)] at q
        exact ⟨y1, y2, frT_tr F (frT_0 (by decide)), shO_0 H, fun _ => ⟨D, fun _ => q⟩⟩
    · skip
      intro σ_53 hσ_53
      refine hj181 _ _ _ ?_
      · refine and_5 ?_ (fun o9 => by rw [hσ_53]; exact kX_s16 (by decide) hE)  -- k31
        clear h; rw [hσ_53]
        exact ⟨y1, y2, frT_tr F (frT_0 (by decide)), shO_0 H, fun z => absurd z (by show ¬ (3 : Int32) ≤ 0; decide)⟩
  have hj150 : ∀ (l1 : Int32) (l2 : Int32) (τ : rS), ((l1 = a1 ∧ l2 = a2 ∧ frT shF shL σ τ ∧ shO τ ∧ shD σ a1) ∧ kX16 σ τ) → w_show_150 C Q  l1 l2 τ := by
    rintro y150_1 y150_2 τ150 ⟨j150, hE⟩
    unfold w_show_150
    obtain ⟨y1, y2, F, H, D⟩ := j150
    refine ⟨fun c54 => ?_, fun c54 => ?_⟩
    · skip
      refine hj162 _ _ _ ?_
      · refine and_5 ?_ (fun o9 => hE)  -- k32
        clear h; exact ⟨y1, y2, F, H, D⟩
    · skip
      refine ⟨fun c55 => ?_, fun c55 => ?_⟩
      · skip
        intro σ_56 hσ_56
        refine hj181 _ _ _ ?_
        · refine and_5 ?_ (fun o9 => by rw [hσ_56]; exact kX_s16 (by decide) hE)  -- k33
          clear h; rw [hσ_56]
          rw [y1] at c54 c55
          exact ⟨y1, y2, frT_tr F (frT_0 (by decide)), shO_0 H, fun _ => ⟨D, fun z => z.elim (fun e => absurd e c54) (fun e => absurd e c55)⟩⟩
      · skip
        refine hj162 _ _ _ ?_
        · refine and_5 ?_ (fun o9 => hE)  -- k34
          clear h; exact ⟨y1, y2, F, H, D⟩
  have hj126 : ∀ (l1 : Int32) (l2 : Int32) (τ : rS), ((l1 = a1 ∧ l2 = a2 ∧ frT shF shL σ τ ∧ shO τ ∧ (τ.1 0 = 0 ∨ 0 < τ.1 0) ∧ (τ.1 0 = 0 → shD σ a1)) ∧ kX16 σ τ) → w_show_126 C Q  l1 l2 τ := by
    rintro y126_1 y126_2 τ126 ⟨j126, hE⟩
    unfold w_show_126
    obtain ⟨y1, y2, F, H, z0, D⟩ := j126
    refine ⟨fun c57 => ?_, fun c57 => ?_⟩
    · skip
      refine hj181 _ _ _ ?_
      · refine and_5 ?_ (fun o9 => hE)  -- k35
        clear h; refine ⟨y1, y2, F, H, fun z => ?_⟩
        rcases z0 with e | e
        · exact absurd e c57
        · exact absurd z (Int32.not_le.mpr e)
    · skip
      refine ⟨fun c58 => ?_, fun c58 => ?_⟩
      · skip
        refine hj150 _ _ _ ?_
        · refine and_5 ?_ (fun o9 => hE)  -- k36
          clear h; exact ⟨y1, y2, F, H, D c57⟩
      · skip
        refine isSlot_c hC  (fun r59 q61 => ?_)
        refine ⟨fun c62 => ?_, fun c62 => ?_⟩
        · skip
          intro σ_63 hσ_63
          refine hj181 _ _ _ ?_
          · refine and_5 ?_ (fun o9 => by rw [hσ_63]; exact kX_s16 (by decide) hE)  -- k37
            clear h; rw [hσ_63]
            exact ⟨y1, y2, frT_tr F (frT_0 (by decide)), shO_0 H, fun z => absurd z (by show ¬ (3 : Int32) ≤ 0; decide)⟩
        · skip
          refine hj150 _ _ _ ?_
          · refine and_5 ?_ (fun o9 => hE)  -- k38
            clear h; exact ⟨y1, y2, F, H, D c57⟩
  have hj104 : ∀ (l1 : Int32) (l2 : Int32) (s1 : Int32) (τ : rS), ((l1 = a1 ∧ l2 = a2 ∧ frT shF shL σ τ ∧ shO τ ∧ τ.1 0 = 0 ∧ shC σ a1 ∧ ((a1 < 2 ∧ s1 = 6) ∨ (a1 = 10 ∧ s1 = 7))) ∧ kX16 σ τ) → w_show_104 C Q  l1 l2 s1 τ := by
    rintro y104_1 y104_2 y104_s1 τ104 ⟨j104, hE⟩
    unfold w_show_104
    obtain ⟨y1, y2, F, H, z0, Cc, kk⟩ := j104
    have P1 := pOK_T hO F (by decide) (by decide) (by decide)
    have P2 : s = (τ104.1 70).toNatClampNeg := by rw [F.1 70 (by decide)]; exact hs
    have P3 : ∀ k, k < s → vOK τ104 k := fun k hk => vOK_f (F.2.2.1 102 (by decide) (by decide)) (hv (Cc.2.2.1 (sh_lt (kk.imp (fun z => z.1) (fun z => z.1)))) k hk)
    have P4 : swQ τ104 = swQ σ := swQ_o (F.1 70 (by decide)) F.2.2.1
    refine sumWeights_c hC s ?_ (fun σ_64 q65 => ?_)
    · clear h; exact ⟨P1, P2, P3, fun z => absurd rfl z⟩  -- p39
    refine isZero_c hC  ?_ (fun r66 q68 => ?_)
    · clear h; exact ⟨by decide, by decide⟩  -- p40
    refine ⟨fun c69 => ?_, fun c69 => ?_⟩
    · skip
      intro σ_70 hσ_70
      refine hj126 _ _ _ ?_
      · refine and_5 ?_ (fun o9 => by rw [hσ_70]; exact kX_s16 (by decide) (kX_f16 hE q65.1 (by decide) (by decide)))  -- k41
        clear h; rw [P4] at q65
        have nz : swQ σ y104_s1 0 0 ≠ 0 := fun e => q68.2.mpr (hS_z q65.2.1 e) c69
        rw [hσ_70]
        refine ⟨y1, y2, frT_tr F (frT_tr (frT_S q65.1 (by decide) (sub_of rfl)) (frT_0 (by decide))), shO_0 (shO_S H q65.1 (by decide) (by decide)), Or.inl rfl, fun _ => ⟨Cc, fun lt => ?_, fun e10 => ?_⟩⟩
        · rcases kk with z | z
          · rw [← z.2]; exact nz
          · rw [z.1] at lt; exact absurd lt (by decide)
        · rcases kk with z | z
          · rw [e10] at z; exact absurd z.1 (by decide)
          · rw [← z.2]; exact nz
    · skip
      intro σ_71 hσ_71
      refine hj126 _ _ _ ?_
      · refine and_5 ?_ (fun o9 => by rw [hσ_71]; exact kX_s16 (by decide) (kX_f16 hE q65.1 (by decide) (by decide)))  -- k42
        clear h; rw [hσ_71]
        exact ⟨y1, y2, frT_tr F (frT_tr (frT_S q65.1 (by decide) (sub_of rfl)) (frT_0 (by decide))), shO_0 (shO_S H q65.1 (by decide) (by decide)), Or.inr (by show (0 : Int32) < 2; decide), fun z => absurd z (by show ¬ (2 : Int32) = 0; decide)⟩
  have hj91 : ∀ (l1 : Int32) (l2 : Int32) (τ : rS), ((l1 = a1 ∧ l2 = a2 ∧ frT shF shL σ τ ∧ shO τ ∧ τ.1 0 = 0 ∧ shC σ a1 ∧ (a1 < 2 ∨ a1 = 10)) ∧ kX16 σ τ) → w_show_91 C Q  l1 l2 τ := by
    rintro y91_1 y91_2 τ91 ⟨j91, hE⟩
    unfold w_show_91
    obtain ⟨y1, y2, F, H, z0, Cc, kk⟩ := j91
    refine ⟨fun c72 => ?_, fun c72 => ?_⟩
    · skip
      refine hj104 _ _ _ _ ?_
      · refine and_5 ?_ (fun o9 => hE)  -- k43
        clear h; rw [y1] at c72
        exact ⟨y1, y2, F, H, z0, Cc, Or.inr ⟨kk.resolve_left (fun z => absurd z (Int32.not_lt.mpr c72)), rfl⟩⟩
    · skip
      refine hj104 _ _ _ _ ?_
      · refine and_5 ?_ (fun o9 => hE)  -- k44
        clear h; rw [y1] at c72
        exact ⟨y1, y2, F, H, z0, Cc, Or.inl ⟨Int32.not_le.mp c72, rfl⟩⟩
  have hj70 : ∀ (l1 : Int32) (l2 : Int32) (s1 : Int32) (τ : rS), ((l1 = a1 ∧ l2 = a2 ∧ τ = σ ∧ (s1 = 0 ∨ 0 < s1) ∧ (s1 = 0 → shC σ a1)) ∧ True) → w_show_70 C Q  l1 l2 s1 τ := by
    rintro y70_1 y70_2 y70_s1 τ70 ⟨j70, hE⟩
    unfold w_show_70
    intro σ_73 hσ_73
    obtain ⟨y1, y2, e, z0, Cc⟩ := j70
    have F : frT shF shL σ σ_73 := by rw [hσ_73, e]; exact frT_0 (by decide)
    have H : shO σ_73 := by rw [hσ_73, e]; exact shO_0 hh
    have e0 : σ_73.1 0 = y70_s1 := by rw [hσ_73]; rfl
    refine ⟨fun c74 => ?_, fun c74 => ?_⟩
    · skip
      refine hj126 _ _ _ ?_
      · refine and_5 ?_ (fun o9 => by rw [hσ_73, e]; exact kX_s16 (by decide) kX_r16)  -- k45
        clear h; exact ⟨y1, y2, F, H, by rw [e0]; exact z0, fun z => absurd z c74⟩
    · skip
      refine ⟨fun c75 => ?_, fun c75 => ?_⟩
      · skip
        refine hj91 _ _ _ ?_
        · refine and_5 ?_ (fun o9 => by rw [hσ_73, e]; exact kX_s16 (by decide) kX_r16)  -- k46
          clear h; exact ⟨y1, y2, F, H, c74, Cc (e0.symm.trans c74), Or.inl (by rw [← y1]; exact c75)⟩
      · skip
        refine ⟨fun c76 => ?_, fun c76 => ?_⟩
        · skip
          refine hj126 _ _ _ ?_
          · refine and_5 ?_ (fun o9 => by rw [hσ_73, e]; exact kX_s16 (by decide) kX_r16)  -- k47
            clear h; rw [y1] at c75 c76
            exact ⟨y1, y2, F, H, Or.inl c74, fun _ => ⟨Cc (e0.symm.trans c74), fun lt => absurd lt c75, fun e => absurd e c76⟩⟩
        · skip
          refine hj91 _ _ _ ?_
          · refine and_5 ?_ (fun o9 => by rw [hσ_73, e]; exact kX_s16 (by decide) kX_r16)  -- k48
            clear h; exact ⟨y1, y2, F, H, c74, Cc (e0.symm.trans c74), Or.inr (by rw [← y1]; exact c76)⟩
  refine within_c hC  (fun r77 q79 => ?_)
  refine ⟨fun c80 => ?_, fun c80 => ?_⟩
  · skip
    refine ⟨fun c81 => ?_, fun c81 => ?_⟩
    · skip
      refine ⟨fun c82 => ?_, fun c82 => ?_⟩
      · skip
        refine ⟨fun c83 => ?_, fun c83 => ?_⟩
        · skip
          refine hj70 _ _ _ _ ?_
          · refine and_5 ?_ (fun o9 => trivial)  -- k49
            clear h; exact ⟨rfl, rfl, rfl, Or.inl rfl, fun _ => ⟨fun _ => c83, fun e => absurd e c82, fun lt => absurd lt (Int32.not_lt.mpr c81), (q79.2.mp c80).2⟩⟩
        · skip
          refine hj70 _ _ _ _ ?_
          · refine and_5 ?_ (fun o9 => trivial)  -- k50
            clear h; exact ⟨rfl, rfl, rfl, Or.inr (by decide), fun z => absurd z (by decide)⟩
      · skip
        refine ⟨fun c84 => ?_, fun c84 => ?_⟩
        · skip
          refine hj70 _ _ _ _ ?_
          · refine and_5 ?_ (fun o9 => trivial)  -- k51
            clear h; exact ⟨rfl, rfl, rfl, Or.inr (by decide), fun z => absurd z (by decide)⟩
        · skip
          refine hj70 _ _ _ _ ?_
          · refine and_5 ?_ (fun o9 => trivial)  -- k52
            clear h; exact ⟨rfl, rfl, rfl, Or.inl rfl, fun _ => ⟨fun e => absurd (c82.symm.trans e) (by decide), fun _ => c84, fun lt => absurd lt (Int32.not_lt.mpr c81), (q79.2.mp c80).2⟩⟩
    · skip
      refine ⟨fun c85 => ?_, fun c85 => ?_⟩
      · skip
        refine hj70 _ _ _ _ ?_
        · refine and_5 ?_ (fun o9 => trivial)  -- k53
          clear h; exact ⟨rfl, rfl, rfl, Or.inr (by decide), fun z => absurd z (by decide)⟩
      · skip
        refine hj70 _ _ _ _ ?_
        · refine and_5 ?_ (fun o9 => trivial)  -- k54
          clear h; exact ⟨rfl, rfl, rfl, Or.inl rfl, fun _ => ⟨fun e => absurd (by rw [e]; decide) c81, fun e => absurd (by rw [e]; decide) c81, fun _ => c85, (q79.2.mp c80).2⟩⟩
  · skip
    refine hj70 _ _ _ _ ?_
    · refine and_5 ?_ (fun o9 => trivial)  -- k55
      clear h; exact ⟨rfl, rfl, rfl, Or.inr (by decide), fun z => absurd z (by decide)⟩

end
section
set_option maxHeartbeats 1600000
/-! the reference: show, all that is said of it together -/
theorem mk_n16 {w : Int} {T : Nat} (h : 0 ≤ w) : 0 ≤ mkRat w T := by
  by_cases z : T = 0
  · rw [z, mk_d]
    have e : ((0 : Nat) : Rat)⁻¹ = 0 := by first | exact Rat.inv_zero | rfl
    rw [e, Rat.mul_zero]
    exact Rat.le_refl
  · exact mk_nn (Nat.pos_of_ne_zero z) h
theorem sw_n16 {σ : rS} (h : pOK σ) : 0 ≤ swQ σ 6 0 0 ∧ 0 ≤ swQ σ 7 0 0 := by
  have key : ∀ how : Int32, 0 ≤ swQ σ how 0 0 := fun how => by
    have a : 0 ≤ swS σ how 0 0 (σ.1 70).toNatClampNeg := smQ_nn (fun k hk => smQ_nn (fun d hd => by
      unfold trm
      refine Rat.mul_nonneg ?_ (mk_n16 (Int.mul_nonneg ?_ ?_))
      · split
        · exact Rat.le_refl
        · unfold fV
          exact mk_n16 (Int.natCast_nonneg _)
      · have w := (st_z8 h.1 (x := k) hk).1 (loN σ k + d) (Nat.le_add_right _ _) (by unfold leN at hd; omega)
        rw [lei, t1i] at w
        unfold twI
        split
        · omega
        · split <;> decide
      · unfold byI
        split
        · exact Int.le_refl 0
        · rw [if_pos rfl]; decide))
    have b : 0 ≤ alQ σ how 0 0 := by
      unfold alQ
      split
      · rw [if_pos rfl]; decide
      · exact Rat.le_refl
    have c : 0 ≤ opQ σ how := by
      unfold opQ
      split
      · decide
      · exact Rat.le_refl
    exact Rat.add_nonneg (Rat.add_nonneg a b) c
  exact ⟨key 6, key 7⟩
/-- what show leaves -/
def XS16h (k c : Int32) (σ σ' : rS) (v : Int32) : Prop := σ'.1 0 = cc16 σ k c ∧ (cc16 σ k c = 0 → XW16 σ σ' v (shR16 σ k c)) ∧ (cc16 σ k c ≠ 0 → kX16 σ σ')
theorem numO_e16 {σ τ : rS} (h90 : τ.2.2.1 90 = σ.2.2.1 90) (h91 : τ.2.2.1 91 = σ.2.2.1 91) : ∀ k, 15 ≤ k → k ≤ 16 → τ.2.2.1 91 k = σ.2.2.1 91 k ∧ ∀ i, i < 40000 → τ.2.2.1 90 (40000 * k + i) = σ.2.2.1 90 (40000 * k + i) := fun k _ _ => ⟨by rw [h91], fun i _ => by rw [h90]⟩
theorem show_g16 {C : rCx} (hC : cOK C) (s : Nat) {σ : rS} {a1 : Int32} {a2 : Int32} {Q : Int32 → rS → Prop} (hp : pOK σ ∧ s = (σ.1 70).toNatClampNeg ∧ (σ.1 94 ≠ 0 → ∀ k, k < s → vOK σ k) ∧ (σ.1 114 ≠ 0 → ∀ k, k < s → wkO σ 115 116 k) ∧ plN σ ∧ shO σ) (h : ∀ (v : Int32) (σ' : rS), ((frT shF shL σ σ' ∧ shO σ') ∧ XS16h a1 a2 σ σ' v) → Q v σ') : cI C 8 m_show [.ref (co C), .int a1, .int a2] σ Q := by
  obtain ⟨v, σ', r, q, σ2, g, hf, hr⟩ := cI_d8 hC (show_g5 (a1 := a1) (a2 := a2) (Q := fun v σ' => (frT shF shL σ σ' ∧ shO σ') ∧ (σ'.1 0 = cc16 σ a1 a2 ∧ (cc16 σ a1 a2 = 0 → XW16 σ σ' v (shR16 σ a1 a2)))) hC s (sw_n16 hp.1) hp (fun v σ' q => q)) (show_n16 (a1 := a1) (a2 := a2) (Q := fun _ σ' => ¬ σ'.1 0 ≤ 0 → kX16 σ σ') hC s hp (fun v σ' q => q.2))
  refine ⟨v, σ', r, h v σ' ⟨q.1, q.2.1, q.2.2, fun z => ?_⟩⟩
  have e0 := q.2.1
  have x := g (by
    rw [← hf 0 (by decide) (by decide +kernel) (by decide) (by decide), e0]
    intro y
    exact z (cc_n16 y))
  have r90 := hr 90 0 1200000 (by decide +kernel) (by decide)
  have r91 := hr 91 0 30 (by decide +kernel) (by decide)
  refine ⟨(hf 103 (by decide) (by decide +kernel) (by decide) (by decide)).trans x.1, fun k a b => ?_⟩
  rw [r90, r91]
  exact x.2 k a b

end
section
set_option maxHeartbeats 1600000
/-! how many words of 32 bits a number has -/
def wd17 (N w : Nat) : Prop := N < 2 ^ (32 * w) ∧ (0 < w → 2 ^ (32 * (w - 1)) ≤ N)
theorem wd_u17 {N w w' : Nat} (h : wd17 N w) (g : wd17 N w') : w = w' := by
  rcases Nat.lt_trichotomy w w' with c | c | c
  · have a := g.2 (by omega)
    have b := Nat.pow_le_pow_right (show 0 < 2 by decide) (show 32 * w ≤ 32 * (w' - 1) by omega)
    have := h.1
    omega
  · exact c
  · have a := h.2 (by omega)
    have b := Nat.pow_le_pow_right (show 0 < 2 by decide) (show 32 * w' ≤ 32 * (w - 1) by omega)
    have := g.1
    omega
theorem wd_c17 {N v : Nat} (h1 : N < 2 ^ v) (h2 : 0 < N → 1 ≤ v ∧ 2 ^ (v - 1) ≤ N) (h0 : N = 0 → v = 0) : wd17 N ((v + 31) / 32) := by
  refine ⟨Nat.lt_of_lt_of_le h1 (Nat.pow_le_pow_right (by decide) (by omega)), fun z => ?_⟩
  have n0 : 0 < N := by
    rcases Nat.eq_zero_or_pos N with c | c
    · have := h0 c
      omega
    · exact c
  exact Nat.le_trans (Nat.pow_le_pow_right (by decide) (by omega)) (h2 n0).2
theorem p16_17 (L : Nat) : 65536 ^ L = 2 ^ (16 * L) := by
  rw [show 65536 = 2 ^ 16 from rfl, ← Nat.pow_mul]
theorem wd_r17 {V L : Nat} (h1 : V < 65536 ^ L) (h2 : 0 < L → 65536 ^ (L - 1) ≤ V) : wd17 V ((L + 1) / 2) := by
  rw [p16_17] at h1
  refine ⟨Nat.lt_of_lt_of_le h1 (Nat.pow_le_pow_right (by decide) (by omega)), fun z => ?_⟩
  have a := h2 (by omega)
  rw [p16_17] at a
  exact Nat.le_trans (Nat.pow_le_pow_right (by decide) (by omega)) a
/-- of the reference's numbers -/
theorem wd_n17 {σ : rS} {k : Nat} (h : numO σ k) : wd17 (nV σ k) ((nL σ k + 1) / 2) := by
  obtain ⟨_, _, c, d⟩ := h
  refine wd_r17 (dv_lt c) (fun z => ?_)
  rcases d with d | ⟨m, m1, m2⟩
  · omega
  · unfold nV
    rw [m1, Nat.add_sub_cancel]
    exact dv_ge m2

end
section
set_option maxHeartbeats 1600000
/-! the reference: how many words -/
def nw17 (σ : rS) (p : Int32) : Nat := if σ.1 103 = 0 then p.toNatClampNeg else (nL σ (15 + p.toNatClampNeg) + 1) / 2
theorem hf17 {x : Int32} (h0 : 0 ≤ x) (h1 : x ≤ 40000) : ((x + 1) / 2).toInt = (((x.toNatClampNeg + 1) / 2 : Nat) : Int) := by
  rw [lei, t0i] at h0
  rw [lei, show (40000 : Int32).toInt = 40000 from rfl] at h1
  have c := cnk h0
  have t2 : (2 : Int32).toInt = 2 := rfl
  have e : (x + 1).toInt = x.toInt + 1 := by rw [add_i (by rw [t1i]; omega) (by rw [t1i]; omega), t1i]
  rw [div_i (by rw [e]; omega) (by decide), e, t2]
  omega
theorem nw_k17 {σ τ : rS} {p : Int32} (h : τ.1 103 = σ.1 103) (h2 : τ.2.2.1 91 = σ.2.2.1 91) : nw17 τ p = nw17 σ p := by
  unfold nw17 nL
  rw [h, h2]
theorem numbersOf_g5 {C : rCx} (hC : cOK C)  {σ : rS} {a1 : Int32} {Q : Int32 → rS → Prop} (hp : 0 ≤ a1 ∧ a1 ≤ 1 ∧ shO σ) (h : ∀ (v : Int32), ((σ.1 103 ≠ 0 → v ≤ 20000) ∧ (v.toInt = (nw17 σ a1 : Int))) → Q v σ) : cI C 0 m_numbersOf [.ref (co C), .int a1] σ Q := by
  refine m_numbersOf_run hC ?_
  unfold w_numbersOf_0
  obtain ⟨h0, h1, hh⟩ := hp
  have e := i01 h0 h1
  refine ⟨fun c1 => ?_, fun c1 => ?_⟩
  · skip
    refine ⟨ib_30.mpr ?_, ?_⟩
    · clear h; exact b01 e  -- b1
    refine h _ ?_
    · refine and_5 ?_ (fun o9 => ?_)  -- q2
      · clear h; have z := hh c1
        intro _
        rcases e with e | e
        · rw [e]; exact half z.1.1 z.1.2.1
        · rw [e]; exact half z.2.1 z.2.2.1
      · clear o9
        have z := hh c1
        unfold nw17
        rw [if_neg c1]
        rcases e with e | e
        · rw [e]
          exact hf17 z.1.1 z.1.2.1
        · rw [e]
          exact hf17 z.2.1 z.2.2.1
  · skip
    refine h _ ?_
    · refine and_5 ?_ (fun o9 => ?_)  -- q3
      · clear h; exact fun z => absurd c1 z
      · clear o9
        unfold nw17
        rw [if_pos c1]
        rw [lei, t0i] at h0
        exact (cnk h0).symm

theorem size_g5 {C : rCx} (hC : cOK C)  {σ : rS} {a1 : Int32} {Q : Int32 → rS → Prop} (hp : shO σ) (h : ∀ (v : Int32) (σ' : rS), ((frT [0] [] σ σ') ∧ ((¬ (0 ≤ a1 ∧ a1 ≤ 1) → σ'.1 0 = 1) ∧ (0 ≤ a1 ∧ a1 ≤ 1 → σ'.1 0 = 0 ∧ v.toInt = (nw17 σ a1 : Int)))) → Q v σ') : cI C 1 m_size [.ref (co C), .int a1] σ Q := by
  refine m_size_run hC ?_
  unfold w_size_0
  have hh := hp
  have hj15 : ∀ (l1 : Int32) (s1 : Int32) (τ : rS), ((l1 = a1 ∧ τ = σ ∧ (s1 ≤ 0 → 0 ≤ a1 ∧ a1 ≤ 1)) ∧ ((s1 = 0 ∧ (0 ≤ a1 ∧ a1 ≤ 1)) ∨ (s1 = 1 ∧ ¬ (0 ≤ a1 ∧ a1 ≤ 1)))) → w_size_15 C Q  l1 s1 τ := by
    rintro y15_1 y15_s1 τ15 ⟨j15, hE⟩
    unfold w_size_15
    intro σ_1 hσ_1
    obtain ⟨y1, y2, y3⟩ := j15
    have F : frT [0] [] σ σ_1 := by rw [hσ_1, y2]; exact frT_0 (by decide)
    rw [y1]
    refine ⟨fun c2 => ?_, fun c2 => ?_⟩
    · skip
      refine numbersOf_g5 hC  ?_ (fun r3 q5 => ?_)
      · clear h; have c := y3 (by rw [hσ_1] at c2; exact c2)
        exact ⟨c.1, c.2, by rw [hσ_1, y2]; exact shO_0 hh⟩
      obtain ⟨q5, z9⟩ := q5
      refine h _ _ ?_
      · refine and_5 ?_ (fun o9 => ?_)  -- q2
        · clear h; exact F
        · clear o9
          have e0 : σ_1.1 0 = y15_s1 := by rw [hσ_1, si1, if_pos rfl]
          rcases hE with ⟨s0, b⟩ | ⟨s0, b⟩
          · refine ⟨fun n => absurd b n, fun _ => ⟨e0.trans s0, ?_⟩⟩
            rw [z9, nw_k17 (σ := σ) (by rw [hσ_1, si1, if_neg (by decide), y2]) (by rw [hσ_1, y2]; rfl)]
          · rw [e0, s0] at c2
            exact absurd c2 (by decide)
    · skip
      refine h _ _ ?_
      · refine and_5 ?_ (fun o9 => ?_)  -- q3
        · clear h; exact F
        · clear o9
          have e0 : σ_1.1 0 = y15_s1 := by rw [hσ_1, si1, if_pos rfl]
          rcases hE with ⟨s0, b⟩ | ⟨s0, b⟩
          · rw [e0, s0] at c2
            exact absurd (by decide) c2
          · exact ⟨fun _ => e0.trans s0, fun n => absurd n b⟩
  refine within_c hC  (fun r6 q8 => ?_)
  refine ⟨fun c9 => ?_, fun c9 => ?_⟩
  · skip
    refine hj15 _ _ _ ?_
    · refine and_5 ?_ (fun o9 => Or.inr ⟨rfl, fun z => (q8.2.mpr z) c9⟩)  -- k4
      clear h; exact ⟨rfl, rfl, fun z => absurd z (by decide)⟩
  · skip
    refine hj15 _ _ _ ?_
    · refine and_5 ?_ (fun o9 => Or.inl ⟨rfl, q8.2.mp c9⟩)  -- k5
      clear h; exact ⟨rfl, rfl, fun _ => q8.2.mp c9⟩

end
section
set_option maxHeartbeats 1600000
/-! size, by what it answers -/
def zc17 (_σ : rS) (p : Int32) : Prop := 0 ≤ p ∧ p ≤ 1
def zv17 (σ : rS) (p : Int32) : Int32 := Int32.ofInt (nw17 σ p : Int)
def XZ17 (p : Int32) (σ σ' : rS) (v : Int32) : Prop := (zc17 σ p ∧ σ'.1 0 = 0 ∧ v = zv17 σ p) ∨ (¬ zc17 σ p ∧ σ'.1 0 = 1)
theorem zv_17 {σ : rS} {p v : Int32} (h : v.toInt = (nw17 σ p : Int)) : v = zv17 σ p := by
  unfold zv17
  rw [← h]
  exact (Int32.ofInt_toInt v).symm
theorem xz_17 {σ σ' : rS} {p v : Int32} (h : (¬ (0 ≤ p ∧ p ≤ 1) → σ'.1 0 = 1) ∧ (0 ≤ p ∧ p ≤ 1 → σ'.1 0 = 0 ∧ v.toInt = (nw17 σ p : Int))) : XZ17 p σ σ' v := by
  by_cases c : 0 ≤ p ∧ p ≤ 1
  · exact Or.inl ⟨c, (h.2 c).1, zv_17 (h.2 c).2⟩
  · exact Or.inr ⟨c, h.1 c⟩

end
section
set_option maxHeartbeats 1600000
/-! a word of 32 bits of a number -/
theorem oi_18 {x y : Int} (h : x % 4294967296 = y % 4294967296) : Int32.ofInt x = Int32.ofInt y := by
  refine Int32.toInt_inj.mp ?_
  rw [Int32.toInt_ofInt, Int32.toInt_ofInt]
  have h' : x % ((4294967296 : Nat) : Int) = y % ((4294967296 : Nat) : Int) := h
  show x.bmod 4294967296 = y.bmod 4294967296
  rw [← Int.emod_bmod, h', Int.emod_bmod]
def lw18 (N i : Nat) : Int32 := Int32.ofInt ((N / 2 ^ (32 * i) : Nat) : Int)
theorem bn_18 {x : Int32} (h : 0 ≤ x.toInt) : x.toBitVec.toNat = x.toNatClampNeg := by
  have k := cnk h
  have e : x.toInt = x.toBitVec.toInt := rfl
  rw [BitVec.toInt_eq_toNat_cond] at e
  have l := x.toBitVec.isLt
  split at e <;> omega
theorem or_18 {a b : Int32} (ha : 0 ≤ a.toInt ∧ a.toInt < 65536) (hb : 0 ≤ b.toInt ∧ b.toInt < 65536) : ((b <<< ((16 : Int32) &&& 31)) ||| a) = Int32.ofInt ((a.toNatClampNeg + 65536 * b.toNatClampNeg : Nat) : Int) := by
  have ka := cnk ha.1
  have kb := cnk hb.1
  have q : (((16 : Int32) &&& 31).toBitVec.smod 32).toNat = 16 := by decide +kernel
  refine Int32.toBitVec_inj.mp (BitVec.eq_of_toNat_eq ?_)
  rw [Int32.toBitVec_or, BitVec.toNat_or, Int32.toBitVec_shiftLeft, BitVec.shiftLeft_eq', q, BitVec.toNat_shiftLeft, bn_18 ha.1, bn_18 hb.1, Int32.toBitVec_ofInt, BitVec.ofInt_natCast, BitVec.toNat_ofNat]
  have e1 : b.toNatClampNeg <<< 16 % 2 ^ 32 = b.toNatClampNeg <<< 16 := by
    rw [Nat.shiftLeft_eq]
    exact Nat.mod_eq_of_lt (by omega)
  rw [e1, ← Nat.shiftLeft_add_eq_or_of_lt (by omega : a.toNatClampNeg < 2 ^ 16), Nat.shiftLeft_eq]
  omega
theorem ar_18 {A P d0 d1 T : Nat} : A + d0 * P + d1 * (P * 65536) + P * 65536 * 65536 * T = A + P * (d0 + 65536 * d1 + 4294967296 * T) := by
  have h1 : d1 * (P * 65536) = P * (65536 * d1) := by rw [Nat.mul_comm d1, Nat.mul_assoc]
  have h2 : P * 65536 * 65536 * T = P * (4294967296 * T) := by rw [Nat.mul_assoc P, Nat.mul_assoc P]
  rw [Nat.mul_add, Nat.mul_add, h1, h2, Nat.mul_comm d0]
  omega
theorem dm_18 {f : Nat → Int32} {o L : Nat} (h : dgO f o L) (i : Nat) : ∃ T, dv f o L / 2 ^ (32 * i) = (if 2 * i < L then (f (o + 2 * i)).toNatClampNeg else 0) + 65536 * (if 2 * i + 1 < L then (f (o + (2 * i + 1))).toNatClampNeg else 0) + 4294967296 * T := by
  have e1 := dv_min (f := f) (o := o) (L := L) (k := 2 * i)
  have e2 := dv_min (f := f) (o := o) (L := L) (k := 2 * i + 1)
  have lt : dv f o (min (2 * i) L) < 65536 ^ (2 * i) := Nat.lt_of_lt_of_le (dv_lt (fun j hj => h j (by omega))) (Nat.pow_le_pow_right (by decide) (by omega))
  have T : ∃ T, dv f o L = dv f o (min (2 * i + 1 + 1) L) + 65536 ^ (2 * i + 1 + 1) * T := by
    by_cases c : L ≤ 2 * i + 1 + 1
    · exact ⟨0, by rw [Nat.min_eq_right c, Nat.mul_zero, Nat.add_zero]⟩
    · refine ⟨dv f (o + (2 * i + 1 + 1)) (L - (2 * i + 1 + 1)), ?_⟩
      rw [Nat.min_eq_left (by omega), ← dv_add, Nat.add_sub_cancel' (by omega)]
  obtain ⟨T, hT⟩ := T
  refine ⟨T, ?_⟩
  have p : 0 < 65536 ^ (2 * i) := Nat.pow_pos (by decide)
  have ep : 2 ^ (32 * i) = 65536 ^ (2 * i) := by
    rw [p16_17]
    congr 1
    omega
  have i1 : (if 2 * i < L then (f (o + 2 * i)).toNatClampNeg * 65536 ^ (2 * i) else 0) = (if 2 * i < L then (f (o + 2 * i)).toNatClampNeg else 0) * 65536 ^ (2 * i) := by
    split
    · rfl
    · rw [Nat.zero_mul]
  have i2 : (if 2 * i + 1 < L then (f (o + (2 * i + 1))).toNatClampNeg * 65536 ^ (2 * i + 1) else 0) = (if 2 * i + 1 < L then (f (o + (2 * i + 1))).toNatClampNeg else 0) * 65536 ^ (2 * i + 1) := by
    split
    · rfl
    · rw [Nat.zero_mul]
  have s1 : 65536 ^ (2 * i + 1) = 65536 ^ (2 * i) * 65536 := Nat.pow_succ _ _
  have s2 : 65536 ^ (2 * i + 1 + 1) = 65536 ^ (2 * i) * 65536 * 65536 := by rw [Nat.pow_succ, Nat.pow_succ]
  rw [ep, hT, e2, e1, i1, i2, s1, s2, ar_18, Nat.add_mul_div_left _ _ p, Nat.div_eq_of_lt lt, Nat.zero_add]
/-- limb, by what it answers -/
def lc18 (σ : rS) (p i : Int32) : Prop := (0 ≤ p ∧ p ≤ 1) ∧ 0 ≤ i ∧ i.toInt < (nw17 σ p : Int)
def lv18 (σ : rS) (p i : Int32) : Int32 := if σ.1 103 = 0 then 1 else lw18 (nV σ (15 + p.toNatClampNeg)) i.toNatClampNeg
def XL18 (p i : Int32) (σ σ' : rS) (v : Int32) : Prop := (lc18 σ p i ∧ σ'.1 0 = 0 ∧ v = lv18 σ p i) ∨ (¬ lc18 σ p i ∧ σ'.1 0 = 1)
theorem xl_18 {σ σ' : rS} {p i v : Int32} (h : (¬ lc18 σ p i → σ'.1 0 = 1) ∧ (lc18 σ p i → σ'.1 0 = 0 ∧ v = lv18 σ p i)) : XL18 p i σ σ' v := by
  by_cases c : lc18 σ p i
  · exact Or.inl ⟨c, (h.2 c).1, (h.2 c).2⟩
  · exact Or.inr ⟨c, h.1 c⟩
/-- where a word's two parts stand -/
theorem at_18 {p i v : Int32} (hp : 0 ≤ p ∧ p ≤ 1) (h0 : 0 ≤ i) (h1 : i < 20000) (hv : v = 40000 * (15 + p) + 2 * i) : v.toInt = 40000 * (15 + p.toInt) + 2 * i.toInt ∧ (v + 1).toInt = v.toInt + 1 ∧ ((2 : Int32) * i + 1).toInt = 2 * i.toInt + 1 ∧ ((15 : Int32) + p).toInt = 15 + p.toInt := by
  obtain ⟨p0, p1⟩ := hp
  have l1 : (20000 : Int32).toInt = 20000 := rfl
  have l2 : (40000 : Int32).toInt = 40000 := rfl
  have l3 : (15 : Int32).toInt = 15 := rfl
  have l4 : (2 : Int32).toInt = 2 := rfl
  rw [lei, t0i] at p0 h0
  rw [lei, t1i] at p1
  rw [lti, l1] at h1
  have a1 : ((15 : Int32) + p).toInt = 15 + p.toInt := by rw [add_i (by rw [l3]; omega) (by rw [l3]; omega), l3]
  have a2 : ((40000 : Int32) * (15 + p)).toInt = 40000 * (15 + p.toInt) := by rw [mul_i (by rw [l2, a1]; omega) (by rw [l2, a1]; omega), l2, a1]
  have a3 : ((2 : Int32) * i).toInt = 2 * i.toInt := by rw [mul_i (by rw [l4]; omega) (by rw [l4]; omega), l4]
  have a4 : v.toInt = 40000 * (15 + p.toInt) + 2 * i.toInt := by rw [hv, add_i (by rw [a2, a3]; omega) (by rw [a2, a3]; omega), a2, a3]
  refine ⟨a4, ?_, ?_, a1⟩
  · rw [add_i (by rw [t1i, a4]; omega) (by rw [t1i, a4]; omega), t1i]
  · rw [add_i (by rw [t1i, a3]; omega) (by rw [t1i, a3]; omega), t1i, a3]

end
section
set_option maxHeartbeats 1600000
/-! the reference: limb -/
theorem lb_18 {C : rCx} {σ σ1 : rS} {a1 a2 : Int32} {Q : Int32 → rS → Prop} (hp : numO σ (15 + a1.toNatClampNeg)) (er : σ1.2.2 = σ.2.2) (lc : lc18 σ a1 a2) (n103 : ¬ σ.1 103 = 0) (k : Q (lv18 σ a1 a2) σ1) : ∀ v3 : Int32, v3 = 40000 * (15 + a1) + 2 * a2 → inb (15 + a1) 30 ∧ (σ1.2.2.1 91 (15 + a1).toNatClampNeg ≤ 2 * a2 + 1 → w_limb_91 C Q v3 0 σ1) ∧ (¬ σ1.2.2.1 91 (15 + a1).toNatClampNeg ≤ 2 * a2 + 1 → inb (v3 + 1) 1200000 ∧ w_limb_91 C Q v3 (σ1.2.2.1 90 (v3 + 1).toNatClampNeg) σ1) := by
  intro v3 hv3
  obtain ⟨⟨p0, p1⟩, i0, i1⟩ := lc
  unfold nw17 at i1
  rw [if_neg n103] at i1
  have P0 := p0
  have P1 := p1
  have I0 := i0
  rw [lei, t0i] at p0 i0
  rw [lei, t1i] at p1
  have kp := cnk p0
  have ki := cnk i0
  have l40 : (40000 : Int32).toInt = 40000 := rfl
  have nl := hp.2.1
  have nz := hp.1
  rw [lei, l40] at nl
  rw [lei, t0i] at nz
  have kl := cnk nz
  have eL : nL σ (15 + a1.toNatClampNeg) = (σ.2.2.1 91 (15 + a1.toNatClampNeg)).toNatClampNeg := rfl
  have i2 : a2.toInt < 20000 := by omega
  have l20 : (20000 : Int32).toInt = 20000 := rfl
  obtain ⟨e3, e4, e5, e6⟩ := at_18 ⟨P0, P1⟩ I0 (by rw [lti, l20]; exact i2) hv3
  have k3 := cnk (x := v3) (by omega)
  have k4 := cnk (x := v3 + 1) (by omega)
  have k6 := cnk (x := (15 : Int32) + a1) (by omega)
  have n6 : ((15 : Int32) + a1).toNatClampNeg = 15 + a1.toNatClampNeg := by omega
  have n3 : v3.toNatClampNeg = 40000 * (15 + a1.toNatClampNeg) + 2 * a2.toNatClampNeg := by omega
  have n4 : (v3 + 1).toNatClampNeg = 40000 * (15 + a1.toNatClampNeg) + (2 * a2.toNatClampNeg + 1) := by omega
  obtain ⟨T, hT⟩ := dm_18 hp.2.2.1 a2.toNatClampNeg
  have lo : 2 * a2.toNatClampNeg < nL σ (15 + a1.toNatClampNeg) := by omega
  have d65 : (65536 : Int32).toInt = 65536 := rfl
  have dg : ∀ j, j < nL σ (15 + a1.toNatClampNeg) → 0 ≤ (σ.2.2.1 90 (40000 * (15 + a1.toNatClampNeg) + j)).toInt ∧ (σ.2.2.1 90 (40000 * (15 + a1.toNatClampNeg) + j)).toInt < 65536 := fun j hj => by
    have y := hp.2.2.1 j hj
    rw [lei, lti, t0i, d65] at y
    exact y
  have z0 : 0 ≤ (0 : Int32).toInt ∧ (0 : Int32).toInt < 65536 := by decide
  have z1 : (0 : Int32).toNatClampNeg = 0 := rfl
  have i1200 : (1200000 : Int32).toInt = 1200000 := rfl
  have i30 : (30 : Int32).toInt = 30 := rfl
  have val : lv18 σ a1 a2 = Int32.ofInt ((nV σ (15 + a1.toNatClampNeg) / 2 ^ (32 * a2.toNatClampNeg) : Nat) : Int) := if_neg n103
  have eq : ∀ s0 : Int32, (0 ≤ s0.toInt ∧ s0.toInt < 65536) → s0.toNatClampNeg = (if 2 * a2.toNatClampNeg + 1 < nL σ (15 + a1.toNatClampNeg) then (σ.2.2.1 90 (40000 * (15 + a1.toNatClampNeg) + (2 * a2.toNatClampNeg + 1))).toNatClampNeg else 0) → w_limb_91 C Q v3 s0 σ1 := fun s0 h1 h2 => by
    unfold w_limb_91
    refine ⟨ib_1200000.mpr ⟨by rw [lei, t0i]; omega, by rw [lti, i1200]; omega⟩, ?_⟩
    rw [er, n3, or_18 (dg _ lo) h1]
    have e : Int32.ofInt (((σ.2.2.1 90 (40000 * (15 + a1.toNatClampNeg) + 2 * a2.toNatClampNeg)).toNatClampNeg + 65536 * s0.toNatClampNeg : Nat) : Int) = lv18 σ a1 a2 := by
      rw [val]
      refine oi_18 ?_
      have hT' : nV σ (15 + a1.toNatClampNeg) / 2 ^ (32 * a2.toNatClampNeg) = _ := hT
      rw [hT', if_pos lo, ← h2]
      omega
    rw [e]
    exact k
  refine ⟨ib_30.mpr ⟨by rw [lei, t0i]; omega, by rw [lti, i30]; omega⟩, fun c => eq _ z0 ?_, fun c => ⟨ib_1200000.mpr ⟨by rw [lei, t0i]; omega, by rw [lti, i1200]; omega⟩, ?_⟩⟩
  · rw [er, n6, lei, e5] at c
    rw [z1, if_neg (by omega)]
  · rw [er, n6, lei, e5] at c
    rw [er, n4]
    exact eq _ (dg _ (by omega)) (by rw [if_pos (by omega)])
theorem limb_g5 {C : rCx} (hC : cOK C) {σ : rS} {a1 a2 : Int32} {Q : Int32 → rS → Prop} (hp : shO σ) (h : ∀ (v : Int32) (σ' : rS), (frT [0] [] σ σ' ∧ ((¬ lc18 σ a1 a2 → σ'.1 0 = 1) ∧ (lc18 σ a1 a2 → σ'.1 0 = 0 ∧ v = lv18 σ a1 a2))) → Q v σ') : cI C 1 m_limb [.ref (co C), .int a1, .int a2] σ Q := by
  refine m_limb_run hC ?_
  unfold w_limb_0
  have hj28 : ∀ (s1 : Int32), ((s1 = 0 ∧ lc18 σ a1 a2) ∨ (s1 = 1 ∧ ¬ lc18 σ a1 a2)) → w_limb_28 C Q a1 a2 s1 σ := by
    intro s1 hs
    unfold w_limb_28
    intro σ1 e1
    have F : frT [0] [] σ σ1 := by rw [e1]; exact frT_0 (by decide)
    have e0 : σ1.1 0 = s1 := by rw [e1, si1, if_pos rfl]
    have e103 : σ1.1 103 = σ.1 103 := by rw [e1, si1, if_neg (by decide)]
    have er : σ1.2.2 = σ.2.2 := by rw [e1, si2]
    have key : σ1.1 0 ≤ 0 → lc18 σ a1 a2 ∧ σ1.1 0 = 0 := fun c2 => by
      rcases hs with z | z
      · exact ⟨z.2, e0.trans z.1⟩
      · rw [e0, z.1] at c2
        exact absurd c2 (by decide)
    refine ⟨fun c2 => ⟨fun c3 => ?_, fun c3 => ?_⟩, fun c2 => ?_⟩
    · obtain ⟨lc, c0⟩ := key c2
      rw [e103] at c3
      have nO : numO σ (15 + a1.toNatClampNeg) := by
        have z := hp c3
        have p0 := lc.1.1
        have p1 := lc.1.2
        rw [lei, t0i] at p0
        rw [lei, t1i] at p1
        have kp := cnk p0
        have e : a1.toNatClampNeg = 0 ∨ a1.toNatClampNeg = 1 := by omega
        rcases e with e | e <;> rw [e]
        · exact z.1
        · exact z.2
      exact lb_18 nO er lc c3 (h _ _ ⟨F, fun n => absurd lc n, fun _ => ⟨c0, rfl⟩⟩)
    · obtain ⟨lc, c0⟩ := key c2
      refine h _ _ ⟨F, fun n => absurd lc n, fun _ => ⟨c0, ?_⟩⟩
      unfold lv18
      rw [if_pos (e103.symm.trans c3)]
    · rcases hs with z | z
      · rw [e0, z.1] at c2
        exact absurd (by decide) c2
      · exact h _ _ ⟨F, fun _ => e0.trans z.1, fun n => absurd n z.2⟩
  refine within_c hC (fun r6 q8 => ?_)
  refine ⟨fun c9 => hj28 _ (Or.inr ⟨rfl, fun z => (q8.2.mpr z.1) c9⟩), fun c9 => ⟨fun c10 => hj28 _ (Or.inr ⟨rfl, fun z => absurd c10 (Int32.not_lt.mpr z.2.1)⟩), fun c10 => ?_⟩⟩
  refine numbersOf_g5 hC ⟨(q8.2.mp c9).1, (q8.2.mp c9).2, hp⟩ (fun r11 q13 => ?_)
  have e11 : r11.toInt = (nw17 σ a1 : Int) := q13.2
  refine ⟨fun c14 => hj28 _ (Or.inl ⟨rfl, q8.2.mp c9, Int32.not_lt.mp c10, ?_⟩), fun c14 => hj28 _ (Or.inr ⟨rfl, fun z => c14 ?_⟩)⟩
  · rw [lti] at c14
    omega
  · rw [lti]
    have := z.2.2
    omega

end
section
set_option maxHeartbeats 1600000
/-! what is seen of the tape and of the last fault, on both sides: bytes below the length, the length, the fault -/
abbrev Ob9 : Type := (Nat → Int32) × Int32 × Int32
def mkO9 (f : Nat → Int32) (n x : Int32) : Ob9 := (fun j => if j < n.toInt.toNat then f j else 0, n, x)
def oR9 (σ : rS) : Ob9 := mkO9 (σ.2.2.1 1) (σ.1 2) (σ.1 53)
theorem oR_k9 {σ τ : rS} (h2 : τ.1 2 = σ.1 2) (h53 : τ.1 53 = σ.1 53) (h1 : τ.2.2.1 1 = σ.2.2.1 1) : oR9 τ = oR9 σ := by
  unfold oR9
  rw [h2, h53, h1]
/-- end -/
def trO9 (w : Ob9) (m : Int32) : Ob9 := if 0 ≤ m ∧ m ≤ w.2.1 then mkO9 w.1 m w.2.2 else w
theorem tr_m9 {f : Nat → Int32} {n x m : Int32} (h : 0 ≤ m ∧ m ≤ n) : trO9 (mkO9 f n x) m = mkO9 f m x := by
  unfold trO9
  rw [if_pos (show 0 ≤ m ∧ m ≤ (mkO9 f n x).2.1 from h)]
  refine Prod.ext (funext fun j => ?_) rfl
  show (if j < m.toInt.toNat then (if j < n.toInt.toNat then f j else 0) else 0) = if j < m.toInt.toNat then f j else 0
  by_cases c : j < m.toInt.toNat
  · have z := h.2
    rw [lei] at z
    rw [if_pos c, if_pos c, if_pos (by omega)]
  · rw [if_neg c, if_neg c]
theorem tr_n9 {f : Nat → Int32} {n x m : Int32} (h : ¬ (0 ≤ m ∧ m ≤ n)) : trO9 (mkO9 f n x) m = mkO9 f n x := if_neg h
/-- a byte of a word -/
def bw9 (w : Int32) (i : Nat) : Int32 := vp_nar .byte (Int8.toInt32 (Int32.toInt8 (w >>> (((24 : Int32) - 8 * Int32.ofNat i) &&& 31))))
def vs9 (a b c d e : Int32) (i : Nat) : Int32 := if i < 4 then a else if i < 8 then b else if i < 12 then c else if i < 16 then d else e
def by9 (a b c d e : Int32) (i : Nat) : Int32 := bw9 (vs9 a b c d e i) (i % 4)
/-- feed -/
def fdO9 (w : Ob9) (G : Nat → Int32) : Ob9 := (fun j => if j < w.2.1.toInt.toNat then w.1 j else if j < w.2.1.toInt.toNat + 20 then G (j - w.2.1.toInt.toNat) else 0, w.2.1 + 20, w.2.2)
theorem fd_m9 {f f' G : Nat → Int32} {n n' x : Int32} (h0 : 0 ≤ n.toInt) (h60 : n.toInt ≤ 60000) (hn : n' = n + 20) (h1 : ∀ j, j < n.toInt.toNat → f' j = f j) (h2 : ∀ i, i < 20 → f' (n.toInt.toNat + i) = G i) : mkO9 f' n' x = fdO9 (mkO9 f n x) G := by
  subst hn
  have t20 : (20 : Int32).toInt = 20 := rfl
  have e : (n + 20).toInt = n.toInt + 20 := by rw [add_i (by rw [t20]; omega) (by rw [t20]; omega), t20]
  refine Prod.ext (funext fun j => ?_) rfl
  show (if j < (n + 20).toInt.toNat then f' j else 0) = if j < n.toInt.toNat then (if j < n.toInt.toNat then f j else 0) else if j < n.toInt.toNat + 20 then G (j - n.toInt.toNat) else 0
  by_cases c : j < n.toInt.toNat
  · rw [if_pos (by omega), if_pos c, if_pos c, h1 j c]
  · rw [if_neg c]
    by_cases c2 : j < n.toInt.toNat + 20
    · rw [if_pos (by omega), if_pos c2]
      have z := h2 (j - n.toInt.toNat) (by omega)
      rw [show n.toInt.toNat + (j - n.toInt.toNat) = j by omega] at z
      exact z
    · rw [if_neg (by omega), if_neg c2]
theorem mk_e9 {f f' : Nat → Int32} {n n' x x' : Int32} (h : mkO9 f n x = mkO9 f' n' x') : n = n' ∧ x = x' ∧ ∀ j, j < n.toInt.toNat → f j = f' j := by
  have e1 : n = n' := congrArg (fun w : Ob9 => w.2.1) h
  have e2 : x = x' := congrArg (fun w : Ob9 => w.2.2) h
  refine ⟨e1, e2, fun j hj => ?_⟩
  have z : (if j < n.toInt.toNat then f j else 0) = if j < n'.toInt.toNat then f' j else 0 := congrFun (congrArg (fun w : Ob9 => w.1) h) j
  rw [← e1, if_pos hj, if_pos hj] at z
  exact z
theorem mk_09 {f : Nat → Int32} {x : Int32} : mkO9 f 0 x = ((fun _ => 0, 0, x) : Ob9) := by
  refine Prod.ext (funext fun j => ?_) rfl
  show (if j < (0 : Int32).toInt.toNat then f j else 0) = 0
  exact if_neg (by show ¬ j < 0; omega)
theorem sh_49 : ∀ k, k < 20 → (((24 : Int32) - ((8 : Int32) * (Int32.ofNat k &&& (3 : Int32)))) &&& 31) = (((24 : Int32) - 8 * Int32.ofNat (k % 4)) &&& 31) := by decide
/-- the reference: fault, by what it answers -/
theorem fault_c9 {C : rCx} (hC : cOK C) {σ : rS} {Q : Int32 → rS → Prop} (h : ∀ (σ' : rS), ((∀ k, k ≠ 0 → σ'.1 k = σ.1 k) ∧ σ'.2 = σ.2) → Q (σ.1 53) σ') : cI C 0 m_fault [.ref (co C)] σ Q := by
  refine m_fault_run hC ?_
  unfold w_fault_0
  intro σ1 h1
  have e : σ1.1 53 = σ.1 53 := by rw [h1, si1, if_neg (by decide)]
  rw [e]
  exact h σ1 ⟨fun k hk => by rw [h1, si1, if_neg hk], by rw [h1, si2]⟩
/-- what a call keeps: tape, fault and code -/
def pR7 (σ τ : rS) : Prop := oR9 τ = oR9 σ ∧ kR7 σ τ
/-- what a call keeps: what was explored as well -/
def pR8 (σ τ : rS) : Prop := pR7 σ τ ∧ kS8 σ τ
/-- what decide, best keep of it -/
def kB16 (σ τ : rS) : Prop := τ.1 103 = σ.1 103 ∧ (∀ g, g = 95 ∨ g = 102 → τ.2.2.1 g = σ.2.2.1 g) ∧ nM16 σ τ
/-- what a play keeps of it -/
def nN15 (σ τ : rS) : Prop := ∀ k, 15 ≤ k → k ≤ 16 → τ.2.2.1 91 k = σ.2.2.1 91 k ∧ ∀ i, i < 40000 → τ.2.2.1 90 (40000 * k + i) = σ.2.2.1 90 (40000 * k + i)
def kY16 (σ τ : rS) : Prop := (∀ g, g ∈ kf16 → τ.1 g = σ.1 g) ∧ (∀ g, g ∈ kh16 → τ.2.2.1 g = σ.2.2.1 g) ∧ nN15 σ τ ∧ (τ.1 106 ≠ -1 → numO τ 17 ∧ numO τ 18)
def kE16 (σ τ : rS) : Prop := τ.1 103 = σ.1 103 ∧ nM16 σ τ
def pT8 (σ τ : rS) : Prop := pR7 σ τ ∧ kT8 σ τ ∧ kB16 σ τ
def pD8 (k c : Int32) (σ σ' : rS) : Prop := pT8 σ σ' ∧ XU8 k c σ σ' ∧ XF16 k c σ σ' ∧ σ'.1 114 = σ.1 114 ∧ ∀ g, g = 115 ∨ g = 116 → σ'.2.2.1 g = σ.2.2.1 g
theorem kS_f8 {σ τ : rS} (hf : ∀ k, k ∈ ke8 → τ.1 k = σ.1 k) (hr : ∀ k, k ∈ kx8 → τ.2.2.1 k = σ.2.2.1 k) (hl : τ.2.1 110 = σ.2.1 110) (hn : kN16 σ τ) : kS8 σ τ := ⟨hf, hr, hl, hn⟩
def pL21 (p : Int32) (σ σ' : rS) : Prop := (oR9 σ' = oR9 σ ∧ kR7 σ σ') ∧ kX7 σ σ' ∧ (σ.1 104 = 200 → σ'.1 104 = 200 ∧ σ'.2.2.1 105 = σ.2.2.1 105) ∧ (σ.1 104 ≠ 200 → σ'.1 104 = σ.1 104 + 1 ∧ σ'.2.2.1 105 = upd (σ.2.2.1 105) (σ.1 104).toNatClampNeg p)
def pO21 (σ σ' : rS) : Prop := (oR9 σ' = oR9 σ ∧ kR7 σ σ') ∧ kX7 σ σ' ∧ σ'.1 104 = 0
def kD20 (σ σ' : rS) : Prop := σ'.1 104 = σ.1 104 ∧ σ'.2.2.1 105 = σ.2.2.1 105
def kS9 (σ τ : rS) : Prop := (∀ g, g ∈ ke8 → τ.1 g = σ.1 g) ∧ (∀ g, g ∈ kx8 → τ.2.2.1 g = σ.2.2.1 g) ∧ (∀ g, g ∈ kf16 → τ.1 g = σ.1 g) ∧ (∀ g, g ∈ kh16 → τ.2.2.1 g = σ.2.2.1 g)
def kQ23 (σ σ' : rS) : Prop := (∀ g, g = 106 ∨ g = 107 ∨ g = 108 ∨ g = 109 → σ'.1 g = σ.1 g) ∧ σ'.2.1 110 = σ.2.1 110 ∧ σ'.2.2.1 111 = σ.2.2.1 111
def XS22 (a1 : Int32) (σ σ' : rS) (v : Int32) : Prop := XS16 a1 σ σ' v ∧ kD20 σ σ' ∧ kQ23 σ σ' ∧ kE16 σ σ'
theorem tell_g21 {C : rCx} (hC : cOK C) {σ : rS} {a1 : Int32} {Q : Int32 → rS → Prop} (hp : 0 ≤ σ.1 104 ∧ σ.1 104 ≤ 200) (h : ∀ (v : Int32) (σ' : rS), ((∀ k, k ≠ 0 → k ≠ 104 → σ'.1 k = σ.1 k) ∧ (∀ k, k ≠ 105 → σ'.2.2.1 k = σ.2.2.1 k) ∧ (∀ j, σ'.2.2.2 8 j = σ.2.2.2 8 j) ∧ σ'.2.1 110 = σ.2.1 110) ∧ (0 ≤ σ'.1 104 ∧ σ'.1 104 ≤ 200) ∧ (σ.1 104 = 200 → σ'.1 104 = 200 ∧ σ'.2.2.1 105 = σ.2.2.1 105) ∧ (σ.1 104 ≠ 200 → σ'.1 104 = σ.1 104 + 1 ∧ σ'.2.2.1 105 = upd (σ.2.2.1 105) (σ.1 104).toNatClampNeg a1) → Q v σ') : cI C 0 m_tell [.ref (co C), .int a1] σ Q := by
  have l200 : (200 : Int32).toInt = 200 := rfl
  obtain ⟨p0, p1⟩ := hp
  rw [lei, t0i] at p0
  rw [lei, l200] at p1
  refine m_tell_run hC ?_
  unfold w_tell_0
  refine ⟨fun c1 => ?_, fun c1 => ?_⟩
  · unfold w_tell_16
    intro σ_2 hσ_2
    have e2 : σ_2.1 104 = σ.1 104 := by rw [hσ_2, si1, if_neg (by decide)]
    have lt : (σ.1 104).toInt < 200 := by
      refine Decidable.byContradiction (fun z => c1 (Int32.toInt_inj.mp ?_))
      rw [l200]; omega
    refine ⟨fun c3 => ⟨ib_200.mpr ?_, ?_⟩, fun c3 => absurd (show σ_2.1 0 ≤ 0 by rw [hσ_2, si1, if_pos rfl]; decide) c3⟩
    · rw [e2]
      exact ⟨by rw [lei, t0i]; exact p0, by rw [lti, l200]; exact lt⟩
    intro σ_4 hσ_4
    intro σ_5 hσ_5
    have e1 : (1 : Int32).toInt = 1 := rfl
    have ad : (σ.1 104 + 1).toInt = (σ.1 104).toInt + 1 := by rw [add_i (by rw [e1]; omega) (by rw [e1]; omega), e1]
    have e5 : σ_5.1 104 = σ.1 104 + 1 := by rw [hσ_5, si1, if_pos rfl, hσ_4, ri1, e2]
    refine h _ _ ⟨⟨fun k k0 k1 => ?_, fun k k5 => ?_, fun j => ?_, ?_⟩, ⟨?_, ?_⟩, fun z => absurd z c1, fun _ => ⟨e5, ?_⟩⟩
    · rw [hσ_5, si1, if_neg k1, hσ_4, ri1, hσ_2, si1, if_neg k0]
    · rw [hσ_5, si2, hσ_4, ri3 k5, hσ_2, si2]
    · rw [hσ_5, si2, hσ_4, ri5, hσ_2, si2]
    · rw [hσ_5, si2, hσ_4, ri2, hσ_2, si2]
    · rw [e5, lei, t0i, ad]; omega
    · rw [e5, lei, l200, ad]; omega
    · rw [hσ_5, si2, hσ_4, ri_row, e2, hσ_2, si2]
  · unfold w_tell_16
    intro σ_2 hσ_2
    refine ⟨fun c3 => absurd (show σ_2.1 0 ≤ 0 from c3) (by rw [hσ_2, si1, if_pos rfl]; decide), fun c3 => ?_⟩
    have e2 : σ_2.1 104 = σ.1 104 := by rw [hσ_2, si1, if_neg (by decide)]
    refine h _ _ ⟨⟨fun k k0 k1 => ?_, fun k k5 => ?_, fun j => ?_, ?_⟩, ⟨?_, ?_⟩, fun _ => ⟨by rw [e2]; exact c1, by rw [hσ_2, si2]⟩, fun z => absurd c1 z⟩
    · rw [hσ_2, si1, if_neg k0]
    · rw [hσ_2, si2]
    · rw [hσ_2, si2]
    · rw [hσ_2, si2]
    · rw [e2, lei, t0i]; exact p0
    · rw [e2, lei, l200]; exact p1
abbrev kp23 : List Nat := [106, 107, 108, 109]
def kP23 (σ σ' : rS) : Prop := (∀ g, g ∈ kp23 → σ'.1 g = σ.1 g) ∧ σ'.2.1 110 = σ.2.1 110 ∧ σ'.2.2.1 111 = σ.2.2.1 111
theorem kP_t23 {σ σ' : rS} (k : kT8 σ σ') : kP23 σ σ' := ⟨fun g q => k.1 g ((by decide : ∀ g, g ∈ kp23 → g ∈ ke8) g q), k.2.2, k.2.1 111 (by decide)⟩
theorem kP_q23 {σ σ' : rS} (k : kQ23 σ σ') : kP23 σ σ' := ⟨fun g q => k.1 g ((by decide : ∀ g, g ∈ kp23 → g = 106 ∨ g = 107 ∨ g = 108 ∨ g = 109) g q), k.2⟩

end
section
set_option maxHeartbeats 1600000
/-! the reference: what holds between calls -/
theorem nu_k {σ τ : rS} {k : Nat} (g : τ.2.2.1 91 k = σ.2.2.1 91 k ∧ ∀ i, i < 40000 → τ.2.2.1 90 (40000 * k + i) = σ.2.2.1 90 (40000 * k + i)) (h : numO σ k) : numO τ k ∧ nV τ k = nV σ k ∧ nL τ k = nL σ k := by
  have el : nL τ k = nL σ k := by show (τ.2.2.1 91 k).toNatClampNeg = _; rw [g.1]
  have le := nL_le h
  refine ⟨⟨by rw [g.1]; exact h.1, by rw [g.1]; exact h.2.1, fun i hi => ?_, ?_⟩, ?_, el⟩
  · rw [el] at hi
    rw [g.2 i (by omega)]; exact h.2.2.1 i hi
  · rw [el]
    rcases h.2.2.2 with z | ⟨m, z1, z2⟩
    · exact Or.inl z
    · exact Or.inr ⟨m, z1, by rw [g.2 m (by omega)]; exact z2⟩
  · unfold nV
    rw [el]
    exact dv_congr (fun i hi => g.2 i (by omega))
abbrev rjP : List Nat := [15, 16, 17, 18, 19, 40, 41, 42]
abbrev rjQ : List Nat := [5, 7, 20, 22, 23, 24, 25, 26, 27, 28, 29, 30, 31, 32, 33, 34, 35, 36, 37, 38, 39, 43, 44]
/-- the book and the tape -/
def jBk (σ : rS) : Prop := (σ.1 3 = 0 ∨ σ.1 3 = 65537) ∧ tyAll σ ∧ (σ.1 14 ≠ 0 → ∃ T, progOK σ (σ.1 3) T)
def jVs (σ : rS) : Prop := σ.1 94 ≠ 0 → ∀ k, k < (σ.1 70).toNatClampNeg → vOK σ k
def jWo (σ : rS) : Prop := σ.1 114 ≠ 0 → ∀ k, k < (σ.1 70).toNatClampNeg → wkO σ 115 116 k
/-- what holds between calls -/
def rJ (σ : rS) : Prop := (0 ≤ σ.1 2 ∧ σ.1 2 ≤ 65536) ∧ jBk σ ∧ exP σ ∧ jVs σ ∧ jWo σ ∧ plN σ ∧ shO σ ∧ 0 ≤ σ.1 104 ∧ σ.1 104 ≤ 200
theorem ty_g9 {σ τ : rS} (h : tyAll σ) (ff : ∀ k, k ∈ rjP → τ.1 k = σ.1 k) (rr : ∀ k, k ∈ rjQ → τ.2.2.1 k = σ.2.2.1 k) : tyAll τ := by
  obtain ⟨g1, g3, g4, g5, g6⟩ := h
  refine ⟨?_, ?_, ?_, ?_, by rw [rr 37 (by decide)]; exact g6⟩
  · show tyF _ _ _ _ _ _ _ _
    rw [ff 15 (by decide), ff 16 (by decide), ff 17 (by decide), ff 18 (by decide), ff 19 (by decide), ff 40 (by decide), ff 41 (by decide), ff 42 (by decide)]
    exact g1
  · show tyN _ _ _ _ _ _
    rw [rr 20 (by decide), rr 22 (by decide), rr 25 (by decide), rr 28 (by decide), rr 26 (by decide), rr 27 (by decide)]
    exact g3
  · show tyA _ _
    rw [rr 23 (by decide), rr 24 (by decide)]
    exact g4
  · show tyS _ _ _ _ _ _ _ _
    rw [rr 29 (by decide), rr 33 (by decide), rr 34 (by decide), rr 35 (by decide), rr 36 (by decide), rr 38 (by decide), rr 43 (by decide), rr 44 (by decide)]
    exact g5
theorem jBk_o {σ τ : rS} (h : jBk σ) (h3 : τ.1 3 = σ.1 3) (h14 : τ.1 14 = σ.1 14) (ff : ∀ k, k ∈ rjP → τ.1 k = σ.1 k) (rr : ∀ k, k ∈ rjQ → τ.2.2.1 k = σ.2.2.1 k) : jBk τ := by
  refine ⟨by rw [h3]; exact h.1, ty_g9 h.2.1 ff rr, fun z => ?_⟩
  rw [h14] at z
  obtain ⟨T, g⟩ := h.2.2 z
  exact ⟨T, by rw [h3]; exact (rI_gen ⟨h.2.1, g⟩ ff rr).2⟩
theorem jVs_o {σ τ : rS} (h : jVs σ) (h94 : τ.1 94 ≠ 0 → σ.1 94 ≠ 0) (h70 : τ.1 70 = σ.1 70) (r : τ.2.2.1 102 = σ.2.2.1 102) : jVs τ := fun z k hk => vOK_f r (h (h94 z) k (by rw [← h70]; exact hk))
theorem jWo_o {σ τ : rS} (h : jWo σ) (h114 : τ.1 114 ≠ 0 → σ.1 114 ≠ 0) (h70 : τ.1 70 = σ.1 70) (r : τ.2.2.1 115 = σ.2.2.1 115) (r2 : τ.2.2.1 116 = σ.2.2.1 116) : jWo τ := fun z k hk => wkO_f r r2 (h (h114 z) k (by rw [← h70]; exact hk))
theorem plN_o {σ τ : rS} (h : plN σ) (h106 : τ.1 106 ≠ -1 → σ.1 106 ≠ -1) (hn : ∀ k, k = 17 ∨ k = 18 → τ.2.2.1 91 k = σ.2.2.1 91 k ∧ ∀ i, i < 40000 → τ.2.2.1 90 (40000 * k + i) = σ.2.2.1 90 (40000 * k + i)) : plN τ := by
  intro z
  have q := h (h106 z)
  have a := nu_k (hn 17 (Or.inl rfl)) q.1
  have b := nu_k (hn 18 (Or.inr rfl)) q.2.1
  rw [a.2.2, b.2.2, b.2.1]
  exact ⟨a.1, b.1, q.2.2⟩
theorem shO_o {σ τ : rS} (h : shO σ) (h103 : τ.1 103 = σ.1 103) (hn : ∀ k, k = 15 ∨ k = 16 → τ.2.2.1 91 k = σ.2.2.1 91 k ∧ ∀ i, i < 40000 → τ.2.2.1 90 (40000 * k + i) = σ.2.2.1 90 (40000 * k + i)) : shO τ := by
  intro z
  rw [h103] at z
  have q := h z
  exact ⟨(nu_k (hn 15 (Or.inl rfl)) q.1).1, (nu_k (hn 16 (Or.inr rfl)) q.2).1⟩
theorem rj34 {σ : rS} (h : tyAll σ) : 0 ≤ σ.1 15 + σ.1 17 ∧ σ.1 15 + σ.1 17 ≤ 34 := by
  have g : tyF _ _ _ _ _ _ _ _ := h.1
  obtain ⟨a0, a1, b0, b1, c0, c1, -⟩ := g
  generalize σ.1 15 = v at *
  generalize σ.1 16 = r at *
  generalize σ.1 17 = c at *
  have c24 : c ≤ 24 := by
    have e : r = 0 ∨ r = 1 ∨ r = 2 ∨ r = 3 := by grind
    rcases e with e | e | e | e <;> rw [e] at c1 <;> exact Int32.le_trans c1 (by decide)
  grind
abbrev rjF : List Nat := [3, 14, 15, 16, 17, 18, 19, 40, 41, 42, 70, 71, 72, 88, 94, 103, 106, 114]
abbrev rjR : List Nat := [5, 7, 20, 22, 23, 24, 25, 26, 27, 28, 29, 30, 31, 32, 33, 34, 35, 36, 37, 38, 39, 43, 44, 73, 76, 77, 78, 79, 80, 81, 83, 102, 115, 116]
def rjN (σ τ : rS) : Prop := ∀ k, 14 < k → k < 19 → τ.2.2.1 91 k = σ.2.2.1 91 k ∧ ∀ i, i < 40000 → τ.2.2.1 90 (40000 * k + i) = σ.2.2.1 90 (40000 * k + i)
theorem rjN_r {σ τ : rS} (h0 : τ.2.2.1 90 = σ.2.2.1 90) (h1 : τ.2.2.1 91 = σ.2.2.1 91) : rjN σ τ := fun k _ _ => ⟨by rw [h1], fun i _ => by rw [h0]⟩
theorem rjN_l {l : List Nat} {σ τ : rS} (h : ∀ k, k ∉ l → τ.2.2.1 91 k = σ.2.2.1 91 k ∧ ∀ i, i < 40000 → τ.2.2.1 90 (40000 * k + i) = σ.2.2.1 90 (40000 * k + i)) (hl : 15 ∉ l ∧ 16 ∉ l ∧ 17 ∉ l ∧ 18 ∉ l) : rjN σ τ := fun k z1 z2 => h k (by
  have e : k = 15 ∨ k = 16 ∨ k = 17 ∨ k = 18 := by omega
  rcases e with e | e | e | e <;> rw [e]
  · exact hl.1
  · exact hl.2.1
  · exact hl.2.2.1
  · exact hl.2.2.2)
/-- a call that changes nothing of it but the tape's size and the draws told -/
theorem rJ_c {σ τ : rS} (h : rJ σ) (h2 : 0 ≤ τ.1 2 ∧ τ.1 2 ≤ 65536) (h104 : 0 ≤ τ.1 104 ∧ τ.1 104 ≤ 200) (hf : ∀ k, k ∈ rjF → τ.1 k = σ.1 k) (hr : ∀ k, k ∈ rjR → τ.2.2.1 k = σ.2.2.1 k) (hn : rjN σ τ) : rJ τ := by
  obtain ⟨g1, g2, g3, g4, g5, g6, g7, g8⟩ := h
  refine ⟨h2, jBk_o g2 (hf 3 (by decide)) (hf 14 (by decide)) (fun k hk => hf k ((by decide : ∀ k, k ∈ rjP → k ∈ rjF) k hk)) (fun k hk => hr k ((by decide : ∀ k, k ∈ rjQ → k ∈ rjR) k hk)), exP_o g3 (fun k hk => hf k (by rcases hk with z | z | z | z <;> rw [z] <;> decide)) (fun k hk => hr k (by rcases hk with z | z | z | z | z | z | z | z <;> rw [z] <;> decide)), jVs_o g4 (by rw [hf 94 (by decide)]; exact fun z => z) (hf 70 (by decide)) (hr 102 (by decide)), jWo_o g5 (by rw [hf 114 (by decide)]; exact fun z => z) (hf 70 (by decide)) (hr 115 (by decide)) (hr 116 (by decide)), plN_o g6 (by rw [hf 106 (by decide)]; exact fun z => z) (fun k hk => hn k (by omega) (by omega)), shO_o g7 (hf 103 (by decide)) (fun k hk => hn k (by omega) (by omega)), h104⟩
theorem rJ_G {σ τ : rS} (h : rJ σ) (f : frG [0] [] σ τ) : rJ τ ∧ pR8 σ τ := ⟨rJ_c h (by rw [f.1 2 (by decide)]; exact h.1) (by rw [f.1 104 (by decide)]; exact h.2.2.2.2.2.2.2) (fun k hk => f.1 k ((by decide : ∀ k, k ∈ rjF → k ∉ [0]) k hk)) (fun k _ => f.2.2.1 k List.not_mem_nil) (rjN_r (f.2.2.1 90 List.not_mem_nil) (f.2.2.1 91 List.not_mem_nil)), ⟨⟨oR_k9 (f.1 2 (by decide)) (f.1 53 (by decide)) (f.2.2.1 1 List.not_mem_nil), kR_f7 (fun k hk => f.1 k ((by decide : ∀ k, k ∈ kf7 → k ∉ [0]) k hk)) (fun k _ => f.2.2.1 k List.not_mem_nil) (fun j => f.2.2.2 8 j)⟩, kS_f8 (fun k hk => f.1 k ((by decide : ∀ k, k ∈ ke8 → k ∉ [0]) k hk)) (fun k _ => f.2.2.1 k List.not_mem_nil) (f.2.1 110) (kN_f16 (fun k hk => f.1 k ((by decide : ∀ k, k ∈ kf16 → k ∉ [0]) k hk)) (fun k _ => f.2.2.1 k List.not_mem_nil) (nM_r16 (f.2.2.1 90 List.not_mem_nil) (f.2.2.1 91 List.not_mem_nil)))⟩⟩
theorem rJ_T {σ τ : rS} (h : rJ σ) (f : frT [0] [] σ τ) : rJ τ ∧ pR8 σ τ := ⟨rJ_c h (by rw [f.1 2 (by decide)]; exact h.1) (by rw [f.1 104 (by decide)]; exact h.2.2.2.2.2.2.2) (fun k hk => f.1 k ((by decide : ∀ k, k ∈ rjF → k ∉ [0]) k hk)) (fun k hk => f.2.2.1 k ((by decide : ∀ k, k ∈ rjR → k ≠ 90) k hk) ((by decide : ∀ k, k ∈ rjR → k ≠ 91) k hk)) (rjN_l f.2.2.2.2 (by decide)), ⟨⟨oR_k9 (f.1 2 (by decide)) (f.1 53 (by decide)) (f.2.2.1 1 (by decide) (by decide)), kR_f7 (fun k hk => f.1 k ((by decide : ∀ k, k ∈ kf7 → k ∉ [0]) k hk)) (fun k hk => f.2.2.1 k ((by decide : ∀ k, k ∈ kz7 → k ≠ 90) k hk) ((by decide : ∀ k, k ∈ kz7 → k ≠ 91) k hk)) (fun j => by rw [f.2.2.2.1])⟩, kS_f8 (fun k hk => f.1 k ((by decide : ∀ k, k ∈ ke8 → k ∉ [0]) k hk)) (fun k hk => f.2.2.1 k ((by decide : ∀ k, k ∈ kx8 → k ≠ 90) k hk) ((by decide : ∀ k, k ∈ kx8 → k ≠ 91) k hk)) (by rw [f.2.1]) (kN_f16 (fun k hk => f.1 k ((by decide : ∀ k, k ∈ kf16 → k ∉ [0]) k hk)) (fun k hk => f.2.2.1 k ((by decide : ∀ k, k ∈ kh16 → k ≠ 90) k hk) ((by decide : ∀ k, k ∈ kh16 → k ≠ 91) k hk)) (fun k h1 h2 => rjN_l f.2.2.2.2 (by decide) k (by omega) (by omega)))⟩⟩
theorem rJ_U {σ τ : rS} (h : rJ σ) (f : frU ifF ifR ifL σ τ) : rJ τ ∧ pR8 σ τ := ⟨rJ_c h (by rw [f.1 2 (by decide)]; exact h.1) (by rw [f.1 104 (by decide)]; exact h.2.2.2.2.2.2.2) (fun k hk => f.1 k ((by decide : ∀ k, k ∈ rjF → k ∉ ifF) k hk)) (fun k hk => f.2.2.1 k ((by decide : ∀ k, k ∈ rjR → k ≠ 90) k hk) ((by decide : ∀ k, k ∈ rjR → k ≠ 91) k hk) ((by decide : ∀ k, k ∈ rjR → k ∉ ifR) k hk)) (rjN_l f.2.2.2.2 (by decide)), ⟨⟨oR_k9 (f.1 2 (by decide)) (f.1 53 (by decide)) (f.2.2.1 1 (by decide) (by decide) (by decide)), kR_f7 (fun k hk => f.1 k ((by decide : ∀ k, k ∈ kf7 → k ∉ ifF) k hk)) (fun k hk => f.2.2.1 k ((by decide : ∀ k, k ∈ kz7 → k ≠ 90) k hk) ((by decide : ∀ k, k ∈ kz7 → k ≠ 91) k hk) ((by decide : ∀ k, k ∈ kz7 → k ∉ ifR) k hk)) (fun j => by rw [f.2.2.2.1])⟩, kS_f8 (fun k hk => f.1 k ((by decide : ∀ k, k ∈ ke8 → k ∉ ifF) k hk)) (fun k hk => f.2.2.1 k ((by decide : ∀ k, k ∈ kx8 → k ≠ 90) k hk) ((by decide : ∀ k, k ∈ kx8 → k ≠ 91) k hk) ((by decide : ∀ k, k ∈ kx8 → k ∉ ifR) k hk)) (by rw [f.2.1]) (kN_f16 (fun k hk => f.1 k ((by decide : ∀ k, k ∈ kf16 → k ∉ ifF) k hk)) (fun k hk => f.2.2.1 k ((by decide : ∀ k, k ∈ kh16 → k ≠ 90) k hk) ((by decide : ∀ k, k ∈ kh16 → k ≠ 91) k hk) ((by decide : ∀ k, k ∈ kh16 → k ∉ ifR) k hk)) (fun k h1 h2 => rjN_l f.2.2.2.2 (by decide) k (by omega) (by omega)))⟩⟩
section calls
variable {C : rCx} {σ : rS} {a1 a2 a3 a4 a5 : Int32}
theorem count_j (hC : cOK C) (J : rJ σ) {Q : Int32 → rS → Prop} (h : ∀ v σ', rJ σ' → pR8 σ σ' → Q v σ') : cI C 1 m_count [.ref (co C), .int a1] σ Q := count_c hC ⟨J.2.2.1.1.1.1, J.2.2.1.1.1.2⟩ (fun v σ' q => h v σ' (rJ_G J q).1 (rJ_G J q).2)
theorem state_j (hC : cOK C) (J : rJ σ) {Q : Int32 → rS → Prop} (h : ∀ v σ', rJ σ' → pR8 σ σ' → Q v σ') : cI C 1 m_state [.ref (co C), .int a1, .int a2] σ Q := state_c hC J.2.2.1 (fun v σ' q => h v σ' (rJ_G J q).1 (rJ_G J q).2)
theorem value_j (hC : cOK C) (J : rJ σ) {Q : Int32 → rS → Prop} (h : ∀ v σ', rJ σ' → pR8 σ σ' → Q v σ') : cI C 1 m_value [.ref (co C), .int a1, .int a2, .int a3] σ Q := value_c hC ⟨J.2.2.1, J.2.1.2.1⟩ (fun v σ' q => h v σ' (rJ_G J q).1 (rJ_G J q).2)
theorem next_j (hC : cOK C) (J : rJ σ) {Q : Int32 → rS → Prop} (h : ∀ v σ', rJ σ' → pR8 σ σ' → Q v σ') : cI C 1 m_next [.ref (co C), .int a1, .int a2, .int a3] σ Q := next_c hC J.2.2.1 (fun v σ' q => h v σ' (rJ_G J q).1 (rJ_G J q).2)
theorem ending_j (hC : cOK C) (J : rJ σ) {Q : Int32 → rS → Prop} (h : ∀ v σ', rJ σ' → pR8 σ σ' → Q v σ') : cI C 0 m_ending [.ref (co C), .int a1, .int a2] σ Q := ending_c hC ⟨J.2.2.1, J.2.1.2.1⟩ (fun v σ' q => h v σ' (rJ_G J q).1 (rJ_G J q).2)
theorem decided_j (hC : cOK C) (J : rJ σ) {Q : Int32 → rS → Prop} (h : ∀ v σ', rJ σ' → pR8 σ σ' → Q v σ') : cI C 1 m_decided [.ref (co C), .int a1] σ Q := decided_c hC J.2.2.1 (fun v σ' q => h v σ' (rJ_G J q).1 (rJ_G J q).2)
theorem size_j (hC : cOK C) (J : rJ σ) {Q : Int32 → rS → Prop} (h : ∀ v σ', rJ σ' → pR8 σ σ' → Q v σ') : cI C 1 m_size [.ref (co C), .int a1] σ Q := size_c hC J.2.2.2.2.2.2.1 (fun v σ' q => h v σ' (rJ_T J q).1 (rJ_T J q).2)
theorem limb_j (hC : cOK C) (J : rJ σ) {Q : Int32 → rS → Prop} (h : ∀ v σ', rJ σ' → pR8 σ σ' → Q v σ') : cI C 1 m_limb [.ref (co C), .int a1, .int a2] σ Q := limb_c hC J.2.2.2.2.2.2.1 (fun v σ' q => h v σ' (rJ_T J q).1 (rJ_T J q).2)
theorem played_j (hC : cOK C) (J : rJ σ) {Q : Int64 → rS → Prop} (h : ∀ v σ', rJ σ' → pR8 σ σ' → Q v σ') : cJ C 0 m_played [.ref (co C), .int a1] σ Q := played_c hC (rj34 J.2.1.2.1) (fun v σ' q => h v σ' (rJ_T J q).1 (rJ_T J q).2)
theorem independent_j (hC : cOK C) (J : rJ σ) {Q : Int32 → rS → Prop} (h : ∀ v σ', rJ σ' → pR8 σ σ' → Q v σ') : cI C 9 m_independent [.ref (co C), .int a1, .int a2] σ Q := independent_c hC _ ⟨pOK_of J.2.2.1, rfl, J.2.2.2.1, (rj34 J.2.1.2.1).2⟩ (fun v σ' q => h v σ' (rJ_U J q).1 (rJ_U J q).2)
theorem given_j (hC : cOK C) (J : rJ σ) {Q : Int32 → rS → Prop} (h : ∀ v σ', rJ σ' → pR8 σ σ' → Q v σ') : cI C 9 m_given [.ref (co C), .int a1, .int a2, .int a3] σ Q := given_c hC _ ⟨pOK_of J.2.2.1, rfl, J.2.2.2.1, (rj34 J.2.1.2.1).2⟩ (fun v σ' q => h v σ' (rJ_U J q).1 (rJ_U J q).2)
end calls

end
section
set_option maxHeartbeats 1600000
/-! the reference: feed by its bytes; feed, end, fault, tell, forget -/
/-- on feed's way: the bytes written so far -/
def fbI9 (a b c d e : Int32) (σ : rS) (l : Int32) (τ : rS) : Prop := (∀ j, j < (σ.1 2).toInt.toNat → τ.2.2.1 1 j = σ.2.2.1 1 j) ∧ (∀ i : Nat, (i : Int) < l.toInt → τ.2.2.1 1 ((σ.1 2).toInt.toNat + i) = by9 a b c d e i)
theorem fb_09 {a b c d e x : Int32} {σ : rS} : fbI9 a b c d e σ 0 (siU σ 0 x) := ⟨fun _ _ => rfl, fun i hi => absurd hi (by rw [t0i]; omega)⟩
theorem fb_s9 {a b c d e l s0 : Int32} {σ τ : rS} (h0 : 0 ≤ σ.1 2) (h60 : σ.1 2 ≤ 60000) (h2 : τ.1 2 = σ.1 2 + l) (l0 : 0 ≤ l) (l20 : l < 20) (hs : s0 = vs9 a b c d e l.toInt.toNat) (h : fbI9 a b c d e σ l τ) : fbI9 a b c d e σ (l + 1) (siU (riU τ 1 (τ.1 2).toNatClampNeg (vp_nar .byte ((s0 >>> (((24 : Int32) - ((8 : Int32) * (l &&& (3 : Int32)))) &&& 31))).toInt8.toInt32)) 2 ((riU τ 1 (τ.1 2).toNatClampNeg (vp_nar .byte ((s0 >>> (((24 : Int32) - ((8 : Int32) * (l &&& (3 : Int32)))) &&& 31))).toInt8.toInt32)).1 2 + 1)) := by
  have t60 : (60000 : Int32).toInt = 60000 := rfl
  have t20 : (20 : Int32).toInt = 20 := rfl
  rw [lei, t0i] at h0 l0
  rw [lei, t60] at h60
  rw [lti, t20] at l20
  have e2 : (τ.1 2).toInt = (σ.1 2).toInt + l.toInt := by rw [h2, add_i (by omega) (by omega)]
  have el : (l + 1).toInt = l.toInt + 1 := by rw [add_i (by rw [t1i]; omega) (by rw [t1i]; omega), t1i]
  have ci : (τ.1 2).toNatClampNeg = (σ.1 2).toInt.toNat + l.toInt.toNat := by
    have z := cnk (x := τ.1 2) (by omega)
    omega
  have lo : l = Int32.ofNat l.toInt.toNat := Int32.toInt_inj.mp (by rw [ofn_i (by omega)]; omega)
  have sh : (((24 : Int32) - ((8 : Int32) * (l &&& (3 : Int32)))) &&& 31) = (((24 : Int32) - 8 * Int32.ofNat (l.toInt.toNat % 4)) &&& 31) := by
    have z := sh_49 l.toInt.toNat (by omega)
    rw [← lo] at z
    exact z
  have rw1 : ∀ j, (siU (riU τ 1 (τ.1 2).toNatClampNeg (vp_nar .byte ((s0 >>> (((24 : Int32) - ((8 : Int32) * (l &&& (3 : Int32)))) &&& 31))).toInt8.toInt32)) 2 ((riU τ 1 (τ.1 2).toNatClampNeg (vp_nar .byte ((s0 >>> (((24 : Int32) - ((8 : Int32) * (l &&& (3 : Int32)))) &&& 31))).toInt8.toInt32)).1 2 + 1)).2.2.1 1 j = if j = (σ.1 2).toInt.toNat + l.toInt.toNat then by9 a b c d e l.toInt.toNat else τ.2.2.1 1 j := fun j => by
    show (riU τ 1 (τ.1 2).toNatClampNeg _).2.2.1 1 j = _
    rw [ri4, ci]
    unfold by9 bw9
    rw [← hs, sh]
  refine ⟨fun j hj => ?_, fun i hi => ?_⟩
  · rw [rw1, if_neg (by omega)]
    exact h.1 j hj
  · rw [rw1]
    rw [el] at hi
    by_cases q : i = l.toInt.toNat
    · rw [if_pos (by omega), q]
    · rw [if_neg (by omega)]
      exact h.2 i (by omega)
theorem feed_c9 {C : rCx} (hC : cOK C)  {σ : rS} {a1 : Int32} {a2 : Int32} {a3 : Int32} {a4 : Int32} {a5 : Int32} {Q : Int32 → rS → Prop} (hp : 0 ≤ σ.1 2 ∧ σ.1 2 ≤ 60000) (h : ∀ (v : Int32) (σ' : rS), (((∀ k, k ≠ 0 → k ≠ 2 → σ'.1 k = σ.1 k) ∧ (∀ k,  σ'.2.1 k = σ.2.1 k) ∧ (∀ k, k ≠ 1 → σ'.2.2.1 k = σ.2.2.1 k) ∧ (∀ k j, k ≠ 1 → σ'.2.2.1 k j = σ.2.2.1 k j) ∧ (∀ k j,  σ'.2.2.2 k j = σ.2.2.2 k j)) ∧ 0 ≤ σ'.1 2 ∧ σ'.1 2 ≤ 65536 ∧ v = σ.1 2 + 20 ∧ σ'.1 2 = σ.1 2 + 20 ∧ σ'.1 0 = 0 ∧ (∀ j, j < (σ.1 2).toInt.toNat → σ'.2.2.1 1 j = σ.2.2.1 1 j) ∧ (∀ i, i < 20 → σ'.2.2.1 1 ((σ.1 2).toInt.toNat + i) = by9 a1 a2 a3 a4 a5 i)) → Q v σ') : cI C 0 m_feed [.ref (co C), .int a1, .int a2, .int a3, .int a4, .int a5] σ Q := by
  refine m_feed_run hC ?_
  unfold w_feed_0
  have hj18 : ∀ (l1 : Int32) (l2 : Int32) (l3 : Int32) (l4 : Int32) (l5 : Int32) (s1 : Int32) (τ : rS), (l1 = a1 ∧ l2 = a2 ∧ l3 = a3 ∧ l4 = a4 ∧ l5 = a5 ∧ τ = σ ∧ s1 = 0) → w_feed_18 C Q  l1 l2 l3 l4 l5 s1 τ := by
    rintro y18_1 y18_2 y18_3 y18_4 y18_5 y18_s1 τ18 j18
    unfold w_feed_18
    intro σ_1 hσ_1
    refine ⟨fun c2 => ?_, fun c2 => ?_⟩
    · skip
      unfold w_feed_33
      refine ⟨fun n l1 l2 l3 l4 l5 l6 τ => n = (20 - l6).toNatClampNeg ∧ (l1 = a1 ∧ l2 = a2 ∧ l3 = a3 ∧ l4 = a4 ∧ l5 = a5 ∧ ((∀ k, k ≠ 0 → k ≠ 2 → τ.1 k = σ.1 k) ∧ (∀ k,  τ.2.1 k = σ.2.1 k) ∧ (∀ k, k ≠ 1 → τ.2.2.1 k = σ.2.2.1 k) ∧ (∀ k j, k ≠ 1 → τ.2.2.1 k j = σ.2.2.1 k j) ∧ (∀ k j,  τ.2.2.2 k j = σ.2.2.2 k j)) ∧ τ.1 0 = 0 ∧ τ.1 2 = σ.1 2 + l6 ∧ 0 ≤ l6 ∧ l6 ≤ 20 ∧ σ.1 2 + 20 ≤ 65536 ∧ fbI9 a1 a2 a3 a4 a5 σ l6 τ), ⟨_, rfl, ?_⟩, ?_⟩
      · clear h
        obtain ⟨j1, j2, j3, j4, j5, j6, j7⟩ := j18
        have fb : fbI9 a1 a2 a3 a4 a5 σ 0 σ_1 := by
          rw [hσ_1, j6]
          exact fb_09
        refine ⟨j1, j2, j3, j4, j5, ?_, ?_, ?_, by decide, by decide, ?_, fb⟩
        · grind (splits := 24) [si1, si2, ri1, ri2, ri3, ri34, ri5, ob_ri, ob_si2, ob_only, ob_refl, vb5]
        · grind (splits := 24) [si1, si2, ri1, ri2, ri3, ri34, ri5, ob_ri, ob_si2, ob_only, ob_refl, vb5]
        · grind (splits := 24) [si1, si2, ri1, ri2, ri3, ri34, ri5, ob_ri, ob_si2, ob_only, ob_refl, vb5]
        · clear fb; grind (splits := 24) [si1, si2, ri1, ri2, ri3, ri34, ri5, ob_ri, ob_si2, ob_only, ob_refl, vb5]
      rintro n33 x33_1 x33_2 x33_3 x33_4 x33_5 x33_6 σ33 ⟨hn33, i33⟩
      have hj86 : ∀ (l1 : Int32) (l2 : Int32) (l3 : Int32) (l4 : Int32) (l5 : Int32) (l6 : Int32) (s0 : Int32) (τ : rS), (l1 = a1 ∧ l2 = a2 ∧ l3 = a3 ∧ l4 = a4 ∧ l5 = a5 ∧ τ = σ33 ∧ l6 = x33_6 ∧ l6 < 20 ∧ s0 = vs9 a1 a2 a3 a4 a5 l6.toInt.toNat) → w_feed_86 C Q (fun l1' l2' l3' l4' l5' l6' τ => ∃ k < n33, (fun n l1 l2 l3 l4 l5 l6 τ => n = (20 - l6).toNatClampNeg ∧ (l1 = a1 ∧ l2 = a2 ∧ l3 = a3 ∧ l4 = a4 ∧ l5 = a5 ∧ ((∀ k, k ≠ 0 → k ≠ 2 → τ.1 k = σ.1 k) ∧ (∀ k,  τ.2.1 k = σ.2.1 k) ∧ (∀ k, k ≠ 1 → τ.2.2.1 k = σ.2.2.1 k) ∧ (∀ k j, k ≠ 1 → τ.2.2.1 k j = σ.2.2.1 k j) ∧ (∀ k j,  τ.2.2.2 k j = σ.2.2.2 k j)) ∧ τ.1 0 = 0 ∧ τ.1 2 = σ.1 2 + l6 ∧ 0 ≤ l6 ∧ l6 ≤ 20 ∧ σ.1 2 + 20 ≤ 65536 ∧ fbI9 a1 a2 a3 a4 a5 σ l6 τ)) k l1' l2' l3' l4' l5' l6' τ) l1 l2 l3 l4 l5 l6 s0 τ := by
        rintro y86_1 y86_2 y86_3 y86_4 y86_5 y86_6 y86_s0 τ86 j86
        unfold w_feed_86
        refine ⟨ib_65536.mpr ?_, ?_⟩
        · clear h; grind (splits := 24) [si1, si2, ri1, ri2, ri3, ri34, ri5, ob_ri, ob_si2, ob_only, ob_refl, vb5]  -- b2
        intro σ_3 hσ_3
        intro σ_4 hσ_4
        intro x5 hx5
        refine ⟨_, cn_lt2 hn33 ?_ ?_, rfl, ?_⟩
        · clear h; grind (splits := 24) [si1, si2, ri1, ri2, ri3, ri34, ri5, ob_ri, ob_si2, ob_only, ob_refl, vb5]  -- d3
        · clear h; grind (splits := 24) [si1, si2, ri1, ri2, ri3, ri34, ri5, ob_ri, ob_si2, ob_only, ob_refl, vb5]  -- d4
        · clear h
          obtain ⟨j1, j2, j3, j4, j5, j6, j7, j8, j9⟩ := j86
          obtain ⟨i1, i2, i3, i4, i5, i6, i7, i8, i9, i10, i11, fb⟩ := i33
          have fb2 : fbI9 a1 a2 a3 a4 a5 σ x5 σ_4 := by
            rw [hσ_4, hσ_3, j6, hx5, j7]
            exact fb_s9 hp.1 hp.2 i8 i9 (by rw [← j7]; exact j8) (by rw [← j7]; exact j9) fb
          refine ⟨j1, j2, j3, j4, j5, ?_, ?_, ?_, ?_, ?_, i11, fb2⟩ <;> (clear fb fb2; grind (splits := 24) [si1, si2, ri1, ri2, ri3, ri34, ri5, ob_ri, ob_si2, ob_only, ob_refl, vb5])
      refine ⟨fun c6 => ?_, fun c6 => ?_⟩
      · skip
        refine h _ _ ?_
        · clear h
          obtain ⟨i1, i2, i3, i4, i5, i6, i7, i8, i9, i10, i11, fb⟩ := i33
          have e6 : x33_6 = 20 := Int32.le_antisymm i10 c6
          rw [e6] at i8 fb
          refine ⟨i6, ?_, ?_, i8, i8, i7, fb.1, fun i hi => fb.2 i (by show (i : Int) < 20; omega)⟩ <;> (clear fb; grind (splits := 24) [si1, si2, ri1, ri2, ri3, ri34, ri5, ob_ri, ob_si2, ob_only, ob_refl, vb5])
      · skip
        refine ⟨fun c7 => ?_, fun c7 => ?_⟩
        · skip
          refine ⟨fun c8 => ?_, fun c8 => ?_⟩
          · skip
            refine ⟨fun c9 => ?_, fun c9 => ?_⟩
            · skip
              refine ⟨fun c10 => ?_, fun c10 => ?_⟩
              · skip
                refine hj86 _ _ _ _ _ _ _ _ ?_
                · clear h
                  obtain ⟨i1, i2, i3, i4, i5, i6, i7, i8, i9, i10, i11, fb⟩ := i33
                  refine ⟨i1, i2, i3, i4, i5, rfl, rfl, n_lt c6, ?_⟩
                  have t4 : (4 : Int32).toInt = 4 := rfl
                  have t8 : (8 : Int32).toInt = 8 := rfl
                  have t12 : (12 : Int32).toInt = 12 := rfl
                  have t16 : (16 : Int32).toInt = 16 := rfl
                  have t20 : (20 : Int32).toInt = 20 := rfl
                  rw [lei] at c6 i9 c7 c8 c9 c10
                  rw [t0i] at i9
                  unfold vs9
                  rw [if_neg (by omega), if_neg (by omega), if_neg (by omega), if_neg (by omega)]
                  exact i5
              · skip
                refine hj86 _ _ _ _ _ _ _ _ ?_
                · clear h
                  obtain ⟨i1, i2, i3, i4, i5, i6, i7, i8, i9, i10, i11, fb⟩ := i33
                  refine ⟨i1, i2, i3, i4, i5, rfl, rfl, n_lt c6, ?_⟩
                  have t4 : (4 : Int32).toInt = 4 := rfl
                  have t8 : (8 : Int32).toInt = 8 := rfl
                  have t12 : (12 : Int32).toInt = 12 := rfl
                  have t16 : (16 : Int32).toInt = 16 := rfl
                  have t20 : (20 : Int32).toInt = 20 := rfl
                  rw [lei] at c6 i9 c7 c8 c9 c10
                  rw [t0i] at i9
                  unfold vs9
                  rw [if_neg (by omega), if_neg (by omega), if_neg (by omega), if_pos (by omega)]
                  exact i4
            · skip
              refine hj86 _ _ _ _ _ _ _ _ ?_
              · clear h
                obtain ⟨i1, i2, i3, i4, i5, i6, i7, i8, i9, i10, i11, fb⟩ := i33
                refine ⟨i1, i2, i3, i4, i5, rfl, rfl, n_lt c6, ?_⟩
                have t4 : (4 : Int32).toInt = 4 := rfl
                have t8 : (8 : Int32).toInt = 8 := rfl
                have t12 : (12 : Int32).toInt = 12 := rfl
                have t16 : (16 : Int32).toInt = 16 := rfl
                have t20 : (20 : Int32).toInt = 20 := rfl
                rw [lei] at c6 i9 c7 c8 c9
                rw [t0i] at i9
                unfold vs9
                rw [if_neg (by omega), if_neg (by omega), if_pos (by omega)]
                exact i3
          · skip
            refine hj86 _ _ _ _ _ _ _ _ ?_
            · clear h
              obtain ⟨i1, i2, i3, i4, i5, i6, i7, i8, i9, i10, i11, fb⟩ := i33
              refine ⟨i1, i2, i3, i4, i5, rfl, rfl, n_lt c6, ?_⟩
              have t4 : (4 : Int32).toInt = 4 := rfl
              have t8 : (8 : Int32).toInt = 8 := rfl
              have t12 : (12 : Int32).toInt = 12 := rfl
              have t16 : (16 : Int32).toInt = 16 := rfl
              have t20 : (20 : Int32).toInt = 20 := rfl
              rw [lei] at c6 i9 c7 c8
              rw [t0i] at i9
              unfold vs9
              rw [if_neg (by omega), if_pos (by omega)]
              exact i2
        · skip
          refine hj86 _ _ _ _ _ _ _ _ ?_
          · clear h
            obtain ⟨i1, i2, i3, i4, i5, i6, i7, i8, i9, i10, i11, fb⟩ := i33
            refine ⟨i1, i2, i3, i4, i5, rfl, rfl, n_lt c6, ?_⟩
            have t4 : (4 : Int32).toInt = 4 := rfl
            have t8 : (8 : Int32).toInt = 8 := rfl
            have t12 : (12 : Int32).toInt = 12 := rfl
            have t16 : (16 : Int32).toInt = 16 := rfl
            have t20 : (20 : Int32).toInt = 20 := rfl
            rw [lei] at c6 i9 c7
            rw [t0i] at i9
            unfold vs9
            rw [if_pos (by omega)]
            exact i1
    · skip
      refine h _ _ ?_
      · clear h; grind (splits := 24) [si1, si2, ri1, ri2, ri3, ri34, ri5, ob_ri, ob_si2, ob_only, ob_refl, vb5]  -- q12
  refine ⟨fun c11 => ?_, fun c11 => ?_⟩
  · skip
    refine hj18 _ _ _ _ _ _ _ ?_
    · clear h; grind (splits := 24) [si1, si2, ri1, ri2, ri3, ri34, ri5, ob_ri, ob_si2, ob_only, ob_refl, vb5]  -- k13
  · skip
    refine hj18 _ _ _ _ _ _ _ ?_
    · clear h; grind (splits := 24) [si1, si2, ri1, ri2, ri3, ri34, ri5, ob_ri, ob_si2, ob_only, ob_refl, vb5]  -- k14

theorem end_c2 {C : rCx} (hC : cOK C)  {σ : rS} {a1 : Int32} {Q : rS → Prop} (hp : 0 ≤ σ.1 2 ∧ σ.1 2 ≤ 65536) (h : ∀ (σ' : rS), (((∀ k, k ≠ 0 → k ≠ 2 → σ'.1 k = σ.1 k) ∧ σ'.2 = σ.2) ∧ 0 ≤ σ'.1 2 ∧ σ'.1 2 ≤ 65536 ∧ ((0 ≤ a1 ∧ a1 ≤ σ.1 2) → σ'.1 0 = 0 ∧ σ'.1 2 = a1) ∧ (¬ (0 ≤ a1 ∧ a1 ≤ σ.1 2) → σ'.1 0 = 1 ∧ σ'.1 2 = σ.1 2)) → Q σ') : cV C 0 m_end [.ref (co C), .int a1] σ Q := by
  refine m_end_run hC ?_
  unfold w_end_0
  refine ⟨fun c1 => ?_, fun c1 => ?_⟩
  · skip
    unfold w_end_18
    intro σ_2 hσ_2
    refine ⟨fun c3 => ?_, fun c3 => ?_⟩
    · skip
      intro σ_4 hσ_4
      refine h _ ?_
      · clear h; grind (splits := 24) [si1, si2, ri1, ri2, ri3, ri34, ri5, ob_ri, ob_si2, ob_only, ob_refl, vb5]  -- q1
    · skip
      intro σ_5 hσ_5
      refine h _ ?_
      · clear h; grind (splits := 24) [si1, si2, ri1, ri2, ri3, ri34, ri5, ob_ri, ob_si2, ob_only, ob_refl, vb5]  -- q2
  · skip
    refine ⟨fun c6 => ?_, fun c6 => ?_⟩
    · skip
      unfold w_end_18
      intro σ_7 hσ_7
      refine ⟨fun c8 => ?_, fun c8 => ?_⟩
      · skip
        intro σ_9 hσ_9
        refine h _ ?_
        · clear h; grind (splits := 24) [si1, si2, ri1, ri2, ri3, ri34, ri5, ob_ri, ob_si2, ob_only, ob_refl, vb5]  -- q3
      · skip
        intro σ_10 hσ_10
        refine h _ ?_
        · clear h; grind (splits := 24) [si1, si2, ri1, ri2, ri3, ri34, ri5, ob_ri, ob_si2, ob_only, ob_refl, vb5]  -- q4
    · skip
      unfold w_end_18
      intro σ_11 hσ_11
      refine ⟨fun c12 => ?_, fun c12 => ?_⟩
      · skip
        intro σ_13 hσ_13
        refine h _ ?_
        · clear h; grind (splits := 24) [si1, si2, ri1, ri2, ri3, ri34, ri5, ob_ri, ob_si2, ob_only, ob_refl, vb5]  -- q5
      · skip
        intro σ_14 hσ_14
        refine h _ ?_
        · clear h; grind (splits := 24) [si1, si2, ri1, ri2, ri3, ri34, ri5, ob_ri, ob_si2, ob_only, ob_refl, vb5]  -- q6

theorem feed_j {C : rCx} {σ : rS} {a1 a2 a3 a4 a5 : Int32} (hC : cOK C) (J : rJ σ) (h60 : σ.1 2 ≤ 60000) {Q : Int32 → rS → Prop} (h : ∀ v σ', rJ σ' → (oR9 σ' = fdO9 (oR9 σ) (by9 a1 a2 a3 a4 a5) ∧ kR7 σ σ') ∧ kS8 σ σ' → Q v σ') : cI C 0 m_feed [.ref (co C), .int a1, .int a2, .int a3, .int a4, .int a5] σ Q := feed_c9 hC ⟨J.1.1, h60⟩ (fun v σ' q => h v σ' (rJ_c J ⟨q.2.1, q.2.2.1⟩ (by rw [q.1.1 104 (by decide) (by decide)]; exact J.2.2.2.2.2.2.2) (fun k hk => q.1.1 k ((by decide : ∀ k, k ∈ rjF → k ≠ 0) k hk) ((by decide : ∀ k, k ∈ rjF → k ≠ 2) k hk)) (fun k hk => q.1.2.2.1 k ((by decide : ∀ k, k ∈ rjR → k ≠ 1) k hk)) (rjN_r (q.1.2.2.1 90 (by decide)) (q.1.2.2.1 91 (by decide)))) ⟨⟨(by
    have h0 := J.1.1
    have t60 : (60000 : Int32).toInt = 60000 := rfl
    have h61 := h60
    rw [lei, t0i] at h0
    rw [lei, t60] at h61
    have z := fd_m9 (f := σ.2.2.1 1) (f' := σ'.2.2.1 1) (G := by9 a1 a2 a3 a4 a5) (x := σ.1 53) h0 h61 q.2.2.2.2.1 q.2.2.2.2.2.2.1 q.2.2.2.2.2.2.2
    unfold oR9
    rw [q.1.1 53 (by decide) (by decide)]
    exact z), kR_f7 (fun k hk => q.1.1 k ((by decide : ∀ k, k ∈ kf7 → k ≠ 0) k hk) ((by decide : ∀ k, k ∈ kf7 → k ≠ 2) k hk)) (fun k hk => q.1.2.2.1 k ((by decide : ∀ k, k ∈ kz7 → k ≠ 1) k hk)) (fun j => q.1.2.2.2.2 8 j)⟩, kS_f8 (fun k hk => q.1.1 k ((by decide : ∀ k, k ∈ ke8 → k ≠ 0) k hk) ((by decide : ∀ k, k ∈ ke8 → k ≠ 2) k hk)) (fun k hk => q.1.2.2.1 k ((by decide : ∀ k, k ∈ kx8 → k ≠ 1) k hk)) (q.1.2.1 110) (kN_f16 (fun k hk => q.1.1 k ((by decide : ∀ k, k ∈ kf16 → k ≠ 0) k hk) ((by decide : ∀ k, k ∈ kf16 → k ≠ 2) k hk)) (fun k hk => q.1.2.2.1 k ((by decide : ∀ k, k ∈ kh16 → k ≠ 1) k hk)) (nM_r16 (q.1.2.2.1 90 (by decide)) (q.1.2.2.1 91 (by decide))))⟩)
theorem end_j {C : rCx} {σ : rS} {a1 : Int32} (hC : cOK C) (J : rJ σ) {Q : rS → Prop} (h : ∀ σ', rJ σ' → (oR9 σ' = trO9 (oR9 σ) a1 ∧ kR7 σ σ') ∧ kS8 σ σ' → Q σ') : cV C 0 m_end [.ref (co C), .int a1] σ Q := end_c2 hC J.1 (fun σ' q => h σ' (rJ_c J ⟨q.2.1, q.2.2.1⟩ (by rw [q.1.1 104 (by decide) (by decide)]; exact J.2.2.2.2.2.2.2) (fun k hk => q.1.1 k ((by decide : ∀ k, k ∈ rjF → k ≠ 0) k hk) ((by decide : ∀ k, k ∈ rjF → k ≠ 2) k hk)) (fun k _ => by rw [q.1.2]) (rjN_r (by rw [q.1.2]) (by rw [q.1.2]))) ⟨⟨(by
    unfold oR9
    rw [q.1.1 53 (by decide) (by decide), q.1.2]
    by_cases c : 0 ≤ a1 ∧ a1 ≤ σ.1 2
    · rw [tr_m9 c, (q.2.2.2.1 c).2]
    · rw [tr_n9 c, (q.2.2.2.2 c).2]), kR_f7 (fun k hk => q.1.1 k ((by decide : ∀ k, k ∈ kf7 → k ≠ 0) k hk) ((by decide : ∀ k, k ∈ kf7 → k ≠ 2) k hk)) (fun k _ => by rw [q.1.2]) (fun j => by rw [q.1.2])⟩, kS_f8 (fun k hk => q.1.1 k ((by decide : ∀ k, k ∈ ke8 → k ≠ 0) k hk) ((by decide : ∀ k, k ∈ ke8 → k ≠ 2) k hk)) (fun k _ => by rw [q.1.2]) (by rw [q.1.2]) (kN_f16 (fun k hk => q.1.1 k ((by decide : ∀ k, k ∈ kf16 → k ≠ 0) k hk) ((by decide : ∀ k, k ∈ kf16 → k ≠ 2) k hk)) (fun k _ => by rw [q.1.2]) (nM_r16 (by rw [q.1.2]) (by rw [q.1.2])))⟩)
theorem fault_j {C : rCx} {σ : rS} (hC : cOK C) (J : rJ σ) {Q : Int32 → rS → Prop} (h : ∀ v σ', rJ σ' → v = σ.1 53 → pR8 σ σ' → Q v σ') : cI C 0 m_fault [.ref (co C)] σ Q := fault_c9 hC (fun σ' q => h _ σ' (rJ_c J (by rw [q.1 2 (by decide)]; exact J.1) (by rw [q.1 104 (by decide)]; exact J.2.2.2.2.2.2.2) (fun k hk => q.1 k ((by decide : ∀ k, k ∈ rjF → k ≠ 0) k hk)) (fun k _ => by rw [q.2]) (rjN_r (by rw [q.2]) (by rw [q.2]))) rfl ⟨⟨oR_k9 (q.1 2 (by decide)) (q.1 53 (by decide)) (by rw [q.2]), kR_f7 (fun k hk => q.1 k ((by decide : ∀ k, k ∈ kf7 → k ≠ 0) k hk)) (fun k _ => by rw [q.2]) (fun j => by rw [q.2])⟩, kS_f8 (fun k hk => q.1 k ((by decide : ∀ k, k ∈ ke8 → k ≠ 0) k hk)) (fun k _ => by rw [q.2]) (by rw [q.2]) (kN_f16 (fun k hk => q.1 k ((by decide : ∀ k, k ∈ kf16 → k ≠ 0) k hk)) (fun k _ => by rw [q.2]) (nM_r16 (by rw [q.2]) (by rw [q.2])))⟩)
theorem forget_j {C : rCx} {σ : rS} (hC : cOK C) (J : rJ σ) {Q : Int32 → rS → Prop} (h : ∀ v σ', rJ σ' → (pO21 σ σ' ∧ kP23 σ σ' ∧ kN16 σ σ') → Q v σ') : cI C 0 m_forget [.ref (co C)] σ Q := forget_c hC (fun v σ' q => h v σ' (rJ_c J (by rw [q.1.1 2 (by decide) (by decide)]; exact J.1) (by rw [q.2.2]; decide) (fun k hk => q.1.1 k ((by decide : ∀ k, k ∈ rjF → k ≠ 0) k hk) ((by decide : ∀ k, k ∈ rjF → k ≠ 104) k hk)) (fun k _ => by rw [q.1.2]) (rjN_r (by rw [q.1.2]) (by rw [q.1.2]))) ⟨⟨⟨oR_k9 (q.1.1 2 (by decide) (by decide)) (q.1.1 53 (by decide) (by decide)) (by rw [q.1.2]), kR_f7 (fun k hk => q.1.1 k ((by decide : ∀ k, k ∈ kf7 → k ≠ 0) k hk) ((by decide : ∀ k, k ∈ kf7 → k ≠ 104) k hk)) (fun k _ => by rw [q.1.2]) (fun j => by rw [q.1.2])⟩, ⟨(fun k hk => q.1.1 k ((by decide : ∀ k, k ∈ kd7 → k ≠ 0) k hk) ((by decide : ∀ k, k ∈ kd7 → k ≠ 104) k hk)), (fun k _ => by rw [q.1.2])⟩, q.2.2⟩, ⟨fun k hk => q.1.1 k ((by decide : ∀ k, k ∈ kp23 → k ≠ 0) k hk) ((by decide : ∀ k, k ∈ kp23 → k ≠ 104) k hk), by rw [q.1.2], by rw [q.1.2]⟩, kN_f16 (fun k hk => q.1.1 k ((by decide : ∀ k, k ∈ kf16 → k ≠ 0) k hk) ((by decide : ∀ k, k ∈ kf16 → k ≠ 104) k hk)) (fun k _ => by rw [q.1.2]) (nM_r16 (by rw [q.1.2]) (by rw [q.1.2]))⟩)
theorem tell_j {C : rCx} {σ : rS} {a1 : Int32} (hC : cOK C) (J : rJ σ) {Q : Int32 → rS → Prop} (h : ∀ v σ', rJ σ' → (pL21 a1 σ σ' ∧ kP23 σ σ' ∧ kN16 σ σ') → Q v σ') : cI C 0 m_tell [.ref (co C), .int a1] σ Q := tell_g21 hC J.2.2.2.2.2.2.2 (fun v σ' q => h v σ' (rJ_c J (by rw [q.1.1 2 (by decide) (by decide)]; exact J.1) q.2.1 (fun k hk => q.1.1 k ((by decide : ∀ k, k ∈ rjF → k ≠ 0) k hk) ((by decide : ∀ k, k ∈ rjF → k ≠ 104) k hk)) (fun k hk => q.1.2.1 k ((by decide : ∀ k, k ∈ rjR → k ≠ 105) k hk)) (rjN_r (q.1.2.1 90 (by decide)) (q.1.2.1 91 (by decide)))) ⟨⟨⟨oR_k9 (q.1.1 2 (by decide) (by decide)) (q.1.1 53 (by decide) (by decide)) (q.1.2.1 1 (by decide)), kR_f7 (fun k hk => q.1.1 k ((by decide : ∀ k, k ∈ kf7 → k ≠ 0) k hk) ((by decide : ∀ k, k ∈ kf7 → k ≠ 104) k hk)) (fun k hk => q.1.2.1 k ((by decide : ∀ k, k ∈ kz7 → k ≠ 105) k hk)) (fun j => q.1.2.2.1 j)⟩, ⟨fun k hk => q.1.1 k ((by decide : ∀ k, k ∈ kd7 → k ≠ 0) k hk) ((by decide : ∀ k, k ∈ kd7 → k ≠ 104) k hk), fun k hk => q.1.2.1 k ((by decide : ∀ k, k ∈ kx7 → k ≠ 105) k hk)⟩, q.2.2.1, q.2.2.2⟩, ⟨fun k hk => q.1.1 k ((by decide : ∀ k, k ∈ kp23 → k ≠ 0) k hk) ((by decide : ∀ k, k ∈ kp23 → k ≠ 104) k hk), q.1.2.2.2, q.1.2.1 111 (by decide)⟩, kN_f16 (fun k hk => q.1.1 k ((by decide : ∀ k, k ∈ kf16 → k ≠ 0) k hk) ((by decide : ∀ k, k ∈ kf16 → k ≠ 104) k hk)) (fun k hk => q.1.2.1 k ((by decide : ∀ k, k ∈ kh16 → k ≠ 105) k hk)) (nM_r16 (q.1.2.1 90 (by decide)) (q.1.2.1 91 (by decide)))⟩)

end
section
set_option maxHeartbeats 1600000
/-- what program answers, by its reading -/
def pQ9 (σ : rS) (v : Int32) (σ' : rS) : Prop := ∃ σ2 : rS, (σ2.1 2 = σ.1 2 ∧ σ2.2.2.1 1 = σ.2.2.1 1 ∧ σ2.1 3 = σ.1 3 ∧ (σ.1 3 = 0 ∨ σ.1 3 = 65537)) ∧ σ'.1 53 = (g5_tellProgram σ2).1 11 ∧ ((g5_tellProgram σ2).1 11 = 0 → v = (g5_tellProgram σ2).1 19 ∧ σ'.1 14 = 1 ∧ (∀ g, g ∈ kf7 → g ≠ 14 → σ'.1 g = (g5_tellProgram σ2).1 g) ∧ σ'.2 = (g5_tellProgram σ2).2 ∧ eB (σ'.2.2.1 26) 0 5 ∧ ((g5_tellProgram σ2).1 3 = 0 ∨ (g5_tellProgram σ2).1 3 = 65537) ∧ (g5_tellProgram σ2).1 3 ≠ σ.1 3 ∧ σ'.1 69 = 0 ∧ no8 σ' ∧ σ'.1 106 = -1 ∧ σ'.1 94 = 0 ∧ σ'.1 114 = 0) ∧ ((g5_tellProgram σ2).1 11 ≠ 0 → v = (-1 : Int32) - (g5_tellProgram σ2).1 12 ∧ kR7 σ σ' ∧ kS9 σ σ')
/-- a text that fails leaves the code that stands -/
theorem kR_b7 {σ σ1 σ4 σ7 τ : rS} (q : back σ1 σ7 τ) (hb : σ.1 3 = 0 ∨ σ.1 3 = 65537) (t3 : σ4.1 3 = 0 ∨ σ4.1 3 = 65537) (t4 : σ4.1 3 ≠ σ.1 3) (t5 : ∀ k, (k = 5 ∨ k = 6 ∨ k = 7 ∨ k = 9 ∨ k = 39) → ∀ t : Int32, 0 ≤ t → (t < σ4.1 3 ∨ σ4.1 3 + 65536 < t) → rd σ4 k t = rd σ k t) (e1 : ∀ k, k ≠ 0 → σ1.1 k = σ.1 k) (s1 : σ1.2 = σ.2) (h14 : σ7.1 14 = σ.1 14) (s7 : σ7.2 = σ4.2) (hl : ∀ j, (if σ.1 3 = 0 then j ≤ 65536 else 65537 ≤ j) → σ4.2.2.2 8 j = σ.2.2.2 8 j) : kR7 σ τ := by
  obtain ⟨b1, b15, b16, b17, b18, b19, b40, b3, b5, b6, b7, b8⟩ := q
  refine ⟨fun g hg => ?_, fun p hp i hi => by rw [(b8 p hp).1 i hi, s1], fun k hk j hj => ?_, fun j hj => ?_⟩
  · have c : g = 3 ∨ g = 14 ∨ g = 15 ∨ g = 16 ∨ g = 17 ∨ g = 18 ∨ g = 19 ∨ g = 40 := by
      have z : ∀ g, g ∈ kf7 → g = 3 ∨ g = 14 ∨ g = 15 ∨ g = 16 ∨ g = 17 ∨ g = 18 ∨ g = 19 ∨ g = 40 := by decide
      exact z g hg
    rcases c with c | c | c | c | c | c | c | c <;> rw [c]
    · exact b3.trans (e1 3 (by decide))
    · exact (b1 14 (by decide) (by decide) (by decide) (by decide) (by decide) (by decide) (by decide) (by decide)).trans h14
    · exact b15.trans (e1 15 (by decide))
    · exact b16.trans (e1 16 (by decide))
    · exact b17.trans (e1 17 (by decide))
    · exact b18.trans (e1 18 (by decide))
    · exact b19.trans (e1 19 (by decide))
    · exact b40.trans (e1 40 (by decide))
  · have y : τ.2.2.1 k = σ4.2.2.1 k := by
      rw [b7 k (by omega) (by rcases hk with c | c | c | c | c <;> rw [c] <;> decide), s7]
    have jj : j ≤ 131073 := by
      unfold hf7 at hj
      by_cases c : σ.1 3 = 0
      · rw [if_pos c] at hj; omega
      · rw [if_neg c] at hj; omega
    have lj := ofn_i (n := j) (by omega)
    have z := t5 k hk (Int32.ofNat j) (by rw [lei, t0i]; omega) (by
      unfold hf7 at hj
      rcases hb with b | b
      · have t : σ4.1 3 = 65537 := by
          rcases t3 with t | t
          · exact absurd (t.trans b.symm) t4
          · exact t
        left
        rw [if_pos b] at hj
        rw [t, lti, lj]
        show (j : Int) < 65537
        omega
      · have t : σ4.1 3 = 0 := by
          rcases t3 with t | t
          · exact t
          · exact absurd (t.trans b.symm) t4
        right
        rw [b, if_neg (by decide)] at hj
        rw [t, lti, lj]
        show (65536 : Int) < j
        omega)
    unfold rd at z
    rw [cl_5 (by omega)] at z
    rw [y]
    exact z
  · rw [b6 8 j, s7]
    refine hl j ?_
    unfold hf7 at hj
    by_cases c : σ.1 3 = 0
    · rw [if_pos c] at hj ⊢; exact hj
    · rw [if_neg c] at hj ⊢; exact hj.1
theorem program_c9 {C : rCx} (hC : cOK C)  {σ : rS}  {Q : Int32 → rS → Prop} (hp : (σ.1 3 = 0 ∨ σ.1 3 = 65537) ∧ 0 ≤ σ.1 2 ∧ σ.1 2 ≤ 65536 ∧ tyAll σ ∧ (σ.1 14 ≠ 0 → ∃ T, progOK σ (σ.1 3) T)) (h : ∀ (v : Int32) (σ' : rS), (prQ σ σ' ∧ pQ9 σ v σ') → Q v σ') : cI C 13 m_program [.ref (co C)] σ Q := by
  refine m_program_run hC ?_
  unfold w_program_0
  obtain ⟨hb, hs0, hs1, hT, hP⟩ := hp
  intro σ_1 hσ_1
  refine swingAll_c_s hC  (fun σ_2 q3 => ?_)
  have e1 : ∀ k, k ≠ 0 → σ_1.1 k = σ.1 k := fun k hk => by rw [hσ_1, si1, if_neg hk]
  have s1 : σ_1.2 = σ.2 := by rw [hσ_1, si2]
  have e2 : ∀ k, k ≠ 0 → k ≠ 55 → σ_2.1 k = σ.1 k := fun k z1 z2 => (q3.1.1 k z2).trans (e1 k z1)
  have r2 : ∀ k, k ≠ 54 → k ≠ 56 → σ_2.2.2.1 k = σ.2.2.1 k := fun k z1 z2 => (q3.1.2.2.1 k z1 z2).trans (by rw [s1])
  have T1 : tyAll σ_1 := ty_s hT (fun k hk => e1 k (by omega)) (fun k _ _ => by rw [s1])
  have T2 : tyAll σ_2 := ty_s hT (fun k hk => e2 k (by omega) (by omega)) r2
  have F2 : frH zFF zRR σ σ_2 := ⟨fun k z => e2 k (fun e => z (by rw [e]; decide)) (fun e => z (by rw [e]; decide)), fun k => (q3.1.2.1 k).trans (by rw [s1]), fun k z => r2 k (fun e => z (by rw [e]; decide)) (fun e => z (by rw [e]; decide)), fun k j _ => (q3.1.2.2.2.2 k j).trans (by rw [s1])⟩
  refine tellProgram_g5 hC  ?_ (fun σ_4 q5z => ?_)
  · clear h; exact ⟨by rw [e2 3 (by decide) (by decide)]; exact hb, by rw [e2 2 (by decide) (by decide)]; exact hs0, by rw [e2 2 (by decide) (by decide)]; exact hs1, T2⟩  -- p1
  obtain ⟨q5, zg⟩ := q5z
  intro σ_6 hσ_6
  intro σ_7 hσ_7
  obtain ⟨t1, t2, t3, t4, t5, t6, t7⟩ := q5
  have e7 : ∀ k, k ≠ 2 → k ≠ 53 → σ_7.1 k = σ_4.1 k := fun k z1 z2 => by rw [hσ_7, si1, if_neg z2, hσ_6, si1, if_neg z1]
  have v7 : σ_7.1 2 = 0 := by rw [hσ_7, si1, if_neg (by decide), hσ_6, si1, if_pos rfl]
  have s7 : σ_7.2 = σ_4.2 := by rw [hσ_7, si2, hσ_6, si2]
  have F7 : frH zFF zRR σ σ_7 := frH_tr F2 (frH_tr (frZ_q t1) (by rw [hσ_7, hσ_6]; exact frH_tr (frZ_si (by decide)) (frZ_si (by decide))))
  have T7 : tyAll σ_7 := ty_s t2 (fun k hk => e7 k (by omega) (by omega)) (fun k _ _ => by rw [s7])
  have k7 : ∀ k, k ∉ qFF → k ≠ 0 → k ≠ 55 → k ≠ 2 → k ≠ 53 → σ_7.1 k = σ.1 k := fun k z1 z2 z3 z4 z5 => (e7 k z4 z5).trans ((t1.1 k z1).trans (e2 k z2 z3))
  refine ⟨fun c8 => ?_, fun c8 => ?_⟩
  · skip
    intro σ_9 hσ_9
    intro σ_10 hσ_10
    intro σ_11 hσ_11
    intro σ_12 hσ_12
    intro σ_13 hσ_13
    intro σ_14 hσ_14
    intro σ_15 hσ_15
    intro σ_16 hσ_16
    have x16 : ∀ k, k ≠ 14 → k ≠ 69 → k ≠ 94 → k ≠ 114 → k ≠ 106 → k ≠ 70 → k ≠ 71 → k ≠ 72 → σ_16.1 k = σ_7.1 k := fun k z1 z2 z3 z4 z5 z6 z7 z8 => by rw [hσ_16, si1, if_neg z8, hσ_15, si1, if_neg z7, hσ_14, si1, if_neg z6, hσ_13, si1, if_neg z5, hσ_12, si1, if_neg z4, hσ_11, si1, if_neg z3, hσ_10, si1, if_neg z2, hσ_9, si1, if_neg z1]
    have x53 : σ_7.1 53 = σ_4.1 11 := by rw [hσ_7, si1, if_pos rfl, hσ_6, si1, if_neg (by decide)]
    have z0 : σ_4.1 11 = 0 := by
      have c9 := c8
      rw [e7 11 (by decide) (by decide)] at c9
      exact Int32.le_antisymm c9 t7
    have s16z : σ_16.2 = σ_4.2 := by rw [hσ_16, si2, hσ_15, si2, hσ_14, si2, hσ_13, si2, hσ_12, si2, hσ_11, si2, hσ_10, si2, hσ_9, si2]; exact s7
    have y14 : σ_16.1 14 = 1 := by rw [hσ_16, si1, if_neg (by decide), hσ_15, si1, if_neg (by decide), hσ_14, si1, if_neg (by decide), hσ_13, si1, if_neg (by decide), hσ_12, si1, if_neg (by decide), hσ_11, si1, if_neg (by decide), hσ_10, si1, if_neg (by decide), hσ_9, si1, if_pos rfl]
    have y26 : eB (σ_16.2.2.1 26) 0 5 := by
      obtain ⟨_, z3, _⟩ := t2
      obtain ⟨_, _, _, _, z4, _⟩ := z3
      rw [s16z]
      exact z4
    have pq : pQ9 σ (σ_16.1 19) σ_16 := ⟨σ_2, ⟨e2 2 (by decide) (by decide), r2 1 (by decide) (by decide), e2 3 (by decide) (by decide), hb⟩, by rw [zg, x16 53 (by decide) (by decide) (by decide) (by decide) (by decide) (by decide) (by decide) (by decide), x53], fun _ => ⟨by rw [zg, x16 19 (by decide) (by decide) (by decide) (by decide) (by decide) (by decide) (by decide) (by decide), e7 19 (by decide) (by decide)], y14, fun g hg n14 => by
      rw [zg, x16 g n14 ((by decide : ∀ g, g ∈ kf7 → g ≠ 69) g hg) ((by decide : ∀ g, g ∈ kf7 → g ≠ 94) g hg) ((by decide : ∀ g, g ∈ kf7 → g ≠ 114) g hg) ((by decide : ∀ g, g ∈ kf7 → g ≠ 106) g hg) ((by decide : ∀ g, g ∈ kf7 → g ≠ 70) g hg) ((by decide : ∀ g, g ∈ kf7 → g ≠ 71) g hg) ((by decide : ∀ g, g ∈ kf7 → g ≠ 72) g hg), e7 g ((by decide : ∀ g, g ∈ kf7 → g ≠ 2) g hg) ((by decide : ∀ g, g ∈ kf7 → g ≠ 53) g hg)], by rw [zg]; exact s16z, y26, by rw [zg]; exact t3, by rw [zg, ← e2 3 (by decide) (by decide)]; exact t4, by rw [hσ_16, si1, if_neg (by decide), hσ_15, si1, if_neg (by decide), hσ_14, si1, if_neg (by decide), hσ_13, si1, if_neg (by decide), hσ_12, si1, if_neg (by decide), hσ_11, si1, if_neg (by decide), hσ_10, si1, if_pos rfl], ⟨by rw [hσ_16, si1, if_neg (by decide), hσ_15, si1, if_neg (by decide), hσ_14, si1, if_pos rfl], by rw [hσ_16, si1, if_neg (by decide), hσ_15, si1, if_pos rfl], by rw [hσ_16, si1, if_pos rfl]⟩, by rw [hσ_16, si1, if_neg (by decide), hσ_15, si1, if_neg (by decide), hσ_14, si1, if_neg (by decide), hσ_13, si1, if_pos rfl], by rw [hσ_16, si1, if_neg (by decide), hσ_15, si1, if_neg (by decide), hσ_14, si1, if_neg (by decide), hσ_13, si1, if_neg (by decide), hσ_12, si1, if_neg (by decide), hσ_11, si1, if_pos rfl], by rw [hσ_16, si1, if_neg (by decide), hσ_15, si1, if_neg (by decide), hσ_14, si1, if_neg (by decide), hσ_13, si1, if_neg (by decide), hσ_12, si1, if_pos rfl]⟩, fun z => absurd (by rw [zg]; exact z0) z⟩
    refine h _ _ ⟨?_, pq⟩
    · clear h; have s16 : σ_16.2 = σ_4.2 := by rw [hσ_16, si2, hσ_15, si2, hσ_14, si2, hσ_13, si2, hσ_12, si2, hσ_11, si2, hσ_10, si2, hσ_9, si2]; exact s7
      have e16 : ∀ k, k ≠ 14 → k ≠ 69 → k ≠ 94 → k ≠ 114 → k ≠ 106 → k ≠ 70 → k ≠ 71 → k ≠ 72 → σ_16.1 k = σ_7.1 k := fun k z1 z2 z3 z4 z5 z6 z7 z8 => by rw [hσ_16, si1, if_neg z8, hσ_15, si1, if_neg z7, hσ_14, si1, if_neg z6, hσ_13, si1, if_neg z5, hσ_12, si1, if_neg z4, hσ_11, si1, if_neg z3, hσ_10, si1, if_neg z2, hσ_9, si1, if_neg z1]
      have e4 : ∀ k, k ≠ 2 → k ≠ 53 → k ≠ 14 → k ≠ 69 → k ≠ 94 → k ≠ 114 → k ≠ 106 → k ≠ 70 → k ≠ 71 → k ≠ 72 → σ_16.1 k = σ_4.1 k := fun k y1 y2 z1 z2 z3 z4 z5 z6 z7 z8 => (e16 k z1 z2 z3 z4 z5 z6 z7 z8).trans (e7 k y1 y2)
      have f0 : σ_4.1 11 = 0 := by
        rw [e7 11 (by decide) (by decide)] at c8
        exact Int32.le_antisymm c8 t7
      obtain ⟨T, pk⟩ := t6 f0
      have d3 := e4 3 (by decide) (by decide) (by decide) (by decide) (by decide) (by decide) (by decide) (by decide) (by decide) (by decide)
      refine ⟨by rw [d3]; exact t3, by rw [e16 2 (by decide) (by decide) (by decide) (by decide) (by decide) (by decide) (by decide) (by decide)]; exact v7, ?_, fun _ => ⟨T, ?_⟩, ?_, Or.inr ⟨?_, ?_, ?_, ?_, ?_, ?_, ?_, ?_⟩⟩
      · exact ty_s t2 (fun k hk => e4 k (by omega) (by omega) (by omega) (by omega) (by omega) (by omega) (by omega) (by omega) (by omega) (by omega)) (fun k _ _ => by rw [s16])
      · rw [d3]
        exact progOK_L t2 pk (fun t _ _ => by rw [s16]) (fun t _ _ => by rw [s16]) (fun t _ _ => by rw [s16]) (e4 18 (by decide) (by decide) (by decide) (by decide) (by decide) (by decide) (by decide) (by decide) (by decide) (by decide)) (e4 19 (by decide) (by decide) (by decide) (by decide) (by decide) (by decide) (by decide) (by decide) (by decide) (by decide)) (e4 40 (by decide) (by decide) (by decide) (by decide) (by decide) (by decide) (by decide) (by decide) (by decide) (by decide)) (fun k _ j _ => by rw [s16]) (fun k _ j _ => by rw [s16])
      · refine frH_tr F7 ⟨fun k z => e16 k ?_ ?_ ?_ ?_ ?_ ?_ ?_ ?_, fun k => by rw [s16, s7], fun k _ => by rw [s16, s7], fun k j _ => by rw [s16, s7]⟩ <;> exact fun e => z (by rw [e]; decide)
      · rw [hσ_16, si1, if_neg (by decide), hσ_15, si1, if_neg (by decide), hσ_14, si1, if_neg (by decide), hσ_13, si1, if_neg (by decide), hσ_12, si1, if_neg (by decide), hσ_11, si1, if_neg (by decide), hσ_10, si1, if_neg (by decide), hσ_9, si1, if_pos rfl]
      · rw [hσ_16, si1, if_neg (by decide), hσ_15, si1, if_neg (by decide), hσ_14, si1, if_neg (by decide), hσ_13, si1, if_neg (by decide), hσ_12, si1, if_neg (by decide), hσ_11, si1, if_neg (by decide), hσ_10, si1, if_pos rfl]
      · rw [hσ_16, si1, if_neg (by decide), hσ_15, si1, if_neg (by decide), hσ_14, si1, if_pos rfl]
      · rw [hσ_16, si1, if_neg (by decide), hσ_15, si1, if_pos rfl]
      · rw [hσ_16, si1, if_pos rfl]
      · rw [hσ_16, si1, if_neg (by decide), hσ_15, si1, if_neg (by decide), hσ_14, si1, if_neg (by decide), hσ_13, si1, if_neg (by decide), hσ_12, si1, if_neg (by decide), hσ_11, si1, if_pos rfl]
      · rw [hσ_16, si1, if_neg (by decide), hσ_15, si1, if_neg (by decide), hσ_14, si1, if_neg (by decide), hσ_13, si1, if_pos rfl]
      · rw [hσ_16, si1, if_neg (by decide), hσ_15, si1, if_neg (by decide), hσ_14, si1, if_neg (by decide), hσ_13, si1, if_neg (by decide), hσ_12, si1, if_pos rfl]
  · skip
    refine swingAll_c_b hC σ_1 ?_ (fun σ_17 q18 => ?_)
    · clear h; exact kept_s q3.2 (by rw [s7]; exact t1.2.2.1 54 (by decide))  -- p3
    have y53 : σ_17.1 53 = σ_4.1 11 := by rw [q18.1 53 (by decide) (by decide) (by decide) (by decide) (by decide) (by decide) (by decide) (by decide), hσ_7, si1, if_pos rfl, hσ_6, si1, if_neg (by decide)]
    have y12 : σ_17.1 12 = σ_4.1 12 := by rw [q18.1 12 (by decide) (by decide) (by decide) (by decide) (by decide) (by decide) (by decide) (by decide), e7 12 (by decide) (by decide)]
    have n0 : ¬ σ_4.1 11 = 0 := fun z => c8 (by rw [e7 11 (by decide) (by decide), z]; decide)
    have okS2 : okS5 σ_2 := by
      have j0 := hs0
      have j1 := hs1
      rw [lei, t0i] at j0
      rw [lei, show (65536 : Int32).toInt = 65536 from rfl] at j1
      unfold okS5
      rw [e2 2 (by decide) (by decide)]
      exact ⟨j0, j1⟩
    have kr : kR7 σ σ_17 := kR_b7 q18 hb t3 (by rw [← e2 3 (by decide) (by decide)]; exact t4) (fun k hk t h1 h2 => by
        rw [rd, rd, ← r2 k (by omega) (by omega)]
        exact t5 k hk t h1 h2) e1 s1 (by
        rw [e7 14 (by decide) (by decide)]
        exact (t1.1 14 (by decide)).trans (e2 14 (by decide) (by decide))) s7 (fun j hj => by
        rw [← zg, tell_l6 okS2 j (by
          rw [e2 3 (by decide) (by decide)]
          exact hj), q3.1.2.2.2.2 8 j, s1])
    have ks : kS9 σ σ_17 := by
      obtain ⟨b1, _, _, _, _, _, _, _, _, _, b7, _⟩ := q18
      refine ⟨fun g hg => ?_, fun g hg => ?_, fun g hg => ?_, fun g hg => ?_⟩
      · rw [b1 g ((by decide : ∀ g, g ∈ ke8 → g ≠ 55) g hg) ((by decide : ∀ g, g ∈ ke8 → g ≠ 15) g hg) ((by decide : ∀ g, g ∈ ke8 → g ≠ 16) g hg) ((by decide : ∀ g, g ∈ ke8 → g ≠ 17) g hg) ((by decide : ∀ g, g ∈ ke8 → g ≠ 18) g hg) ((by decide : ∀ g, g ∈ ke8 → g ≠ 19) g hg) ((by decide : ∀ g, g ∈ ke8 → g ≠ 40) g hg) ((by decide : ∀ g, g ∈ ke8 → g ≠ 3) g hg)]
        exact k7 g ((by decide : ∀ g, g ∈ ke8 → g ∉ qFF) g hg) ((by decide : ∀ g, g ∈ ke8 → g ≠ 0) g hg) ((by decide : ∀ g, g ∈ ke8 → g ≠ 55) g hg) ((by decide : ∀ g, g ∈ ke8 → g ≠ 2) g hg) ((by decide : ∀ g, g ∈ ke8 → g ≠ 53) g hg)
      · rw [b7 g ((by decide : ∀ g, g ∈ kx8 → g ≠ 56) g hg) (fun p hp e => (by decide : ∀ p, p ∈ kPt → p.1 ∉ kx8) p hp (by rw [e]; exact hg)), s7, t1.2.2.1 g ((by decide : ∀ g, g ∈ kx8 → g ∉ qRR) g hg)]
        exact r2 g ((by decide : ∀ g, g ∈ kx8 → g ≠ 54) g hg) ((by decide : ∀ g, g ∈ kx8 → g ≠ 56) g hg)
      · rw [b1 g ((by decide : ∀ g, g ∈ kf16 → g ≠ 55) g hg) ((by decide : ∀ g, g ∈ kf16 → g ≠ 15) g hg) ((by decide : ∀ g, g ∈ kf16 → g ≠ 16) g hg) ((by decide : ∀ g, g ∈ kf16 → g ≠ 17) g hg) ((by decide : ∀ g, g ∈ kf16 → g ≠ 18) g hg) ((by decide : ∀ g, g ∈ kf16 → g ≠ 19) g hg) ((by decide : ∀ g, g ∈ kf16 → g ≠ 40) g hg) ((by decide : ∀ g, g ∈ kf16 → g ≠ 3) g hg)]
        exact k7 g ((by decide : ∀ g, g ∈ kf16 → g ∉ qFF) g hg) ((by decide : ∀ g, g ∈ kf16 → g ≠ 0) g hg) ((by decide : ∀ g, g ∈ kf16 → g ≠ 55) g hg) ((by decide : ∀ g, g ∈ kf16 → g ≠ 2) g hg) ((by decide : ∀ g, g ∈ kf16 → g ≠ 53) g hg)
      · rw [b7 g ((by decide : ∀ g, g ∈ kh16 → g ≠ 56) g hg) (fun p hp e => (by decide : ∀ p, p ∈ kPt → p.1 ∉ kh16) p hp (by rw [e]; exact hg)), s7, t1.2.2.1 g ((by decide : ∀ g, g ∈ kh16 → g ∉ qRR) g hg)]
        exact r2 g ((by decide : ∀ g, g ∈ kh16 → g ≠ 54) g hg) ((by decide : ∀ g, g ∈ kh16 → g ≠ 56) g hg)
    have pq : pQ9 σ ((-1 : Int32) - σ_17.1 12) σ_17 := ⟨σ_2, ⟨e2 2 (by decide) (by decide), r2 1 (by decide) (by decide), e2 3 (by decide) (by decide), hb⟩, by rw [zg, y53], fun z => absurd (by rw [← zg]; exact z) n0, fun _ => ⟨by rw [zg, y12], kr, ks⟩⟩
    refine h _ _ ⟨?_, pq⟩
    · clear h; have T17 := ty_back q18 T1 T7
      obtain ⟨b1, b15, b16, b17, b18, b19, b40, b3, b5, b6, b7, b8⟩ := q18
      have bf : ∀ k, k ∉ [55, 15, 16, 17, 18, 19, 40, 3] → σ_17.1 k = σ_7.1 k := fun k z => b1 k (fun e => z (by rw [e]; decide)) (fun e => z (by rw [e]; decide)) (fun e => z (by rw [e]; decide)) (fun e => z (by rw [e]; decide)) (fun e => z (by rw [e]; decide)) (fun e => z (by rw [e]; decide)) (fun e => z (by rw [e]; decide)) (fun e => z (by rw [e]; decide))
      have d3 : σ_17.1 3 = σ.1 3 := b3.trans (e1 3 (by decide))
      have kk : ∀ k, k ∉ [55, 15, 16, 17, 18, 19, 40, 3] → k ∉ qFF → k ≠ 0 → k ≠ 55 → k ≠ 2 → k ≠ 53 → σ_17.1 k = σ.1 k := fun k z1 z2 z3 z4 z5 z6 => (bf k z1).trans (k7 k z2 z3 z4 z5 z6)
      have d14 : σ_17.1 14 = σ.1 14 := kk 14 (by decide) (by decide) (by decide) (by decide) (by decide) (by decide)
      refine ⟨by rw [d3]; exact hb, by rw [bf 2 (by decide)]; exact v7, T17, fun z => ?_, ?_, Or.inl ⟨d14, kk 69 (by decide) (by decide) (by decide) (by decide) (by decide) (by decide), kk 70 (by decide) (by decide) (by decide) (by decide) (by decide) (by decide), kk 71 (by decide) (by decide) (by decide) (by decide) (by decide) (by decide), kk 72 (by decide) (by decide) (by decide) (by decide) (by decide) (by decide), kk 94 (by decide) (by decide) (by decide) (by decide) (by decide) (by decide), kk 106 (by decide) (by decide) (by decide) (by decide) (by decide) (by decide), kk 114 (by decide) (by decide) (by decide) (by decide) (by decide) (by decide)⟩⟩
      · rw [d14] at z
        obtain ⟨T, pk⟩ := hP z
        have tok : ∀ k, k = 5 ∨ k = 7 ∨ k = 39 → lc (σ.2.2.1 k) (σ_17.2.2.1 k) (σ.1 3) T := fun k hk t ht ht2 => by
          have w := two_b hb t3 (by rw [← e2 3 (by decide) (by decide)]; exact t4) pk.2.2.1 pk.2.2.2.1 ht ht2
          have x := t5 k (by omega) t w.1 w.2
          have y : σ_17.2.2.1 k = σ_4.2.2.1 k := by
            rcases hk with rfl | rfl | rfl
            · rw [b7 5 (by decide) (by decide), s7]
            · rw [b7 7 (by decide) (by decide), s7]
            · rw [b7 39 (by decide) (by decide), s7]
          rw [y]
          refine x.trans ?_
          rw [rd, r2 k (by omega) (by omega)]
        have rw1 : ∀ p ∈ kPt, ∀ j, j < p.2.2 → σ_17.2.2.1 p.1 j = σ.2.2.1 p.1 j := fun p hp j hj => by rw [(b8 p hp).1 j hj, s1]
        refine ⟨T, ?_⟩
        rw [d3]
        refine progOK_L hT pk (tok 5 (by decide)) (tok 7 (by decide)) (tok 39 (by decide)) (b18.trans (e1 18 (by decide))) (b19.trans (e1 19 (by decide))) (b40.trans (e1 40 (by decide))) (fun k hk j hj => ?_) (fun k hk j hj => ?_)
        · rcases hk with rfl | rfl | rfl | rfl | rfl | rfl | rfl | rfl
          · exact rw1 (30, 157, 150) (by decide) j hj
          · exact rw1 (31, 307, 150) (by decide) j hj
          · exact rw1 (32, 457, 150) (by decide) j hj
          · exact rw1 (33, 607, 150) (by decide) j hj
          · exact rw1 (34, 757, 150) (by decide) j hj
          · exact rw1 (35, 907, 150) (by decide) j hj
          · exact rw1 (36, 1057, 150) (by decide) j hj
          · exact rw1 (37, 1207, 150) (by decide) j hj
        · rcases hk with rfl | rfl
          · exact rw1 (26, 47, 10) (by decide) j hj
          · exact rw1 (29, 147, 10) (by decide) j hj
      · refine frH_tr F7 ⟨fun k z => bf k (fun e => z ((by decide : ∀ q ∈ [55, 15, 16, 17, 18, 19, 40, 3], q ∈ zFF) k e)), b5, fun k z => b7 k (fun e => z (by rw [e]; decide)) (fun p hp e => z (by rw [← e]; exact (by decide : ∀ p ∈ kPt, p.1 ∈ zRR) p hp)), fun k j _ => b6 k j⟩

/-! the reference: what holds behind decide, show, solve, best, explore, program, play, walk -/
abbrev rjA : List Nat := [2, 53, 3, 14, 15, 16, 17, 18, 19, 40, 41, 42, 104]
abbrev rjZ : List Nat := 1 :: 6 :: 9 :: 21 :: rjQ
abbrev rjY : List Nat := 1 :: 6 :: 9 :: 21 :: rjR
theorem rJ_x {σ τ : rS} (J : rJ σ) (hf : ∀ k, k ∈ rjA → τ.1 k = σ.1 k) (hr : ∀ k, k ∈ rjZ → τ.2.2.1 k = σ.2.2.1 k) (hl : ∀ j, τ.2.2.2 8 j = σ.2.2.2 8 j) (e : exP τ) (v : jVs τ) (w : jWo τ) (p : plN τ) (s : shO τ) : rJ τ ∧ pR7 σ τ :=
  ⟨⟨by rw [hf 2 (by decide)]; exact J.1, jBk_o J.2.1 (hf 3 (by decide)) (hf 14 (by decide)) (fun k hk => hf k ((by decide : ∀ k, k ∈ rjP → k ∈ rjA) k hk)) (fun k hk => hr k (List.mem_cons_of_mem _ (List.mem_cons_of_mem _ (List.mem_cons_of_mem _ (List.mem_cons_of_mem _ hk))))), e, v, w, p, s, by rw [hf 104 (by decide)]; exact J.2.2.2.2.2.2.2⟩, ⟨oR_k9 (hf 2 (by decide)) (hf 53 (by decide)) (hr 1 (by decide)), kR_f7 (fun k hk => hf k ((by decide : ∀ k, k ∈ kf7 → k ∈ rjA) k hk)) (fun k hk => hr k ((by decide : ∀ k, k ∈ kz7 → k ∈ rjZ) k hk)) hl⟩⟩
theorem rj_88 {σ : rS} (J : rJ σ) : 0 ≤ σ.1 88 := J.2.2.1.2.2.2.1
section callz
variable {C : rCx} {σ : rS} {a1 a2 : Int32}
theorem explore_j (hC : cOK C) (J : rJ σ) {Q : Int32 → rS → Prop} (h : ∀ v σ', rJ σ' → pR7 σ σ' → XS22 a1 σ σ' v → Q v σ') : cI C 11 m_explore [.ref (co C), .int a1] σ Q := explore_g16 hC ⟨J.2.1.2.1, J.2.1.2.2, J.2.2.1⟩ (fun v σ' q => by
  obtain ⟨⟨f, e, -, -, z⟩, xs⟩ := q
  have r0 := f.2.2.1 90 (by decide)
  have r1 := f.2.2.1 91 (by decide)
  have g := rJ_x J (fun k hk => f.1 k ((by decide : ∀ k, k ∈ rjA → k ∉ xpF) k hk)) (fun k hk => f.2.2.1 k ((by decide : ∀ k, k ∈ rjZ → k ∉ xpR) k hk)) (fun j => by rw [f.2.2.2 8 (by decide)]) e (by
    rcases z with z | z
    · exact jVs_o J.2.2.2.1 (by rw [z.1 94 (by decide)]; exact fun y => y) (z.1 70 (by decide)) (by rw [z.2])
    · exact fun y => absurd z.1 y) (by
    rcases z with z | z
    · exact jWo_o J.2.2.2.2.1 (by rw [z.1 114 (by decide)]; exact fun y => y) (z.1 70 (by decide)) (by rw [z.2]) (by rw [z.2])
    · exact fun y => absurd z.2 y) (plN_o J.2.2.2.2.2.1 (by rw [f.1 106 (by decide)]; exact fun y => y) (fun k hk => ⟨by rw [r1], fun i _ => by rw [r0]⟩)) (shO_o J.2.2.2.2.2.2.1 (f.1 103 (by decide)) (fun k hk => ⟨by rw [r1], fun i _ => by rw [r0]⟩))
  exact h v σ' g.1 g.2 ⟨xs, ⟨f.1 104 (by decide), f.2.2.1 105 (by decide)⟩, ⟨fun g q => f.1 g (by rcases q with q | q | q | q <;> rw [q] <;> decide), by rw [f.2.1], f.2.2.1 111 (by decide)⟩, f.1 103 (by decide), nM_r16 r0 r1⟩)
theorem program_j (hC : cOK C) (J : rJ σ) {Q : Int32 → rS → Prop} (h : ∀ v σ', rJ σ' → oR9 σ' = ((fun _ => 0, 0, σ'.1 53) : Ob9) → (pQ9 σ v σ' ∧ kD20 σ σ' ∧ σ'.2.1 110 = σ.2.1 110 ∧ kE16 σ σ') → Q v σ') : cI C 13 m_program [.ref (co C)] σ Q := program_c9 hC ⟨J.2.1.1, J.1.1, J.1.2, J.2.1.2.1, J.2.1.2.2⟩ (fun v σ' q => by
  obtain ⟨⟨b3, b2, ty, pg, f, z⟩, pq⟩ := q
  have r0 := f.2.2.1 90 (by decide)
  have r1 := f.2.2.1 91 (by decide)
  have e104 := f.1 104 (by decide)
  have e88 := f.1 88 (by decide)
  refine h v σ' ⟨by rw [b2]; decide, ⟨b3, ty, pg⟩, ?_, ?_, ?_, ?_, shO_o J.2.2.2.2.2.2.1 (f.1 103 (by decide)) (fun k hk => ⟨by rw [r1], fun i _ => by rw [r0]⟩), by rw [e104]; exact J.2.2.2.2.2.2.2⟩ (by unfold oR9; rw [b2]; exact mk_09) ⟨pq, ⟨e104, f.2.2.1 105 (by decide)⟩, f.2.1 110, f.1 103 (by decide), nM_r16 r0 r1⟩
  · rcases z with z | z
    · exact exP_o J.2.2.1 (fun k hk => by
        rcases hk with y | y | y | y <;> rw [y]
        · exact z.2.2.1
        · exact z.2.2.2.1
        · exact z.2.2.2.2.1
        · exact e88) (fun k hk => f.2.2.1 k (by rcases hk with z | z | z | z | z | z | z | z <;> rw [z] <;> decide))
    · exact exP_0 z.2.2.1 z.2.2.2.1 z.2.2.2.2.1 (by rw [e88]; exact rj_88 J)
  · rcases z with z | z
    · exact jVs_o J.2.2.2.1 (by rw [z.2.2.2.2.2.1]; exact fun y => y) z.2.2.1 (f.2.2.1 102 (by decide))
    · exact fun y => absurd z.2.2.2.2.2.1 y
  · rcases z with z | z
    · exact jWo_o J.2.2.2.2.1 (by rw [z.2.2.2.2.2.2.2]; exact fun y => y) z.2.2.1 (f.2.2.1 115 (by decide)) (f.2.2.1 116 (by decide))
    · exact fun y => absurd z.2.2.2.2.2.2.2 y
  · refine plN_o J.2.2.2.2.2.1 ?_ (fun k hk => ⟨by rw [r1], fun i _ => by rw [r0]⟩)
    rcases z with z | z
    · rw [z.2.2.2.2.2.2.1]; exact fun y => y
    · exact fun y => absurd z.2.2.2.2.2.2.1 y)
theorem rJ_w {σ ρ τ : rS} (J : rJ σ) (hρ : ∀ k, k ≠ 113 → ρ.1 k = σ.1 k) (hs : ρ.2.2 = σ.2.2) (f : frW ρ τ) (p : plN τ) : rJ τ ∧ (pR7 σ τ ∧ kX7 σ τ ∧ kD20 σ τ ∧ kY16 σ τ) := by
  have ef : ∀ k, k ∉ pyF → k ≠ 113 → τ.1 k = σ.1 k := fun k z1 z2 => (f.1 k z1).trans (hρ k z2)
  have er : ∀ k, k ≠ 90 → k ≠ 91 → k ∉ pyR → τ.2.2.1 k = σ.2.2.1 k := fun k z1 z2 z3 => (f.2.2.1 k z1 z2 z3).trans (by rw [hs])
  have g := rJ_x J (fun k hk => ef k ((by decide : ∀ k, k ∈ rjA → k ∉ pyF) k hk) ((by decide : ∀ k, k ∈ rjA → k ≠ 113) k hk)) (fun k hk => er k ((by decide : ∀ k, k ∈ rjZ → k ≠ 90) k hk) ((by decide : ∀ k, k ∈ rjZ → k ≠ 91) k hk) ((by decide : ∀ k, k ∈ rjZ → k ∉ pyR) k hk)) (fun j => (f.2.2.2.1 8 j).trans (by rw [hs])) (exP_o J.2.2.1 (fun k hk => ef k (by rcases hk with z | z | z | z <;> rw [z] <;> decide) (by rcases hk with z | z | z | z <;> rw [z] <;> decide)) (fun k hk => er k (by rcases hk with z | z | z | z | z | z | z | z <;> rw [z] <;> decide) (by rcases hk with z | z | z | z | z | z | z | z <;> rw [z] <;> decide) (by rcases hk with z | z | z | z | z | z | z | z <;> rw [z] <;> decide))) (jVs_o J.2.2.2.1 (by rw [ef 94 (by decide) (by decide)]; exact fun y => y) (ef 70 (by decide) (by decide)) (er 102 (by decide) (by decide) (by decide))) (jWo_o J.2.2.2.2.1 (by rw [ef 114 (by decide) (by decide)]; exact fun y => y) (ef 70 (by decide) (by decide)) (er 115 (by decide) (by decide) (by decide)) (er 116 (by decide) (by decide) (by decide))) p (shO_o J.2.2.2.2.2.2.1 (ef 103 (by decide) (by decide)) (fun k hk => by
    have y := f.2.2.2.2 k (by rcases hk with z | z <;> rw [z] <;> decide)
    rw [hs] at y
    exact y))
  have x := (fun k hk h1 => ef k hk h1 : ∀ k, k ∉ pyF → k ≠ 113 → τ.1 k = σ.1 k)
  exact ⟨g.1, g.2, ⟨fun k hk => ef k ((by decide : ∀ k, k ∈ kd7 → k ∉ pyF) k hk) ((by decide : ∀ k, k ∈ kd7 → k ≠ 113) k hk), fun k hk => er k ((by decide : ∀ k, k ∈ kx7 → k ≠ 90) k hk) ((by decide : ∀ k, k ∈ kx7 → k ≠ 91) k hk) ((by decide : ∀ k, k ∈ kx7 → k ∉ pyR) k hk)⟩, ⟨ef 104 (by decide) (by decide), er 105 (by decide) (by decide) (by decide)⟩, fun k hk => ef k ((by decide : ∀ k, k ∈ kf16 → k ∉ pyF) k hk) ((by decide : ∀ k, k ∈ kf16 → k ≠ 113) k hk), fun k hk => er k ((by decide : ∀ k, k ∈ kh16 → k ≠ 90) k hk) ((by decide : ∀ k, k ∈ kh16 → k ≠ 91) k hk) ((by decide : ∀ k, k ∈ kh16 → k ∉ pyR) k hk), fun k h1 h2 => (by
    have y := f.2.2.2.2 k (by have : k = 15 ∨ k = 16 := by omega
                              rcases this with z | z <;> rw [z] <;> decide)
    rw [hs] at y
    exact y), fun z => ⟨(p z).1, (p z).2.1⟩⟩
theorem rj_T (J : rJ σ) : ∃ T, (σ.1 14 ≠ 0 → rI σ (σ.1 3) T) := by
  by_cases z : σ.1 14 = 0
  · exact ⟨0, fun y => absurd z y⟩
  · obtain ⟨T, g⟩ := J.2.1.2.2 z
    exact ⟨T, fun _ => ⟨J.2.1.2.1, g⟩⟩

end callz

end
