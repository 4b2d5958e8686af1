section
set_option maxHeartbeats 1600000
/-! the reference: show: where it throws, what is shown stays -/
def kX16 (σ τ : rS) : Prop := τ.1 103 = σ.1 103 ∧ ∀ k, 15 ≤ k → k ≤ 16 → τ.2.2.1 91 k = σ.2.2.1 91 k ∧ ∀ i, i < 40000 → τ.2.2.1 90 (40000 * k + i) = σ.2.2.1 90 (40000 * k + i)
theorem kX_r16 {σ : rS} : kX16 σ σ := ⟨rfl, fun _ _ _ => ⟨rfl, fun _ _ => rfl⟩⟩
theorem kX_s16 {σ τ : rS} {k : Nat} {v : Int32} (hk : 103 ≠ k) (h : kX16 σ τ) : kX16 σ (siU τ k v) := by
  refine ⟨(si1.trans (if_neg hk)).trans h.1, fun j a b => ?_⟩
  have e : (siU τ k v).2 = τ.2 := si2
  rw [e]
  exact h.2 j a b
theorem kX_f16 {σ τ υ : rS} {l : List Nat} (h : kX16 σ τ) (f : frS l τ υ) (h15 : 15 ∉ l) (h16 : 16 ∉ l) : kX16 σ υ := ⟨(f.1 103 (by decide)).trans h.1, fun j a b => by
  have nj : j ∉ l := by
    have : j = 15 ∨ j = 16 := by omega
    rcases this with e | e <;> rw [e]
    · exact h15
    · exact h16
  have y := f.2.2.2.2 j nj
  have z := h.2 j a b
  exact ⟨y.1.trans z.1, fun i hi => (y.2 i hi).trans (z.2 i hi)⟩⟩
theorem show_n16 {C : rCx} (hC : cOK C) (s : Nat) {σ : rS} {a1 : Int32} {a2 : Int32} {Q : Int32 → rS → Prop} (hp : pOK σ ∧ s = (σ.1 70).toNatClampNeg ∧ (σ.1 94 ≠ 0 → ∀ k, k < s → vOK σ k) ∧ (σ.1 114 ≠ 0 → ∀ k, k < s → wkO σ 115 116 k) ∧ plN σ ∧ shO σ) (h : ∀ (v : Int32) (σ' : rS), ((frT shF shL σ σ' ∧ shO σ') ∧ ((¬ σ'.1 0 ≤ 0 → kX16 σ σ'))) → Q v σ') : cI C 8 m_show [.ref (co C), .int a1, .int a2] σ Q := by
  refine m_show_run hC ?_
  unfold w_show_0
  obtain ⟨hO, hs, hv, hw, hn, hh⟩ := hp
  have hj352 : ∀  (τ : rS), ((frT shF shL σ τ ∧ numO τ 4 ∧ numO τ 5) ∧ τ.1 0 ≤ 0) → w_show_352 C Q   τ := by
    rintro  τ352 ⟨j352, hE⟩
    unfold w_show_352
    obtain ⟨F, o4, o5⟩ := j352
    refine copy_v hC  ?_ (fun σ_1 q2 => ?_)
    · clear h; simp only [kn, kn2]; exact ⟨by decide, by decide, by decide, by decide, by decide, o4⟩  -- p1
    simp only [kn, kn2] at q2
    have g5 := nV_fr q2.1 (k := 5) (by decide) o5
    refine copy_v hC  ?_ (fun σ_3 q4 => ?_)
    · clear h; simp only [kn, kn2]; exact ⟨by decide, by decide, by decide, by decide, by decide, g5.1⟩  -- p2
    simp only [kn, kn2] at q4
    have m15 := nV_fr q4.1 (k := 15) (by decide) q2.2.1
    intro σ_5 hσ_5
    refine isZero_c hC  ?_ (fun r6 q8 => ?_)
    · clear h; exact ⟨by decide, by decide⟩  -- p3
    refine ⟨fun c9 => ?_, fun c9 => ?_⟩
    · skip
      refine h _ _ ?_
      · refine and_5 ?_ (fun o9 => fun z => absurd (show σ_5.1 0 ≤ 0 by rw [hσ_5, si1, if_neg (by decide), q4.1.1, q2.1.1]; exact hE) z)  -- q4
        clear h; rw [hσ_5]; exact ⟨frT_tr F (frT_tr (frT_N q2.1 (sub_of rfl)) (frT_tr (frT_N q4.1 (sub_of rfl)) (frT_0 (by decide)))), fun _ => ⟨m15.1, q4.2.1⟩⟩
    · skip
      refine h _ _ ?_
      · refine and_5 ?_ (fun o9 => fun z => absurd (show σ_5.1 0 ≤ 0 by rw [hσ_5, si1, if_neg (by decide), q4.1.1, q2.1.1]; exact hE) z)  -- q5
        clear h; rw [hσ_5]; exact ⟨frT_tr F (frT_tr (frT_N q2.1 (sub_of rfl)) (frT_tr (frT_N q4.1 (sub_of rfl)) (frT_0 (by decide)))), fun _ => ⟨m15.1, q4.2.1⟩⟩
  have hj235 : ∀ (l1 : Int32) (τ : rS), ((l1 = a1 ∧ frT shF shL σ τ ∧ σ.1 94 ≠ 0) ∧ τ.1 0 ≤ 0) → w_show_235 C Q  l1 τ := by
    rintro y235_1 τ235 ⟨j235, hE⟩
    unfold w_show_235
    obtain ⟨y1, F, n94⟩ := j235
    have P1 := pOK_T hO F (by decide) (by decide) (by decide)
    have P2 : s = (τ235.1 70).toNatClampNeg := by rw [F.1 70 (by decide)]; exact hs
    have P3 : ∀ k, k < s → vOK τ235 k := fun k hk => vOK_f (F.2.2.1 102 (by decide) (by decide)) (hv n94 k hk)
    refine ⟨fun c10 => ?_, fun c10 => ?_⟩
    · skip
      refine sumVisits_c hC s ?_ (fun σ_11 q12 => ?_)
      · clear h; exact ⟨P1, P2, P3⟩  -- p6
      refine hj352 _ ?_
      · refine and_5 ?_ (fun o9 => by rw [q12.1.1 0 (by decide)]; exact hE)  -- k7
        clear h; obtain ⟨S, J⟩ := q12.2
        have L := siS_L P1 P2 P3 (by decide) J
        exact ⟨frT_tr F (frT_S q12.1 (by decide) (sub_of rfl)), L.1, L.2.1⟩
    · skip
      refine sumVisits_c hC s ?_ (fun σ_13 q14 => ?_)
      · clear h; exact ⟨P1, P2, P3⟩  -- p8
      refine hj352 _ ?_
      · refine and_5 ?_ (fun o9 => by rw [q14.1.1 0 (by decide)]; exact hE)  -- k9
        clear h; obtain ⟨S, J⟩ := q14.2
        have L := siS_L P1 P2 P3 (by decide) J
        exact ⟨frT_tr F (frT_S q14.1 (by decide) (sub_of rfl)), L.1, L.2.1⟩
  have hj181 : ∀ (l1 : Int32) (l2 : Int32) (τ : rS), ((l1 = a1 ∧ l2 = a2 ∧ frT shF shL σ τ ∧ shO τ ∧ (τ.1 0 ≤ 0 → shD σ a1 ∧ ((a1 = 8 ∨ a1 = 11) → 0 ≤ a2 ∧ a2 < σ.1 70))) ∧ kX16 σ τ) → w_show_181 C Q  l1 l2 τ := by
    rintro y181_1 y181_2 τ181 ⟨j181, hE⟩
    unfold w_show_181
    obtain ⟨y1, y2, F, H, D⟩ := j181
    have P1 := pOK_T hO F (by decide) (by decide) (by decide)
    have P2 : s = (τ181.1 70).toNatClampNeg := by rw [F.1 70 (by decide)]; exact hs
    have P3 : σ.1 94 ≠ 0 → ∀ k, k < s → vOK τ181 k := fun n94 k hk => vOK_f (F.2.2.1 102 (by decide) (by decide)) (hv n94 k hk)
    have P4 : swQ τ181 = swQ σ := swQ_o (F.1 70 (by decide)) F.2.2.1
    rw [y1, y2]
    refine ⟨fun c15 => ?_, fun c15 => ?_⟩
    · skip
      refine ⟨fun c16 => ?_, fun c16 => ?_⟩
      · skip
        refine ⟨fun c17 => ?_, fun c17 => ?_⟩
        · skip
          refine ⟨fun c18 => ?_, fun c18 => ?_⟩
          · skip
            refine hj235 _ _ ?_
            · refine and_5 ?_ (fun o9 => c15)  -- k10
              clear h; exact ⟨rfl, F, (D c15).1.1.2.2.1 (by rw [c18]; decide)⟩
          · skip
            refine ⟨fun c19 => ?_, fun c19 => ?_⟩
            · skip
              refine ⟨fun c20 => ?_, fun c20 => ?_⟩
              · skip
                refine ⟨fun c21 => ?_, fun c21 => ?_⟩
                · skip
                  refine ⟨fun c22 => ?_, fun c22 => ?_⟩
                  · skip
                    refine copy_v hC  ?_ (fun σ_23 q24 => ?_)
                    · clear h; have n := hn ((D c15).1.1.1 (sh_12 c17 (D c15).1.1.2.2.2 c18 c20 c19 c21 c22))
                      simp only [kn, kn2]; exact ⟨by decide, by decide, by decide, by decide, by decide, (nV_T F (by decide) n.1).1⟩
                    simp only [kn, kn2] at q24
                    have n := hn ((D c15).1.1.1 (sh_12 c17 (D c15).1.1.2.2.2 c18 c20 c19 c21 c22))
                    have n17 := nV_T F (k := 17) (by decide) n.1
                    have n18 := nV_T F (k := 18) (by decide) n.2.1
                    have m18 := nV_fr q24.1 (k := 18) (by decide) n18.1
                    refine copy_v hC  ?_ (fun σ_25 q26 => ?_)
                    · clear h; simp only [kn, kn2]; exact ⟨by decide, by decide, by decide, by decide, by decide, m18.1⟩  -- p12
                    simp only [kn, kn2] at q26
                    have m4 := nV_fr q26.1 (k := 4) (by decide) q24.2.1
                    refine reduce_c hC  ?_ (fun σ_27 q28 => ?_)
                    · clear h; simp only [kn, kn2]
                      exact ⟨by decide, by decide, by decide, by decide, by decide, m4.1, q26.2.1, by rw [q26.2.2.1, m18.2.1, n18.2.1]; exact n.2.2.1, by have := m4.2.2; have := q24.2.2.2; have := n17.2.2; have := n.2.2.2.1; omega, by have := q26.2.2.2; have := m18.2.2; have := n18.2.2; have := n.2.2.2.2; omega⟩
                    intro σ_29 hσ_29
                    refine hj352 _ ?_
                    · refine and_5 ?_ (fun o9 => ?_)  -- k14
                      · clear h; simp only [kn, kn2] at q28
                        rw [hσ_29]
                        exact ⟨frT_tr F (frT_tr (frT_N q24.1 (sub_of rfl)) (frT_tr (frT_N q26.1 (sub_of rfl)) (frT_tr (frT_N q28.1 (sub_of rfl)) (frT_0 (by decide))))), nV_92.2.1.mpr q28.2.1, nV_92.2.1.mpr q28.2.2.1⟩
                      · clear o9
                        simp only [kn, kn2] at q28
                        rw [hσ_29, si1, if_neg (by decide), q28.1.1, q26.1.1, q24.1.1]
                        exact c15
                  · skip
                    refine clearSum_c hC  (fun σ_30 q31 => ?_)
                    have r := (D c15).2 (Or.inr c22)
                    have r1 := Int32.lt_of_lt_of_le r.2 hO.1.1.2
                    have W := wkO_f ((q31.1.2.2.1 115 (by decide) (by decide)).trans (F.2.2.1 115 (by decide) (by decide))) ((q31.1.2.2.1 116 (by decide) (by decide)).trans (F.2.2.1 116 (by decide) (by decide))) (hw ((D c15).1.1.2.1 c22) a2.toNatClampNeg (by rw [hs]; exact cn_lt r.1 r.2))
                    refine loadWorth_c hC  ?_ (fun σ_32 q33 => ?_)
                    · clear h; exact ⟨Or.inl rfl, r.1, r1, W.1, W.2.1⟩  -- p15
                    have p7 : 0 < nV σ_32 7 := by rw [q33.2.2.2.2.1]; exact W.2.2.1
                    have fb := fQ_b q33.2.1 p7 q33.2.2.2.2.2.1
                    have m7 := nV_lt q33.2.2.1 q33.2.2.2.2.2.2
                    have A := siG_add (a := 16) (M := nV σ_32 7) (x := σ_32.2.2.1 116 a2.toNatClampNeg) (by rw [q33.1.2.2.1 116 (by decide) (by decide)]; exact W.2.2.2) p7 m7 (by decide) (by decide) (siG_N q33.1 (by decide) (by decide) (siG_0 q31.2)) q33.2.1 q33.2.2.1 p7 (by have := q33.2.2.2.2.2.1; omega) (by have := q33.2.2.2.2.2.2; omega) (Rat.le_trans fb.2.1 p16_wB) fb.2.2
                    refine ⟨ib_1000.mpr ?_, ?_⟩
                    · clear h; exact ⟨r.1, r1⟩  -- b16
                    refine add_c hC  ?_ (fun σ_34 q35 => ?_)
                    · clear h; exact A.1  -- p17
                    refine hj352 _ ?_
                    · refine and_5 ?_ (fun o9 => by rw [q35.1.1 0 (by decide), q33.1.1, q31.1.1 0 (by decide)]; exact c15)  -- k18
                      clear h; have L := siG_L (a := 16) p7 m7 (by decide) (A.2 _ q35.2)
                      exact ⟨frT_tr F (frT_tr (frT_S q31.1 (by decide) (sub_of rfl)) (frT_tr (frT_N q33.1 (sub_of rfl)) (frT_S q35.1 (by decide) (sub_of rfl)))), L.1, L.2.1⟩
                · skip
                  refine sumOver_c hC s ?_ (fun σ_36 q37 => ?_)
                  · clear h; exact ⟨P1, P2, P3 ((D c15).1.1.2.2.1 (by rw [c21]; decide)), fun _ => rfl, by rw [P4]; exact (D c15).1.2.2 c21⟩  -- p19
                  refine hj352 _ ?_
                  · refine and_5 ?_ (fun o9 => by rw [q37.1.1 0 (by decide)]; exact c15)  -- k20
                    clear h; exact ⟨frT_tr F (frT_S q37.1 (by decide) (sub_of rfl)), q37.2.1, q37.2.2.1⟩
              · skip
                refine clearSum_c hC  (fun σ_38 q39 => ?_)
                have r := (D c15).2 (Or.inl c20)
                have r1 := Int32.lt_of_lt_of_le r.2 hO.1.1.2
                have V := vOK_f (q39.1.2.2.1 102 (by decide) (by decide)) (P3 ((D c15).1.1.2.2.1 (by rw [c20]; decide)) a2.toNatClampNeg (by rw [hs]; exact cn_lt r.1 r.2))
                refine loadVisits_c hC  ?_ (fun σ_40 q41 => ?_)
                · clear h; exact ⟨r.1, r1, V.1, V.2.1⟩  -- p21
                have p7 : 0 < nV σ_40 7 := by rw [q41.2.2.2.2.1]; exact V.2.2
                have fb := fQ_b q41.2.1 p7 q41.2.2.2.2.2.1
                have m7 := nV_lt q41.2.2.1 q41.2.2.2.2.2.2
                have A := siG_add (a := 16) (M := nV σ_40 7) (x := 1) (Or.inl rfl) p7 m7 (by decide) (by decide) (siG_N q41.1 (by decide) (by decide) (siG_0 q39.2)) q41.2.1 q41.2.2.1 p7 (by have := q41.2.2.2.2.2.1; omega) (by have := q41.2.2.2.2.2.2; omega) (Rat.le_trans fb.2.1 p16_wB) fb.2.2
                refine add_c hC  ?_ (fun σ_42 q43 => ?_)
                · clear h; exact A.1  -- p22
                refine hj352 _ ?_
                · refine and_5 ?_ (fun o9 => by rw [q43.1.1 0 (by decide), q41.1.1, q39.1.1 0 (by decide)]; exact c15)  -- k23
                  clear h; have L := siG_L (a := 16) p7 m7 (by decide) (A.2 _ q43.2)
                  exact ⟨frT_tr F (frT_tr (frT_S q39.1 (by decide) (sub_of rfl)) (frT_tr (frT_N q41.1 (sub_of rfl)) (frT_S q43.1 (by decide) (sub_of rfl)))), L.1, L.2.1⟩
            · skip
              refine hj235 _ _ ?_
              · refine and_5 ?_ (fun o9 => c15)  -- k24
                clear h; exact ⟨rfl, F, (D c15).1.1.2.2.1 (by rw [c19]; decide)⟩
        · skip
          refine sumWeights_c hC s ?_ (fun σ_44 q45 => ?_)
          · clear h; exact ⟨P1, P2, P3 ((D c15).1.1.2.2.1 (sh_l7 c17)), fun z => absurd rfl z⟩  -- p25
          refine hj352 _ ?_
          · refine and_5 ?_ (fun o9 => by rw [q45.1.1 0 (by decide)]; exact c15)  -- k26
            clear h; have L := siS_L P1 P2 (P3 ((D c15).1.1.2.2.1 (sh_l7 c17))) (by decide) q45.2
            exact ⟨frT_tr F (frT_S q45.1 (by decide) (sub_of rfl)), L.1, L.2.1⟩
      · skip
        refine sumOver_c hC s ?_ (fun σ_46 q47 => ?_)
        · clear h; exact ⟨P1, P2, P3 ((D c15).1.1.2.2.1 (sh_l2 c16).1), fun z => absurd rfl z, by rw [P4]; exact (D c15).1.2.1 (sh_l2 c16).2⟩  -- p27
        refine hj352 _ ?_
        · refine and_5 ?_ (fun o9 => by rw [q47.1.1 0 (by decide)]; exact c15)  -- k28
          clear h; exact ⟨frT_tr F (frT_S q47.1 (by decide) (sub_of rfl)), q47.2.1, q47.2.2.1⟩
    · skip
      refine h _ _ ?_
      · refine and_5 ?_ (fun o9 => fun _ => hE)  -- q29
        clear h; exact ⟨F, H⟩
  have hj162 : ∀ (l1 : Int32) (l2 : Int32) (τ : rS), ((l1 = a1 ∧ l2 = a2 ∧ frT shF shL σ τ ∧ shO τ ∧ shD σ a1) ∧ kX16 σ τ) → w_show_162 C Q  l1 l2 τ := by
    rintro y162_1 y162_2 τ162 ⟨j162, hE⟩
    unfold w_show_162
    obtain ⟨y1, y2, F, H, D⟩ := j162
    refine isSlot_c hC  (fun r48 q50 => ?_)
    refine ⟨fun c51 => ?_, fun c51 => ?_⟩
    · skip
      intro σ_52 hσ_52
      refine hj181 _ _ _ ?_
      · refine and_5 ?_ (fun o9 => by rw [hσ_52]; exact kX_s16 (by decide) hE)  -- k30
        clear h; rw [hσ_52]
        have q := q50.2.mp c51
        rw [y2, F.1 70 (by decide)] at q
        exact ⟨y1, y2, frT_tr F (frT_0 (by decide)), shO_0 H, fun _ => ⟨D, fun _ => q⟩⟩
    · skip
      intro σ_53 hσ_53
      refine hj181 _ _ _ ?_
      · refine and_5 ?_ (fun o9 => by rw [hσ_53]; exact kX_s16 (by decide) hE)  -- k31
        clear h; rw [hσ_53]
        exact ⟨y1, y2, frT_tr F (frT_0 (by decide)), shO_0 H, fun z => absurd z (by show ¬ (3 : Int32) ≤ 0; decide)⟩
  have hj150 : ∀ (l1 : Int32) (l2 : Int32) (τ : rS), ((l1 = a1 ∧ l2 = a2 ∧ frT shF shL σ τ ∧ shO τ ∧ shD σ a1) ∧ kX16 σ τ) → w_show_150 C Q  l1 l2 τ := by
    rintro y150_1 y150_2 τ150 ⟨j150, hE⟩
    unfold w_show_150
    obtain ⟨y1, y2, F, H, D⟩ := j150
    refine ⟨fun c54 => ?_, fun c54 => ?_⟩
    · skip
      refine hj162 _ _ _ ?_
      · refine and_5 ?_ (fun o9 => hE)  -- k32
        clear h; exact ⟨y1, y2, F, H, D⟩
    · skip
      refine ⟨fun c55 => ?_, fun c55 => ?_⟩
      · skip
        intro σ_56 hσ_56
        refine hj181 _ _ _ ?_
        · refine and_5 ?_ (fun o9 => by rw [hσ_56]; exact kX_s16 (by decide) hE)  -- k33
          clear h; rw [hσ_56]
          rw [y1] at c54 c55
          exact ⟨y1, y2, frT_tr F (frT_0 (by decide)), shO_0 H, fun _ => ⟨D, fun z => z.elim (fun e => absurd e c54) (fun e => absurd e c55)⟩⟩
      · skip
        refine hj162 _ _ _ ?_
        · refine and_5 ?_ (fun o9 => hE)  -- k34
          clear h; exact ⟨y1, y2, F, H, D⟩
  have hj126 : ∀ (l1 : Int32) (l2 : Int32) (τ : rS), ((l1 = a1 ∧ l2 = a2 ∧ frT shF shL σ τ ∧ shO τ ∧ (τ.1 0 = 0 ∨ 0 < τ.1 0) ∧ (τ.1 0 = 0 → shD σ a1)) ∧ kX16 σ τ) → w_show_126 C Q  l1 l2 τ := by
    rintro y126_1 y126_2 τ126 ⟨j126, hE⟩
    unfold w_show_126
    obtain ⟨y1, y2, F, H, z0, D⟩ := j126
    refine ⟨fun c57 => ?_, fun c57 => ?_⟩
    · skip
      refine hj181 _ _ _ ?_
      · refine and_5 ?_ (fun o9 => hE)  -- k35
        clear h; refine ⟨y1, y2, F, H, fun z => ?_⟩
        rcases z0 with e | e
        · exact absurd e c57
        · exact absurd z (Int32.not_le.mpr e)
    · skip
      refine ⟨fun c58 => ?_, fun c58 => ?_⟩
      · skip
        refine hj150 _ _ _ ?_
        · refine and_5 ?_ (fun o9 => hE)  -- k36
          clear h; exact ⟨y1, y2, F, H, D c57⟩
      · skip
        refine isSlot_c hC  (fun r59 q61 => ?_)
        refine ⟨fun c62 => ?_, fun c62 => ?_⟩
        · skip
          intro σ_63 hσ_63
          refine hj181 _ _ _ ?_
          · refine and_5 ?_ (fun o9 => by rw [hσ_63]; exact kX_s16 (by decide) hE)  -- k37
            clear h; rw [hσ_63]
            exact ⟨y1, y2, frT_tr F (frT_0 (by decide)), shO_0 H, fun z => absurd z (by show ¬ (3 : Int32) ≤ 0; decide)⟩
        · skip
          refine hj150 _ _ _ ?_
          · refine and_5 ?_ (fun o9 => hE)  -- k38
            clear h; exact ⟨y1, y2, F, H, D c57⟩
  have hj104 : ∀ (l1 : Int32) (l2 : Int32) (s1 : Int32) (τ : rS), ((l1 = a1 ∧ l2 = a2 ∧ frT shF shL σ τ ∧ shO τ ∧ τ.1 0 = 0 ∧ shC σ a1 ∧ ((a1 < 2 ∧ s1 = 6) ∨ (a1 = 10 ∧ s1 = 7))) ∧ kX16 σ τ) → w_show_104 C Q  l1 l2 s1 τ := by
    rintro y104_1 y104_2 y104_s1 τ104 ⟨j104, hE⟩
    unfold w_show_104
    obtain ⟨y1, y2, F, H, z0, Cc, kk⟩ := j104
    have P1 := pOK_T hO F (by decide) (by decide) (by decide)
    have P2 : s = (τ104.1 70).toNatClampNeg := by rw [F.1 70 (by decide)]; exact hs
    have P3 : ∀ k, k < s → vOK τ104 k := fun k hk => vOK_f (F.2.2.1 102 (by decide) (by decide)) (hv (Cc.2.2.1 (sh_lt (kk.imp (fun z => z.1) (fun z => z.1)))) k hk)
    have P4 : swQ τ104 = swQ σ := swQ_o (F.1 70 (by decide)) F.2.2.1
    refine sumWeights_c hC s ?_ (fun σ_64 q65 => ?_)
    · clear h; exact ⟨P1, P2, P3, fun z => absurd rfl z⟩  -- p39
    refine isZero_c hC  ?_ (fun r66 q68 => ?_)
    · clear h; exact ⟨by decide, by decide⟩  -- p40
    refine ⟨fun c69 => ?_, fun c69 => ?_⟩
    · skip
      intro σ_70 hσ_70
      refine hj126 _ _ _ ?_
      · refine and_5 ?_ (fun o9 => by rw [hσ_70]; exact kX_s16 (by decide) (kX_f16 hE q65.1 (by decide) (by decide)))  -- k41
        clear h; rw [P4] at q65
        have nz : swQ σ y104_s1 0 0 ≠ 0 := fun e => q68.2.mpr (hS_z q65.2.1 e) c69
        rw [hσ_70]
        refine ⟨y1, y2, frT_tr F (frT_tr (frT_S q65.1 (by decide) (sub_of rfl)) (frT_0 (by decide))), shO_0 (shO_S H q65.1 (by decide) (by decide)), Or.inl rfl, fun _ => ⟨Cc, fun lt => ?_, fun e10 => ?_⟩⟩
        · rcases kk with z | z
          · rw [← z.2]; exact nz
          · rw [z.1] at lt; exact absurd lt (by decide)
        · rcases kk with z | z
          · rw [e10] at z; exact absurd z.1 (by decide)
          · rw [← z.2]; exact nz
    · skip
      intro σ_71 hσ_71
      refine hj126 _ _ _ ?_
      · refine and_5 ?_ (fun o9 => by rw [hσ_71]; exact kX_s16 (by decide) (kX_f16 hE q65.1 (by decide) (by decide)))  -- k42
        clear h; rw [hσ_71]
        exact ⟨y1, y2, frT_tr F (frT_tr (frT_S q65.1 (by decide) (sub_of rfl)) (frT_0 (by decide))), shO_0 (shO_S H q65.1 (by decide) (by decide)), Or.inr (by show (0 : Int32) < 2; decide), fun z => absurd z (by show ¬ (2 : Int32) = 0; decide)⟩
  have hj91 : ∀ (l1 : Int32) (l2 : Int32) (τ : rS), ((l1 = a1 ∧ l2 = a2 ∧ frT shF shL σ τ ∧ shO τ ∧ τ.1 0 = 0 ∧ shC σ a1 ∧ (a1 < 2 ∨ a1 = 10)) ∧ kX16 σ τ) → w_show_91 C Q  l1 l2 τ := by
    rintro y91_1 y91_2 τ91 ⟨j91, hE⟩
    unfold w_show_91
    obtain ⟨y1, y2, F, H, z0, Cc, kk⟩ := j91
    refine ⟨fun c72 => ?_, fun c72 => ?_⟩
    · skip
      refine hj104 _ _ _ _ ?_
      · refine and_5 ?_ (fun o9 => hE)  -- k43
        clear h; rw [y1] at c72
        exact ⟨y1, y2, F, H, z0, Cc, Or.inr ⟨kk.resolve_left (fun z => absurd z (Int32.not_lt.mpr c72)), rfl⟩⟩
    · skip
      refine hj104 _ _ _ _ ?_
      · refine and_5 ?_ (fun o9 => hE)  -- k44
        clear h; rw [y1] at c72
        exact ⟨y1, y2, F, H, z0, Cc, Or.inl ⟨Int32.not_le.mp c72, rfl⟩⟩
  have hj70 : ∀ (l1 : Int32) (l2 : Int32) (s1 : Int32) (τ : rS), ((l1 = a1 ∧ l2 = a2 ∧ τ = σ ∧ (s1 = 0 ∨ 0 < s1) ∧ (s1 = 0 → shC σ a1)) ∧ True) → w_show_70 C Q  l1 l2 s1 τ := by
    rintro y70_1 y70_2 y70_s1 τ70 ⟨j70, hE⟩
    unfold w_show_70
    intro σ_73 hσ_73
    obtain ⟨y1, y2, e, z0, Cc⟩ := j70
    have F : frT shF shL σ σ_73 := by rw [hσ_73, e]; exact frT_0 (by decide)
    have H : shO σ_73 := by rw [hσ_73, e]; exact shO_0 hh
    have e0 : σ_73.1 0 = y70_s1 := by rw [hσ_73]; rfl
    refine ⟨fun c74 => ?_, fun c74 => ?_⟩
    · skip
      refine hj126 _ _ _ ?_
      · refine and_5 ?_ (fun o9 => by rw [hσ_73, e]; exact kX_s16 (by decide) kX_r16)  -- k45
        clear h; exact ⟨y1, y2, F, H, by rw [e0]; exact z0, fun z => absurd z c74⟩
    · skip
      refine ⟨fun c75 => ?_, fun c75 => ?_⟩
      · skip
        refine hj91 _ _ _ ?_
        · refine and_5 ?_ (fun o9 => by rw [hσ_73, e]; exact kX_s16 (by decide) kX_r16)  -- k46
          clear h; exact ⟨y1, y2, F, H, c74, Cc (e0.symm.trans c74), Or.inl (by rw [← y1]; exact c75)⟩
      · skip
        refine ⟨fun c76 => ?_, fun c76 => ?_⟩
        · skip
          refine hj126 _ _ _ ?_
          · refine and_5 ?_ (fun o9 => by rw [hσ_73, e]; exact kX_s16 (by decide) kX_r16)  -- k47
            clear h; rw [y1] at c75 c76
            exact ⟨y1, y2, F, H, Or.inl c74, fun _ => ⟨Cc (e0.symm.trans c74), fun lt => absurd lt c75, fun e => absurd e c76⟩⟩
        · skip
          refine hj91 _ _ _ ?_
          · refine and_5 ?_ (fun o9 => by rw [hσ_73, e]; exact kX_s16 (by decide) kX_r16)  -- k48
            clear h; exact ⟨y1, y2, F, H, c74, Cc (e0.symm.trans c74), Or.inr (by rw [← y1]; exact c76)⟩
  refine within_c hC  (fun r77 q79 => ?_)
  refine ⟨fun c80 => ?_, fun c80 => ?_⟩
  · skip
    refine ⟨fun c81 => ?_, fun c81 => ?_⟩
    · skip
      refine ⟨fun c82 => ?_, fun c82 => ?_⟩
      · skip
        refine ⟨fun c83 => ?_, fun c83 => ?_⟩
        · skip
          refine hj70 _ _ _ _ ?_
          · refine and_5 ?_ (fun o9 => trivial)  -- k49
            clear h; exact ⟨rfl, rfl, rfl, Or.inl rfl, fun _ => ⟨fun _ => c83, fun e => absurd e c82, fun lt => absurd lt (Int32.not_lt.mpr c81), (q79.2.mp c80).2⟩⟩
        · skip
          refine hj70 _ _ _ _ ?_
          · refine and_5 ?_ (fun o9 => trivial)  -- k50
            clear h; exact ⟨rfl, rfl, rfl, Or.inr (by decide), fun z => absurd z (by decide)⟩
      · skip
        refine ⟨fun c84 => ?_, fun c84 => ?_⟩
        · skip
          refine hj70 _ _ _ _ ?_
          · refine and_5 ?_ (fun o9 => trivial)  -- k51
            clear h; exact ⟨rfl, rfl, rfl, Or.inr (by decide), fun z => absurd z (by decide)⟩
        · skip
          refine hj70 _ _ _ _ ?_
          · refine and_5 ?_ (fun o9 => trivial)  -- k52
            clear h; exact ⟨rfl, rfl, rfl, Or.inl rfl, fun _ => ⟨fun e => absurd (c82.symm.trans e) (by decide), fun _ => c84, fun lt => absurd lt (Int32.not_lt.mpr c81), (q79.2.mp c80).2⟩⟩
    · skip
      refine ⟨fun c85 => ?_, fun c85 => ?_⟩
      · skip
        refine hj70 _ _ _ _ ?_
        · refine and_5 ?_ (fun o9 => trivial)  -- k53
          clear h; exact ⟨rfl, rfl, rfl, Or.inr (by decide), fun z => absurd z (by decide)⟩
      · skip
        refine hj70 _ _ _ _ ?_
        · refine and_5 ?_ (fun o9 => trivial)  -- k54
          clear h; exact ⟨rfl, rfl, rfl, Or.inl rfl, fun _ => ⟨fun e => absurd (by rw [e]; decide) c81, fun e => absurd (by rw [e]; decide) c81, fun _ => c85, (q79.2.mp c80).2⟩⟩
  · skip
    refine hj70 _ _ _ _ ?_
    · refine and_5 ?_ (fun o9 => trivial)  -- k55
      clear h; exact ⟨rfl, rfl, rfl, Or.inr (by decide), fun z => absurd z (by decide)⟩

end
section
set_option maxHeartbeats 1600000
/-! the reference: show, all that is said of it together -/
theorem mk_n16 {w : Int} {T : Nat} (h : 0 ≤ w) : 0 ≤ mkRat w T := by
  by_cases z : T = 0
  · rw [z, mk_d]
    have e : ((0 : Nat) : Rat)⁻¹ = 0 := by first | exact Rat.inv_zero | rfl
    rw [e, Rat.mul_zero]
    exact Rat.le_refl
  · exact mk_nn (Nat.pos_of_ne_zero z) h
theorem sw_n16 {σ : rS} (h : pOK σ) : 0 ≤ swQ σ 6 0 0 ∧ 0 ≤ swQ σ 7 0 0 := by
  have key : ∀ how : Int32, 0 ≤ swQ σ how 0 0 := fun how => by
    have a : 0 ≤ swS σ how 0 0 (σ.1 70).toNatClampNeg := smQ_nn (fun k hk => smQ_nn (fun d hd => by
      unfold trm
      refine Rat.mul_nonneg ?_ (mk_n16 (Int.mul_nonneg ?_ ?_))
      · split
        · exact Rat.le_refl
        · unfold fV
          exact mk_n16 (Int.natCast_nonneg _)
      · have w := (st_z8 h.1 (x := k) hk).1 (loN σ k + d) (Nat.le_add_right _ _) (by unfold leN at hd; omega)
        rw [lei, t1i] at w
        unfold twI
        split
        · omega
        · split <;> decide
      · unfold byI
        split
        · exact Int.le_refl 0
        · rw [if_pos rfl]; decide))
    have b : 0 ≤ alQ σ how 0 0 := by
      unfold alQ
      split
      · rw [if_pos rfl]; decide
      · exact Rat.le_refl
    have c : 0 ≤ opQ σ how := by
      unfold opQ
      split
      · decide
      · exact Rat.le_refl
    exact Rat.add_nonneg (Rat.add_nonneg a b) c
  exact ⟨key 6, key 7⟩
/-- what show leaves -/
def XS16h (k c : Int32) (σ σ' : rS) (v : Int32) : Prop := σ'.1 0 = cc16 σ k c ∧ (cc16 σ k c = 0 → XW16 σ σ' v (shR16 σ k c)) ∧ (cc16 σ k c ≠ 0 → kX16 σ σ')
theorem numO_e16 {σ τ : rS} (h90 : τ.2.2.1 90 = σ.2.2.1 90) (h91 : τ.2.2.1 91 = σ.2.2.1 91) : ∀ k, 15 ≤ k → k ≤ 16 → τ.2.2.1 91 k = σ.2.2.1 91 k ∧ ∀ i, i < 40000 → τ.2.2.1 90 (40000 * k + i) = σ.2.2.1 90 (40000 * k + i) := fun k _ _ => ⟨by rw [h91], fun i _ => by rw [h90]⟩
theorem show_g16 {C : rCx} (hC : cOK C) (s : Nat) {σ : rS} {a1 : Int32} {a2 : Int32} {Q : Int32 → rS → Prop} (hp : pOK σ ∧ s = (σ.1 70).toNatClampNeg ∧ (σ.1 94 ≠ 0 → ∀ k, k < s → vOK σ k) ∧ (σ.1 114 ≠ 0 → ∀ k, k < s → wkO σ 115 116 k) ∧ plN σ ∧ shO σ) (h : ∀ (v : Int32) (σ' : rS), ((frT shF shL σ σ' ∧ shO σ') ∧ XS16h a1 a2 σ σ' v) → Q v σ') : cI C 8 m_show [.ref (co C), .int a1, .int a2] σ Q := by
  obtain ⟨v, σ', r, q, σ2, g, hf, hr⟩ := cI_d8 hC (show_g5 (a1 := a1) (a2 := a2) (Q := fun v σ' => (frT shF shL σ σ' ∧ shO σ') ∧ (σ'.1 0 = cc16 σ a1 a2 ∧ (cc16 σ a1 a2 = 0 → XW16 σ σ' v (shR16 σ a1 a2)))) hC s (sw_n16 hp.1) hp (fun v σ' q => q)) (show_n16 (a1 := a1) (a2 := a2) (Q := fun _ σ' => ¬ σ'.1 0 ≤ 0 → kX16 σ σ') hC s hp (fun v σ' q => q.2))
  refine ⟨v, σ', r, h v σ' ⟨q.1, q.2.1, q.2.2, fun z => ?_⟩⟩
  have e0 := q.2.1
  have x := g (by
    rw [← hf 0 (by decide) (by decide +kernel) (by decide) (by decide), e0]
    intro y
    exact z (cc_n16 y))
  have r90 := hr 90 0 1200000 (by decide +kernel) (by decide)
  have r91 := hr 91 0 30 (by decide +kernel) (by decide)
  refine ⟨(hf 103 (by decide) (by decide +kernel) (by decide) (by decide)).trans x.1, fun k a b => ?_⟩
  rw [r90, r91]
  exact x.2 k a b

end
section
set_option maxHeartbeats 1600000
/-! how many words of 32 bits a number has -/
def wd17 (N w : Nat) : Prop := N < 2 ^ (32 * w) ∧ (0 < w → 2 ^ (32 * (w - 1)) ≤ N)
theorem wd_u17 {N w w' : Nat} (h : wd17 N w) (g : wd17 N w') : w = w' := by
  rcases Nat.lt_trichotomy w w' with c | c | c
  · have a := g.2 (by omega)
    have b := Nat.pow_le_pow_right (show 0 < 2 by decide) (show 32 * w ≤ 32 * (w' - 1) by omega)
    have := h.1
    omega
  · exact c
  · have a := h.2 (by omega)
    have b := Nat.pow_le_pow_right (show 0 < 2 by decide) (show 32 * w' ≤ 32 * (w - 1) by omega)
    have := g.1
    omega
theorem wd_c17 {N v : Nat} (h1 : N < 2 ^ v) (h2 : 0 < N → 1 ≤ v ∧ 2 ^ (v - 1) ≤ N) (h0 : N = 0 → v = 0) : wd17 N ((v + 31) / 32) := by
  refine ⟨Nat.lt_of_lt_of_le h1 (Nat.pow_le_pow_right (by decide) (by omega)), fun z => ?_⟩
  have n0 : 0 < N := by
    rcases Nat.eq_zero_or_pos N with c | c
    · have := h0 c
      omega
    · exact c
  exact Nat.le_trans (Nat.pow_le_pow_right (by decide) (by omega)) (h2 n0).2
theorem p16_17 (L : Nat) : 65536 ^ L = 2 ^ (16 * L) := by
  rw [show 65536 = 2 ^ 16 from rfl, ← Nat.pow_mul]
theorem wd_r17 {V L : Nat} (h1 : V < 65536 ^ L) (h2 : 0 < L → 65536 ^ (L - 1) ≤ V) : wd17 V ((L + 1) / 2) := by
  rw [p16_17] at h1
  refine ⟨Nat.lt_of_lt_of_le h1 (Nat.pow_le_pow_right (by decide) (by omega)), fun z => ?_⟩
  have a := h2 (by omega)
  rw [p16_17] at a
  exact Nat.le_trans (Nat.pow_le_pow_right (by decide) (by omega)) a
/-- of the reference's numbers -/
theorem wd_n17 {σ : rS} {k : Nat} (h : numO σ k) : wd17 (nV σ k) ((nL σ k + 1) / 2) := by
  obtain ⟨_, _, c, d⟩ := h
  refine wd_r17 (dv_lt c) (fun z => ?_)
  rcases d with d | ⟨m, m1, m2⟩
  · omega
  · unfold nV
    rw [m1, Nat.add_sub_cancel]
    exact dv_ge m2

end
section
set_option maxHeartbeats 1600000
/-! the reference: how many words -/
def nw17 (σ : rS) (p : Int32) : Nat := if σ.1 103 = 0 then p.toNatClampNeg else (nL σ (15 + p.toNatClampNeg) + 1) / 2
theorem hf17 {x : Int32} (h0 : 0 ≤ x) (h1 : x ≤ 40000) : ((x + 1) / 2).toInt = (((x.toNatClampNeg + 1) / 2 : Nat) : Int) := by
  rw [lei, t0i] at h0
  rw [lei, show (40000 : Int32).toInt = 40000 from rfl] at h1
  have c := cnk h0
  have t2 : (2 : Int32).toInt = 2 := rfl
  have e : (x + 1).toInt = x.toInt + 1 := by rw [add_i (by rw [t1i]; omega) (by rw [t1i]; omega), t1i]
  rw [div_i (by rw [e]; omega) (by decide), e, t2]
  omega
theorem nw_k17 {σ τ : rS} {p : Int32} (h : τ.1 103 = σ.1 103) (h2 : τ.2.2.1 91 = σ.2.2.1 91) : nw17 τ p = nw17 σ p := by
  unfold nw17 nL
  rw [h, h2]
theorem numbersOf_g5 {C : rCx} (hC : cOK C)  {σ : rS} {a1 : Int32} {Q : Int32 → rS → Prop} (hp : 0 ≤ a1 ∧ a1 ≤ 1 ∧ shO σ) (h : ∀ (v : Int32), ((σ.1 103 ≠ 0 → v ≤ 20000) ∧ (v.toInt = (nw17 σ a1 : Int))) → Q v σ) : cI C 0 m_numbersOf [.ref (co C), .int a1] σ Q := by
  refine m_numbersOf_run hC ?_
  unfold w_numbersOf_0
  obtain ⟨h0, h1, hh⟩ := hp
  have e := i01 h0 h1
  refine ⟨fun c1 => ?_, fun c1 => ?_⟩
  · skip
    refine ⟨ib_30.mpr ?_, ?_⟩
    · clear h; exact b01 e  -- b1
    refine h _ ?_
    · refine and_5 ?_ (fun o9 => ?_)  -- q2
      · clear h; have z := hh c1
        intro _
        rcases e with e | e
        · rw [e]; exact half z.1.1 z.1.2.1
        · rw [e]; exact half z.2.1 z.2.2.1
      · clear o9
        have z := hh c1
        unfold nw17
        rw [if_neg c1]
        rcases e with e | e
        · rw [e]
          exact hf17 z.1.1 z.1.2.1
        · rw [e]
          exact hf17 z.2.1 z.2.2.1
  · skip
    refine h _ ?_
    · refine and_5 ?_ (fun o9 => ?_)  -- q3
      · clear h; exact fun z => absurd c1 z
      · clear o9
        unfold nw17
        rw [if_pos c1]
        rw [lei, t0i] at h0
        exact (cnk h0).symm

theorem size_g5 {C : rCx} (hC : cOK C)  {σ : rS} {a1 : Int32} {Q : Int32 → rS → Prop} (hp : shO σ) (h : ∀ (v : Int32) (σ' : rS), ((frT [0] [] σ σ') ∧ ((¬ (0 ≤ a1 ∧ a1 ≤ 1) → σ'.1 0 = 1) ∧ (0 ≤ a1 ∧ a1 ≤ 1 → σ'.1 0 = 0 ∧ v.toInt = (nw17 σ a1 : Int)))) → Q v σ') : cI C 1 m_size [.ref (co C), .int a1] σ Q := by
  refine m_size_run hC ?_
  unfold w_size_0
  have hh := hp
  have hj15 : ∀ (l1 : Int32) (s1 : Int32) (τ : rS), ((l1 = a1 ∧ τ = σ ∧ (s1 ≤ 0 → 0 ≤ a1 ∧ a1 ≤ 1)) ∧ ((s1 = 0 ∧ (0 ≤ a1 ∧ a1 ≤ 1)) ∨ (s1 = 1 ∧ ¬ (0 ≤ a1 ∧ a1 ≤ 1)))) → w_size_15 C Q  l1 s1 τ := by
    rintro y15_1 y15_s1 τ15 ⟨j15, hE⟩
    unfold w_size_15
    intro σ_1 hσ_1
    obtain ⟨y1, y2, y3⟩ := j15
    have F : frT [0] [] σ σ_1 := by rw [hσ_1, y2]; exact frT_0 (by decide)
    rw [y1]
    refine ⟨fun c2 => ?_, fun c2 => ?_⟩
    · skip
      refine numbersOf_g5 hC  ?_ (fun r3 q5 => ?_)
      · clear h; have c := y3 (by rw [hσ_1] at c2; exact c2)
        exact ⟨c.1, c.2, by rw [hσ_1, y2]; exact shO_0 hh⟩
      obtain ⟨q5, z9⟩ := q5
      refine h _ _ ?_
      · refine and_5 ?_ (fun o9 => ?_)  -- q2
        · clear h; exact F
        · clear o9
          have e0 : σ_1.1 0 = y15_s1 := by rw [hσ_1, si1, if_pos rfl]
          rcases hE with ⟨s0, b⟩ | ⟨s0, b⟩
          · refine ⟨fun n => absurd b n, fun _ => ⟨e0.trans s0, ?_⟩⟩
            rw [z9, nw_k17 (σ := σ) (by rw [hσ_1, si1, if_neg (by decide), y2]) (by rw [hσ_1, y2]; rfl)]
          · rw [e0, s0] at c2
            exact absurd c2 (by decide)
    · skip
      refine h _ _ ?_
      · refine and_5 ?_ (fun o9 => ?_)  -- q3
        · clear h; exact F
        · clear o9
          have e0 : σ_1.1 0 = y15_s1 := by rw [hσ_1, si1, if_pos rfl]
          rcases hE with ⟨s0, b⟩ | ⟨s0, b⟩
          · rw [e0, s0] at c2
            exact absurd (by decide) c2
          · exact ⟨fun _ => e0.trans s0, fun n => absurd n b⟩
  refine within_c hC  (fun r6 q8 => ?_)
  refine ⟨fun c9 => ?_, fun c9 => ?_⟩
  · skip
    refine hj15 _ _ _ ?_
    · refine and_5 ?_ (fun o9 => Or.inr ⟨rfl, fun z => (q8.2.mpr z) c9⟩)  -- k4
      clear h; exact ⟨rfl, rfl, fun z => absurd z (by decide)⟩
  · skip
    refine hj15 _ _ _ ?_
    · refine and_5 ?_ (fun o9 => Or.inl ⟨rfl, q8.2.mp c9⟩)  -- k5
      clear h; exact ⟨rfl, rfl, fun _ => q8.2.mp c9⟩

end
section
set_option maxHeartbeats 1600000
/-! size, by what it answers -/
def zc17 (_σ : rS) (p : Int32) : Prop := 0 ≤ p ∧ p ≤ 1
def zv17 (σ : rS) (p : Int32) : Int32 := Int32.ofInt (nw17 σ p : Int)
def XZ17 (p : Int32) (σ σ' : rS) (v : Int32) : Prop := (zc17 σ p ∧ σ'.1 0 = 0 ∧ v = zv17 σ p) ∨ (¬ zc17 σ p ∧ σ'.1 0 = 1)
theorem zv_17 {σ : rS} {p v : Int32} (h : v.toInt = (nw17 σ p : Int)) : v = zv17 σ p := by
  unfold zv17
  rw [← h]
  exact (Int32.ofInt_toInt v).symm
theorem xz_17 {σ σ' : rS} {p v : Int32} (h : (¬ (0 ≤ p ∧ p ≤ 1) → σ'.1 0 = 1) ∧ (0 ≤ p ∧ p ≤ 1 → σ'.1 0 = 0 ∧ v.toInt = (nw17 σ p : Int))) : XZ17 p σ σ' v := by
  by_cases c : 0 ≤ p ∧ p ≤ 1
  · exact Or.inl ⟨c, (h.2 c).1, zv_17 (h.2 c).2⟩
  · exact Or.inr ⟨c, h.1 c⟩

end
section
set_option maxHeartbeats 1600000
/-! a word of 32 bits of a number -/
theorem oi_18 {x y : Int} (h : x % 4294967296 = y % 4294967296) : Int32.ofInt x = Int32.ofInt y := by
  refine Int32.toInt_inj.mp ?_
  rw [Int32.toInt_ofInt, Int32.toInt_ofInt]
  have h' : x % ((4294967296 : Nat) : Int) = y % ((4294967296 : Nat) : Int) := h
  show x.bmod 4294967296 = y.bmod 4294967296
  rw [← Int.emod_bmod, h', Int.emod_bmod]
def lw18 (N i : Nat) : Int32 := Int32.ofInt ((N / 2 ^ (32 * i) : Nat) : Int)
theorem bn_18 {x : Int32} (h : 0 ≤ x.toInt) : x.toBitVec.toNat = x.toNatClampNeg := by
  have k := cnk h
  have e : x.toInt = x.toBitVec.toInt := rfl
  rw [BitVec.toInt_eq_toNat_cond] at e
  have l := x.toBitVec.isLt
  split at e <;> omega
theorem or_18 {a b : Int32} (ha : 0 ≤ a.toInt ∧ a.toInt < 65536) (hb : 0 ≤ b.toInt ∧ b.toInt < 65536) : ((b <<< ((16 : Int32) &&& 31)) ||| a) = Int32.ofInt ((a.toNatClampNeg + 65536 * b.toNatClampNeg : Nat) : Int) := by
  have ka := cnk ha.1
  have kb := cnk hb.1
  have q : (((16 : Int32) &&& 31).toBitVec.smod 32).toNat = 16 := by decide +kernel
  refine Int32.toBitVec_inj.mp (BitVec.eq_of_toNat_eq ?_)
  rw [Int32.toBitVec_or, BitVec.toNat_or, Int32.toBitVec_shiftLeft, BitVec.shiftLeft_eq', q, BitVec.toNat_shiftLeft, bn_18 ha.1, bn_18 hb.1, Int32.toBitVec_ofInt, BitVec.ofInt_natCast, BitVec.toNat_ofNat]
  have e1 : b.toNatClampNeg <<< 16 % 2 ^ 32 = b.toNatClampNeg <<< 16 := by
    rw [Nat.shiftLeft_eq]
    exact Nat.mod_eq_of_lt (by omega)
  rw [e1, ← Nat.shiftLeft_add_eq_or_of_lt (by omega : a.toNatClampNeg < 2 ^ 16), Nat.shiftLeft_eq]
  omega
theorem ar_18 {A P d0 d1 T : Nat} : A + d0 * P + d1 * (P * 65536) + P * 65536 * 65536 * T = A + P * (d0 + 65536 * d1 + 4294967296 * T) := by
  have h1 : d1 * (P * 65536) = P * (65536 * d1) := by rw [Nat.mul_comm d1, Nat.mul_assoc]
  have h2 : P * 65536 * 65536 * T = P * (4294967296 * T) := by rw [Nat.mul_assoc P, Nat.mul_assoc P]
  rw [Nat.mul_add, Nat.mul_add, h1, h2, Nat.mul_comm d0]
  omega
theorem dm_18 {f : Nat → Int32} {o L : Nat} (h : dgO f o L) (i : Nat) : ∃ T, dv f o L / 2 ^ (32 * i) = (if 2 * i < L then (f (o + 2 * i)).toNatClampNeg else 0) + 65536 * (if 2 * i + 1 < L then (f (o + (2 * i + 1))).toNatClampNeg else 0) + 4294967296 * T := by
  have e1 := dv_min (f := f) (o := o) (L := L) (k := 2 * i)
  have e2 := dv_min (f := f) (o := o) (L := L) (k := 2 * i + 1)
  have lt : dv f o (min (2 * i) L) < 65536 ^ (2 * i) := Nat.lt_of_lt_of_le (dv_lt (fun j hj => h j (by omega))) (Nat.pow_le_pow_right (by decide) (by omega))
  have T : ∃ T, dv f o L = dv f o (min (2 * i + 1 + 1) L) + 65536 ^ (2 * i + 1 + 1) * T := by
    by_cases c : L ≤ 2 * i + 1 + 1
    · exact ⟨0, by rw [Nat.min_eq_right c, Nat.mul_zero, Nat.add_zero]⟩
    · refine ⟨dv f (o + (2 * i + 1 + 1)) (L - (2 * i + 1 + 1)), ?_⟩
      rw [Nat.min_eq_left (by omega), ← dv_add, Nat.add_sub_cancel' (by omega)]
  obtain ⟨T, hT⟩ := T
  refine ⟨T, ?_⟩
  have p : 0 < 65536 ^ (2 * i) := Nat.pow_pos (by decide)
  have ep : 2 ^ (32 * i) = 65536 ^ (2 * i) := by
    rw [p16_17]
    congr 1
    omega
  have i1 : (if 2 * i < L then (f (o + 2 * i)).toNatClampNeg * 65536 ^ (2 * i) else 0) = (if 2 * i < L then (f (o + 2 * i)).toNatClampNeg else 0) * 65536 ^ (2 * i) := by
    split
    · rfl
    · rw [Nat.zero_mul]
  have i2 : (if 2 * i + 1 < L then (f (o + (2 * i + 1))).toNatClampNeg * 65536 ^ (2 * i + 1) else 0) = (if 2 * i + 1 < L then (f (o + (2 * i + 1))).toNatClampNeg else 0) * 65536 ^ (2 * i + 1) := by
    split
    · rfl
    · rw [Nat.zero_mul]
  have s1 : 65536 ^ (2 * i + 1) = 65536 ^ (2 * i) * 65536 := Nat.pow_succ _ _
  have s2 : 65536 ^ (2 * i + 1 + 1) = 65536 ^ (2 * i) * 65536 * 65536 := by rw [Nat.pow_succ, Nat.pow_succ]
  rw [ep, hT, e2, e1, i1, i2, s1, s2, ar_18, Nat.add_mul_div_left _ _ p, Nat.div_eq_of_lt lt, Nat.zero_add]
/-- limb, by what it answers -/
def lc18 (σ : rS) (p i : Int32) : Prop := (0 ≤ p ∧ p ≤ 1) ∧ 0 ≤ i ∧ i.toInt < (nw17 σ p : Int)
def lv18 (σ : rS) (p i : Int32) : Int32 := if σ.1 103 = 0 then 1 else lw18 (nV σ (15 + p.toNatClampNeg)) i.toNatClampNeg
def XL18 (p i : Int32) (σ σ' : rS) (v : Int32) : Prop := (lc18 σ p i ∧ σ'.1 0 = 0 ∧ v = lv18 σ p i) ∨ (¬ lc18 σ p i ∧ σ'.1 0 = 1)
theorem xl_18 {σ σ' : rS} {p i v : Int32} (h : (¬ lc18 σ p i → σ'.1 0 = 1) ∧ (lc18 σ p i → σ'.1 0 = 0 ∧ v = lv18 σ p i)) : XL18 p i σ σ' v := by
  by_cases c : lc18 σ p i
  · exact Or.inl ⟨c, (h.2 c).1, (h.2 c).2⟩
  · exact Or.inr ⟨c, h.1 c⟩
/-- where a word's two parts stand -/
theorem at_18 {p i v : Int32} (hp : 0 ≤ p ∧ p ≤ 1) (h0 : 0 ≤ i) (h1 : i < 20000) (hv : v = 40000 * (15 + p) + 2 * i) : v.toInt = 40000 * (15 + p.toInt) + 2 * i.toInt ∧ (v + 1).toInt = v.toInt + 1 ∧ ((2 : Int32) * i + 1).toInt = 2 * i.toInt + 1 ∧ ((15 : Int32) + p).toInt = 15 + p.toInt := by
  obtain ⟨p0, p1⟩ := hp
  have l1 : (20000 : Int32).toInt = 20000 := rfl
  have l2 : (40000 : Int32).toInt = 40000 := rfl
  have l3 : (15 : Int32).toInt = 15 := rfl
  have l4 : (2 : Int32).toInt = 2 := rfl
  rw [lei, t0i] at p0 h0
  rw [lei, t1i] at p1
  rw [lti, l1] at h1
  have a1 : ((15 : Int32) + p).toInt = 15 + p.toInt := by rw [add_i (by rw [l3]; omega) (by rw [l3]; omega), l3]
  have a2 : ((40000 : Int32) * (15 + p)).toInt = 40000 * (15 + p.toInt) := by rw [mul_i (by rw [l2, a1]; omega) (by rw [l2, a1]; omega), l2, a1]
  have a3 : ((2 : Int32) * i).toInt = 2 * i.toInt := by rw [mul_i (by rw [l4]; omega) (by rw [l4]; omega), l4]
  have a4 : v.toInt = 40000 * (15 + p.toInt) + 2 * i.toInt := by rw [hv, add_i (by rw [a2, a3]; omega) (by rw [a2, a3]; omega), a2, a3]
  refine ⟨a4, ?_, ?_, a1⟩
  · rw [add_i (by rw [t1i, a4]; omega) (by rw [t1i, a4]; omega), t1i]
  · rw [add_i (by rw [t1i, a3]; omega) (by rw [t1i, a3]; omega), t1i, a3]

end
section
set_option maxHeartbeats 1600000
/-! the reference: limb -/
theorem lb_18 {C : rCx} {σ σ1 : rS} {a1 a2 : Int32} {Q : Int32 → rS → Prop} (hp : numO σ (15 + a1.toNatClampNeg)) (er : σ1.2.2 = σ.2.2) (lc : lc18 σ a1 a2) (n103 : ¬ σ.1 103 = 0) (k : Q (lv18 σ a1 a2) σ1) : ∀ v3 : Int32, v3 = 40000 * (15 + a1) + 2 * a2 → inb (15 + a1) 30 ∧ (σ1.2.2.1 91 (15 + a1).toNatClampNeg ≤ 2 * a2 + 1 → w_limb_91 C Q v3 0 σ1) ∧ (¬ σ1.2.2.1 91 (15 + a1).toNatClampNeg ≤ 2 * a2 + 1 → inb (v3 + 1) 1200000 ∧ w_limb_91 C Q v3 (σ1.2.2.1 90 (v3 + 1).toNatClampNeg) σ1) := by
  intro v3 hv3
  obtain ⟨⟨p0, p1⟩, i0, i1⟩ := lc
  unfold nw17 at i1
  rw [if_neg n103] at i1
  have P0 := p0
  have P1 := p1
  have I0 := i0
  rw [lei, t0i] at p0 i0
  rw [lei, t1i] at p1
  have kp := cnk p0
  have ki := cnk i0
  have l40 : (40000 : Int32).toInt = 40000 := rfl
  have nl := hp.2.1
  have nz := hp.1
  rw [lei, l40] at nl
  rw [lei, t0i] at nz
  have kl := cnk nz
  have eL : nL σ (15 + a1.toNatClampNeg) = (σ.2.2.1 91 (15 + a1.toNatClampNeg)).toNatClampNeg := rfl
  have i2 : a2.toInt < 20000 := by omega
  have l20 : (20000 : Int32).toInt = 20000 := rfl
  obtain ⟨e3, e4, e5, e6⟩ := at_18 ⟨P0, P1⟩ I0 (by rw [lti, l20]; exact i2) hv3
  have k3 := cnk (x := v3) (by omega)
  have k4 := cnk (x := v3 + 1) (by omega)
  have k6 := cnk (x := (15 : Int32) + a1) (by omega)
  have n6 : ((15 : Int32) + a1).toNatClampNeg = 15 + a1.toNatClampNeg := by omega
  have n3 : v3.toNatClampNeg = 40000 * (15 + a1.toNatClampNeg) + 2 * a2.toNatClampNeg := by omega
  have n4 : (v3 + 1).toNatClampNeg = 40000 * (15 + a1.toNatClampNeg) + (2 * a2.toNatClampNeg + 1) := by omega
  obtain ⟨T, hT⟩ := dm_18 hp.2.2.1 a2.toNatClampNeg
  have lo : 2 * a2.toNatClampNeg < nL σ (15 + a1.toNatClampNeg) := by omega
  have d65 : (65536 : Int32).toInt = 65536 := rfl
  have dg : ∀ j, j < nL σ (15 + a1.toNatClampNeg) → 0 ≤ (σ.2.2.1 90 (40000 * (15 + a1.toNatClampNeg) + j)).toInt ∧ (σ.2.2.1 90 (40000 * (15 + a1.toNatClampNeg) + j)).toInt < 65536 := fun j hj => by
    have y := hp.2.2.1 j hj
    rw [lei, lti, t0i, d65] at y
    exact y
  have z0 : 0 ≤ (0 : Int32).toInt ∧ (0 : Int32).toInt < 65536 := by decide
  have z1 : (0 : Int32).toNatClampNeg = 0 := rfl
  have i1200 : (1200000 : Int32).toInt = 1200000 := rfl
  have i30 : (30 : Int32).toInt = 30 := rfl
  have val : lv18 σ a1 a2 = Int32.ofInt ((nV σ (15 + a1.toNatClampNeg) / 2 ^ (32 * a2.toNatClampNeg) : Nat) : Int) := if_neg n103
  have eq : ∀ s0 : Int32, (0 ≤ s0.toInt ∧ s0.toInt < 65536) → s0.toNatClampNeg = (if 2 * a2.toNatClampNeg + 1 < nL σ (15 + a1.toNatClampNeg) then (σ.2.2.1 90 (40000 * (15 + a1.toNatClampNeg) + (2 * a2.toNatClampNeg + 1))).toNatClampNeg else 0) → w_limb_91 C Q v3 s0 σ1 := fun s0 h1 h2 => by
    unfold w_limb_91
    refine ⟨ib_1200000.mpr ⟨by rw [lei, t0i]; omega, by rw [lti, i1200]; omega⟩, ?_⟩
    rw [er, n3, or_18 (dg _ lo) h1]
    have e : Int32.ofInt (((σ.2.2.1 90 (40000 * (15 + a1.toNatClampNeg) + 2 * a2.toNatClampNeg)).toNatClampNeg + 65536 * s0.toNatClampNeg : Nat) : Int) = lv18 σ a1 a2 := by
      rw [val]
      refine oi_18 ?_
      have hT' : nV σ (15 + a1.toNatClampNeg) / 2 ^ (32 * a2.toNatClampNeg) = _ := hT
      rw [hT', if_pos lo, ← h2]
      omega
    rw [e]
    exact k
  refine ⟨ib_30.mpr ⟨by rw [lei, t0i]; omega, by rw [lti, i30]; omega⟩, fun c => eq _ z0 ?_, fun c => ⟨ib_1200000.mpr ⟨by rw [lei, t0i]; omega, by rw [lti, i1200]; omega⟩, ?_⟩⟩
  · rw [er, n6, lei, e5] at c
    rw [z1, if_neg (by omega)]
  · rw [er, n6, lei, e5] at c
    rw [er, n4]
    exact eq _ (dg _ (by omega)) (by rw [if_pos (by omega)])
theorem limb_g5 {C : rCx} (hC : cOK C) {σ : rS} {a1 a2 : Int32} {Q : Int32 → rS → Prop} (hp : shO σ) (h : ∀ (v : Int32) (σ' : rS), (frT [0] [] σ σ' ∧ ((¬ lc18 σ a1 a2 → σ'.1 0 = 1) ∧ (lc18 σ a1 a2 → σ'.1 0 = 0 ∧ v = lv18 σ a1 a2))) → Q v σ') : cI C 1 m_limb [.ref (co C), .int a1, .int a2] σ Q := by
  refine m_limb_run hC ?_
  unfold w_limb_0
  have hj28 : ∀ (s1 : Int32), ((s1 = 0 ∧ lc18 σ a1 a2) ∨ (s1 = 1 ∧ ¬ lc18 σ a1 a2)) → w_limb_28 C Q a1 a2 s1 σ := by
    intro s1 hs
    unfold w_limb_28
    intro σ1 e1
    have F : frT [0] [] σ σ1 := by rw [e1]; exact frT_0 (by decide)
    have e0 : σ1.1 0 = s1 := by rw [e1, si1, if_pos rfl]
    have e103 : σ1.1 103 = σ.1 103 := by rw [e1, si1, if_neg (by decide)]
    have er : σ1.2.2 = σ.2.2 := by rw [e1, si2]
    have key : σ1.1 0 ≤ 0 → lc18 σ a1 a2 ∧ σ1.1 0 = 0 := fun c2 => by
      rcases hs with z | z
      · exact ⟨z.2, e0.trans z.1⟩
      · rw [e0, z.1] at c2
        exact absurd c2 (by decide)
    refine ⟨fun c2 => ⟨fun c3 => ?_, fun c3 => ?_⟩, fun c2 => ?_⟩
    · obtain ⟨lc, c0⟩ := key c2
      rw [e103] at c3
      have nO : numO σ (15 + a1.toNatClampNeg) := by
        have z := hp c3
        have p0 := lc.1.1
        have p1 := lc.1.2
        rw [lei, t0i] at p0
        rw [lei, t1i] at p1
        have kp := cnk p0
        have e : a1.toNatClampNeg = 0 ∨ a1.toNatClampNeg = 1 := by omega
        rcases e with e | e <;> rw [e]
        · exact z.1
        · exact z.2
      exact lb_18 nO er lc c3 (h _ _ ⟨F, fun n => absurd lc n, fun _ => ⟨c0, rfl⟩⟩)
    · obtain ⟨lc, c0⟩ := key c2
      refine h _ _ ⟨F, fun n => absurd lc n, fun _ => ⟨c0, ?_⟩⟩
      unfold lv18
      rw [if_pos (e103.symm.trans c3)]
    · rcases hs with z | z
      · rw [e0, z.1] at c2
        exact absurd (by decide) c2
      · exact h _ _ ⟨F, fun _ => e0.trans z.1, fun n => absurd n z.2⟩
  refine within_c hC (fun r6 q8 => ?_)
  refine ⟨fun c9 => hj28 _ (Or.inr ⟨rfl, fun z => (q8.2.mpr z.1) c9⟩), fun c9 => ⟨fun c10 => hj28 _ (Or.inr ⟨rfl, fun z => absurd c10 (Int32.not_lt.mpr z.2.1)⟩), fun c10 => ?_⟩⟩
  refine numbersOf_g5 hC ⟨(q8.2.mp c9).1, (q8.2.mp c9).2, hp⟩ (fun r11 q13 => ?_)
  have e11 : r11.toInt = (nw17 σ a1 : Int) := q13.2
  refine ⟨fun c14 => hj28 _ (Or.inl ⟨rfl, q8.2.mp c9, Int32.not_lt.mp c10, ?_⟩), fun c14 => hj28 _ (Or.inr ⟨rfl, fun z => c14 ?_⟩)⟩
  · rw [lti] at c14
    omega
  · rw [lti]
    have := z.2.2
    omega

end
section
set_option maxHeartbeats 1600000
/-! the reference: endings that count, lists of values -/
def to24 (σ : rS) (e : Nat) (i : Int32) : Int32 := σ.2.2.1 75 (35 * e + 1 + i.toNatClampNeg)
/-- a next that leads to an ending, where the plan takes it -/
def nk24 (σ : rS) (k i : Nat) : Prop := σ.2.2.1 77 i = 1 ∧ (σ.2.2.1 81 k = 0 ∨ (i : Int) = (σ.2.2.1 76 k + σ.2.2.1 83 k).toInt)
def hvk24 (σ : rS) (K e : Nat) : Prop := σ.1 70 = 0 ∨ ∃ k i, k < K ∧ vsV σ k ≠ 0 ∧ (loN σ k ≤ i ∧ i < (σ.2.2.1 76 (k + 1)).toNatClampNeg) ∧ nk24 σ k i ∧ (σ.2.2.1 78 i).toNatClampNeg = e
/-- an ending that counts -/
def hv24 (σ : rS) (e : Nat) : Prop := hvk24 σ (σ.1 70).toNatClampNeg e
def hvi24 (σ : rS) (k l e : Nat) : Prop := hvk24 σ k e ∨ (vsV σ k ≠ 0 ∧ ∃ i, (loN σ k ≤ i ∧ i < l) ∧ nk24 σ k i ∧ (σ.2.2.1 78 i).toNatClampNeg = e)
theorem hvi_024 {σ : rS} {k e : Nat} : hvi24 σ k (loN σ k) e ↔ hvk24 σ k e := by
  constructor
  · rintro (h | ⟨_, i, ⟨a, b⟩, _⟩)
    · exact h
    · omega
  · exact Or.inl
theorem hvi_s24 {σ : rS} {k l e : Nat} (h : loN σ k ≤ l) : hvi24 σ k (l + 1) e ↔ hvi24 σ k l e ∨ (vsV σ k ≠ 0 ∧ nk24 σ k l ∧ (σ.2.2.1 78 l).toNatClampNeg = e) := by
  constructor
  · rintro (h | ⟨v, i, ⟨a, b⟩, c, d⟩)
    · exact Or.inl (Or.inl h)
    · by_cases z : i = l
      · subst z; exact Or.inr ⟨v, c, d⟩
      · exact Or.inl (Or.inr ⟨v, i, ⟨a, by omega⟩, c, d⟩)
  · rintro ((h | ⟨v, i, ⟨a, b⟩, c, d⟩) | ⟨v, c, d⟩)
    · exact Or.inl h
    · exact Or.inr ⟨v, i, ⟨a, by omega⟩, c, d⟩
    · exact Or.inr ⟨v, l, ⟨h, by omega⟩, c, d⟩
theorem hvk_s24 {σ : rS} {k e : Nat} : hvk24 σ (k + 1) e ↔ hvi24 σ k (σ.2.2.1 76 (k + 1)).toNatClampNeg e := by
  constructor
  · rintro (h | ⟨k', i, a, b, c⟩)
    · exact Or.inl (Or.inl h)
    · by_cases z : k' = k
      · subst z; exact Or.inr ⟨b, i, c⟩
      · exact Or.inl (Or.inr ⟨k', i, by omega, b, c⟩)
  · rintro ((h | ⟨k', i, a, b, c⟩) | ⟨b, i, c⟩)
    · exact Or.inl h
    · exact Or.inr ⟨k', i, by omega, b, c⟩
    · exact Or.inr ⟨k, i, by omega, b, c⟩
theorem hvk_v24 {σ : rS} {k l e : Nat} (h : vsV σ k = 0) : hvi24 σ k l e ↔ hvk24 σ k e := by
  constructor
  · rintro (z | ⟨v, _⟩)
    · exact z
    · exact absurd h v
  · exact Or.inl
def z24 (σ : rS) : Int32 := if σ.1 70 = 0 then 1 else 0
theorem z24_h {σ : rS} {e : Nat} : z24 σ ≠ 0 ↔ hvk24 σ 0 e := by
  unfold z24
  by_cases c : σ.1 70 = 0
  · rw [if_pos c]
    exact ⟨fun _ => Or.inl c, fun _ => by decide⟩
  · rw [if_neg c]
    exact ⟨fun z => absurd rfl z, fun z => by rcases z with z | ⟨k, i, a, _⟩; exact absurd z c; exact absurd a (Nat.not_lt_zero _)⟩
theorem to_i24 {k i : Int32} (h : 0 ≤ k ∧ k < 1000 ∧ 0 ≤ i ∧ i < 34) : ((((35 : Int32) * k) + (1 : Int32)) + i).toNatClampNeg = 35 * k.toNatClampNeg + 1 + i.toNatClampNeg := by
  obtain ⟨h0, h1, h2, h3⟩ := h
  have l1 : (1000 : Int32).toInt = 1000 := rfl
  have l2 : (34 : Int32).toInt = 34 := rfl
  have l3 : (35 : Int32).toInt = 35 := rfl
  rw [lei, t0i] at h0 h2
  rw [lti, l1] at h1
  rw [lti, l2] at h3
  have e1 : ((35 : Int32) * k).toInt = 35 * k.toInt := by rw [mul_i (by rw [l3]; omega) (by rw [l3]; omega), l3]
  have e2 : (((35 : Int32) * k) + (1 : Int32)).toInt = 35 * k.toInt + 1 := by rw [add_i (by rw [e1, t1i]; omega) (by rw [e1, t1i]; omega), e1, t1i]
  have e3 : ((((35 : Int32) * k) + (1 : Int32)) + i).toInt = 35 * k.toInt + 1 + i.toInt := by rw [add_i (by rw [e2]; omega) (by rw [e2]; omega), e2]
  have k1 := cnk h0
  have k2 := cnk h2
  have k3 := cnk (x := (((35 : Int32) * k) + (1 : Int32)) + i) (by omega)
  omega
theorem vs_x24 {σ τ : rS} {l : List Nat} (F : frX l σ τ) (h1 : 95 ∉ l) (h2 : 102 ∉ l) (k : Nat) : vsV τ k = vsV σ k := by
  unfold vsV
  rw [F.2.2.1 95 h1, F.2.2.1 102 h2]
theorem tk_24 {x y : Int32} (h : 0 ≤ x) : ((x.toNatClampNeg : Int) = y.toInt ↔ x = y) := by
  rw [lei, t0i] at h
  rw [cnk h]
  exact Int32.toInt_inj
theorem zbo24 {σ : rS} : vp_nar .boolean (z24 σ) = z24 σ := by
  unfold z24
  split <;> decide
theorem told_g5 {C : rCx} (hC : cOK C)  {σ : rS} {a1 : Int32} {a2 : Int32} {Q : Int32 → rS → Prop} (hp : 0 ≤ a1 ∧ a1 < 1000 ∧ 0 ≤ a2 ∧ a2 < 34) (h : ∀ (v : Int32), ((True) ∧ (v = to24 σ a1.toNatClampNeg a2)) → Q v σ) : cI C 0 m_told [.ref (co C), .int a1, .int a2] σ Q := by
  refine m_told_run hC ?_
  unfold w_told_0
  refine ⟨ib_35000.mpr ?_, ?_⟩
  · clear h; exact (xe hp.1 hp.2.1 hp.2.2.1 hp.2.2.2).1  -- b1
  refine h _ ?_
  · refine and_5 ?_ (fun o9 => ?_)  -- q2
    · clear h; trivial
    · clear o9
      unfold to24
      rw [to_i24 hp]

theorem findHeavy_g5 {C : rCx} (hC : cOK C)  {σ : rS}  {Q : rS → Prop} (hp : pOK σ) (h : ∀ (σ' : rS), ((frX [120] σ σ') ∧ (∀ e, e < (σ.1 71).toNatClampNeg → (σ'.2.2.1 120 e ≠ 0 ↔ hv24 σ e))) → Q σ') : cV C 1 m_findHeavy [.ref (co C)] σ Q := by
  refine m_findHeavy_run hC ?_
  unfold w_findHeavy_0
  have hO := hp
  have n1000 := hO.1.1.2
  unfold w_findHeavy_2
  refine ⟨fun n l1 τ => n = (σ.1 71 - l1).toNatClampNeg ∧ ((frX [120] σ τ ∧ 0 ≤ l1 ∧ l1 ≤ σ.1 71) ∧ ∀ e, e < l1.toNatClampNeg → τ.2.2.1 120 e = z24 σ), ⟨_, rfl, ?_⟩, ?_⟩
  · refine and_5 ?_ (fun o9 => fun e he => absurd he (Nat.not_lt_zero e))  -- j1
    clear h; exact ⟨frX_rf, by decide, hO.1.2.1.1⟩
  rintro n2 x2_1 σ2 ⟨hn2, i2, hE⟩
  have hj27 : ∀ (l1 : Int32) (s1 : Int32) (s2 : Int32) (τ : rS), ((l1 = x2_1 ∧ s1 = x2_1 ∧ ¬ σ.1 71 ≤ x2_1 ∧ τ = σ2) ∧ s2 = z24 σ ∧ ∀ e, e < l1.toNatClampNeg → τ.2.2.1 120 e = z24 σ) → w_findHeavy_27 C Q (fun l1' τ => ∃ k < n2, (fun n l1 τ => n = (σ.1 71 - l1).toNatClampNeg ∧ ((frX [120] σ τ ∧ 0 ≤ l1 ∧ l1 ≤ σ.1 71) ∧ ∀ e, e < l1.toNatClampNeg → τ.2.2.1 120 e = z24 σ)) k l1' τ) l1 s1 s2 τ := by
    rintro y27_1 y27_s1 y27_s2 τ27 ⟨j27, hE⟩
    unfold w_findHeavy_27
    obtain ⟨F, a0, a1⟩ := i2
    obtain ⟨y1, y2, y3, y4⟩ := j27
    have u := uk a0 y3 hO.1.2.1.2
    refine ⟨ib_1000.mpr ?_, ?_⟩
    · clear h; rw [y2]; exact ⟨a0, u.2.2.2.2.2⟩  -- b2
    intro σ_1 hσ_1
    intro x2 hx2
    refine lp_b5 (cn_lt2 hn2 ?_ ?_) (fun d9 => ⟨rfl, ?_⟩)
    · clear h; rw [hx2, y1]; exact u.1  -- d3
    · clear h; rw [hx2, y1]; exact u.2.1  -- d4
    · refine and_5 ?_ (fun o9 => fun e he => by
have as := cn_succ a0 (Int32.lt_trans u.2.2.2.2.2 (by decide))
rw [hx2, y1, as] at he
rw [hσ_1, ri_row, y2, hE.1, zbo24]
by_cases c : e = x2_1.toNatClampNeg
· rw [c, upd_eq]
· rw [upd_ne c]
  exact hE.2 e (by rw [y1]; omega))  -- i5
      clear h; rw [hx2, y1, hσ_1, y4]; exact ⟨frX_tr F (frX_1 (by decide)), u.2.2.1, u.2.2.2.1⟩
  obtain ⟨F, a0, a1⟩ := i2
  have e71 : σ2.1 71 = σ.1 71 := by rw [F.1]
  rw [e71]
  refine ⟨fun c3 => ?_, fun c3 => ?_⟩
  · skip
    unfold w_findHeavy_36
    refine ⟨fun n l1 τ => n = (σ.1 70 - l1).toNatClampNeg ∧ ((frX [120] σ τ ∧ 0 ≤ l1 ∧ l1 ≤ σ.1 70) ∧ ∀ e, e < (σ.1 71).toNatClampNeg → (τ.2.2.1 120 e ≠ 0 ↔ hvk24 σ l1.toNatClampNeg e)), ⟨_, rfl, ?_⟩, ?_⟩
    · refine and_5 ?_ (fun o9 => fun e he => by
rw [hE e (Nat.lt_of_lt_of_le he (cn_l c3 hO.1.2.1.1))]
exact z24_h)  -- j6
      clear h; exact ⟨F, by decide, hO.1.1.1⟩
    rintro n36 x36_1 σ36 ⟨hn36, i36, hE⟩
    obtain ⟨G, b0, b1⟩ := i36
    have e70 : σ36.1 70 = σ.1 70 := by rw [G.1]
    rw [e70]
    refine ⟨fun c4 => ?_, fun c4 => ?_⟩
    · skip
      refine h _ ?_
      · refine and_5 ?_ (fun o9 => ?_)  -- q7
        · clear h; exact G
        · clear o9
          rw [Int32.le_antisymm b1 c4] at hE
          exact hE
    · skip
      have u := uk b0 c4 n1000
      have st := ex_st hO.1 b0 u.2.2.2.2.1
      have hi2 := Int32.le_trans st.2.2.1 hO.1.2.2.1.2
      refine ⟨ib_1001.mpr ?_, ?_⟩
      · clear h; exact ⟨b0, Int32.lt_trans u.2.2.2.2.2 (by decide)⟩  -- b8
      intro x5 hx5
      unfold w_findHeavy_51
      refine ⟨fun n l1 l2 τ => n = (σ.2.2.1 76 (x36_1.toNatClampNeg + 1) - l2).toNatClampNeg ∧ ((l1 = x36_1 ∧ frX [120] σ τ ∧ σ.2.2.1 76 x36_1.toNatClampNeg ≤ l2 ∧ l2 ≤ σ.2.2.1 76 (x36_1.toNatClampNeg + 1)) ∧ ∀ e, e < (σ.1 71).toNatClampNeg → (τ.2.2.1 120 e ≠ 0 ↔ hvi24 σ l1.toNatClampNeg l2.toNatClampNeg e)), ⟨_, rfl, ?_⟩, ?_⟩
      · refine and_5 ?_ (fun o9 => fun e he => by
rw [hE e he, hx5, G.2.2.1 76 (by decide)]
exact hvi_024.symm)  -- j9
        clear h; rw [hx5, G.2.2.1 76 (by decide)]; exact ⟨rfl, G, Int32.le_refl _, st.2.1⟩
      rintro n51 x51_1 x51_2 σ51 ⟨hn51, i51, hE⟩
      obtain ⟨f1, H, w1, w2⟩ := i51
      have i0 := Int32.le_trans st.1.1 w1
      have h76 := H.2.2.1 76 (by decide)
      have h77 := H.2.2.1 77 (by decide)
      have h78 := H.2.2.1 78 (by decide)
      rw [f1]
      refine isVisited_c hC  ?_ (fun r6 q8 => ?_)
      · clear h; exact ⟨b0, u.2.2.2.2.2⟩  -- p10
      rw [h76, h77, st.2.2.2.1]
      refine ⟨fun c9 => ?_, fun c9 => ?_⟩
      · skip
        intro x10 hx10
        refine lp_b5 (cn_lt2 hn36 ?_ ?_) (fun d9 => ⟨rfl, ?_⟩)
        · clear h; rw [hx10]; exact u.1  -- d11
        · clear h; rw [hx10]; exact u.2.1  -- d12
        · refine and_5 ?_ (fun o9 => fun e he => by
have as := cn_succ b0 (Int32.lt_trans u.2.2.2.2.2 (by decide))
have v0 : vsV σ x36_1.toNatClampNeg = 0 := by rw [← vs_x24 H (by decide) (by decide), ← q8]; exact c9
rw [f1] at hE
rw [hx10, as, hE e he, hvk_s24, hvk_v24 v0, hvk_v24 v0])  -- i13
          clear h; rw [hx10]; exact ⟨H, u.2.2.1, u.2.2.2.1⟩
      · skip
        refine ⟨ib_1001.mpr ?_, ?_⟩
        · clear h; exact ⟨st.2.2.2.2.2.1, st.2.2.2.2.2.2⟩  -- b14
        refine ⟨fun c11 => ?_, fun c11 => ?_⟩
        · skip
          intro x12 hx12
          refine lp_b5 (cn_lt2 hn36 ?_ ?_) (fun d9 => ⟨rfl, ?_⟩)
          · clear h; rw [hx12]; exact u.1  -- d15
          · clear h; rw [hx12]; exact u.2.1  -- d16
          · refine and_5 ?_ (fun o9 => fun e he => by
have as := cn_succ b0 (Int32.lt_trans u.2.2.2.2.2 (by decide))
rw [f1, Int32.le_antisymm w2 c11] at hE
rw [hx12, as, hvk_s24]
exact hE e he)  -- i17
            clear h; rw [hx12]; exact ⟨H, u.2.2.1, u.2.2.2.1⟩
        · skip
          have z := u2 i0 c11 hi2
          refine ⟨ib_20000.mpr ?_, ?_⟩
          · clear h; exact ⟨i0, z.2.2.2.2.2.2⟩  -- b18
          refine ⟨fun c13 => ?_, fun c13 => ?_⟩
          · skip
            intro x14 hx14
            refine lp_b5 (cn_lt2 hn51 ?_ ?_) (fun d9 => ⟨rfl, ?_⟩)
            · clear h; rw [hx14]; exact z.1  -- d19
            · clear h; rw [hx14]; exact z.2.1  -- d20
            · refine and_5 ?_ (fun o9 => fun e he => by
have is := cn_succ i0 (Int32.lt_trans z.2.2.2.2.2.2 (by decide))
rw [f1] at hE
rw [hx14, is, hE e he, hvi_s24 (cn_l w1 st.1.1)]
exact ⟨Or.inl, fun y => y.elim id (fun y => absurd y.2.1.1 c13)⟩)  -- i21
              clear h; rw [hx14]; exact ⟨rfl, H, Int32.le_trans w1 z.2.2.2.1, z.2.2.2.2.1⟩
          · skip
            refine isTaken_c hC  ?_ (fun r15 q17 => ?_)
            · clear h; exact ⟨b0, u.2.2.2.2.2⟩  -- p22
            refine ⟨fun c18 => ?_, fun c18 => ?_⟩
            · skip
              intro x19 hx19
              refine lp_b5 (cn_lt2 hn51 ?_ ?_) (fun d9 => ⟨rfl, ?_⟩)
              · clear h; rw [hx19]; exact z.1  -- d23
              · clear h; rw [hx19]; exact z.2.1  -- d24
              · refine and_5 ?_ (fun o9 => fun e he => by
have is := cn_succ i0 (Int32.lt_trans z.2.2.2.2.2.2 (by decide))
rw [f1] at hE
rw [hx19, is, hE e he, hvi_s24 (cn_l w1 st.1.1)]
refine ⟨Or.inl, fun y => y.elim id (fun y => ?_)⟩
have tk := q17.2
rw [rd, rd, rd, H.2.2.1 81 (by decide), h76, H.2.2.1 83 (by decide)] at tk
exact absurd c18 (tk.mpr (Or.inr (y.2.1.2.imp id (fun w => (tk_24 i0).mp w)))))  -- i25
                clear h; rw [hx19]; exact ⟨rfl, H, Int32.le_trans w1 z.2.2.2.1, z.2.2.2.2.1⟩
            · skip
              refine ⟨ib_20000.mpr ?_, ?_⟩
              · clear h; exact ⟨i0, z.2.2.2.2.2.2⟩  -- b26
              refine ⟨ib_1000.mpr ?_, ?_⟩
              · clear h; have q := (hO.1.2.2.2.2 _ (cn_lt i0 (Int32.lt_of_lt_of_le z.2.2.2.2.2.1 st.2.2.1))).2.2 c13
                rw [h78]
                exact ⟨q.1, Int32.lt_of_lt_of_le q.2 hO.1.2.1.2⟩
              intro σ_20 hσ_20
              intro x21 hx21
              refine lp_b5 (cn_lt2 hn51 ?_ ?_) (fun d9 => ⟨rfl, ?_⟩)
              · clear h; rw [hx21]; exact z.1  -- d28
              · clear h; rw [hx21]; exact z.2.1  -- d29
              · refine and_5 ?_ (fun o9 => fun e he => by
have is := cn_succ i0 (Int32.lt_trans z.2.2.2.2.2.2 (by decide))
rw [f1] at hE
have tk := q17.2
rw [rd, rd, rd, H.2.2.1 81 (by decide), h76, H.2.2.1 83 (by decide)] at tk
have vv : vsV σ x36_1.toNatClampNeg ≠ 0 := by rw [← vs_x24 H (by decide) (by decide), ← q8]; exact c9
have nk : nk24 σ x36_1.toNatClampNeg x51_2.toNatClampNeg := ⟨c13, ((tk.mp c18).resolve_left (by decide)).imp id (fun w => (tk_24 i0).mpr w)⟩
rw [hx21, is, hvi_s24 (cn_l w1 st.1.1), hσ_20, ri_row, h78]
by_cases c : e = (σ.2.2.1 78 x51_2.toNatClampNeg).toNatClampNeg
· rw [c, upd_eq]
  exact ⟨fun _ => Or.inr ⟨vv, nk, rfl⟩, fun _ => by decide⟩
· rw [upd_ne c, hE e he]
  exact ⟨Or.inl, fun y => y.elim id (fun y => absurd y.2.2.symm c)⟩)  -- i30
                clear h; rw [hx21, hσ_20]; exact ⟨rfl, frX_tr H (frX_1 (by decide)), Int32.le_trans w1 z.2.2.2.1, z.2.2.2.2.1⟩
  · skip
    refine ⟨fun c22 => ?_, fun c22 => ?_⟩
    · skip
      refine hj27 _ _ _ _ ?_
      · refine and_5 ?_ (fun o9 => ⟨by unfold z24; first | rw [if_neg (fun z => c22 ((congrFun F.1 70).trans z))] | rw [if_pos ((congrFun F.1 70).symm.trans c22)], hE⟩)  -- k31
        clear h; exact ⟨rfl, rfl, c3, rfl⟩
    · skip
      refine hj27 _ _ _ _ ?_
      · refine and_5 ?_ (fun o9 => ⟨by unfold z24; first | rw [if_pos ((congrFun F.1 70).symm.trans (by first | exact c22 | exact Decidable.byContradiction c22))] | rw [if_neg (fun z => c22 ((congrFun F.1 70).trans z))], hE⟩)  -- k32
        clear h; exact ⟨rfl, rfl, c3, rfl⟩

/-- an ending that is listed -/
def sel24 (σ : rS) (a3 a4 : Int32) (e : Nat) : Prop := σ.2.2.1 120 e ≠ 0 ∧ (a3 = -1 ∨ to24 σ e a3 = a4)
/-- the values of the first m endings, in the first n places -/
def li24 (σ : rS) (R : Nat → Int32) (a2 a3 a4 : Int32) (n m : Nat) : Prop := (∀ x, x < n → ∃ e, e < m ∧ sel24 σ a3 a4 e ∧ R x = to24 σ e a2) ∧ (∀ e, e < m → sel24 σ a3 a4 e → ∃ x, x < n ∧ R x = to24 σ e a2)
theorem li_k24 {σ : rS} {R : Nat → Int32} {a2 a3 a4 : Int32} {n m : Nat} (L : li24 σ R a2 a3 a4 n m) (h : ¬ sel24 σ a3 a4 m ∨ ∃ x, x < n ∧ R x = to24 σ m a2) : li24 σ R a2 a3 a4 n (m + 1) := by
  refine ⟨fun x hx => ?_, fun e he s => ?_⟩
  · obtain ⟨e, e1, e2⟩ := L.1 x hx
    exact ⟨e, by omega, e2⟩
  · by_cases c : e = m
    · subst c
      exact h.elim (fun y => absurd s y) id
    · exact L.2 e (by omega) s
theorem li_a24 {σ : rS} {R : Nat → Int32} {a2 a3 a4 : Int32} {n m : Nat} (L : li24 σ R a2 a3 a4 n m) (s : sel24 σ a3 a4 m) : li24 σ (upd R n (to24 σ m a2)) a2 a3 a4 (n + 1) (m + 1) := by
  refine ⟨fun x hx => ?_, fun e he s => ?_⟩
  · by_cases c : x = n
    · rw [c, upd_eq]
      exact ⟨m, by omega, s, rfl⟩
    · rw [upd_ne c]
      obtain ⟨e, e1, e2⟩ := L.1 x (by omega)
      exact ⟨e, by omega, e2⟩
  · by_cases c : e = m
    · rw [c]
      exact ⟨n, by omega, upd_eq⟩
    · obtain ⟨x, x1, x2⟩ := L.2 e (by omega) s
      exact ⟨x, by omega, by rw [upd_ne (by omega)]; exact x2⟩
theorem to_x24 {σ τ : rS} {a : Nat} (F : frX [a] σ τ) (h : a = 121 ∨ a = 122 ∨ a = 123) (e : Nat) (i : Int32) : to24 τ e i = to24 σ e i := by
  unfold to24
  rw [F.2.2.1 75 (fun z => by have := List.mem_singleton.mp z; omega)]
theorem list_g5 {C : rCx} (hC : cOK C)  {σ : rS} {a1 : Nat} {a2 : Int32} {a3 : Int32} {a4 : Int32} {Q : Int32 → rS → Prop} (hp : (a1 = 121 ∨ a1 = 122 ∨ a1 = 123) ∧ exO σ ∧ 0 ≤ a2 ∧ a2 < 34 ∧ (a3 = -1 ∨ (0 ≤ a3 ∧ a3 < 34))) (h : ∀ (v : Int32) (σ' : rS), ((frX [a1] σ σ' ∧ 0 ≤ v ∧ v ≤ σ.1 71) ∧ (li24 σ (σ'.2.2.1 a1) a2 a3 a4 v.toNatClampNeg (σ.1 71).toNatClampNeg)) → Q v σ') : cI C 1 m_list [.ref (co C), .ref (cad C a1), .int a2, .int a3, .int a4] σ Q := by
  refine m_list_run hC ?_
  unfold w_list_0
  obtain ⟨hr, hO, h0, h1, h3⟩ := hp
  have n1000 := hO.2.1.2
  have hT : rT a1 = some (0, 1000) := by rcases hr with e | e | e <;> rw [e] <;> rfl
  unfold w_list_6
  refine ⟨fun n l1 l2 l3 l4 l5 l6 τ => n = (σ.1 71 - l6).toNatClampNeg ∧ ((l1 = a1 ∧ l2 = a2 ∧ l3 = a3 ∧ l4 = a4 ∧ frX [a1] σ τ ∧ 0 ≤ l5 ∧ l5 ≤ l6 ∧ l6 ≤ σ.1 71) ∧ li24 σ (τ.2.2.1 a1) a2 a3 a4 l5.toNatClampNeg l6.toNatClampNeg), ⟨_, rfl, ?_⟩, ?_⟩
  · refine and_5 ?_ (fun o9 => ⟨fun x hx => absurd hx (Nat.not_lt_zero x), fun e he => absurd he (Nat.not_lt_zero e)⟩)  -- j1
    clear h; exact ⟨rfl, rfl, rfl, rfl, frX_rf, by decide, by decide, hO.2.1.1⟩
  rintro n6 x6_1 x6_2 x6_3 x6_4 x6_5 x6_6 σ6 ⟨hn6, i6, hE⟩
  have hj42 : ∀ (l1 : Nat) (l2 : Int32) (l3 : Int32) (l4 : Int32) (l5 : Int32) (l6 : Int32) (τ : rS), ((l1 = a1 ∧ l2 = a2 ∧ l3 = a3 ∧ l4 = a4 ∧ l5 = x6_5 ∧ l6 = x6_6 ∧ ¬ σ.1 71 ≤ x6_6 ∧ τ = σ6) ∧ sel24 σ a3 a4 x6_6.toNatClampNeg ∧ li24 σ (τ.2.2.1 a1) a2 a3 a4 x6_5.toNatClampNeg x6_6.toNatClampNeg) → w_list_42 C Q (fun l1' l2' l3' l4' l5' l6' τ => ∃ k < n6, (fun n l1 l2 l3 l4 l5 l6 τ => n = (σ.1 71 - l6).toNatClampNeg ∧ ((l1 = a1 ∧ l2 = a2 ∧ l3 = a3 ∧ l4 = a4 ∧ frX [a1] σ τ ∧ 0 ≤ l5 ∧ l5 ≤ l6 ∧ l6 ≤ σ.1 71) ∧ li24 σ (τ.2.2.1 a1) a2 a3 a4 l5.toNatClampNeg l6.toNatClampNeg)) k l1' l2' l3' l4' l5' l6' τ) l1 l2 l3 l4 l5 l6 τ := by
    rintro y42_1 y42_2 y42_3 y42_4 y42_5 y42_6 τ42 ⟨j42, hE⟩
    unfold w_list_42
    obtain ⟨e1, e2, e3, e4, F, a0, a1', a2'⟩ := i6
    obtain ⟨y1, y2, y3, y4, y5, y6, y7, y8⟩ := j42
    have b0 := Int32.le_trans a0 a1'
    have u := uk b0 y7 n1000
    have m := mb_i a0 a1' u.2.2.2.2.2
    have x1000 : x6_5 ≤ 1000 := Int32.le_of_lt m.2.2.1
    unfold w_list_48
    refine ⟨fun n l1 l2 l3 l4 l5 l6 l7 l8 τ => n = (x6_5 - l8).toNatClampNeg ∧ ((l1 = a1 ∧ l2 = a2 ∧ l3 = a3 ∧ l4 = a4 ∧ l5 = x6_5 ∧ l6 = x6_6 ∧ τ = σ6 ∧ 0 ≤ l8 ∧ l8 ≤ x6_5) ∧ (l7 ≠ 0 ↔ ∀ x, x < l8.toNatClampNeg → τ.2.2.1 a1 x ≠ to24 σ x6_6.toNatClampNeg a2) ∧ sel24 σ a3 a4 x6_6.toNatClampNeg ∧ li24 σ (τ.2.2.1 a1) a2 a3 a4 x6_5.toNatClampNeg x6_6.toNatClampNeg), ⟨_, rfl, ?_⟩, ?_⟩
    · refine and_5 ?_ (fun o9 => ⟨⟨fun _ x hx => absurd hx (Nat.not_lt_zero x), fun _ => by decide⟩, hE⟩)  -- j2
      clear h; exact ⟨y1, y2, y3, y4, y5, y6, y8, by decide, a0⟩
    rintro n48 x48_1 x48_2 x48_3 x48_4 x48_5 x48_6 x48_7 x48_8 σ48 ⟨hn48, i48, hE⟩
    have hj79 : ∀ (l1 : Nat) (l2 : Int32) (l3 : Int32) (l4 : Int32) (l5 : Int32) (l6 : Int32) (l8 : Int32) (s0 : Int32) (τ : rS), ((l1 = a1 ∧ l2 = a2 ∧ l3 = a3 ∧ l4 = a4 ∧ l5 = x6_5 ∧ l6 = x6_6 ∧ τ = σ6 ∧ l8 = x48_8 ∧ ¬ x6_5 ≤ x48_8) ∧ (s0 ≠ 0 ↔ ∀ x, x < x48_8.toNatClampNeg + 1 → τ.2.2.1 a1 x ≠ to24 σ x6_6.toNatClampNeg a2) ∧ sel24 σ a3 a4 x6_6.toNatClampNeg ∧ li24 σ (τ.2.2.1 a1) a2 a3 a4 x6_5.toNatClampNeg x6_6.toNatClampNeg) → w_list_79 C Q (fun l1' l2' l3' l4' l5' l6' τ => ∃ k < n6, (fun n l1 l2 l3 l4 l5 l6 τ => n = (σ.1 71 - l6).toNatClampNeg ∧ ((l1 = a1 ∧ l2 = a2 ∧ l3 = a3 ∧ l4 = a4 ∧ frX [a1] σ τ ∧ 0 ≤ l5 ∧ l5 ≤ l6 ∧ l6 ≤ σ.1 71) ∧ li24 σ (τ.2.2.1 a1) a2 a3 a4 l5.toNatClampNeg l6.toNatClampNeg)) k l1' l2' l3' l4' l5' l6' τ) (fun l1' l2' l3' l4' l5' l6' l7' l8' τ => ∃ k < n48, (fun n l1 l2 l3 l4 l5 l6 l7 l8 τ => n = (x6_5 - l8).toNatClampNeg ∧ ((l1 = a1 ∧ l2 = a2 ∧ l3 = a3 ∧ l4 = a4 ∧ l5 = x6_5 ∧ l6 = x6_6 ∧ τ = σ6 ∧ 0 ≤ l8 ∧ l8 ≤ x6_5) ∧ (l7 ≠ 0 ↔ ∀ x, x < l8.toNatClampNeg → τ.2.2.1 a1 x ≠ to24 σ x6_6.toNatClampNeg a2) ∧ sel24 σ a3 a4 x6_6.toNatClampNeg ∧ li24 σ (τ.2.2.1 a1) a2 a3 a4 x6_5.toNatClampNeg x6_6.toNatClampNeg)) k l1' l2' l3' l4' l5' l6' l7' l8' τ) l1 l2 l3 l4 l5 l6 l8 s0 τ := by
      rintro y79_1 y79_2 y79_3 y79_4 y79_5 y79_6 y79_8 y79_s0 τ79 ⟨j79, hE⟩
      unfold w_list_79
      intro x1 hx1
      obtain ⟨g1, g2, g3, g4, g5, g6, g7, g8, g9⟩ := i48
      obtain ⟨z1, z2, z3, z4, z5, z6, z7, z8, z9⟩ := j79
      have w := uk g8 z9 x1000
      refine lp_b5 (cn_lt2 hn48 ?_ ?_) (fun d9 => ⟨rfl, ?_⟩)
      · clear h; rw [hx1, z8]; exact w.1  -- d3
      · clear h; rw [hx1, z8]; exact w.2.1  -- d4
      · refine and_5 ?_ (fun o9 => ?_)  -- i5
        · clear h; rw [hx1, z8]; exact ⟨z1, z2, z3, z4, z5, z6, z7, w.2.2.1, w.2.2.2.1⟩
        · clear o9
          have s8 := cn_succ g8 (Int32.lt_trans w.2.2.2.2.2 (by decide))
          rw [hx1, z8, s8]
          exact hE
    obtain ⟨g1, g2, g3, g4, g5, g6, g7, g8, g9⟩ := i48
    refine ⟨fun c2 => ?_, fun c2 => ?_⟩
    · skip
      refine ⟨fun c3 => ?_, fun c3 => ?_⟩
      · skip
        intro x4 hx4
        refine lp_b5 (cn_lt2 hn6 ?_ ?_) (fun d9 => ⟨rfl, ?_⟩)
        · clear h; rw [hx4, g6]; exact u.1  -- d6
        · clear h; rw [hx4, g6]; exact u.2.1  -- d7
        · refine and_5 ?_ (fun o9 => ?_)  -- i8
          · clear h; rw [hx4, g6, g5, g7]; exact ⟨g1, g2, g3, g4, F, a0, m.2.2.2.1, u.2.2.2.1⟩
          · clear o9
            have s6 := cn_succ b0 (Int32.lt_trans u.2.2.2.2.2 (by decide))
            have e8 : x48_8 = x6_5 := Int32.le_antisymm g9 (by rw [← g5]; exact c2)
            rw [e8] at hE
            rw [hx4, g6, g5, s6]
            refine li_k24 hE.2.2 (Or.inr (Classical.byContradiction (fun n => ?_)))
            exact absurd c3 (hE.1.mpr (fun x hx z => n ⟨x, hx, z⟩))
      · skip
        refine told_g5 hC  ?_ (fun r5 q7 => ?_)
        · clear h; rw [g6, g2]; exact ⟨b0, u.2.2.2.2.2, h0, h1⟩  -- p9
        obtain ⟨q7, z9⟩ := q7
        refine ⟨1000, ?_, ?_, ?_⟩
        · clear h; rw [g1]; exact hT  -- t10
        · clear h; exact ib_1000.mpr (by rw [g5]; exact ⟨a0, m.2.2.1⟩)  -- b11
        intro σ_8 hσ_8
        intro x9 hx9
        intro x10 hx10
        refine lp_b5 (cn_lt2 hn6 ?_ ?_) (fun d9 => ⟨rfl, ?_⟩)
        · clear h; rw [hx10, g6]; exact u.1  -- d12
        · clear h; rw [hx10, g6]; exact u.2.1  -- d13
        · refine and_5 ?_ (fun o9 => ?_)  -- i14
          · clear h; rw [hx9, hx10, g5, g6, hσ_8, g1, g7]
            exact ⟨rfl, g2, g3, g4, frX_tr F (frX_1 (List.mem_singleton.mpr rfl)), m.1, m.2.1, u.2.2.2.1⟩
          · clear o9
            have s6 := cn_succ b0 (Int32.lt_trans u.2.2.2.2.2 (by decide))
            have s5 := cn_succ a0 (Int32.lt_trans m.2.2.1 (by decide))
            have ev : r5 = to24 σ x6_6.toNatClampNeg a2 := by rw [z9, g6, g2, g7, to_x24 F hr]
            rw [hx9, hx10, g5, g6, s5, s6, hσ_8, g1, g5, ri_row, ev]
            exact li_a24 hE.2.2 hE.2.1
    · skip
      refine ⟨fun c11 => ?_, fun c11 => ?_⟩
      · skip
        refine hj79 _ _ _ _ _ _ _ _ _ ?_
        · refine and_5 ?_ (fun o9 => ?_)  -- k15
          · clear h; exact ⟨g1, g2, g3, g4, g5, g6, g7, rfl, by rw [← g5]; exact c2⟩
          · clear o9
            refine ⟨⟨fun z => absurd rfl z, fun z => absurd c11 (hE.1.mpr (fun x hx => z x (by omega)))⟩, hE.2⟩
      · skip
        refine ⟨1000, ?_, ?_, ?_⟩
        · clear h; rw [g1]; exact hT  -- t16
        · clear h; have w := uk g8 (by rw [← g5]; exact c2) x1000
          exact ib_1000.mpr ⟨g8, w.2.2.2.2.2⟩
        refine told_g5 hC  ?_ (fun r12 q14 => ?_)
        · clear h; rw [g6, g2]; exact ⟨b0, u.2.2.2.2.2, h0, h1⟩  -- p18
        obtain ⟨q14, z9⟩ := q14
        refine ⟨fun c15 => ?_, fun c15 => ?_⟩
        · skip
          refine hj79 _ _ _ _ _ _ _ _ _ ?_
          · refine and_5 ?_ (fun o9 => ?_)  -- k19
            · clear h; exact ⟨g1, g2, g3, g4, g5, g6, g7, rfl, by rw [← g5]; exact c2⟩
            · clear o9
              have ev : r12 = to24 σ x6_6.toNatClampNeg a2 := by rw [z9, g6, g2, g7, to_x24 F hr]
              rw [g1, ev] at c15
              refine ⟨?_, hE.2⟩
              first
                | exact ⟨fun z => absurd rfl z, fun z => absurd c15 (z _ (Nat.lt_succ_self _))⟩
                | exact ⟨fun _ x hx => by
                    by_cases e : x = x48_8.toNatClampNeg
                    · rw [e]; exact c15
                    · exact hE.1.mp c11 x (by omega), fun _ => by decide⟩
        · skip
          refine hj79 _ _ _ _ _ _ _ _ _ ?_
          · refine and_5 ?_ (fun o9 => ?_)  -- k20
            · clear h; exact ⟨g1, g2, g3, g4, g5, g6, g7, rfl, by rw [← g5]; exact c2⟩
            · clear o9
              have ev : r12 = to24 σ x6_6.toNatClampNeg a2 := by rw [z9, g6, g2, g7, to_x24 F hr]
              rw [g1, ev] at c15
              refine ⟨?_, hE.2⟩
              first
                | exact ⟨fun _ x hx => by
                    by_cases e : x = x48_8.toNatClampNeg
                    · rw [e]; exact c15
                    · exact hE.1.mp c11 x (by omega), fun _ => by decide⟩
                | exact ⟨fun z => absurd rfl z, fun z => absurd (by first | exact c15 | exact Decidable.byContradiction c15) (z _ (Nat.lt_succ_self _))⟩
  obtain ⟨e1, e2, e3, e4, F, a0, a1', a2'⟩ := i6
  have b0 := Int32.le_trans a0 a1'
  have e71 : σ6.1 71 = σ.1 71 := by rw [F.1]
  rw [e71]
  refine ⟨fun c16 => ?_, fun c16 => ?_⟩
  · skip
    refine h _ _ ?_
    · refine and_5 ?_ (fun o9 => ?_)  -- q21
      · clear h; exact ⟨F, a0, Int32.le_trans a1' a2'⟩
      · clear o9
        rw [Int32.le_antisymm a2' c16] at hE
        exact hE
  · skip
    have u := uk b0 c16 n1000
    have m := mb_i a0 a1' u.2.2.2.2.2
    refine ⟨ib_1000.mpr ?_, ?_⟩
    · clear h; exact ⟨b0, u.2.2.2.2.2⟩  -- b22
    refine ⟨fun c17 => ?_, fun c17 => ?_⟩
    · skip
      intro x18 hx18
      refine lp_b5 (cn_lt2 hn6 ?_ ?_) (fun d9 => ⟨rfl, ?_⟩)
      · clear h; rw [hx18]; exact u.1  -- d23
      · clear h; rw [hx18]; exact u.2.1  -- d24
      · refine and_5 ?_ (fun o9 => ?_)  -- i25
        · clear h; rw [hx18]; exact ⟨e1, e2, e3, e4, F, a0, m.2.2.2.1, u.2.2.2.1⟩
        · clear o9
          have s6 := cn_succ b0 (Int32.lt_trans u.2.2.2.2.2 (by decide))
          rw [hx18, s6]
          refine li_k24 hE (Or.inl (fun s => s.1 ?_))
          rw [← F.2.2.1 120 (fun z => by have := List.mem_singleton.mp z; omega)]
          exact c17
    · skip
      refine ⟨fun c19 => ?_, fun c19 => ?_⟩
      · skip
        refine hj42 _ _ _ _ _ _ _ ?_
        · refine and_5 ?_ (fun o9 => ⟨⟨by rw [← F.2.2.1 120 (fun z => by have := List.mem_singleton.mp z; omega)]; exact c17, Or.inl (e3.symm.trans c19)⟩, hE⟩)  -- k26
          clear h; exact ⟨e1, e2, e3, e4, rfl, rfl, c16, rfl⟩
      · skip
        refine told_g5 hC  ?_ (fun r20 q22 => ?_)
        · clear h; rw [e3] at c19 ⊢
          have q := h3.resolve_left c19
          exact ⟨b0, u.2.2.2.2.2, q.1, q.2⟩
        obtain ⟨q22, z9⟩ := q22
        refine ⟨fun c23 => ?_, fun c23 => ?_⟩
        · skip
          intro x24 hx24
          refine lp_b5 (cn_lt2 hn6 ?_ ?_) (fun d9 => ⟨rfl, ?_⟩)
          · clear h; rw [hx24]; exact u.1  -- d28
          · clear h; rw [hx24]; exact u.2.1  -- d29
          · refine and_5 ?_ (fun o9 => ?_)  -- i30
            · clear h; rw [hx24]; exact ⟨e1, e2, e3, e4, F, a0, m.2.2.2.1, u.2.2.2.1⟩
            · clear o9
              have s6 := cn_succ b0 (Int32.lt_trans u.2.2.2.2.2 (by decide))
              rw [hx24, s6]
              refine li_k24 hE (Or.inl (fun s => ?_))
              rcases s.2 with w | w
              · exact c19 (e3.trans w)
              · exact c23 (by rw [z9, to_x24 F hr, e3, e4]; exact w)
        · skip
          refine hj42 _ _ _ _ _ _ _ ?_
          · refine and_5 ?_ (fun o9 => ⟨⟨by rw [← F.2.2.1 120 (fun z => by have := List.mem_singleton.mp z; omega)]; exact c17, Or.inr (by rw [← to_x24 F hr, ← e3, ← e4, ← z9]; first | exact c23 | exact Decidable.byContradiction c23)⟩, hE⟩)  -- k31
            clear h; exact ⟨e1, e2, e3, e4, rfl, rfl, c16, rfl⟩

end
section
set_option maxHeartbeats 1600000
/-! the reference: weights of endings -/
noncomputable def iv24 (p : Prop) : Int := @ite Int p (Classical.propDecidable p) 1 0
theorem iv_124 {p : Prop} (h : p) : iv24 p = 1 := if_pos h
theorem iv_024 {p : Prop} (h : ¬ p) : iv24 p = 0 := if_neg h
def cd24 (σ : rS) (e : Nat) (i a : Int32) : Prop := i = -1 ∨ to24 σ e i = a
/-- what an ending's next counts -/
noncomputable def sh24 (σ : rS) (a1 a2 a3 a4 a5 a6 : Int32) (x : Nat) : Int := iv24 (σ.2.2.1 77 x = 1 ∧ cd24 σ (σ.2.2.1 78 x).toNatClampNeg a1 a2 ∧ cd24 σ (σ.2.2.1 78 x).toNatClampNeg a3 a4 ∧ cd24 σ (σ.2.2.1 78 x).toNatClampNeg a5 a6)
noncomputable def wt24 (σ : rS) (sh : Nat → Int) (k x : Nat) : Rat := vt16 σ k * mkRat (twI σ k x * sh x) (tTI σ k).toNat
noncomputable def wk24 (σ : rS) (sh : Nat → Int) (k L : Nat) : Rat := smQ (fun d => wt24 σ sh k (loN σ k + d)) L
noncomputable def ws24 (σ : rS) (sh : Nat → Int) (K : Nat) : Rat := smQ (fun k => wk24 σ sh k (leN σ k)) K
theorem mk_024 {T : Nat} : mkRat 0 T = 0 := by
  have i0 : ((0 : Int) : Rat) = 0 := rfl
  rw [mk_d, i0, Rat.zero_mul]
theorem wt_h24 {σ : rS} {sh : Nat → Int} {k x : Nat} (h : sh x = 0) : wt24 σ sh k x = 0 := by
  unfold wt24
  rw [h, Int.mul_zero, mk_024, Rat.mul_zero]
theorem wt_v24 {σ : rS} {sh : Nat → Int} {k x : Nat} (h : vsV σ k = 0) : wt24 σ sh k x = 0 := by
  unfold wt24
  rw [show vt16 σ k = 0 from if_pos h, Rat.zero_mul]
theorem wt_t24 {σ : rS} {sh : Nat → Int} {k x : Nat} (h1 : ¬ σ.2.2.1 81 k = 0) (h2 : ¬ x = (σ.2.2.1 76 k + σ.2.2.1 83 k).toNatClampNeg) : wt24 σ sh k x = 0 := by
  unfold wt24
  rw [show twI σ k x = 0 from (by unfold twI; rw [if_neg h1, if_neg h2]), Int.zero_mul, mk_024, Rat.mul_zero]
theorem wk_s24 {σ : rS} {sh : Nat → Int} {k l : Nat} (h : loN σ k ≤ l) : wk24 σ sh k (l + 1 - loN σ k) = wk24 σ sh k (l - loN σ k) + wt24 σ sh k l := by
  rw [show l + 1 - loN σ k = (l - loN σ k) + 1 by omega]
  show smQ _ (l - loN σ k) + wt24 σ sh k (loN σ k + (l - loN σ k)) = _
  rw [Nat.add_sub_cancel' h]
  rfl
theorem wk_024 {σ : rS} {sh : Nat → Int} {k : Nat} : wk24 σ sh k 0 = 0 := rfl
theorem wk_v24 {σ : rS} {sh : Nat → Int} {k : Nat} (h : vsV σ k = 0) : ∀ L, wk24 σ sh k L = 0
  | 0 => rfl
  | L + 1 => by
    have e : wk24 σ sh k (L + 1) = wk24 σ sh k L + wt24 σ sh k (loN σ k + L) := rfl
    rw [e, wk_v24 h L, wt_v24 h, Rat.add_zero]
theorem ws_s24 {σ : rS} {sh : Nat → Int} {K : Nat} : ws24 σ sh (K + 1) = ws24 σ sh K + wk24 σ sh K (leN σ K) := rfl
theorem hS_u24 {τ : rS} {p q : Rat} (h : hS τ p) (g : hS τ q) : p = q := by
  obtain ⟨a, A, x⟩ := h
  obtain ⟨b, B, y⟩ := g
  have e : a = b := by rw [← (hR_q A).1, ← (hR_q B).1]
  rcases x with ⟨x1, x2⟩ | ⟨x1, x2⟩ <;> rcases y with ⟨y1, y2⟩ | ⟨y1, y2⟩
  · rw [x2, y2, e]
  · exact absurd (x1.symm.trans y1) (by decide)
  · exact absurd (x1.symm.trans y1) (by decide)
  · rw [x2, y2, e]
theorem vs_e24 {l : List Nat} {σ τ : rS} (F : frS l σ τ) (k : Nat) : vsV τ k = vsV σ k := by
  unfold vsV
  rw [F.2.2.1 95 (by decide) (by decide), F.2.2.1 102 (by decide) (by decide)]
theorem tw_e24 {l : List Nat} {σ τ : rS} (F : frS l σ τ) (k x : Nat) : twI τ k x = twI σ k x := by
  unfold twI
  rw [F.2.2.1 81 (by decide) (by decide), F.2.2.1 79 (by decide) (by decide), F.2.2.1 76 (by decide) (by decide), F.2.2.1 83 (by decide) (by decide)]
theorem tT_e24 {l : List Nat} {σ τ : rS} (F : frS l σ τ) (k : Nat) : tTI τ k = tTI σ k := by
  unfold tTI
  rw [F.2.2.1 81 (by decide) (by decide), F.2.2.1 80 (by decide) (by decide)]
theorem fV_e24 {l : List Nat} {σ τ : rS} (F : frS l σ τ) (k : Nat) : fV τ k = fV σ k := by
  unfold fV slV
  rw [F.2.2.1 102 (by decide) (by decide)]
theorem to_e24 {l : List Nat} {σ τ : rS} (F : frS l σ τ) (e : Nat) (i : Int32) : to24 τ e i = to24 σ e i := by
  unfold to24
  rw [F.2.2.1 75 (by decide) (by decide)]
theorem ws_e24 {l : List Nat} {σ τ : rS} (F : frS l σ τ) (a1 a2 a3 a4 a5 a6 : Int32) (K : Nat) : ws24 τ (sh24 τ a1 a2 a3 a4 a5 a6) K = ws24 σ (sh24 σ a1 a2 a3 a4 a5 a6) K := by
  have es : sh24 τ a1 a2 a3 a4 a5 a6 = sh24 σ a1 a2 a3 a4 a5 a6 := by
    funext x
    unfold sh24 cd24
    simp only [to_e24 F, F.2.2.1 77 (by decide) (by decide), F.2.2.1 78 (by decide) (by decide)]
  have ew : wt24 τ (sh24 σ a1 a2 a3 a4 a5 a6) = wt24 σ (sh24 σ a1 a2 a3 a4 a5 a6) := by
    funext k x
    unfold wt24 vt16
    rw [vs_e24 F, fV_e24 F, tw_e24 F, tT_e24 F]
  have el : ∀ k, loN τ k = loN σ k := fun k => by
    unfold loN
    rw [F.2.2.1 76 (by decide) (by decide)]
  have en : ∀ k, leN τ k = leN σ k := fun k => by
    unfold leN
    rw [el, F.2.2.1 76 (by decide) (by decide)]
  rw [es]
  unfold ws24 wk24
  rw [ew]
  simp only [el, en]
theorem ws_n24 {σ : rS} {a1 a2 a3 a4 a5 a6 : Int32} {s : Nat} (h : exO σ) (hs : s = (σ.1 70).toNatClampNeg) : 0 ≤ ws24 σ (sh24 σ a1 a2 a3 a4 a5 a6) s := by
  subst hs
  exact smQ_nn (fun k hk => smQ_nn (fun d hd => by
    unfold wt24 vt16
    refine Rat.mul_nonneg ?_ (mk_n16 (Int.mul_nonneg ?_ ?_))
    · split
      · exact Rat.le_refl
      · unfold fV
        exact mk_n16 (Int.natCast_nonneg _)
    · have w := (st_z8 h (x := k) hk).1 (loN σ k + d) (Nat.le_add_right _ _) (by unfold leN at hd; unfold loN at hd ⊢; omega)
      rw [lei, t1i] at w
      unfold twI
      split
      · omega
      · split <;> decide
    · unfold sh24 iv24
      split <;> decide))
theorem ct_24 {σ : rS} {j x : Int32} (hO : pOK σ) (j0 : 0 ≤ j) (j1 : j < σ.1 70) (x0 : 0 ≤ x) (n : ¬ σ.2.2.1 81 j.toNatClampNeg = 0) (w : x.toNatClampNeg = (σ.2.2.1 76 j.toNatClampNeg + σ.2.2.1 83 j.toNatClampNeg).toNatClampNeg) : x = σ.2.2.1 76 j.toNatClampNeg + σ.2.2.1 83 j.toNatClampNeg := by
  obtain ⟨⟨s1, s2⟩, s3, s4, s5, _⟩ := ex_st hO.1 j0 j1
  have s6 := hO.1.2.2.1.2
  have p := hO.2 j j0 j1 n
  rw [rd, rd, rd, s5] at p
  obtain ⟨p1, p2⟩ := p
  have l20 : (20000 : Int32).toInt = 20000 := rfl
  rw [lei, t0i] at s1 p1 x0
  rw [lei, l20] at s2 s6
  rw [lei] at s3 s4
  rw [lti, sub_i (by omega) (by omega)] at p2
  have e : (σ.2.2.1 76 j.toNatClampNeg + σ.2.2.1 83 j.toNatClampNeg).toInt = (σ.2.2.1 76 j.toNatClampNeg).toInt + (σ.2.2.1 83 j.toNatClampNeg).toInt := add_i (by omega) (by omega)
  have k1 := cnk (x := σ.2.2.1 76 j.toNatClampNeg + σ.2.2.1 83 j.toNatClampNeg) (by omega)
  have k2 := cnk x0
  exact Int32.toInt_inj.mp (by omega)
theorem cq_24 {v : Int32} {a b : Nat} (q : (v = 0 ∧ a = b) ∨ (v = 1 ∧ b < a) ∨ (v = -1 ∧ a < b)) : v = 0 ↔ a = b := by
  rcases q with ⟨e, h⟩ | ⟨e, h⟩ | ⟨e, h⟩
  · exact ⟨fun _ => h, fun _ => e⟩
  · exact ⟨fun z => absurd (e.symm.trans z) (by decide), fun z => by omega⟩
  · exact ⟨fun z => absurd (e.symm.trans z) (by decide), fun z => by omega⟩
theorem pf_24 {τ : rS} {X Y : Rat} (h : hR τ 23 24 X) (g : hR τ 25 26 Y) : X = Y ↔ nV τ 23 = nV τ 25 ∧ nV τ 24 = nV τ 26 := by
  obtain ⟨_, _, h1, h2⟩ := h
  obtain ⟨_, _, g1, g2⟩ := g
  constructor
  · intro e
    subst e
    exact ⟨by omega, h2.trans g2.symm⟩
  · rintro ⟨e1, e2⟩
    exact Rat.ext (by rw [← h1, ← g1, e1]) (by rw [← h2, ← g2, e2])
theorem weigh_g5 {C : rCx} (hC : cOK C) (s : Nat) {σ : rS} {a1 : Int32} {a2 : Int32} {a3 : Int32} {a4 : Int32} {a5 : Int32} {a6 : Int32} {a7 : Int32} {Q : rS → Prop} (hp : pOK σ ∧ s = (σ.1 70).toNatClampNeg ∧ (∀ k, k < s → vOK σ k) ∧ (a1 = -1 ∨ (0 ≤ a1 ∧ a1 < 34)) ∧ (a3 = -1 ∨ (0 ≤ a3 ∧ a3 < 34)) ∧ (a5 = -1 ∨ (0 ≤ a5 ∧ a5 < 34)) ∧ (a7 = 19 ∨ a7 = 21)) (h : ∀ (σ' : rS), ((frS [0, 1, 2, 3, 4, 5, 6, 7, 8, 9, 10, a7.toNatClampNeg, a7.toNatClampNeg + 1] σ σ' ∧ numO σ' a7.toNatClampNeg ∧ numO σ' (a7.toNatClampNeg + 1) ∧ 0 < nV σ' (a7.toNatClampNeg + 1) ∧ nL σ' a7.toNatClampNeg ≤ 18 * s + 21 ∧ nL σ' (a7.toNatClampNeg + 1) ≤ 18 * s + 1) ∧ (hR σ' a7.toNatClampNeg (a7.toNatClampNeg + 1) (ws24 σ (sh24 σ a1 a2 a3 a4 a5 a6) s))) → Q σ') : cV C 6 m_weigh [.ref (co C), .int a1, .int a2, .int a3, .int a4, .int a5, .int a6, .int a7] σ Q := by
  refine m_weigh_run hC ?_
  unfold w_weigh_0
  obtain ⟨hO, hs, hv, h1, h3, h5, h7⟩ := hp
  refine clearSum_c hC  (fun σ_1 q2 => ?_)
  unfold w_weigh_7
  refine ⟨fun n l1 l2 l3 l4 l5 l6 l7 l8 τ => n = (σ.1 70 - l8).toNatClampNeg ∧ ((l1 = a1 ∧ l2 = a2 ∧ l3 = a3 ∧ l4 = a4 ∧ l5 = a5 ∧ l6 = a6 ∧ l7 = a7 ∧ frS [0, 1, 2, 3, 4, 5, 6, 7, 8, 9, 10] σ τ ∧ 0 ≤ l8 ∧ l8 ≤ σ.1 70 ∧ ∃ d S, d ≤ 20000 ∧ (l8 < σ.1 70 → d ≤ loN σ l8.toNatClampNeg) ∧ siS σ τ s d S) ∧ hS τ (ws24 σ (sh24 σ a1 a2 a3 a4 a5 a6) l8.toNatClampNeg)), ⟨_, rfl, ?_⟩, ?_⟩
  · refine and_5 ?_ (fun o9 => q2.2)  -- j1
    clear h; exact ⟨rfl, rfl, rfl, rfl, rfl, rfl, rfl, frS_mono q2.1 (sub_of rfl), by decide, hO.1.1.1, 0, 0, by decide, fun _ => Nat.zero_le _, siS_0 q2.2⟩
  rintro n7 x7_1 x7_2 x7_3 x7_4 x7_5 x7_6 x7_7 x7_8 σ7 ⟨hn7, i7, hE⟩
  obtain ⟨e1, e2, e3, e4, e5, e6, e7, F, a0, a1', d, S0, d1, d2, J⟩ := i7
  have e70 := F.1 70 (by decide)
  have e76 := F.2.2.1 76 (by decide) (by decide)
  have L := siS_L hO hs hv (by omega) J
  have i9 := i19 h7
  rw [e70, e76, e7]
  refine ⟨fun c3 => ?_, fun c3 => ?_⟩
  · skip
    refine copy_v hC  ?_ (fun σ_4 q5 => ?_)
    · clear h; exact ⟨i9.1.1, i9.1.2.1, by decide, by decide, i9.1.2.2.2.2.1, L.1⟩  -- p2
    have g5 := nV_fr q5.1 (k := 5) (fun z => by have := List.mem_singleton.mp z; have := i9.2.2; omega) L.2.1
    refine copy_v hC  ?_ (fun σ_6 q7 => ?_)
    · clear h; exact ⟨i9.1.2.2.1, i9.1.2.2.2.1, by decide, by decide, i9.1.2.2.2.2.2, g5.1⟩  -- p3
    rw [i9.2.1] at q7
    have g7 := nV_fr q7.1 (k := a7.toNatClampNeg) (fun z => by have := List.mem_singleton.mp z; omega) q5.2.1
    refine h _ ?_
    · refine and_5 ?_ (fun o9 => ?_)  -- q4
      · clear h; refine ⟨frS_tr (frS_mono F (fun k hk => List.mem_append_left [a7.toNatClampNeg, a7.toNatClampNeg + 1] hk)) (frS_tr (frS_mono (frS_of q5.1) (fun k hk => List.mem_append_right [0, 1, 2, 3, 4, 5, 6, 7, 8, 9, 10] (by rw [List.mem_singleton.mp hk]; exact List.mem_cons_self))) (frS_mono (frS_of q7.1) (fun k hk => List.mem_append_right [0, 1, 2, 3, 4, 5, 6, 7, 8, 9, 10] (by rw [List.mem_singleton.mp hk]; exact List.mem_cons_of_mem _ List.mem_cons_self)))), g7.1, q7.2.1, ?_, ?_, ?_⟩
        · rw [q7.2.2.1]
          have z : nV σ_4 5 = nV σ7 5 := g5.2.1
          show 0 < nV σ_4 5
          rw [z]; exact L.2.2.1
        · have z : nL σ_4 a7.toNatClampNeg = nL σ7 4 := q5.2.2.2
          have := L.2.2.2.2.1
          have := g7.2.2
          omega
        · have z : nL σ_6 (a7.toNatClampNeg + 1) = nL σ_4 5 := q7.2.2.2
          have := L.2.2.2.1
          have := g5.2.2
          omega
      · clear o9
        have e : x7_8 = σ.1 70 := Int32.le_antisymm a1' c3
        rw [e, ← hs] at hE
        obtain ⟨q, Q, y⟩ := hE
        have qn := hR_nn Q
        have wn : 0 ≤ ws24 σ (sh24 σ a1 a2 a3 a4 a5 a6) s := ws_n24 hO.1 hs
        have eq : ws24 σ (sh24 σ a1 a2 a3 a4 a5 a6) s = q := by
          rcases y with ⟨_, y⟩ | ⟨_, y⟩
          · exact y
          · have z : q = 0 := by grind
            rw [y, z]
            rfl
        rw [eq]
        have g4 := hR_fr q7.1 (n := a7.toNatClampNeg) (d := 5) (fun z => by have := List.mem_singleton.mp z; omega) (fun z => by have := List.mem_singleton.mp z; have := i9.2.2; omega) (q := q) ⟨q5.2.1, g5.1, by rw [q5.2.2.1]; exact Q.2.2.1, by rw [g5.2.1]; exact Q.2.2.2⟩
        exact ⟨g4.1, q7.2.1, g4.2.2.1, by rw [q7.2.2.1]; show nV σ_4 5 = q.den; rw [g5.2.1]; exact Q.2.2.2⟩
  · skip
    have u := uk a0 c3 hO.1.1.2
    have st := ex_st hO.1 a0 u.2.2.2.2.1
    have as := cn_succ a0 (Int32.lt_trans u.2.2.2.2.2 (by decide))
    have ks : x7_8.toNatClampNeg < s := by rw [hs]; exact cn_lt a0 u.2.2.2.2.1
    have hi2 := Int32.le_trans st.2.2.1 hO.1.2.2.1.2
    refine ⟨ib_1001.mpr ?_, ?_⟩
    · clear h; exact ⟨a0, Int32.lt_trans u.2.2.2.2.2 (by decide)⟩  -- b5
    intro x8 hx8
    unfold w_weigh_25
    refine ⟨fun n l1 l2 l3 l4 l5 l6 l7 l8 l9 τ => n = (σ.2.2.1 76 (x7_8.toNatClampNeg + 1) - l9).toNatClampNeg ∧ ((l1 = a1 ∧ l2 = a2 ∧ l3 = a3 ∧ l4 = a4 ∧ l5 = a5 ∧ l6 = a6 ∧ l7 = a7 ∧ l8 = x7_8 ∧ frS [0, 1, 2, 3, 4, 5, 6, 7, 8, 9, 10] σ τ ∧ σ.2.2.1 76 x7_8.toNatClampNeg ≤ l9 ∧ l9 ≤ σ.2.2.1 76 (x7_8.toNatClampNeg + 1) ∧ ∃ S, siS σ τ s l9.toNatClampNeg S) ∧ hS τ (ws24 σ (sh24 σ a1 a2 a3 a4 a5 a6) x7_8.toNatClampNeg + wk24 σ (sh24 σ a1 a2 a3 a4 a5 a6) x7_8.toNatClampNeg (l9.toNatClampNeg - loN σ x7_8.toNatClampNeg))), ⟨_, rfl, ?_⟩, ?_⟩
    · refine and_5 ?_ (fun o9 => ?_)  -- j6
      · clear h; rw [hx8]
        exact ⟨e1, e2, e3, e4, e5, e6, rfl, rfl, F, Int32.le_refl _, st.2.1, S0, siS_mono J (d2 u.2.2.2.2.1)⟩
      · clear o9
        rw [hx8, show (σ.2.2.1 76 x7_8.toNatClampNeg).toNatClampNeg = loN σ x7_8.toNatClampNeg from rfl, Nat.sub_self, wk_024, Rat.add_zero]
        exact hE
    rintro n25 x25_1 x25_2 x25_3 x25_4 x25_5 x25_6 x25_7 x25_8 x25_9 σ25 ⟨hn25, i25, hE⟩
    have hj132 : ∀ (l1 : Int32) (l2 : Int32) (l3 : Int32) (l4 : Int32) (l5 : Int32) (l6 : Int32) (l7 : Int32) (l8 : Int32) (l9 : Int32) (τ : rS), ((l1 = a1 ∧ l2 = a2 ∧ l3 = a3 ∧ l4 = a4 ∧ l5 = a5 ∧ l6 = a6 ∧ l7 = a7 ∧ l8 = x7_8 ∧ l9 = x25_9 ∧ ¬ σ.2.2.1 76 (x7_8.toNatClampNeg + 1) ≤ x25_9 ∧ τ = σ25 ∧ (σ.2.2.1 81 x7_8.toNatClampNeg = 0 ∨ x25_9 = σ.2.2.1 76 x7_8.toNatClampNeg + σ.2.2.1 83 x7_8.toNatClampNeg)) ∧ (vsV σ x7_8.toNatClampNeg ≠ 0 ∧ sh24 σ a1 a2 a3 a4 a5 a6 x25_9.toNatClampNeg = 1) ∧ hS σ25 (ws24 σ (sh24 σ a1 a2 a3 a4 a5 a6) x7_8.toNatClampNeg + wk24 σ (sh24 σ a1 a2 a3 a4 a5 a6) x7_8.toNatClampNeg (x25_9.toNatClampNeg - loN σ x7_8.toNatClampNeg))) → w_weigh_132 C Q (fun l1' l2' l3' l4' l5' l6' l7' l8' τ => ∃ k < n7, (fun n l1 l2 l3 l4 l5 l6 l7 l8 τ => n = (σ.1 70 - l8).toNatClampNeg ∧ ((l1 = a1 ∧ l2 = a2 ∧ l3 = a3 ∧ l4 = a4 ∧ l5 = a5 ∧ l6 = a6 ∧ l7 = a7 ∧ frS [0, 1, 2, 3, 4, 5, 6, 7, 8, 9, 10] σ τ ∧ 0 ≤ l8 ∧ l8 ≤ σ.1 70 ∧ ∃ d S, d ≤ 20000 ∧ (l8 < σ.1 70 → d ≤ loN σ l8.toNatClampNeg) ∧ siS σ τ s d S) ∧ hS τ (ws24 σ (sh24 σ a1 a2 a3 a4 a5 a6) l8.toNatClampNeg))) k l1' l2' l3' l4' l5' l6' l7' l8' τ) (fun l1' l2' l3' l4' l5' l6' l7' l8' l9' τ => ∃ k < n25, (fun n l1 l2 l3 l4 l5 l6 l7 l8 l9 τ => n = (σ.2.2.1 76 (x7_8.toNatClampNeg + 1) - l9).toNatClampNeg ∧ ((l1 = a1 ∧ l2 = a2 ∧ l3 = a3 ∧ l4 = a4 ∧ l5 = a5 ∧ l6 = a6 ∧ l7 = a7 ∧ l8 = x7_8 ∧ frS [0, 1, 2, 3, 4, 5, 6, 7, 8, 9, 10] σ τ ∧ σ.2.2.1 76 x7_8.toNatClampNeg ≤ l9 ∧ l9 ≤ σ.2.2.1 76 (x7_8.toNatClampNeg + 1) ∧ ∃ S, siS σ τ s l9.toNatClampNeg S) ∧ hS τ (ws24 σ (sh24 σ a1 a2 a3 a4 a5 a6) x7_8.toNatClampNeg + wk24 σ (sh24 σ a1 a2 a3 a4 a5 a6) x7_8.toNatClampNeg (l9.toNatClampNeg - loN σ x7_8.toNatClampNeg)))) k l1' l2' l3' l4' l5' l6' l7' l8' l9' τ) l1 l2 l3 l4 l5 l6 l7 l8 l9 τ := by
      rintro y132_1 y132_2 y132_3 y132_4 y132_5 y132_6 y132_7 y132_8 y132_9 τ132 ⟨j132, hE⟩
      unfold w_weigh_132
      obtain ⟨f1, f2, f3, f4, f5, f6, f7, f8, G, w1, w2, S, J2⟩ := i25
      obtain ⟨y1, y2, y3, y4, y5, y6, y7, y8, y9, yn, yt, ytk⟩ := j132
      have i0 := Int32.le_trans st.1.1 w1
      have z := u2 i0 yn hi2
      have is := cn_succ i0 (Int32.lt_trans z.2.2.2.2.2.2 (by decide))
      have hi20 : x25_9.toNatClampNeg ≤ 20000 := cn_le (y := 20000) rfl (Int32.le_trans w2 hi2)
      rw [y8, y9, yt]
      refine addWeight_c hC s x25_9.toNatClampNeg S ?_ (fun σ_9 q10 => ?_)
      · clear h; rw [G.1 70 (by decide), G.2.2.1 76 (by decide) (by decide), G.2.2.1 81 (by decide) (by decide), G.2.2.1 83 (by decide) (by decide)]
        exact ⟨pOK_S hO G, hs, fun k hk => vOK_f (G.2.2.1 102 (by decide) (by decide)) (hv k hk), a0, u.2.2.2.2.1, w1, z.2.2.2.2.2.1, ytk, one_64, siS_g G J2, by omega⟩
      intro x11 hx11
      refine lp_b5 (cn_lt2 hn25 ?_ ?_) (fun d9 => ⟨rfl, ?_⟩)
      · clear h; rw [hx11]; exact z.1  -- d8
      · clear h; rw [hx11]; exact z.2.1  -- d9
      · refine and_5 ?_ (fun o9 => ?_)  -- i10
        · clear h; rw [hx11]
          exact ⟨y1, y2, y3, y4, y5, y6, y7, rfl, frS_tr G q10.1, Int32.le_trans w1 z.2.2.2.1, z.2.2.2.2.1, _, by rw [is]; exact siS_gr G q10.2⟩
        · clear o9
          obtain ⟨⟨vv, s1⟩, hE⟩ := hE
          have eS := hS_u24 J2.1 hE
          have y := q10.2.1
          rw [eS, fV_e24 G, tw_e24 G, tT_e24 G, show ((1 : Int64).toInt) = 1 from rfl] at y
          rw [hx11, is, wk_s24 (cn_l w1 st.1.1), ← Rat.add_assoc]
          unfold wt24
          rw [s1, show vt16 σ x7_8.toNatClampNeg = fV σ x7_8.toNatClampNeg from if_neg vv]
          exact y
    have hj113 : ∀ (l1 : Int32) (l2 : Int32) (l3 : Int32) (l4 : Int32) (l5 : Int32) (l6 : Int32) (l7 : Int32) (l8 : Int32) (l9 : Int32) (l10 : Int32) (τ : rS), ((l1 = a1 ∧ l2 = a2 ∧ l3 = a3 ∧ l4 = a4 ∧ l5 = a5 ∧ l6 = a6 ∧ l7 = a7 ∧ l8 = x7_8 ∧ l9 = x25_9 ∧ 0 ≤ l10 ∧ l10 < 1000 ∧ ¬ σ.2.2.1 76 (x7_8.toNatClampNeg + 1) ≤ x25_9 ∧ τ = σ25 ∧ (σ.2.2.1 81 x7_8.toNatClampNeg = 0 ∨ x25_9 = σ.2.2.1 76 x7_8.toNatClampNeg + σ.2.2.1 83 x7_8.toNatClampNeg)) ∧ (vsV σ x7_8.toNatClampNeg ≠ 0 ∧ σ.2.2.1 77 x25_9.toNatClampNeg = 1 ∧ l10 = σ.2.2.1 78 x25_9.toNatClampNeg ∧ cd24 σ l10.toNatClampNeg a1 a2 ∧ cd24 σ l10.toNatClampNeg a3 a4) ∧ hS σ25 (ws24 σ (sh24 σ a1 a2 a3 a4 a5 a6) x7_8.toNatClampNeg + wk24 σ (sh24 σ a1 a2 a3 a4 a5 a6) x7_8.toNatClampNeg (x25_9.toNatClampNeg - loN σ x7_8.toNatClampNeg))) → w_weigh_113 C Q (fun l1' l2' l3' l4' l5' l6' l7' l8' τ => ∃ k < n7, (fun n l1 l2 l3 l4 l5 l6 l7 l8 τ => n = (σ.1 70 - l8).toNatClampNeg ∧ ((l1 = a1 ∧ l2 = a2 ∧ l3 = a3 ∧ l4 = a4 ∧ l5 = a5 ∧ l6 = a6 ∧ l7 = a7 ∧ frS [0, 1, 2, 3, 4, 5, 6, 7, 8, 9, 10] σ τ ∧ 0 ≤ l8 ∧ l8 ≤ σ.1 70 ∧ ∃ d S, d ≤ 20000 ∧ (l8 < σ.1 70 → d ≤ loN σ l8.toNatClampNeg) ∧ siS σ τ s d S) ∧ hS τ (ws24 σ (sh24 σ a1 a2 a3 a4 a5 a6) l8.toNatClampNeg))) k l1' l2' l3' l4' l5' l6' l7' l8' τ) (fun l1' l2' l3' l4' l5' l6' l7' l8' l9' τ => ∃ k < n25, (fun n l1 l2 l3 l4 l5 l6 l7 l8 l9 τ => n = (σ.2.2.1 76 (x7_8.toNatClampNeg + 1) - l9).toNatClampNeg ∧ ((l1 = a1 ∧ l2 = a2 ∧ l3 = a3 ∧ l4 = a4 ∧ l5 = a5 ∧ l6 = a6 ∧ l7 = a7 ∧ l8 = x7_8 ∧ frS [0, 1, 2, 3, 4, 5, 6, 7, 8, 9, 10] σ τ ∧ σ.2.2.1 76 x7_8.toNatClampNeg ≤ l9 ∧ l9 ≤ σ.2.2.1 76 (x7_8.toNatClampNeg + 1) ∧ ∃ S, siS σ τ s l9.toNatClampNeg S) ∧ hS τ (ws24 σ (sh24 σ a1 a2 a3 a4 a5 a6) x7_8.toNatClampNeg + wk24 σ (sh24 σ a1 a2 a3 a4 a5 a6) x7_8.toNatClampNeg (l9.toNatClampNeg - loN σ x7_8.toNatClampNeg)))) k l1' l2' l3' l4' l5' l6' l7' l8' l9' τ) l1 l2 l3 l4 l5 l6 l7 l8 l9 l10 τ := by
      rintro y113_1 y113_2 y113_3 y113_4 y113_5 y113_6 y113_7 y113_8 y113_9 y113_10 τ113 ⟨j113, hE⟩
      unfold w_weigh_113
      obtain ⟨f1, f2, f3, f4, f5, f6, f7, f8, G, w1, w2, S, J2⟩ := i25
      obtain ⟨y1, y2, y3, y4, y5, y6, y7, y8, y9, ye0, ye1, yn, yt, ytk⟩ := j113
      have i0 := Int32.le_trans st.1.1 w1
      have z := u2 i0 yn hi2
      have is := cn_succ i0 (Int32.lt_trans z.2.2.2.2.2.2 (by decide))
      rw [y8, y9, yt]
      refine ⟨fun c12 => ?_, fun c12 => ?_⟩
      · skip
        refine hj132 _ _ _ _ _ _ _ _ _ _ ?_
        · refine and_5 ?_ (fun o9 => ⟨⟨hE.1.1, iv_124 ⟨hE.1.2.1, by rw [← hE.1.2.2.1]; exact hE.1.2.2.2.1, by rw [← hE.1.2.2.1]; exact hE.1.2.2.2.2, Or.inl (y5.symm.trans c12)⟩⟩, hE.2⟩)  -- k11
          clear h; exact ⟨y1, y2, y3, y4, y5, y6, y7, rfl, rfl, yn, rfl, ytk⟩
      · skip
        refine told_g5 hC  ?_ (fun r13 q15 => ?_)
        · clear h; rw [y5] at c12 ⊢
          have q := h5.resolve_left c12
          exact ⟨ye0, ye1, q.1, q.2⟩
        obtain ⟨q15, z9⟩ := q15
        refine ⟨fun c16 => ?_, fun c16 => ?_⟩
        · skip
          intro x17 hx17
          refine lp_b5 (cn_lt2 hn25 ?_ ?_) (fun d9 => ⟨rfl, ?_⟩)
          · clear h; rw [hx17]; exact z.1  -- d13
          · clear h; rw [hx17]; exact z.2.1  -- d14
          · refine and_5 ?_ (fun o9 => ?_)  -- i15
            · clear h; rw [hx17]; exact ⟨y1, y2, y3, y4, y5, y6, y7, rfl, G, Int32.le_trans w1 z.2.2.2.1, z.2.2.2.2.1, S, siS_mono J2 (by rw [is]; omega)⟩
            · clear o9
              obtain ⟨⟨v1, v2, v3, v4, v5⟩, hE⟩ := hE
              have ne : ¬ cd24 σ (σ.2.2.1 78 x25_9.toNatClampNeg).toNatClampNeg a5 a6 := fun w => by
                rcases w with w | w
                · exact c12 (y5.trans w)
                · rw [← v3] at w
                  exact c16 (by rw [z9, to_e24 G, y5, y6]; exact w)
              rw [hx17, is, wk_s24 (cn_l w1 st.1.1), wt_h24 (iv_024 (fun w => ne w.2.2.2)), Rat.add_zero]
              exact hE
        · skip
          refine hj132 _ _ _ _ _ _ _ _ _ _ ?_
          · refine and_5 ?_ (fun o9 => ⟨⟨hE.1.1, iv_124 ⟨hE.1.2.1, by rw [← hE.1.2.2.1]; exact hE.1.2.2.2.1, by rw [← hE.1.2.2.1]; exact hE.1.2.2.2.2, Or.inr (by rw [← hE.1.2.2.1, ← to_e24 G, ← y5, ← y6, ← z9]; first | exact c16 | exact Decidable.byContradiction c16)⟩⟩, hE.2⟩)  -- k16
            clear h; exact ⟨y1, y2, y3, y4, y5, y6, y7, rfl, rfl, yn, rfl, ytk⟩
    have hj96 : ∀ (l1 : Int32) (l2 : Int32) (l3 : Int32) (l4 : Int32) (l5 : Int32) (l6 : Int32) (l7 : Int32) (l8 : Int32) (l9 : Int32) (l10 : Int32) (τ : rS), ((l1 = a1 ∧ l2 = a2 ∧ l3 = a3 ∧ l4 = a4 ∧ l5 = a5 ∧ l6 = a6 ∧ l7 = a7 ∧ l8 = x7_8 ∧ l9 = x25_9 ∧ 0 ≤ l10 ∧ l10 < 1000 ∧ ¬ σ.2.2.1 76 (x7_8.toNatClampNeg + 1) ≤ x25_9 ∧ τ = σ25 ∧ (σ.2.2.1 81 x7_8.toNatClampNeg = 0 ∨ x25_9 = σ.2.2.1 76 x7_8.toNatClampNeg + σ.2.2.1 83 x7_8.toNatClampNeg)) ∧ (vsV σ x7_8.toNatClampNeg ≠ 0 ∧ σ.2.2.1 77 x25_9.toNatClampNeg = 1 ∧ l10 = σ.2.2.1 78 x25_9.toNatClampNeg ∧ cd24 σ l10.toNatClampNeg a1 a2) ∧ hS σ25 (ws24 σ (sh24 σ a1 a2 a3 a4 a5 a6) x7_8.toNatClampNeg + wk24 σ (sh24 σ a1 a2 a3 a4 a5 a6) x7_8.toNatClampNeg (x25_9.toNatClampNeg - loN σ x7_8.toNatClampNeg))) → w_weigh_96 C Q (fun l1' l2' l3' l4' l5' l6' l7' l8' τ => ∃ k < n7, (fun n l1 l2 l3 l4 l5 l6 l7 l8 τ => n = (σ.1 70 - l8).toNatClampNeg ∧ ((l1 = a1 ∧ l2 = a2 ∧ l3 = a3 ∧ l4 = a4 ∧ l5 = a5 ∧ l6 = a6 ∧ l7 = a7 ∧ frS [0, 1, 2, 3, 4, 5, 6, 7, 8, 9, 10] σ τ ∧ 0 ≤ l8 ∧ l8 ≤ σ.1 70 ∧ ∃ d S, d ≤ 20000 ∧ (l8 < σ.1 70 → d ≤ loN σ l8.toNatClampNeg) ∧ siS σ τ s d S) ∧ hS τ (ws24 σ (sh24 σ a1 a2 a3 a4 a5 a6) l8.toNatClampNeg))) k l1' l2' l3' l4' l5' l6' l7' l8' τ) (fun l1' l2' l3' l4' l5' l6' l7' l8' l9' τ => ∃ k < n25, (fun n l1 l2 l3 l4 l5 l6 l7 l8 l9 τ => n = (σ.2.2.1 76 (x7_8.toNatClampNeg + 1) - l9).toNatClampNeg ∧ ((l1 = a1 ∧ l2 = a2 ∧ l3 = a3 ∧ l4 = a4 ∧ l5 = a5 ∧ l6 = a6 ∧ l7 = a7 ∧ l8 = x7_8 ∧ frS [0, 1, 2, 3, 4, 5, 6, 7, 8, 9, 10] σ τ ∧ σ.2.2.1 76 x7_8.toNatClampNeg ≤ l9 ∧ l9 ≤ σ.2.2.1 76 (x7_8.toNatClampNeg + 1) ∧ ∃ S, siS σ τ s l9.toNatClampNeg S) ∧ hS τ (ws24 σ (sh24 σ a1 a2 a3 a4 a5 a6) x7_8.toNatClampNeg + wk24 σ (sh24 σ a1 a2 a3 a4 a5 a6) x7_8.toNatClampNeg (l9.toNatClampNeg - loN σ x7_8.toNatClampNeg)))) k l1' l2' l3' l4' l5' l6' l7' l8' l9' τ) l1 l2 l3 l4 l5 l6 l7 l8 l9 l10 τ := by
      rintro y96_1 y96_2 y96_3 y96_4 y96_5 y96_6 y96_7 y96_8 y96_9 y96_10 τ96 ⟨j96, hE⟩
      unfold w_weigh_96
      obtain ⟨f1, f2, f3, f4, f5, f6, f7, f8, G, w1, w2, S, J2⟩ := i25
      obtain ⟨y1, y2, y3, y4, y5, y6, y7, y8, y9, ye0, ye1, yn, yt, ytk⟩ := j96
      have i0 := Int32.le_trans st.1.1 w1
      have z := u2 i0 yn hi2
      have is := cn_succ i0 (Int32.lt_trans z.2.2.2.2.2.2 (by decide))
      rw [y8, y9, yt]
      refine ⟨fun c18 => ?_, fun c18 => ?_⟩
      · skip
        refine hj113 _ _ _ _ _ _ _ _ _ _ _ ?_
        · refine and_5 ?_ (fun o9 => ⟨⟨hE.1.1, hE.1.2.1, hE.1.2.2.1, hE.1.2.2.2, Or.inl (y3.symm.trans c18)⟩, hE.2⟩)  -- k17
          clear h; exact ⟨y1, y2, y3, y4, y5, y6, y7, rfl, rfl, ye0, ye1, yn, rfl, ytk⟩
      · skip
        refine told_g5 hC  ?_ (fun r19 q21 => ?_)
        · clear h; rw [y3] at c18 ⊢
          have q := h3.resolve_left c18
          exact ⟨ye0, ye1, q.1, q.2⟩
        obtain ⟨q21, z9⟩ := q21
        refine ⟨fun c22 => ?_, fun c22 => ?_⟩
        · skip
          intro x23 hx23
          refine lp_b5 (cn_lt2 hn25 ?_ ?_) (fun d9 => ⟨rfl, ?_⟩)
          · clear h; rw [hx23]; exact z.1  -- d19
          · clear h; rw [hx23]; exact z.2.1  -- d20
          · refine and_5 ?_ (fun o9 => ?_)  -- i21
            · clear h; rw [hx23]; exact ⟨y1, y2, y3, y4, y5, y6, y7, rfl, G, Int32.le_trans w1 z.2.2.2.1, z.2.2.2.2.1, S, siS_mono J2 (by rw [is]; omega)⟩
            · clear o9
              obtain ⟨⟨v1, v2, v3, v4⟩, hE⟩ := hE
              have ne : ¬ cd24 σ (σ.2.2.1 78 x25_9.toNatClampNeg).toNatClampNeg a3 a4 := fun w => by
                rcases w with w | w
                · exact c18 (y3.trans w)
                · rw [← v3] at w
                  exact c22 (by rw [z9, to_e24 G, y3, y4]; exact w)
              rw [hx23, is, wk_s24 (cn_l w1 st.1.1), wt_h24 (iv_024 (fun w => ne w.2.2.1)), Rat.add_zero]
              exact hE
        · skip
          refine hj113 _ _ _ _ _ _ _ _ _ _ _ ?_
          · refine and_5 ?_ (fun o9 => ⟨⟨hE.1.1, hE.1.2.1, hE.1.2.2.1, hE.1.2.2.2, Or.inr (by rw [← to_e24 G, ← y3, ← y4, ← z9]; first | exact c22 | exact Decidable.byContradiction c22)⟩, hE.2⟩)  -- k22
            clear h; exact ⟨y1, y2, y3, y4, y5, y6, y7, rfl, rfl, ye0, ye1, yn, rfl, ytk⟩
    obtain ⟨f1, f2, f3, f4, f5, f6, f7, f8, G, w1, w2, S, J2⟩ := i25
    have i0 := Int32.le_trans st.1.1 w1
    have g76 := G.2.2.1 76 (by decide) (by decide)
    have g77 := G.2.2.1 77 (by decide) (by decide)
    have g78 := G.2.2.1 78 (by decide) (by decide)
    have hi20 : x25_9.toNatClampNeg ≤ 20000 := cn_le (y := 20000) rfl (Int32.le_trans w2 hi2)
    rw [f8]
    refine isVisited_c hC  ?_ (fun r24 q26 => ?_)
    · clear h; exact ⟨a0, u.2.2.2.2.2⟩  -- p23
    rw [g76, g77, g78, st.2.2.2.1]
    refine ⟨fun c27 => ?_, fun c27 => ?_⟩
    · skip
      intro x28 hx28
      refine lp_b5 (cn_lt2 hn7 ?_ ?_) (fun d9 => ⟨rfl, ?_⟩)
      · clear h; rw [hx28]; exact u.1  -- d24
      · clear h; rw [hx28]; exact u.2.1  -- d25
      · refine and_5 ?_ (fun o9 => ?_)  -- i26
        · clear h; rw [hx28]
          exact ⟨f1, f2, f3, f4, f5, f6, f7, G, u.2.2.1, u.2.2.2.1, x25_9.toNatClampNeg, S, hi20, fun _ => by rw [as]; unfold loN; exact cn_l w2 i0, J2⟩
        · clear o9
          have v0 : vsV σ x7_8.toNatClampNeg = 0 := by rw [← vs_e24 G, ← q26]; exact c27
          rw [hx28, as, ws_s24, wk_v24 v0]
          rw [wk_v24 v0] at hE
          exact hE
    · skip
      refine ⟨ib_1001.mpr ?_, ?_⟩
      · clear h; exact ⟨st.2.2.2.2.2.1, st.2.2.2.2.2.2⟩  -- b27
      refine ⟨fun c29 => ?_, fun c29 => ?_⟩
      · skip
        intro x30 hx30
        refine lp_b5 (cn_lt2 hn7 ?_ ?_) (fun d9 => ⟨rfl, ?_⟩)
        · clear h; rw [hx30]; exact u.1  -- d28
        · clear h; rw [hx30]; exact u.2.1  -- d29
        · refine and_5 ?_ (fun o9 => ?_)  -- i30
          · clear h; rw [hx30]
            exact ⟨f1, f2, f3, f4, f5, f6, f7, G, u.2.2.1, u.2.2.2.1, x25_9.toNatClampNeg, S, hi20, fun _ => by rw [as]; unfold loN; exact cn_l w2 i0, J2⟩
          · clear o9
            have e : x25_9 = σ.2.2.1 76 (x7_8.toNatClampNeg + 1) := Int32.le_antisymm w2 c29
            rw [e] at hE
            rw [hx30, as, ws_s24]
            exact hE
      · skip
        have z := u2 i0 c29 hi2
        have is := cn_succ i0 (Int32.lt_trans z.2.2.2.2.2.2 (by decide))
        have l72 := Int32.lt_of_lt_of_le z.2.2.2.2.2.1 st.2.2.1
        refine ⟨ib_20000.mpr ?_, ?_⟩
        · clear h; exact ⟨i0, z.2.2.2.2.2.2⟩  -- b31
        intro x31 hx31
        refine ⟨ib_20000.mpr ?_, ?_⟩
        · clear h; exact ⟨i0, z.2.2.2.2.2.2⟩  -- b32
        refine ⟨fun c32 => ?_, fun c32 => ?_⟩
        · skip
          intro x33 hx33
          refine lp_b5 (cn_lt2 hn25 ?_ ?_) (fun d9 => ⟨rfl, ?_⟩)
          · clear h; rw [hx33]; exact z.1  -- d33
          · clear h; rw [hx33]; exact z.2.1  -- d34
          · refine and_5 ?_ (fun o9 => ?_)  -- i35
            · clear h; rw [hx33]; exact ⟨f1, f2, f3, f4, f5, f6, f7, rfl, G, Int32.le_trans w1 z.2.2.2.1, z.2.2.2.2.1, S, siS_mono J2 (by rw [is]; omega)⟩
            · clear o9
              rw [hx33, is, wk_s24 (cn_l w1 st.1.1), wt_h24 (iv_024 (fun w => c32 w.1)), Rat.add_zero]
              exact hE
        · skip
          refine isTaken_c hC  ?_ (fun r34 q36 => ?_)
          · clear h; exact ⟨a0, u.2.2.2.2.2⟩  -- p36
          have tk := q36.2
          rw [rd, rd, rd, G.2.2.1 81 (by decide) (by decide), g76, G.2.2.1 83 (by decide) (by decide)] at tk
          have q := (hO.1.2.2.2.2 _ (cn_lt i0 l72)).2.2 c32
          have q1 := Int32.lt_of_lt_of_le q.2 hO.1.2.1.2
          refine ⟨fun c37 => ?_, fun c37 => ?_⟩
          · skip
            intro x38 hx38
            refine lp_b5 (cn_lt2 hn25 ?_ ?_) (fun d9 => ⟨rfl, ?_⟩)
            · clear h; rw [hx38]; exact z.1  -- d37
            · clear h; rw [hx38]; exact z.2.1  -- d38
            · refine and_5 ?_ (fun o9 => ?_)  -- i39
              · clear h; rw [hx38]; exact ⟨f1, f2, f3, f4, f5, f6, f7, rfl, G, Int32.le_trans w1 z.2.2.2.1, z.2.2.2.2.1, S, siS_mono J2 (by rw [is]; omega)⟩
              · clear o9
                have n81 : ¬ σ.2.2.1 81 x7_8.toNatClampNeg = 0 := fun w => absurd c37 (tk.mpr (Or.inr (Or.inl w)))
                have ni : ¬ x25_9.toNatClampNeg = (σ.2.2.1 76 x7_8.toNatClampNeg + σ.2.2.1 83 x7_8.toNatClampNeg).toNatClampNeg := fun w => absurd c37 (tk.mpr (Or.inr (Or.inr (ct_24 hO a0 u.2.2.2.2.1 i0 n81 w))))
                rw [hx38, is, wk_s24 (cn_l w1 st.1.1), wt_t24 n81 ni, Rat.add_zero]
                exact hE
          · skip
            refine ⟨fun c39 => ?_, fun c39 => ?_⟩
            · skip
              refine hj96 _ _ _ _ _ _ _ _ _ _ _ ?_
              · refine and_5 ?_ (fun o9 => ⟨⟨by rw [← vs_e24 G, ← q26]; exact c27, c32, hx31, Or.inl (f1.symm.trans c39)⟩, hE⟩)  -- k40
                clear h; rw [hx31]; exact ⟨f1, f2, f3, f4, f5, f6, f7, rfl, rfl, q.1, q1, c29, rfl, (tk.mp c37).resolve_left (by decide)⟩
            · skip
              refine told_g5 hC  ?_ (fun r40 q42 => ?_)
              · clear h; rw [hx31, f1]
                rw [f1] at c39
                have r := h1.resolve_left c39
                exact ⟨q.1, q1, r.1, r.2⟩
              obtain ⟨q42, z9⟩ := q42
              refine ⟨fun c43 => ?_, fun c43 => ?_⟩
              · skip
                intro x44 hx44
                refine lp_b5 (cn_lt2 hn25 ?_ ?_) (fun d9 => ⟨rfl, ?_⟩)
                · clear h; rw [hx44]; exact z.1  -- d42
                · clear h; rw [hx44]; exact z.2.1  -- d43
                · refine and_5 ?_ (fun o9 => ?_)  -- i44
                  · clear h; rw [hx44]; exact ⟨f1, f2, f3, f4, f5, f6, f7, rfl, G, Int32.le_trans w1 z.2.2.2.1, z.2.2.2.2.1, S, siS_mono J2 (by rw [is]; omega)⟩
                  · clear o9
                    have ne : ¬ cd24 σ (σ.2.2.1 78 x25_9.toNatClampNeg).toNatClampNeg a1 a2 := fun w => by
                      rcases w with w | w
                      · exact c39 (f1.trans w)
                      · rw [← hx31] at w
                        exact c43 (by rw [z9, to_e24 G, f1, f2]; exact w)
                    rw [hx44, is, wk_s24 (cn_l w1 st.1.1), wt_h24 (iv_024 (fun w => ne w.2.1)), Rat.add_zero]
                    exact hE
              · skip
                refine hj96 _ _ _ _ _ _ _ _ _ _ _ ?_
                · refine and_5 ?_ (fun o9 => ⟨⟨by rw [← vs_e24 G, ← q26]; exact c27, c32, hx31, Or.inr (by rw [← to_e24 G, ← f1, ← f2, ← z9]; first | exact c43 | exact Decidable.byContradiction c43)⟩, hE⟩)  -- k45
                  clear h; rw [hx31]; exact ⟨f1, f2, f3, f4, f5, f6, f7, rfl, rfl, q.1, q1, c29, rfl, (tk.mp c37).resolve_left (by decide)⟩

theorem product_g5 {C : rCx} (hC : cOK C) (p q : Rat) {σ : rS} {a1 : Int32} {a2 : Int32} {a3 : Int32} {Q : rS → Prop} (h19 : hR σ 19 20 p) (h21 : hR σ 21 22 q) (hp : a1 = 19 ∧ a2 = 21 ∧ (a3 = 23 ∨ a3 = 25) ∧ numO σ 19 ∧ numO σ 20 ∧ numO σ 21 ∧ numO σ 22 ∧ 0 < nV σ 20 ∧ 0 < nV σ 22 ∧ nL σ 19 + nL σ 21 + 1 < 40000 ∧ nL σ 20 + nL σ 22 + 1 < 40000) (h : ∀ (σ' : rS), ((frN [0, 1, 2, 3, a3.toNatClampNeg, a3.toNatClampNeg + 1] σ σ' ∧ numO σ' a3.toNatClampNeg ∧ numO σ' (a3.toNatClampNeg + 1)) ∧ (hR σ' a3.toNatClampNeg (a3.toNatClampNeg + 1) (p * q))) → Q σ') : cV C 4 m_product [.ref (co C), .int a1, .int a2, .int a3] σ Q := by
  refine m_product_run hC ?_
  unfold w_product_0
  obtain ⟨e1, e2, h3, o19, o20, o21, o22, p20', p22, l1, l2⟩ := hp
  have i := i23 h3
  rw [e1, e2, show (19 : Int32) + 1 = 20 from rfl, show (21 : Int32) + 1 = 22 from rfl]
  refine times_c hC  ?_ (fun σ_1 q2 => ?_)
  · clear h; simp only [kn2]
    exact ⟨i.1.1, i.1.2.1, by decide, by decide, by decide, by decide, i.1.2.2.2.2.1, i.1.2.2.2.2.2.1, o19, o21, by omega⟩
  simp only [kn2] at q2
  have g20 := nV_fr q2.1 (k := 20) (nms (by have := i.2.2; omega)) o20
  have g22 := nV_fr q2.1 (k := 22) (nms (by have := i.2.2; omega)) o22
  refine times_c hC  ?_ (fun σ_3 q4 => ?_)
  · clear h; simp only [kn2]
    exact ⟨i.1.2.2.1, i.1.2.2.2.1, by decide, by decide, by decide, by decide, i.1.2.2.2.2.2.2.1, i.1.2.2.2.2.2.2.2.1, g20.1, g22.1, by have := g20.2.2; have := g22.2.2; omega⟩
  simp only [kn2] at q4
  rw [i.2.1] at q4
  have h3' := nV_fr q4.1 (k := a3.toNatClampNeg) (nms (by omega)) q2.2.1
  refine reduce_c hC  ?_ (fun σ_5 q6 => ?_)
  · clear h; rw [i.2.1]
    exact ⟨i.1.2.2.2.2.2.2.2.2.1, i.1.2.1, i.1.2.2.2.2.2.2.2.2.2.1, i.1.2.2.2.1, i.1.2.2.2.2.2.2.2.2.2.2, h3'.1, q4.2.1, by rw [q4.2.2.1, g20.2.1, g22.2.1]; exact Nat.mul_pos p20' p22, by have := h3'.2.2; have := q2.2.2.2; omega, by have := q4.2.2.2; have := g20.2.2; have := g22.2.2; omega⟩
  refine h _ ?_
  · refine and_5 ?_ (fun o9 => ?_)  -- q4
    · clear h; rw [i.2.1] at q6
      exact ⟨frN_tr (frN_mono q2.1 (fun k hk => List.mem_append_right [0, 1, 2, 3] (by rw [List.mem_singleton.mp hk]; exact List.mem_cons_self))) (frN_tr (frN_mono q4.1 (fun k hk => List.mem_append_right [0, 1, 2, 3] (by rw [List.mem_singleton.mp hk]; exact List.mem_cons_of_mem _ List.mem_cons_self))) q6.1), q6.2.1, q6.2.2.1⟩
    · clear o9
      rw [i.2.1] at q6
      have e1 : nV σ_3 a3.toNatClampNeg = nV σ 19 * nV σ 21 := by rw [h3'.2.1]; exact q2.2.2.1
      have e2 : nV σ_3 (a3.toNatClampNeg + 1) = nV σ 20 * nV σ 22 := by rw [q4.2.2.1, g20.2.1, g22.2.1]
      have z : 0 < nV σ_3 (a3.toNatClampNeg + 1) := by rw [e2]; exact Nat.mul_pos p20' p22
      have R := hR_red q6.2.1 q6.2.2.1 z q6.2.2.2.1 q6.2.2.2.2
      have f : fQ σ_3 a3.toNatClampNeg (a3.toNatClampNeg + 1) = p * q := by
        unfold fQ
        rw [e1, e2, ← (hR_q h19).1, ← (hR_q h21).1]
        unfold fQ
        rw [Rat.mkRat_mul_mkRat, Int.natCast_mul]
      rw [f] at R
      exact R

theorem isPairFree_g5 {C : rCx} (hC : cOK C) (s : Nat) {σ : rS} {a1 : Int32} {a2 : Int32} {a3 : Int32} {a4 : Int32} {a5 : Int32} {a6 : Int32} {Q : Int32 → rS → Prop} (hp : pOK σ ∧ s = (σ.1 70).toNatClampNeg ∧ (∀ k, k < s → vOK σ k) ∧ (a1 = -1 ∨ (0 ≤ a1 ∧ a1 < 34)) ∧ (a3 = -1 ∨ (0 ≤ a3 ∧ a3 < 34)) ∧ (a5 = -1 ∨ (0 ≤ a5 ∧ a5 < 34))) (h : ∀ (v : Int32) (σ' : rS), ((frS [0, 1, 2, 3, 4, 5, 6, 7, 8, 9, 10, 19, 20, 21, 22, 23, 24, 25, 26] σ σ' ∧ nb v) ∧ ((v ≠ 0 ↔ ws24 σ (sh24 σ a1 a2 a3 a4 a5 a6) s * ws24 σ (sh24 σ (-1) 0 (-1) 0 a5 a6) s = ws24 σ (sh24 σ a1 a2 (-1) 0 a5 a6) s * ws24 σ (sh24 σ (-1) 0 a3 a4 a5 a6) s))) → Q v σ') : cI C 7 m_isPairFree [.ref (co C), .int a1, .int a2, .int a3, .int a4, .int a5, .int a6] σ Q := by
  refine m_isPairFree_run hC ?_
  unfold w_isPairFree_0
  obtain ⟨hO, hs, hv, h1, h3, h5⟩ := hp
  have s1000 : s ≤ 1000 := by rw [hs]; exact cn_le (y := 1000) rfl hO.1.1.2
  refine weigh_g5 hC s ?_ (fun σ_1 q2 => ?_)
  · clear h; exact ⟨hO, hs, hv, h1, h3, h5, Or.inl rfl⟩  -- p1
  obtain ⟨q2, z9⟩ := q2
  have w1 := z9
  simp only [kn2, Nat.reduceAdd] at q2
  have F1 : frS [0, 1, 2, 3, 4, 5, 6, 7, 8, 9, 10, 19, 20, 21, 22, 23, 24, 25, 26] σ σ_1 := frS_mono q2.1 (sub_of rfl)
  refine weigh_g5 hC s ?_ (fun σ_3 q4 => ?_)
  · clear h; exact ⟨pOK_S hO F1, by rw [F1.1 70 (by decide)]; exact hs, fun k hk => vOK_f (F1.2.2.1 102 (by decide) (by decide)) (hv k hk), Or.inl rfl, Or.inl rfl, h5, Or.inr rfl⟩  -- p2
  obtain ⟨q4, z9⟩ := q4
  have w2 := z9
  simp only [kn2, Nat.reduceAdd] at q4
  have F3 := frS_tr F1 (frS_mono q4.1 (sub_of rfl))
  have g19 := nV_frS q4.1 (k := 19) (by decide) q2.2.1
  have g20 := nV_frS q4.1 (k := 20) (by decide) q2.2.2.1
  refine product_g5 hC (ws24 σ (sh24 σ a1 a2 a3 a4 a5 a6) s) (ws24 σ_1 (sh24 σ_1 (-1) 0 (-1) 0 a5 a6) s) (hR_frS q4.1 (by decide) (by decide) w1) w2 ?_ (fun σ_5 q6 => ?_)
  · clear h; exact ⟨rfl, rfl, Or.inl rfl, g19.1, g20.1, q4.2.1, q4.2.2.1, by rw [g20.2.1]; exact q2.2.2.2.1, q4.2.2.2.1, by have := g19.2.2; have := q2.2.2.2.2.1; have := q4.2.2.2.2.1; omega, by have := g20.2.2; have := q2.2.2.2.2.2; have := q4.2.2.2.2.2; omega⟩  -- p3
  obtain ⟨q6, z9⟩ := q6
  have u1 := z9
  simp only [kn2, Nat.reduceAdd] at q6
  have F5 := frS_tr F3 (frS_mono (frS_of q6.1) (sub_of rfl))
  refine weigh_g5 hC s ?_ (fun σ_7 q8 => ?_)
  · clear h; exact ⟨pOK_S hO F5, by rw [F5.1 70 (by decide)]; exact hs, fun k hk => vOK_f (F5.2.2.1 102 (by decide) (by decide)) (hv k hk), h1, Or.inl rfl, h5, Or.inl rfl⟩  -- p4
  obtain ⟨q8, z9⟩ := q8
  have w3 := z9
  simp only [kn2, Nat.reduceAdd] at q8
  have F7 := frS_tr F5 (frS_mono q8.1 (sub_of rfl))
  refine weigh_g5 hC s ?_ (fun σ_9 q10 => ?_)
  · clear h; exact ⟨pOK_S hO F7, by rw [F7.1 70 (by decide)]; exact hs, fun k hk => vOK_f (F7.2.2.1 102 (by decide) (by decide)) (hv k hk), Or.inl rfl, h3, h5, Or.inr rfl⟩  -- p5
  obtain ⟨q10, z9⟩ := q10
  have w4 := z9
  simp only [kn2, Nat.reduceAdd] at q10
  have F9 := frS_tr F7 (frS_mono q10.1 (sub_of rfl))
  have k19 := nV_frS q10.1 (k := 19) (by decide) q8.2.1
  have k20 := nV_frS q10.1 (k := 20) (by decide) q8.2.2.1
  refine product_g5 hC (ws24 σ_5 (sh24 σ_5 a1 a2 (-1) 0 a5 a6) s) (ws24 σ_7 (sh24 σ_7 (-1) 0 a3 a4 a5 a6) s) (hR_frS q10.1 (by decide) (by decide) w3) w4 ?_ (fun σ_11 q12 => ?_)
  · clear h; exact ⟨rfl, rfl, Or.inr rfl, k19.1, k20.1, q10.2.1, q10.2.2.1, by rw [k20.2.1]; exact q8.2.2.2.1, q10.2.2.2.1, by have := k19.2.2; have := q8.2.2.2.2.1; have := q10.2.2.2.2.1; omega, by have := k20.2.2; have := q8.2.2.2.2.2; have := q10.2.2.2.2.2; omega⟩  -- p6
  obtain ⟨q12, z9⟩ := q12
  have u2 := z9
  simp only [kn2, Nat.reduceAdd] at q12
  have F11 := frS_tr F9 (frS_mono (frS_of q12.1) (sub_of rfl))
  have m23 := nV_fr q12.1 (k := 23) (by decide) (nV_frS q10.1 (k := 23) (by decide) (nV_frS q8.1 (k := 23) (by decide) q6.2.1).1).1
  have m24 := nV_fr q12.1 (k := 24) (by decide) (nV_frS q10.1 (k := 24) (by decide) (nV_frS q8.1 (k := 24) (by decide) q6.2.2).1).1
  refine compare_c hC  ?_ (fun r13 q15 => ?_)
  · clear h; simp only [kn2]; exact ⟨by decide, by decide, by decide, by decide, m23.1, q12.2.1⟩  -- p7
  refine ⟨fun c16 => ?_, fun c16 => ?_⟩
  · skip
    refine h _ _ ?_
    · refine and_5 ?_ (fun o9 => ?_)  -- q8
      · clear h; exact ⟨F11, nb_0⟩
      · clear o9
        simp only [kn2] at q15
        have K := pf_24 (hR_fr q12.1 (by decide) (by decide) (hR_frS q10.1 (by decide) (by decide) (hR_frS q8.1 (by decide) (by decide) u1))) u2
        rw [ws_e24 F1, ws_e24 F5, ws_e24 F7] at K
        exact ⟨fun z => absurd rfl z, fun z => absurd ((cq_24 q15).mpr (K.mp z).1) c16⟩
  · skip
    refine compare_c hC  ?_ (fun r17 q19 => ?_)
    · clear h; simp only [kn2]; exact ⟨by decide, by decide, by decide, by decide, m24.1, q12.2.2⟩  -- p9
    refine ⟨fun c20 => ?_, fun c20 => ?_⟩
    · skip
      refine h _ _ ?_
      · refine and_5 ?_ (fun o9 => ?_)  -- q10
        · clear h; exact ⟨F11, nb_0⟩
        · clear o9
          simp only [kn2] at q15
          have K := pf_24 (hR_fr q12.1 (by decide) (by decide) (hR_frS q10.1 (by decide) (by decide) (hR_frS q8.1 (by decide) (by decide) u1))) u2
          rw [ws_e24 F1, ws_e24 F5, ws_e24 F7] at K
          simp only [kn2] at q19
          exact ⟨fun z => absurd rfl z, fun z => absurd ((cq_24 q19).mpr (K.mp z).2) c20⟩
    · skip
      refine h _ _ ?_
      · refine and_5 ?_ (fun o9 => ?_)  -- q11
        · clear h; exact ⟨F11, nb_1⟩
        · clear o9
          simp only [kn2] at q15
          have K := pf_24 (hR_fr q12.1 (by decide) (by decide) (hR_frS q10.1 (by decide) (by decide) (hR_frS q8.1 (by decide) (by decide) u1))) u2
          rw [ws_e24 F1, ws_e24 F5, ws_e24 F7] at K
          simp only [kn2] at q19
          exact ⟨fun _ => K.mpr ⟨(cq_24 q15).mp (by first | exact c16 | exact Decidable.byContradiction c16), (cq_24 q19).mp (by first | exact c20 | exact Decidable.byContradiction c20)⟩, fun _ => by decide⟩

end
