set_option maxHeartbeats 1600000
/-! the reference: show -/
/-- only fields of F and numbers of l differ -/
def frT (F l : List Nat) (σ τ : rS) : Prop := (∀ k, k ∉ F → τ.1 k = σ.1 k) ∧ τ.2.1 = σ.2.1 ∧ (∀ k, k ≠ 90 → k ≠ 91 → τ.2.2.1 k = σ.2.2.1 k) ∧ τ.2.2.2 = σ.2.2.2 ∧ ∀ k, k ∉ l → τ.2.2.1 91 k = σ.2.2.1 91 k ∧ ∀ i, i < 40000 → τ.2.2.1 90 (40000 * k + i) = σ.2.2.1 90 (40000 * k + i)
theorem frT_rf {F l : List Nat} {σ : rS} : frT F l σ σ := ⟨fun _ _ => rfl, rfl, fun _ _ _ => rfl, rfl, fun _ _ => ⟨rfl, fun _ _ => rfl⟩⟩
theorem frT_tr {F l : List Nat} {σ τ υ : rS} (h : frT F l σ τ) (g : frT F l τ υ) : frT F l σ υ := ⟨fun k z => (g.1 k z).trans (h.1 k z), g.2.1.trans h.2.1, fun k z1 z2 => (g.2.2.1 k z1 z2).trans (h.2.2.1 k z1 z2), g.2.2.2.1.trans h.2.2.2.1, fun k z => ⟨(g.2.2.2.2 k z).1.trans (h.2.2.2.2 k z).1, fun i hi => ((g.2.2.2.2 k z).2 i hi).trans ((h.2.2.2.2 k z).2 i hi)⟩⟩
theorem frT_S {F l m : List Nat} {σ τ : rS} (h : frS l σ τ) (hF : 92 ∈ F) (hl : ∀ k, k ∈ l → k ∈ m) : frT F m σ τ := ⟨fun k z => h.1 k (fun e => z (by rw [e]; exact hF)), h.2.1, h.2.2.1, h.2.2.2.1, fun k z => h.2.2.2.2 k (fun e => z (hl k e))⟩
theorem frT_N {F l m : List Nat} {σ τ : rS} (h : frN l σ τ) (hl : ∀ k, k ∈ l → k ∈ m) : frT F m σ τ := ⟨fun k _ => by rw [h.1], h.2.1, h.2.2.1, h.2.2.2.1, fun k z => h.2.2.2.2 k (fun e => z (hl k e))⟩
theorem frT_0 {F l : List Nat} {σ : rS} {k : Nat} {x : Int32} (hk : k ∈ F) : frT F l σ (siU σ k x) := ⟨fun q z => if_neg (fun e => z (by rw [e]; exact hk)), rfl, fun _ _ _ => rfl, rfl, fun _ _ => ⟨rfl, fun _ _ => rfl⟩⟩
theorem nV_T {F l : List Nat} {σ τ : rS} {k : Nat} (f : frT F l σ τ) (hk : k ∉ l) (h : numO σ k) : numO τ k ∧ nV τ k = nV σ k ∧ nL τ k = nL σ k := nV_fr (σ := (τ.1, σ.2)) (l := l) ⟨rfl, f.2⟩ hk h
theorem pOK_T {F l : List Nat} {σ τ : rS} (h : pOK σ) (f : frT F l σ τ) (h0 : 70 ∉ F) (h1 : 71 ∉ F) (h2 : 72 ∉ F) : pOK τ := pOK_o h (fun k hk => by rcases hk with z | z | z <;> rw [z]; exact f.1 70 h0; exact f.1 71 h1; exact f.1 72 h2) (fun k hk => f.2.2.1 k (by omega) (by omega))
theorem swQ_o {σ τ : rS} (e70 : τ.1 70 = σ.1 70) (hr : ∀ k, k ≠ 90 → k ≠ 91 → τ.2.2.1 k = σ.2.2.1 k) : swQ τ = swQ σ := by
  have r := fun k (h : k ≠ 90 ∧ k ≠ 91) => hr k h.1 h.2
  funext how v b
  unfold swQ swS swK trm byI alQ opQ alP
  unfold mtV vsV fV twI tTI leN loN slV
  rw [e70, r 75 (by decide), r 76 (by decide), r 77 (by decide), r 78 (by decide), r 79 (by decide), r 80 (by decide), r 81 (by decide), r 83 (by decide), r 95 (by decide), r 102 (by decide)]
theorem hS_z {σ : rS} {S : Rat} (h : hS σ S) (hz : S = 0) : σ.2.2.1 91 4 = 0 := by
  obtain ⟨q, hq, w⟩ := h
  have q0 : q = 0 := by
    rcases w with y | y
    · rw [← y.2]; exact hz
    · have e : -(-q) = -S := by rw [y.2]
      rw [Rat.neg_neg, hz, Rat.neg_zero] at e
      exact e
  have v0 : nV σ 4 = 0 := by
    have e := hq.2.2.1
    rw [q0] at e
    have e2 : ((nV σ 4 : Nat) : Int) = 0 := e
    omega
  have l0 : nL σ 4 = 0 := (nL_z hq.1).mpr v0
  exact cn_inj hq.1.1 (by decide) (l0.trans rfl)
abbrev shF : List Nat := [0, 92, 103]
abbrev shL : List Nat := [0, 1, 2, 3, 4, 5, 6, 7, 8, 9, 10, 15, 16, 19, 20]
def shO (σ : rS) : Prop := σ.1 103 ≠ 0 → numO σ 15 ∧ numO σ 16
def plN (σ : rS) : Prop := σ.1 106 ≠ -1 → numO σ 17 ∧ numO σ 18 ∧ 0 < nV σ 18 ∧ nL σ 17 + 1 < 40000 ∧ nL σ 18 + 1 < 40000
def shC (σ : rS) (a : Int32) : Prop := (a = 12 → σ.1 106 ≠ -1) ∧ (a = 11 → σ.1 114 ≠ 0) ∧ (a < 11 → σ.1 94 ≠ 0) ∧ a ≤ 12
def shD (σ : rS) (a : Int32) : Prop := shC σ a ∧ (a < 2 → swQ σ 6 0 0 ≠ 0) ∧ (a = 10 → swQ σ 7 0 0 ≠ 0)
theorem shO_S {l : List Nat} {σ τ : rS} (h : shO σ) (f : frS l σ τ) (h5 : 15 ∉ l) (h6 : 16 ∉ l) : shO τ := by
  intro z
  rw [f.1 103 (by decide)] at z
  exact ⟨(nV_frS f h5 (h z).1).1, (nV_frS f h6 (h z).2).1⟩
theorem shO_0 {σ : rS} {x : Int32} (h : shO σ) : shO (siU σ 0 x) := fun z => h z
theorem sh_12 {a : Int32} (h : 7 ≤ a) (h1 : a ≤ 12) (n7 : ¬ a = 7) (n8 : ¬ a = 8) (n9 : ¬ a = 9) (n10 : ¬ a = 10) (n11 : ¬ a = 11) : a = 12 := by grind
theorem sh_lt {a : Int32} (h : a < 2 ∨ a = 10) : a < 11 := by grind
theorem sh_l7 {a : Int32} (h : ¬ 7 ≤ a) : a < 11 := by grind
theorem sh_l2 {a : Int32} (h : ¬ 2 ≤ a) : a < 11 ∧ a < 2 := by grind
theorem show_c {C : rCx} (hC : cOK C) (s : Nat) {σ : rS} {a1 : Int32} {a2 : Int32} {Q : Int32 → rS → Prop} (hp : pOK σ ∧ s = (σ.1 70).toNatClampNeg ∧ (σ.1 94 ≠ 0 → ∀ k, k < s → vOK σ k) ∧ (σ.1 114 ≠ 0 → ∀ k, k < s → wkO σ 115 116 k) ∧ plN σ ∧ shO σ) (h : ∀ (v : Int32) (σ' : rS), (frT shF shL σ σ' ∧ shO σ') → Q v σ') : cI C 8 m_show [.ref (co C), .int a1, .int a2] σ Q := by
  refine m_show_run hC ?_
  unfold w_show_0
  obtain ⟨hO, hs, hv, hw, hn, hh⟩ := hp
  have hj352 : ∀  (τ : rS), (frT shF shL σ τ ∧ numO τ 4 ∧ numO τ 5) → w_show_352 C Q   τ := by
    rintro  τ352 j352
    unfold w_show_352
    obtain ⟨F, o4, o5⟩ := j352
    refine copy_v hC  ?_ (fun σ_1 q2 => ?_)
    · clear h; simp only [kn, kn2]; exact ⟨by decide, by decide, by decide, by decide, by decide, o4⟩  -- p1
    simp only [kn, kn2] at q2
    have g5 := nV_fr q2.1 (k := 5) (by decide) o5
    refine copy_v hC  ?_ (fun σ_3 q4 => ?_)
    · clear h; simp only [kn, kn2]; exact ⟨by decide, by decide, by decide, by decide, by decide, g5.1⟩  -- p2
    simp only [kn, kn2] at q4
    have m15 := nV_fr q4.1 (k := 15) (by decide) q2.2.1
    intro σ_5 hσ_5
    refine isZero_c hC  ?_ (fun r6 q8 => ?_)
    · clear h; exact ⟨by decide, by decide⟩  -- p3
    refine ⟨fun c9 => ?_, fun c9 => ?_⟩
    · skip
      refine h _ _ ?_
      · clear h; rw [hσ_5]; exact ⟨frT_tr F (frT_tr (frT_N q2.1 (sub_of rfl)) (frT_tr (frT_N q4.1 (sub_of rfl)) (frT_0 (by decide)))), fun _ => ⟨m15.1, q4.2.1⟩⟩  -- q4
    · skip
      refine h _ _ ?_
      · clear h; rw [hσ_5]; exact ⟨frT_tr F (frT_tr (frT_N q2.1 (sub_of rfl)) (frT_tr (frT_N q4.1 (sub_of rfl)) (frT_0 (by decide)))), fun _ => ⟨m15.1, q4.2.1⟩⟩  -- q5
  have hj235 : ∀ (l1 : Int32) (τ : rS), (l1 = a1 ∧ frT shF shL σ τ ∧ σ.1 94 ≠ 0) → w_show_235 C Q  l1 τ := by
    rintro y235_1 τ235 j235
    unfold w_show_235
    obtain ⟨y1, F, n94⟩ := j235
    have P1 := pOK_T hO F (by decide) (by decide) (by decide)
    have P2 : s = (τ235.1 70).toNatClampNeg := by rw [F.1 70 (by decide)]; exact hs
    have P3 : ∀ k, k < s → vOK τ235 k := fun k hk => vOK_f (F.2.2.1 102 (by decide) (by decide)) (hv n94 k hk)
    refine ⟨fun c10 => ?_, fun c10 => ?_⟩
    · skip
      refine sumVisits_c hC s ?_ (fun σ_11 q12 => ?_)
      · clear h; exact ⟨P1, P2, P3⟩  -- p6
      refine hj352 _ ?_
      · clear h; obtain ⟨S, J⟩ := q12.2
        have L := siS_L P1 P2 P3 (by decide) J
        exact ⟨frT_tr F (frT_S q12.1 (by decide) (sub_of rfl)), L.1, L.2.1⟩
    · skip
      refine sumVisits_c hC s ?_ (fun σ_13 q14 => ?_)
      · clear h; exact ⟨P1, P2, P3⟩  -- p8
      refine hj352 _ ?_
      · clear h; obtain ⟨S, J⟩ := q14.2
        have L := siS_L P1 P2 P3 (by decide) J
        exact ⟨frT_tr F (frT_S q14.1 (by decide) (sub_of rfl)), L.1, L.2.1⟩
  have hj181 : ∀ (l1 : Int32) (l2 : Int32) (τ : rS), (l1 = a1 ∧ l2 = a2 ∧ frT shF shL σ τ ∧ shO τ ∧ (τ.1 0 ≤ 0 → shD σ a1 ∧ ((a1 = 8 ∨ a1 = 11) → 0 ≤ a2 ∧ a2 < σ.1 70))) → w_show_181 C Q  l1 l2 τ := by
    rintro y181_1 y181_2 τ181 j181
    unfold w_show_181
    obtain ⟨y1, y2, F, H, D⟩ := j181
    have P1 := pOK_T hO F (by decide) (by decide) (by decide)
    have P2 : s = (τ181.1 70).toNatClampNeg := by rw [F.1 70 (by decide)]; exact hs
    have P3 : σ.1 94 ≠ 0 → ∀ k, k < s → vOK τ181 k := fun n94 k hk => vOK_f (F.2.2.1 102 (by decide) (by decide)) (hv n94 k hk)
    have P4 : swQ τ181 = swQ σ := swQ_o (F.1 70 (by decide)) F.2.2.1
    rw [y1, y2]
    refine ⟨fun c15 => ?_, fun c15 => ?_⟩
    · skip
      refine ⟨fun c16 => ?_, fun c16 => ?_⟩
      · skip
        refine ⟨fun c17 => ?_, fun c17 => ?_⟩
        · skip
          refine ⟨fun c18 => ?_, fun c18 => ?_⟩
          · skip
            refine hj235 _ _ ?_
            · clear h; exact ⟨rfl, F, (D c15).1.1.2.2.1 (by rw [c18]; decide)⟩  -- k10
          · skip
            refine ⟨fun c19 => ?_, fun c19 => ?_⟩
            · skip
              refine ⟨fun c20 => ?_, fun c20 => ?_⟩
              · skip
                refine ⟨fun c21 => ?_, fun c21 => ?_⟩
                · skip
                  refine ⟨fun c22 => ?_, fun c22 => ?_⟩
                  · skip
                    refine copy_v hC  ?_ (fun σ_23 q24 => ?_)
                    · clear h; have n := hn ((D c15).1.1.1 (sh_12 c17 (D c15).1.1.2.2.2 c18 c20 c19 c21 c22))
                      simp only [kn, kn2]; exact ⟨by decide, by decide, by decide, by decide, by decide, (nV_T F (by decide) n.1).1⟩
                    simp only [kn, kn2] at q24
                    have n := hn ((D c15).1.1.1 (sh_12 c17 (D c15).1.1.2.2.2 c18 c20 c19 c21 c22))
                    have n17 := nV_T F (k := 17) (by decide) n.1
                    have n18 := nV_T F (k := 18) (by decide) n.2.1
                    have m18 := nV_fr q24.1 (k := 18) (by decide) n18.1
                    refine copy_v hC  ?_ (fun σ_25 q26 => ?_)
                    · clear h; simp only [kn, kn2]; exact ⟨by decide, by decide, by decide, by decide, by decide, m18.1⟩  -- p12
                    simp only [kn, kn2] at q26
                    have m4 := nV_fr q26.1 (k := 4) (by decide) q24.2.1
                    refine reduce_c hC  ?_ (fun σ_27 q28 => ?_)
                    · clear h; simp only [kn, kn2]
                      exact ⟨by decide, by decide, by decide, by decide, by decide, m4.1, q26.2.1, by rw [q26.2.2.1, m18.2.1, n18.2.1]; exact n.2.2.1, by have := m4.2.2; have := q24.2.2.2; have := n17.2.2; have := n.2.2.2.1; omega, by have := q26.2.2.2; have := m18.2.2; have := n18.2.2; have := n.2.2.2.2; omega⟩
                    intro σ_29 hσ_29
                    refine hj352 _ ?_
                    · clear h; simp only [kn, kn2] at q28
                      rw [hσ_29]
                      exact ⟨frT_tr F (frT_tr (frT_N q24.1 (sub_of rfl)) (frT_tr (frT_N q26.1 (sub_of rfl)) (frT_tr (frT_N q28.1 (sub_of rfl)) (frT_0 (by decide))))), nV_92.2.1.mpr q28.2.1, nV_92.2.1.mpr q28.2.2.1⟩
                  · skip
                    refine clearSum_c hC  (fun σ_30 q31 => ?_)
                    have r := (D c15).2 (Or.inr c22)
                    have r1 := Int32.lt_of_lt_of_le r.2 hO.1.1.2
                    have W := wkO_f ((q31.1.2.2.1 115 (by decide) (by decide)).trans (F.2.2.1 115 (by decide) (by decide))) ((q31.1.2.2.1 116 (by decide) (by decide)).trans (F.2.2.1 116 (by decide) (by decide))) (hw ((D c15).1.1.2.1 c22) a2.toNatClampNeg (by rw [hs]; exact cn_lt r.1 r.2))
                    refine loadWorth_c hC  ?_ (fun σ_32 q33 => ?_)
                    · clear h; exact ⟨Or.inl rfl, r.1, r1, W.1, W.2.1⟩  -- p15
                    have p7 : 0 < nV σ_32 7 := by rw [q33.2.2.2.2.1]; exact W.2.2.1
                    have fb := fQ_b q33.2.1 p7 q33.2.2.2.2.2.1
                    have m7 := nV_lt q33.2.2.1 q33.2.2.2.2.2.2
                    have A := siG_add (a := 16) (M := nV σ_32 7) (x := σ_32.2.2.1 116 a2.toNatClampNeg) (by rw [q33.1.2.2.1 116 (by decide) (by decide)]; exact W.2.2.2) p7 m7 (by decide) (by decide) (siG_N q33.1 (by decide) (by decide) (siG_0 q31.2)) q33.2.1 q33.2.2.1 p7 (by have := q33.2.2.2.2.2.1; omega) (by have := q33.2.2.2.2.2.2; omega) (Rat.le_trans fb.2.1 p16_wB) fb.2.2
                    refine ⟨ib_1000.mpr ?_, ?_⟩
                    · clear h; exact ⟨r.1, r1⟩  -- b16
                    refine add_c hC  ?_ (fun σ_34 q35 => ?_)
                    · clear h; exact A.1  -- p17
                    refine hj352 _ ?_
                    · clear h; have L := siG_L (a := 16) p7 m7 (by decide) (A.2 _ q35.2)
                      exact ⟨frT_tr F (frT_tr (frT_S q31.1 (by decide) (sub_of rfl)) (frT_tr (frT_N q33.1 (sub_of rfl)) (frT_S q35.1 (by decide) (sub_of rfl)))), L.1, L.2.1⟩
                · skip
                  refine sumOver_c hC s ?_ (fun σ_36 q37 => ?_)
                  · clear h; exact ⟨P1, P2, P3 ((D c15).1.1.2.2.1 (by rw [c21]; decide)), fun _ => rfl, by rw [P4]; exact (D c15).1.2.2 c21⟩  -- p19
                  refine hj352 _ ?_
                  · clear h; exact ⟨frT_tr F (frT_S q37.1 (by decide) (sub_of rfl)), q37.2.1, q37.2.2.1⟩  -- k20
              · skip
                refine clearSum_c hC  (fun σ_38 q39 => ?_)
                have r := (D c15).2 (Or.inl c20)
                have r1 := Int32.lt_of_lt_of_le r.2 hO.1.1.2
                have V := vOK_f (q39.1.2.2.1 102 (by decide) (by decide)) (P3 ((D c15).1.1.2.2.1 (by rw [c20]; decide)) a2.toNatClampNeg (by rw [hs]; exact cn_lt r.1 r.2))
                refine loadVisits_c hC  ?_ (fun σ_40 q41 => ?_)
                · clear h; exact ⟨r.1, r1, V.1, V.2.1⟩  -- p21
                have p7 : 0 < nV σ_40 7 := by rw [q41.2.2.2.2.1]; exact V.2.2
                have fb := fQ_b q41.2.1 p7 q41.2.2.2.2.2.1
                have m7 := nV_lt q41.2.2.1 q41.2.2.2.2.2.2
                have A := siG_add (a := 16) (M := nV σ_40 7) (x := 1) (Or.inl rfl) p7 m7 (by decide) (by decide) (siG_N q41.1 (by decide) (by decide) (siG_0 q39.2)) q41.2.1 q41.2.2.1 p7 (by have := q41.2.2.2.2.2.1; omega) (by have := q41.2.2.2.2.2.2; omega) (Rat.le_trans fb.2.1 p16_wB) fb.2.2
                refine add_c hC  ?_ (fun σ_42 q43 => ?_)
                · clear h; exact A.1  -- p22
                refine hj352 _ ?_
                · clear h; have L := siG_L (a := 16) p7 m7 (by decide) (A.2 _ q43.2)
                  exact ⟨frT_tr F (frT_tr (frT_S q39.1 (by decide) (sub_of rfl)) (frT_tr (frT_N q41.1 (sub_of rfl)) (frT_S q43.1 (by decide) (sub_of rfl)))), L.1, L.2.1⟩
            · skip
              refine hj235 _ _ ?_
              · clear h; exact ⟨rfl, F, (D c15).1.1.2.2.1 (by rw [c19]; decide)⟩  -- k24
        · skip
          refine sumWeights_c hC s ?_ (fun σ_44 q45 => ?_)
          · clear h; exact ⟨P1, P2, P3 ((D c15).1.1.2.2.1 (sh_l7 c17)), fun z => absurd rfl z⟩  -- p25
          refine hj352 _ ?_
          · clear h; have L := siS_L P1 P2 (P3 ((D c15).1.1.2.2.1 (sh_l7 c17))) (by decide) q45.2
            exact ⟨frT_tr F (frT_S q45.1 (by decide) (sub_of rfl)), L.1, L.2.1⟩
      · skip
        refine sumOver_c hC s ?_ (fun σ_46 q47 => ?_)
        · clear h; exact ⟨P1, P2, P3 ((D c15).1.1.2.2.1 (sh_l2 c16).1), fun z => absurd rfl z, by rw [P4]; exact (D c15).1.2.1 (sh_l2 c16).2⟩  -- p27
        refine hj352 _ ?_
        · clear h; exact ⟨frT_tr F (frT_S q47.1 (by decide) (sub_of rfl)), q47.2.1, q47.2.2.1⟩  -- k28
    · skip
      refine h _ _ ?_
      · clear h; exact ⟨F, H⟩  -- q29
  have hj162 : ∀ (l1 : Int32) (l2 : Int32) (τ : rS), (l1 = a1 ∧ l2 = a2 ∧ frT shF shL σ τ ∧ shO τ ∧ shD σ a1) → w_show_162 C Q  l1 l2 τ := by
    rintro y162_1 y162_2 τ162 j162
    unfold w_show_162
    obtain ⟨y1, y2, F, H, D⟩ := j162
    refine isSlot_c hC  (fun r48 q50 => ?_)
    refine ⟨fun c51 => ?_, fun c51 => ?_⟩
    · skip
      intro σ_52 hσ_52
      refine hj181 _ _ _ ?_
      · clear h; rw [hσ_52]
        have q := q50.2.mp c51
        rw [y2, F.1 70 (by decide)] at q
        exact ⟨y1, y2, frT_tr F (frT_0 (by decide)), shO_0 H, fun _ => ⟨D, fun _ => q⟩⟩
    · skip
      intro σ_53 hσ_53
      refine hj181 _ _ _ ?_
      · clear h; rw [hσ_53]
        exact ⟨y1, y2, frT_tr F (frT_0 (by decide)), shO_0 H, fun z => absurd z (by show ¬ (3 : Int32) ≤ 0; decide)⟩
  have hj150 : ∀ (l1 : Int32) (l2 : Int32) (τ : rS), (l1 = a1 ∧ l2 = a2 ∧ frT shF shL σ τ ∧ shO τ ∧ shD σ a1) → w_show_150 C Q  l1 l2 τ := by
    rintro y150_1 y150_2 τ150 j150
    unfold w_show_150
    obtain ⟨y1, y2, F, H, D⟩ := j150
    refine ⟨fun c54 => ?_, fun c54 => ?_⟩
    · skip
      refine hj162 _ _ _ ?_
      · clear h; exact ⟨y1, y2, F, H, D⟩  -- k32
    · skip
      refine ⟨fun c55 => ?_, fun c55 => ?_⟩
      · skip
        intro σ_56 hσ_56
        refine hj181 _ _ _ ?_
        · clear h; rw [hσ_56]
          rw [y1] at c54 c55
          exact ⟨y1, y2, frT_tr F (frT_0 (by decide)), shO_0 H, fun _ => ⟨D, fun z => z.elim (fun e => absurd e c54) (fun e => absurd e c55)⟩⟩
      · skip
        refine hj162 _ _ _ ?_
        · clear h; exact ⟨y1, y2, F, H, D⟩  -- k34
  have hj126 : ∀ (l1 : Int32) (l2 : Int32) (τ : rS), (l1 = a1 ∧ l2 = a2 ∧ frT shF shL σ τ ∧ shO τ ∧ (τ.1 0 = 0 ∨ 0 < τ.1 0) ∧ (τ.1 0 = 0 → shD σ a1)) → w_show_126 C Q  l1 l2 τ := by
    rintro y126_1 y126_2 τ126 j126
    unfold w_show_126
    obtain ⟨y1, y2, F, H, z0, D⟩ := j126
    refine ⟨fun c57 => ?_, fun c57 => ?_⟩
    · skip
      refine hj181 _ _ _ ?_
      · clear h; refine ⟨y1, y2, F, H, fun z => ?_⟩
        rcases z0 with e | e
        · exact absurd e c57
        · exact absurd z (Int32.not_le.mpr e)
    · skip
      refine ⟨fun c58 => ?_, fun c58 => ?_⟩
      · skip
        refine hj150 _ _ _ ?_
        · clear h; exact ⟨y1, y2, F, H, D c57⟩  -- k36
      · skip
        refine isSlot_c hC  (fun r59 q61 => ?_)
        refine ⟨fun c62 => ?_, fun c62 => ?_⟩
        · skip
          intro σ_63 hσ_63
          refine hj181 _ _ _ ?_
          · clear h; rw [hσ_63]
            exact ⟨y1, y2, frT_tr F (frT_0 (by decide)), shO_0 H, fun z => absurd z (by show ¬ (3 : Int32) ≤ 0; decide)⟩
        · skip
          refine hj150 _ _ _ ?_
          · clear h; exact ⟨y1, y2, F, H, D c57⟩  -- k38
  have hj104 : ∀ (l1 : Int32) (l2 : Int32) (s1 : Int32) (τ : rS), (l1 = a1 ∧ l2 = a2 ∧ frT shF shL σ τ ∧ shO τ ∧ τ.1 0 = 0 ∧ shC σ a1 ∧ ((a1 < 2 ∧ s1 = 6) ∨ (a1 = 10 ∧ s1 = 7))) → w_show_104 C Q  l1 l2 s1 τ := by
    rintro y104_1 y104_2 y104_s1 τ104 j104
    unfold w_show_104
    obtain ⟨y1, y2, F, H, z0, Cc, kk⟩ := j104
    have P1 := pOK_T hO F (by decide) (by decide) (by decide)
    have P2 : s = (τ104.1 70).toNatClampNeg := by rw [F.1 70 (by decide)]; exact hs
    have P3 : ∀ k, k < s → vOK τ104 k := fun k hk => vOK_f (F.2.2.1 102 (by decide) (by decide)) (hv (Cc.2.2.1 (sh_lt (kk.imp (fun z => z.1) (fun z => z.1)))) k hk)
    have P4 : swQ τ104 = swQ σ := swQ_o (F.1 70 (by decide)) F.2.2.1
    refine sumWeights_c hC s ?_ (fun σ_64 q65 => ?_)
    · clear h; exact ⟨P1, P2, P3, fun z => absurd rfl z⟩  -- p39
    refine isZero_c hC  ?_ (fun r66 q68 => ?_)
    · clear h; exact ⟨by decide, by decide⟩  -- p40
    refine ⟨fun c69 => ?_, fun c69 => ?_⟩
    · skip
      intro σ_70 hσ_70
      refine hj126 _ _ _ ?_
      · clear h; rw [P4] at q65
        have nz : swQ σ y104_s1 0 0 ≠ 0 := fun e => q68.2.mpr (hS_z q65.2.1 e) c69
        rw [hσ_70]
        refine ⟨y1, y2, frT_tr F (frT_tr (frT_S q65.1 (by decide) (sub_of rfl)) (frT_0 (by decide))), shO_0 (shO_S H q65.1 (by decide) (by decide)), Or.inl rfl, fun _ => ⟨Cc, fun lt => ?_, fun e10 => ?_⟩⟩
        · rcases kk with z | z
          · rw [← z.2]; exact nz
          · rw [z.1] at lt; exact absurd lt (by decide)
        · rcases kk with z | z
          · rw [e10] at z; exact absurd z.1 (by decide)
          · rw [← z.2]; exact nz
    · skip
      intro σ_71 hσ_71
      refine hj126 _ _ _ ?_
      · clear h; rw [hσ_71]
        exact ⟨y1, y2, frT_tr F (frT_tr (frT_S q65.1 (by decide) (sub_of rfl)) (frT_0 (by decide))), shO_0 (shO_S H q65.1 (by decide) (by decide)), Or.inr (by show (0 : Int32) < 2; decide), fun z => absurd z (by show ¬ (2 : Int32) = 0; decide)⟩
  have hj91 : ∀ (l1 : Int32) (l2 : Int32) (τ : rS), (l1 = a1 ∧ l2 = a2 ∧ frT shF shL σ τ ∧ shO τ ∧ τ.1 0 = 0 ∧ shC σ a1 ∧ (a1 < 2 ∨ a1 = 10)) → w_show_91 C Q  l1 l2 τ := by
    rintro y91_1 y91_2 τ91 j91
    unfold w_show_91
    obtain ⟨y1, y2, F, H, z0, Cc, kk⟩ := j91
    refine ⟨fun c72 => ?_, fun c72 => ?_⟩
    · skip
      refine hj104 _ _ _ _ ?_
      · clear h; rw [y1] at c72
        exact ⟨y1, y2, F, H, z0, Cc, Or.inr ⟨kk.resolve_left (fun z => absurd z (Int32.not_lt.mpr c72)), rfl⟩⟩
    · skip
      refine hj104 _ _ _ _ ?_
      · clear h; rw [y1] at c72
        exact ⟨y1, y2, F, H, z0, Cc, Or.inl ⟨Int32.not_le.mp c72, rfl⟩⟩
  have hj70 : ∀ (l1 : Int32) (l2 : Int32) (s1 : Int32) (τ : rS), (l1 = a1 ∧ l2 = a2 ∧ τ = σ ∧ (s1 = 0 ∨ 0 < s1) ∧ (s1 = 0 → shC σ a1)) → w_show_70 C Q  l1 l2 s1 τ := by
    rintro y70_1 y70_2 y70_s1 τ70 j70
    unfold w_show_70
    intro σ_73 hσ_73
    obtain ⟨y1, y2, e, z0, Cc⟩ := j70
    have F : frT shF shL σ σ_73 := by rw [hσ_73, e]; exact frT_0 (by decide)
    have H : shO σ_73 := by rw [hσ_73, e]; exact shO_0 hh
    have e0 : σ_73.1 0 = y70_s1 := by rw [hσ_73]; rfl
    refine ⟨fun c74 => ?_, fun c74 => ?_⟩
    · skip
      refine hj126 _ _ _ ?_
      · clear h; exact ⟨y1, y2, F, H, by rw [e0]; exact z0, fun z => absurd z c74⟩  -- k45
    · skip
      refine ⟨fun c75 => ?_, fun c75 => ?_⟩
      · skip
        refine hj91 _ _ _ ?_
        · clear h; exact ⟨y1, y2, F, H, c74, Cc (e0.symm.trans c74), Or.inl (by rw [← y1]; exact c75)⟩  -- k46
      · skip
        refine ⟨fun c76 => ?_, fun c76 => ?_⟩
        · skip
          refine hj126 _ _ _ ?_
          · clear h; rw [y1] at c75 c76
            exact ⟨y1, y2, F, H, Or.inl c74, fun _ => ⟨Cc (e0.symm.trans c74), fun lt => absurd lt c75, fun e => absurd e c76⟩⟩
        · skip
          refine hj91 _ _ _ ?_
          · clear h; exact ⟨y1, y2, F, H, c74, Cc (e0.symm.trans c74), Or.inr (by rw [← y1]; exact c76)⟩  -- k48
  refine within_c hC  (fun r77 q79 => ?_)
  refine ⟨fun c80 => ?_, fun c80 => ?_⟩
  · skip
    refine ⟨fun c81 => ?_, fun c81 => ?_⟩
    · skip
      refine ⟨fun c82 => ?_, fun c82 => ?_⟩
      · skip
        refine ⟨fun c83 => ?_, fun c83 => ?_⟩
        · skip
          refine hj70 _ _ _ _ ?_
          · clear h; exact ⟨rfl, rfl, rfl, Or.inl rfl, fun _ => ⟨fun _ => c83, fun e => absurd e c82, fun lt => absurd lt (Int32.not_lt.mpr c81), (q79.2.mp c80).2⟩⟩  -- k49
        · skip
          refine hj70 _ _ _ _ ?_
          · clear h; exact ⟨rfl, rfl, rfl, Or.inr (by decide), fun z => absurd z (by decide)⟩  -- k50
      · skip
        refine ⟨fun c84 => ?_, fun c84 => ?_⟩
        · skip
          refine hj70 _ _ _ _ ?_
          · clear h; exact ⟨rfl, rfl, rfl, Or.inr (by decide), fun z => absurd z (by decide)⟩  -- k51
        · skip
          refine hj70 _ _ _ _ ?_
          · clear h; exact ⟨rfl, rfl, rfl, Or.inl rfl, fun _ => ⟨fun e => absurd (c82.symm.trans e) (by decide), fun _ => c84, fun lt => absurd lt (Int32.not_lt.mpr c81), (q79.2.mp c80).2⟩⟩  -- k52
    · skip
      refine ⟨fun c85 => ?_, fun c85 => ?_⟩
      · skip
        refine hj70 _ _ _ _ ?_
        · clear h; exact ⟨rfl, rfl, rfl, Or.inr (by decide), fun z => absurd z (by decide)⟩  -- k53
      · skip
        refine hj70 _ _ _ _ ?_
        · clear h; exact ⟨rfl, rfl, rfl, Or.inl rfl, fun _ => ⟨fun e => absurd (by rw [e]; decide) c81, fun e => absurd (by rw [e]; decide) c81, fun _ => c85, (q79.2.mp c80).2⟩⟩  -- k54
  · skip
    refine hj70 _ _ _ _ ?_
    · clear h; exact ⟨rfl, rfl, rfl, Or.inr (by decide), fun z => absurd z (by decide)⟩  -- k55
