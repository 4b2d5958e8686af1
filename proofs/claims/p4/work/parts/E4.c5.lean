set_option maxHeartbeats 1600000
/-! the class: ChanceWorks' calls that change nothing -/
theorem ch_x9 {a : Nat} {L : Int} {ρ : Nat → Nat} {κ : zS} (I : chI9 ρ κ a L) (ex : zI κ atExplored (zR κ chAtlas a) ≠ 0) : (∃ n, atW κ (zR κ chAtlas a) n) ∧ atG κ (zR κ chAtlas a) := by
  refine ⟨I.2.1.1.2.2.2.2 ex, I.2.1.1.1.2.2.1, ?_⟩
  rw [(I.2.1.2.2 ex).1.1]
  exact I.1.2.1.1.1
/-- a state that is held -/
theorem ch_h9 {a : Nat} {L : Int} {ρ : Nat → Nat} {κ : zS} {r x : Int32} (I : chI9 ρ κ a L) (q : nb r ∧ (r ≠ 0 → zI κ atExplored (zR κ chAtlas a) ≠ 0 ∧ 0 ≤ x.toInt ∧ x.toInt < (zI κ hoTotal (zR κ atStates (zR κ chAtlas a))).toInt)) (hr : ¬ r = 0) : atG κ (zR κ chAtlas a) ∧ atM κ (zR κ chAtlas a) ∧ (0 ≤ x.toInt ∧ x.toInt < 1000) ∧ atL κ (zR κ chAtlas a) ∧ ((zI κ atNexts (zR κ chAtlas a)).toInt ≤ (zN κ (zR κ atNumbers (zR κ chAtlas a))) ∧ exK κ (zR κ chAtlas a) x.toNatClampNeg) := by
  obtain ⟨ex, x0, x1⟩ := q.2 hr
  obtain ⟨⟨n, A1, A2, A3, A4, A5, A6⟩, G⟩ := ch_x9 I ex
  have k := cnk x0
  exact ⟨G, A1, ⟨x0, by omega⟩, A2, A5, A6 _ (by omega)⟩
theorem ch_n9 {a : Nat} {L : Int} {ρ : Nat → Nat} {κ : zS} (I : chI9 ρ κ a L) : raJ κ (zR κ chShown a) 6500 := by
  have N := I.2.2.1.1.1.1
  have h30 := I.2.2.1.2.2.2
  have q := N.2 _ (show raR (ρ (zR κ chShown a)) by rw [h30]; exact Or.inr (Or.inl rfl))
  rw [h30] at q
  have t := nm_g N q.2.1 (show nmR (30 + 1) from Or.inr (Or.inr (Or.inr (Or.inl rfl)))) (by decide)
  have b := nm_g N q.2.2 (show nmR (30 + 2) from Or.inr (Or.inr (Or.inr (Or.inr (Or.inl rfl))))) (by decide)
  exact ⟨t.1, b.1, ro_n q.2.1 q.2.2 (by decide)⟩
theorem Ch_fault_c {C : zC} {n0 : Nat} {a0 : Nat} {κ : zS} {Q : Int32 → zS → Prop} (W : zW C n0 κ) (Ta0 : zT κ a0 = 15)  (h : ∀ (v : Int32) (κ' : zS), (κ = κ') → Q v κ') : zRun C 0 mCh_fault [.ref a0] κ (oI Q noX) := by
  refine Ch_fault_run W Ta0 ?_
  replace W := W.lo (Nat.le_trans W.1.2.1 W.1.2.2) (Nat.le_refl (zn κ))
  unfold w_Ch_fault_0
  refine h _ _ ?_
  · exact rfl  -- q1

theorem Ch_count_c {C : zC} {n0 : Nat} {a0 : Nat} {a1 : Int32} {κ : zS} {Q : Int32 → zS → Prop} {X : zXp} (W : zW C n0 κ) (Ta0 : zT κ a0 = 15)  (h : ∀ (v : Int32) (κ' : zS), (κ = κ') → Q v κ') (hx : ∀ (cls : String) (κ' : zS), (cls = "java/lang/IndexOutOfBoundsException" ∧ κ' = ut κ) → X cls κ') : zRun C 8 mCh_count [.ref a0, .int a1] κ (oI Q X) := by
  refine Ch_count_run W Ta0 ?_
  replace W := W.lo (Nat.le_trans W.1.2.1 W.1.2.2) (Nat.le_refl (zn κ))
  unfold w_Ch_count_0
  refine ⟨fun c1 => ?_, fun c1 => ?_⟩
  · skip
    intro κ_2 hκ_2
    refine hx _ _ ?_
    · exact ⟨rfl, hκ_2⟩  -- x1
  · skip
    refine ⟨fun c3 => ?_, fun c3 => ?_⟩
    · skip
      refine ⟨fun c4 => ?_, fun c4 => ?_⟩
      · skip
        refine ⟨fun c5 => ?_, fun c5 => ?_⟩
        · skip
          refine ⟨fun c6 => ?_, fun c6 => ?_⟩
          · skip
            refine h _ _ ?_
            · exact rfl  -- q2
          · skip
            intro T7
            refine At_howMany_c W T7  (fun r8 q10 => ?_)
            intro W11
            intro M12
            refine h _ _ ?_
            · exact rfl  -- q3
        · skip
          refine ⟨fun c13 => ?_, fun c13 => ?_⟩
          · skip
            refine h _ _ ?_
            · exact rfl  -- q4
          · skip
            intro T14
            refine Co_howMany_c W T14  (fun r15 q17 => ?_)
            intro W18
            intro M19
            refine h _ _ ?_
            · exact rfl  -- q5
      · skip
        refine h _ _ ?_
        · exact rfl  -- q6
    · skip
      intro κ_20 hκ_20
      refine hx _ _ ?_
      · exact ⟨rfl, hκ_20⟩  -- x7

theorem Ch_state_c {C : zC} {n0 : Nat} {a0 : Nat} {a1 : Int32} {a2 : Int32} {κ : zS} {Q : Int32 → zS → Prop} {X : zXp} (W : zW C n0 κ) (Ta0 : zT κ a0 = 15) (ρ : Nat → Nat) (L9 : Int) (hp : chI9 ρ κ a0 L9) (h : ∀ (v : Int32) (κ' : zS), (κ = κ') → Q v κ') (hx : ∀ (cls : String) (κ' : zS), (cls = "java/lang/IndexOutOfBoundsException" ∧ κ' = ut κ) → X cls κ') : zRun C 8 mCh_state [.ref a0, .int a1, .int a2] κ (oI Q X) := by
  refine Ch_state_run W Ta0 ?_
  replace W := W.lo (Nat.le_trans W.1.2.1 W.1.2.2) (Nat.le_refl (zn κ))
  unfold w_Ch_state_0
  intro T1
  refine At_holds_c W T1  (fun r2 q4 => ?_)
  intro W5
  intro M6
  refine ⟨fun c7 => ?_, fun c7 => ?_⟩
  · skip
    intro κ_8 hκ_8
    refine hx _ _ ?_
    · exact ⟨rfl, hκ_8⟩  -- x1
  · skip
    refine ⟨fun c9 => ?_, fun c9 => ?_⟩
    · skip
      intro κ_10 hκ_10
      refine hx _ _ ?_
      · exact ⟨rfl, hκ_10⟩  -- x2
    · skip
      refine ⟨fun c11 => ?_, fun c11 => ?_⟩
      · skip
        refine ⟨fun c12 => ?_, fun c12 => ?_, fun c12 => ?_, fun c12 => ?_, fun c12 => ?_, fun c12 => ?_⟩
        · skip
          refine ⟨?_, ?_⟩
          · have H := ch_h9 hp q4 c7
            rw [inb_iff, H.2.1.2.1]
            have y := H.2.2.1
            omega
          refine h _ _ ?_
          · exact rfl  -- q4
        · skip
          intro T13
          refine At_callsOf_c W5 T13  ?_ (fun r14 q16 => ?_)
          · exact (ch_h9 hp q4 c7).1  -- p5
          intro W17
          intro M18
          intro T19
          refine At_statementOf_c W17 T19  ?_ (fun r20 q22 => ?_)
          · exact (ch_h9 hp q4 c7).1  -- p6
          intro W23
          intro M24
          refine h _ _ ?_
          · exact rfl  -- q7
        · skip
          intro T25
          refine At_callsOf_c W5 T25  ?_ (fun r26 q28 => ?_)
          · exact (ch_h9 hp q4 c7).1  -- p8
          intro W29
          intro M30
          refine h _ _ ?_
          · exact rfl  -- q9
        · skip
          intro T31
          refine At_waysOf_c W5 T31  ?_ (fun r32 q34 => ?_)
          · have H := ch_h9 hp q4 c7
            exact ⟨H.2.1.1, H.2.2.1⟩
          intro W35
          intro M36
          refine h _ _ ?_
          · exact rfl  -- q11
        · skip
          refine ⟨?_, ?_⟩
          · have H := ch_h9 hp q4 c7
            rw [inb_iff, H.2.1.2.2.2.2.1]
            have y := H.2.2.1
            omega
          refine ⟨fun c37 => ?_, fun c37 => ?_⟩
          · skip
            refine h _ _ ?_
            · exact rfl  -- q13
          · skip
            refine h _ _ ?_
            · exact rfl  -- q14
        · skip
          refine ⟨?_, ?_⟩
          · have H := ch_h9 hp q4 c7
            rw [inb_iff, H.2.1.2.2.2.2.2]
            have y := H.2.2.1
            omega
          refine ⟨fun c38 => ?_, fun c38 => ?_⟩
          · skip
            refine h _ _ ?_
            · exact rfl  -- q16
          · skip
            refine h _ _ ?_
            · exact rfl  -- q17
      · skip
        intro κ_39 hκ_39
        refine hx _ _ ?_
        · exact ⟨rfl, hκ_39⟩  -- x18

theorem Ch_value_c {C : zC} {n0 : Nat} {a0 : Nat} {a1 : Int32} {a2 : Int32} {a3 : Int32} {κ : zS} {Q : Int32 → zS → Prop} {X : zXp} (W : zW C n0 κ) (Ta0 : zT κ a0 = 15) (ρ : Nat → Nat) (L9 : Int) (hp : chI9 ρ κ a0 L9) (h : ∀ (v : Int32) (κ' : zS), (κ = κ') → Q v κ') (hx : ∀ (cls : String) (κ' : zS), (cls = "java/lang/IndexOutOfBoundsException" ∧ κ' = ut κ) → X cls κ') : zRun C 8 mCh_value [.ref a0, .int a1, .int a2, .int a3] κ (oI Q X) := by
  refine Ch_value_run W Ta0 ?_
  replace W := W.lo (Nat.le_trans W.1.2.1 W.1.2.2) (Nat.le_refl (zn κ))
  unfold w_Ch_value_0
  intro T1
  refine At_holds_c W T1  (fun r2 q4 => ?_)
  intro W5
  intro M6
  refine ⟨fun c7 => ?_, fun c7 => ?_⟩
  · skip
    intro κ_8 hκ_8
    refine hx _ _ ?_
    · exact ⟨rfl, hκ_8⟩  -- x1
  · skip
    intro T9
    refine At_hasVariable_c W5 T9  ?_ (fun r10 q12 => ?_)
    · exact (ch_h9 hp q4 c7).1  -- p2
    intro W13
    intro M14
    refine ⟨fun c15 => ?_, fun c15 => ?_⟩
    · skip
      intro T16
      refine At_variableOf_c W13 T16  ?_ (fun r17 q19 => ?_)
      · exact (ch_h9 hp q4 c7).1  -- p3
      intro W20
      intro M21
      refine h _ _ ?_
      · exact rfl  -- q4
    · skip
      intro κ_22 hκ_22
      refine hx _ _ ?_
      · exact ⟨rfl, hκ_22⟩  -- x5

theorem Ch_next_c {C : zC} {n0 : Nat} {a0 : Nat} {a1 : Int32} {a2 : Int32} {a3 : Int32} {κ : zS} {Q : Int32 → zS → Prop} {X : zXp} (W : zW C n0 κ) (Ta0 : zT κ a0 = 15) (ρ : Nat → Nat) (L9 : Int) (hp : chI9 ρ κ a0 L9) (h : ∀ (v : Int32) (κ' : zS), (κ = κ') → Q v κ') (hx : ∀ (cls : String) (κ' : zS), (cls = "java/lang/IndexOutOfBoundsException" ∧ κ' = ut κ) → X cls κ') : zRun C 8 mCh_next [.ref a0, .int a1, .int a2, .int a3] κ (oI Q X) := by
  refine Ch_next_run W Ta0 ?_
  replace W := W.lo (Nat.le_trans W.1.2.1 W.1.2.2) (Nat.le_refl (zn κ))
  unfold w_Ch_next_0
  intro T1
  refine At_holds_c W T1  (fun r2 q4 => ?_)
  intro W5
  intro M6
  refine ⟨fun c7 => ?_, fun c7 => ?_⟩
  · skip
    intro κ_8 hκ_8
    refine hx _ _ ?_
    · exact ⟨rfl, hκ_8⟩  -- x1
  · skip
    refine ⟨fun c9 => ?_, fun c9 => ?_⟩
    · skip
      intro κ_10 hκ_10
      refine hx _ _ ?_
      · exact ⟨rfl, hκ_10⟩  -- x2
    · skip
      intro T11
      refine At_waysOf_c W5 T11  ?_ (fun r12 q14 => ?_)
      · have H := ch_h9 hp q4 c7
        exact ⟨H.2.1.1, H.2.2.1⟩
      intro W15
      intro M16
      refine ⟨fun c17 => ?_, fun c17 => ?_⟩
      · skip
        intro κ_18 hκ_18
        refine hx _ _ ?_
        · exact ⟨rfl, hκ_18⟩  -- x4
      · skip
        refine ⟨fun c19 => ?_, fun c19 => ?_⟩
        · skip
          intro κ_20 hκ_20
          refine hx _ _ ?_
          · exact ⟨rfl, hκ_20⟩  -- x5
        · skip
          refine ⟨fun c21 => ?_, fun c21 => ?_⟩
          · skip
            refine ⟨?_, ?_⟩
            · have H := ch_h9 hp q4 c7
              rw [inb_iff, H.2.1.1]
              have y := H.2.2.1
              omega
            intro x22 hx22
            have H := ch_h9 hp q4 c7
            have K := H.2.2.2.2.2.1
            have lw := H.2.2.2.1
            have l20 := lw.2
            have nx := H.2.2.2.2.1
            have xb : 0 ≤ x22.toInt ∧ x22.toInt < (zN κ (zR κ atNumbers (zR κ chAtlas a0))) := by
              rw [lti, t0i] at c9
              rw [lei, q14, sub_i (by omega) (by omega)] at c17
              rw [hx22, add_i (by omega) (by omega)]
              omega
            refine ⟨fun c23 => ?_, fun c23 => ?_⟩
            · skip
              refine ⟨fun c24 => ?_, fun c24 => ?_⟩
              · skip
                refine ⟨?_, ?_⟩
                · rw [inb_iff, lw.1.2]; exact xb  -- b7
                refine h _ _ ?_
                · exact rfl  -- q8
              · skip
                refine ⟨?_, ?_⟩
                · rw [inb_iff]; exact xb  -- b9
                refine h _ _ ?_
                · exact rfl  -- q10
            · skip
              refine ⟨?_, ?_⟩
              · rw [inb_iff, lw.1.1]; exact xb  -- b11
              refine h _ _ ?_
              · exact rfl  -- q12
          · skip
            intro κ_25 hκ_25
            refine hx _ _ ?_
            · exact ⟨rfl, hκ_25⟩  -- x13

theorem Ch_ending_c {C : zC} {n0 : Nat} {a0 : Nat} {a1 : Int32} {a2 : Int32} {κ : zS} {Q : Int32 → zS → Prop} {X : zXp} (W : zW C n0 κ) (Ta0 : zT κ a0 = 15) (ρ : Nat → Nat) (L9 : Int) (hp : chI9 ρ κ a0 L9) (h : ∀ (v : Int32) (κ' : zS), (κ = κ') → Q v κ') (hx : ∀ (cls : String) (κ' : zS), (cls = "java/lang/IndexOutOfBoundsException" ∧ κ' = ut κ) → X cls κ') : zRun C 8 mCh_ending [.ref a0, .int a1, .int a2] κ (oI Q X) := by
  refine Ch_ending_run W Ta0 ?_
  replace W := W.lo (Nat.le_trans W.1.2.1 W.1.2.2) (Nat.le_refl (zn κ))
  unfold w_Ch_ending_0
  intro T1
  refine At_holdsEnding_c W T1  (fun r2 q4 => ?_)
  intro W5
  intro M6
  refine ⟨fun c7 => ?_, fun c7 => ?_⟩
  · skip
    intro κ_8 hκ_8
    refine hx _ _ ?_
    · exact ⟨rfl, hκ_8⟩  -- x1
  · skip
    refine ⟨fun c9 => ?_, fun c9 => ?_⟩
    · skip
      intro κ_10 hκ_10
      refine hx _ _ ?_
      · exact ⟨rfl, hκ_10⟩  -- x2
    · skip
      intro T11
      refine Co_shared_c W5 T11  ?_ (fun r12 q14 => ?_)
      · exact hp.1.2.1.1.1  -- p3
      intro W15
      intro M16
      refine ⟨fun c17 => ?_, fun c17 => ?_⟩
      · skip
        refine ⟨fun c18 => ?_, fun c18 => ?_⟩
        · skip
          intro T19
          refine Ho_part_c W15 T19 1000 35 2048 ?_ (fun r20 q22 => ?_)
          · exact ⟨hp.2.1.1.1.2.2.1.2, Or.inr (Or.inl ⟨rfl, rfl, rfl⟩)⟩  -- p4
          intro W23
          intro M24
          refine h _ _ ?_
          · exact rfl  -- q5
        · skip
          intro T25
          refine Co_shared_c W15 T25  ?_ (fun r26 q28 => ?_)
          · exact hp.1.2.1.1.1  -- p6
          intro W29
          intro M30
          intro T31
          refine Ho_part_c W29 T31 1000 35 2048 ?_ (fun r32 q34 => ?_)
          · exact ⟨hp.2.1.1.1.2.2.1.2, Or.inr (Or.inl ⟨rfl, rfl, rfl⟩)⟩  -- p7
          intro W35
          intro M36
          refine h _ _ ?_
          · exact rfl  -- q8
      · skip
        intro κ_37 hκ_37
        refine hx _ _ ?_
        · exact ⟨rfl, hκ_37⟩  -- x9

theorem Ch_decided_c {C : zC} {n0 : Nat} {a0 : Nat} {a1 : Int32} {κ : zS} {Q : Int32 → zS → Prop} {X : zXp} (W : zW C n0 κ) (Ta0 : zT κ a0 = 15) (ρ : Nat → Nat) (L9 : Int) (hp : chI9 ρ κ a0 L9) (h : ∀ (v : Int32) (κ' : zS), (κ = κ') → Q v κ') (hx : ∀ (cls : String) (κ' : zS), (cls = "java/lang/IndexOutOfBoundsException" ∧ κ' = ut κ) → X cls κ') : zRun C 8 mCh_decided [.ref a0, .int a1] κ (oI Q X) := by
  refine Ch_decided_run W Ta0 ?_
  replace W := W.lo (Nat.le_trans W.1.2.1 W.1.2.2) (Nat.le_refl (zn κ))
  unfold w_Ch_decided_0
  intro T1
  refine At_holds_c W T1  (fun r2 q4 => ?_)
  intro W5
  intro M6
  refine ⟨fun c7 => ?_, fun c7 => ?_⟩
  · skip
    intro κ_8 hκ_8
    refine hx _ _ ?_
    · exact ⟨rfl, hκ_8⟩  -- x1
  · skip
    refine ⟨?_, ?_⟩
    · have H := ch_h9 hp q4 c7
      rw [inb_iff, H.2.1.2.2.2.2.1]
      have y := H.2.2.1
      omega
    refine ⟨fun c9 => ?_, fun c9 => ?_⟩
    · skip
      refine ⟨?_, ?_⟩
      · have H := ch_h9 hp q4 c7
        rw [inb_iff, H.2.1.2.2.2.1]
        have y := H.2.2.1
        omega
      refine h _ _ ?_
      · exact rfl  -- q4
    · skip
      intro κ_10 hκ_10
      refine hx _ _ ?_
      · exact ⟨rfl, hκ_10⟩  -- x5

theorem Ch_size_c {C : zC} {n0 : Nat} {a0 : Nat} {a1 : Int32} {κ : zS} {Q : Int32 → zS → Prop} {X : zXp} (W : zW C n0 κ) (Ta0 : zT κ a0 = 15) (ρ : Nat → Nat) (L9 : Int) (hp : chI9 ρ κ a0 L9) (h : ∀ (v : Int32) (κ' : zS), (κ = κ') → Q v κ') (hx : ∀ (cls : String) (κ' : zS), (cls = "java/lang/IndexOutOfBoundsException" ∧ κ' = ut κ) → X cls κ') : zRun C 8 mCh_size [.ref a0, .int a1] κ (oI Q X) := by
  refine Ch_size_run W Ta0 ?_
  replace W := W.lo (Nat.le_trans W.1.2.1 W.1.2.2) (Nat.le_refl (zn κ))
  unfold w_Ch_size_0
  refine ⟨fun c1 => ?_, fun c1 => ?_⟩
  · skip
    intro κ_2 hκ_2
    refine hx _ _ ?_
    · exact ⟨rfl, hκ_2⟩  -- x1
  · skip
    refine ⟨fun c3 => ?_, fun c3 => ?_⟩
    · skip
      refine ⟨fun c4 => ?_, fun c4 => ?_⟩
      · skip
        intro T5
        refine Nu_words_c W T5 6500 ?_ (fun r6 q8 => ?_)
        · exact ⟨(ch_n9 hp).2.1, by decide⟩  -- p2
        intro W9
        intro M10
        refine h _ _ ?_
        · exact rfl  -- q3
      · skip
        intro T11
        refine Nu_words_c W T11 6500 ?_ (fun r12 q14 => ?_)
        · exact ⟨(ch_n9 hp).1, by decide⟩  -- p4
        intro W15
        intro M16
        refine h _ _ ?_
        · exact rfl  -- q5
    · skip
      intro κ_17 hκ_17
      refine hx _ _ ?_
      · exact ⟨rfl, hκ_17⟩  -- x6

theorem Ch_limb_c {C : zC} {n0 : Nat} {a0 : Nat} {a1 : Int32} {a2 : Int32} {κ : zS} {Q : Int32 → zS → Prop} {X : zXp} (W : zW C n0 κ) (Ta0 : zT κ a0 = 15) (ρ : Nat → Nat) (L9 : Int) (hp : chI9 ρ κ a0 L9) (h : ∀ (v : Int32) (κ' : zS), (κ = κ') → Q v κ') (hx : ∀ (cls : String) (κ' : zS), (cls = "java/lang/IndexOutOfBoundsException" ∧ κ' = ut κ) → X cls κ') : zRun C 8 mCh_limb [.ref a0, .int a1, .int a2] κ (oI Q X) := by
  refine Ch_limb_run W Ta0 ?_
  replace W := W.lo (Nat.le_trans W.1.2.1 W.1.2.2) (Nat.le_refl (zn κ))
  unfold w_Ch_limb_0
  have hj41 : ∀ (l0 : Nat) (l2 : Int32) (s0 : Nat) (τ : zS), zW C (zn κ) τ → zT τ l0 = 15 → zT τ s0 = 8 → (κ = τ ∧ a0 = l0 ∧ a2 = l2 ∧ nuI κ s0 6500) → w_Ch_limb_41 C (zn κ) Q X  l0 l2 s0 τ := by
    rintro _ _ y41_s0 _ W41 T41_0 T41_1 ⟨rfl, rfl, rfl, j41⟩
    unfold w_Ch_limb_41
    refine ⟨fun c1 => ?_, fun c1 => ?_⟩
    · skip
      intro κ_2 hκ_2
      refine hx _ _ ?_
      · exact ⟨rfl, hκ_2⟩  -- x1
    · skip
      intro T3
      refine Nu_words_c W41 T3 6500 ?_ (fun r4 q6 => ?_)
      · exact ⟨j41, by decide⟩  -- p2
      intro W7
      intro M8
      refine ⟨fun c9 => ?_, fun c9 => ?_⟩
      · skip
        intro T10
        refine Nu_word_c W7 T10 6500 ?_ (fun r11 q13 => ?_)
        · exact j41.1  -- p3
        intro W14
        intro M15
        refine h _ _ ?_
        · exact rfl  -- q4
      · skip
        intro κ_16 hκ_16
        refine hx _ _ ?_
        · exact ⟨rfl, hκ_16⟩  -- x5
  refine ⟨fun c17 => ?_, fun c17 => ?_⟩
  · skip
    intro κ_18 hκ_18
    refine hx _ _ ?_
    · exact ⟨rfl, hκ_18⟩  -- x6
  · skip
    refine ⟨fun c19 => ?_, fun c19 => ?_⟩
    · skip
      refine ⟨fun c20 => ?_, fun c20 => ?_⟩
      · skip
        refine hj41 _ _ _ _ W ?_ ?_ ?_
        · exact Ta0  -- t7
        · exact ty_raBottom W (ty_chShown W Ta0)  -- t8
        · exact ⟨rfl, rfl, rfl, (ch_n9 hp).2.1⟩  -- k9
      · skip
        refine hj41 _ _ _ _ W ?_ ?_ ?_
        · exact Ta0  -- t10
        · exact ty_raTop W (ty_chShown W Ta0)  -- t11
        · exact ⟨rfl, rfl, rfl, (ch_n9 hp).1⟩  -- k12
    · skip
      intro κ_21 hκ_21
      refine hx _ _ ?_
      · exact ⟨rfl, hκ_21⟩  -- x13

theorem Ch_played_c {C : zC} {n0 : Nat} {a0 : Nat} {a1 : Int32} {κ : zS} {Q : Int64 → zS → Prop} {X : zXp} (W : zW C n0 κ) (Ta0 : zT κ a0 = 15) (ρ : Nat → Nat) (L9 : Int) (hp : chI9 ρ κ a0 L9) (h : ∀ (v : Int64) (κ' : zS), (κ = κ') → Q v κ') (hx : ∀ (cls : String) (κ' : zS), (cls = "java/lang/IndexOutOfBoundsException" ∧ κ' = ut κ) → X cls κ') : zRun C 8 mCh_played [.ref a0, .int a1] κ (oJ Q X) := by
  refine Ch_played_run W Ta0 ?_
  replace W := W.lo (Nat.le_trans W.1.2.1 W.1.2.2) (Nat.le_refl (zn κ))
  unfold w_Ch_played_0
  have E := hp.2.2.2.2.2.1
  have e5 : (5 : Int32).toInt = 5 := rfl
  have hj18 : ∀ (l0 : Nat) (l1 : Int32) (s0 : Int32) (τ : zS), zW C (zn κ) τ → zT τ l0 = 15 → (κ = τ ∧ a0 = l0 ∧ a1 = l1 ∧ 0 ≤ s0.toInt ∧ s0.toInt ≤ 34) → w_Ch_played_18 C (zn κ) Q X  l0 l1 s0 τ := by
    rintro _ _ y18_s0 _ W18 T18_0 ⟨rfl, rfl, rfl, j18⟩
    unfold w_Ch_played_18
    refine ⟨fun c1 => ?_, fun c1 => ?_⟩
    · skip
      intro κ_2 hκ_2
      refine hx _ _ ?_
      · exact ⟨rfl, hκ_2⟩  -- x1
    · skip
      refine ⟨fun c3 => ?_, fun c3 => ?_⟩
      · skip
        refine ⟨fun c4 => ?_, fun c4 => ?_⟩
        · skip
          refine ⟨fun c5 => ?_, fun c5 => ?_⟩
          · skip
            refine ⟨?_, ?_⟩
            · have s5 : ((5 : Int32) + y18_s0).toInt = 5 + y18_s0.toInt := by rw [add_i (by rw [e5]; omega) (by rw [e5]; omega), e5]
              rw [lti, s5] at c3
              rw [lei, e5] at c5
              rw [inb_iff, E.2.1.2, sub_i (by rw [e5]; omega) (by rw [e5]; omega), e5]
              omega
            refine h _ _ ?_
            · exact rfl  -- q3
          · skip
            refine ⟨?_, ?_⟩
            · rw [lti, t0i] at c1
              rw [lei, e5] at c5
              rw [inb_iff, E.2.1.1]
              omega
            refine h _ _ ?_
            · exact rfl  -- q5
        · skip
          refine h _ _ ?_
          · exact rfl  -- q6
      · skip
        intro κ_6 hκ_6
        refine hx _ _ ?_
        · exact ⟨rfl, hκ_6⟩  -- x7
  refine ⟨fun c7 => ?_, fun c7 => ?_⟩
  · skip
    refine hj18 _ _ _ _ W ?_ ?_
    · exact Ta0  -- t8
    · exact ⟨rfl, rfl, rfl, by decide, by decide⟩  -- k9
  · skip
    intro T8
    refine Co_shared_c W T8  ?_ (fun r9 q11 => ?_)
    · exact hp.1.2.1.1.1  -- p10
    intro W12
    intro M13
    refine hj18 _ _ _ _ W12 ?_ ?_
    · exact Ta0  -- t11
    · obtain ⟨-, hv, ha, hc, -⟩ := hp.1.2.1.1.1
      exact ⟨rfl, rfl, rfl, by omega, by omega⟩
