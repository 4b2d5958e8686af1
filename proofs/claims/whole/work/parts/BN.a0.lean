section
set_option maxHeartbeats 1600000
/-! the class: Atlas: what holds of it; its leaves -/
def atL (κ : zS) (a : Nat) : Prop := ((zN κ (zR κ atSorts a)) = (zN κ (zR κ atNumbers a)) ∧ (zN κ (zR κ atWeights a)) = (zN κ (zR κ atNumbers a))) ∧ 64 ≤ (zN κ (zR κ atNumbers a)) ∧ (zN κ (zR κ atNumbers a)) ≤ 20000
def atM (κ : zS) (a : Nat) : Prop := (zN κ (zR κ atFirsts a)) = 1001 ∧ (zN κ (zR κ atTotals a)) = 1000 ∧ (zN κ (zR κ atGains a)) = 1000 ∧ (zN κ (zR κ atPlan a)) = 1000 ∧ (zN κ (zR κ atChooses a)) = 1000 ∧ (zN κ (zR κ atHopeless a)) = 1000
def atH (κ : zS) (a : Nat) : Prop := hoI κ (zR κ atStates a) 1000 142 2048 ∧ hoI κ (zR κ atEndings a) 1000 35 2048
def atG (κ : zS) (a : Nat) : Prop := atH κ a ∧ coI κ (zR κ atCode a)
theorem hP1 : hoP 1000 142 2048 := Or.inl ⟨rfl, rfl, rfl⟩
theorem hP2 : hoP 1000 35 2048 := Or.inr (Or.inl ⟨rfl, rfl, rfl⟩)
theorem At_holds_c {C : zC} {n0 : Nat} {a0 : Nat} {a1 : Int32} {κ : zS} {Q : Int32 → zS → Prop} (W : zW C n0 κ) (Ta0 : zT κ a0 = 3)  (h : ∀ (v : Int32), (nb v ∧ (v ≠ 0 → zI κ atExplored a0 ≠ 0 ∧ 0 ≤ a1.toInt ∧ a1.toInt < (zI κ hoTotal (zR κ atStates a0)).toInt)) → Q v κ) : zRun C 0 mAt_holds [.ref a0, .int a1] κ (oI Q noX) := by
  refine At_holds_run W Ta0 ?_
  replace W := W.lo (Nat.le_trans W.1.2.1 W.1.2.2) (Nat.le_refl (zn κ))
  unfold w_At_holds_0
  refine ⟨fun c1 => ?_, fun c1 => ?_⟩
  · skip
    refine h _ ?_
    · exact ⟨nb_0, fun z => absurd rfl z⟩  -- q1
  · skip
    refine ⟨fun c2 => ?_, fun c2 => ?_⟩
    · skip
      refine h _ ?_
      · exact ⟨nb_0, fun z => absurd rfl z⟩  -- q2
    · skip
      refine ⟨fun c3 => ?_, fun c3 => ?_⟩
      · skip
        refine h _ ?_
        · exact ⟨nb_0, fun z => absurd rfl z⟩  -- q3
      · skip
        refine h _ ?_
        · rw [lti, t0i] at c2
          rw [lei] at c3
          exact ⟨nb_1, fun _ => ⟨c1, by omega, by omega⟩⟩

theorem At_holdsEnding_c {C : zC} {n0 : Nat} {a0 : Nat} {a1 : Int32} {κ : zS} {Q : Int32 → zS → Prop} (W : zW C n0 κ) (Ta0 : zT κ a0 = 3)  (h : ∀ (v : Int32), (nb v ∧ (v ≠ 0 → zI κ atExplored a0 ≠ 0 ∧ 0 ≤ a1.toInt ∧ a1.toInt < (zI κ hoTotal (zR κ atEndings a0)).toInt)) → Q v κ) : zRun C 0 mAt_holdsEnding [.ref a0, .int a1] κ (oI Q noX) := by
  refine At_holdsEnding_run W Ta0 ?_
  replace W := W.lo (Nat.le_trans W.1.2.1 W.1.2.2) (Nat.le_refl (zn κ))
  unfold w_At_holdsEnding_0
  refine ⟨fun c1 => ?_, fun c1 => ?_⟩
  · skip
    refine h _ ?_
    · exact ⟨nb_0, fun z => absurd rfl z⟩  -- q1
  · skip
    refine ⟨fun c2 => ?_, fun c2 => ?_⟩
    · skip
      refine h _ ?_
      · exact ⟨nb_0, fun z => absurd rfl z⟩  -- q2
    · skip
      refine ⟨fun c3 => ?_, fun c3 => ?_⟩
      · skip
        refine h _ ?_
        · exact ⟨nb_0, fun z => absurd rfl z⟩  -- q3
      · skip
        refine h _ ?_
        · rw [lti, t0i] at c2
          rw [lei] at c3
          exact ⟨nb_1, fun _ => ⟨c1, by omega, by omega⟩⟩

theorem cn1 {x : Int32} (h0 : 0 ≤ x.toInt) (h1 : x.toInt < 2147483647) : (x + 1).toNatClampNeg = x.toNatClampNeg + 1 ∧ (x + 1).toInt = x.toInt + 1 := by
  have e : (x + 1).toInt = x.toInt + 1 := by rw [add_i (by rw [t1i]; omega) (by rw [t1i]; omega), t1i]
  have k := cnk h0
  have k1 := cnk (x := x + 1) (by omega)
  exact ⟨by omega, e⟩
theorem At_waysOf_c {C : zC} {n0 : Nat} {a0 : Nat} {a1 : Int32} {κ : zS} {Q : Int32 → zS → Prop} (W : zW C n0 κ) (Ta0 : zT κ a0 = 3)  (hp : (zN κ (zR κ atFirsts a0)) = 1001 ∧ 0 ≤ a1.toInt ∧ a1.toInt < 1000) (h : ∀ (v : Int32), (v = zA κ (zR κ atFirsts a0) (a1.toNatClampNeg + 1) - zA κ (zR κ atFirsts a0) a1.toNatClampNeg) → Q v κ) : zRun C 0 mAt_waysOf [.ref a0, .int a1] κ (oI Q noX) := by
  refine At_waysOf_run W Ta0 ?_
  replace W := W.lo (Nat.le_trans W.1.2.1 W.1.2.2) (Nat.le_refl (zn κ))
  unfold w_At_waysOf_0
  obtain ⟨L, p0, p1⟩ := hp
  have e := cn1 p0 (by omega)
  refine ⟨?_, ?_⟩
  · rw [inb_iff, e.2]; omega  -- b1
  refine ⟨?_, ?_⟩
  · rw [inb_iff]; omega  -- b2
  refine h _ ?_
  · rw [e.1]  -- q3

theorem At_divisorOf_c {C : zC} {n0 : Nat} {a0 : Nat} {a1 : Int32} {κ : zS} {Q : Int32 → zS → Prop} (W : zW C n0 κ) (Ta0 : zT κ a0 = 3)  (hp : atM κ a0 ∧ 0 ≤ a1.toInt ∧ a1.toInt < 1000) (h : ∀ (v : Int32), (v = if zA κ (zR κ atChooses a0) a1.toNatClampNeg = 0 then zA κ (zR κ atTotals a0) a1.toNatClampNeg else 1) → Q v κ) : zRun C 0 mAt_divisorOf [.ref a0, .int a1] κ (oI Q noX) := by
  refine At_divisorOf_run W Ta0 ?_
  replace W := W.lo (Nat.le_trans W.1.2.1 W.1.2.2) (Nat.le_refl (zn κ))
  unfold w_At_divisorOf_0
  obtain ⟨L, p0, p1⟩ := hp
  have L2 := L.2.1
  have L5 := L.2.2.2.2.1
  refine ⟨?_, ?_⟩
  · rw [inb_iff]; omega  -- b1
  refine ⟨fun c1 => ?_, fun c1 => ?_⟩
  · skip
    refine ⟨?_, ?_⟩
    · rw [inb_iff]; omega  -- b2
    refine h _ ?_
    · rw [if_pos c1]  -- q3
  · skip
    refine h _ ?_
    · rw [if_neg c1]  -- q4

theorem At_isTaken_c {C : zC} {n0 : Nat} {a0 : Nat} {a1 : Int32} {a2 : Int32} {κ : zS} {Q : Int32 → zS → Prop} (W : zW C n0 κ) (Ta0 : zT κ a0 = 3)  (hp : atM κ a0 ∧ 0 ≤ a1.toInt ∧ a1.toInt < 1000) (h : ∀ (v : Int32), (nb v ∧ (v ≠ 0 ↔ zA κ (zR κ atChooses a0) a1.toNatClampNeg = 0 ∨ a2 = zA κ (zR κ atFirsts a0) a1.toNatClampNeg + zA κ (zR κ atPlan a0) a1.toNatClampNeg)) → Q v κ) : zRun C 0 mAt_isTaken [.ref a0, .int a1, .int a2] κ (oI Q noX) := by
  refine At_isTaken_run W Ta0 ?_
  replace W := W.lo (Nat.le_trans W.1.2.1 W.1.2.2) (Nat.le_refl (zn κ))
  unfold w_At_isTaken_0
  obtain ⟨L, p0, p1⟩ := hp
  have L1 := L.1
  have L4 := L.2.2.2.1
  have L5 := L.2.2.2.2.1
  refine ⟨?_, ?_⟩
  · rw [inb_iff]; omega  -- b1
  refine ⟨fun c1 => ?_, fun c1 => ?_⟩
  · skip
    refine h _ ?_
    · exact ⟨nb_1, fun _ => Or.inl c1, fun _ => by decide⟩  -- q2
  · skip
    refine ⟨?_, ?_⟩
    · rw [inb_iff]; omega  -- b3
    refine ⟨?_, ?_⟩
    · rw [inb_iff]; omega  -- b4
    refine ⟨fun c2 => ?_, fun c2 => ?_⟩
    · skip
      refine h _ ?_
      · exact ⟨nb_0, fun z => absurd rfl z, fun z => absurd (z.resolve_left c1) c2⟩  -- q5
    · skip
      refine h _ ?_
      · exact ⟨nb_1, fun _ => Or.inr c2, fun _ => by decide⟩  -- q6

theorem At_callsOf_c {C : zC} {n0 : Nat} {a0 : Nat} {a1 : Int32} {κ : zS} {Q : Int32 → zS → Prop} (W : zW C n0 κ) (Ta0 : zT κ a0 = 3)  (hp : atG κ a0) (h : ∀ (v : Int32), (True) → Q v κ) : zRun C 1 mAt_callsOf [.ref a0, .int a1] κ (oI Q noX) := by
  refine At_callsOf_run W Ta0 ?_
  replace W := W.lo (Nat.le_trans W.1.2.1 W.1.2.2) (Nat.le_refl (zn κ))
  unfold w_At_callsOf_0
  intro T1
  refine Ho_lengthOf_c W T1 1000 142 2048 ?_ (fun r2 q4 => ?_)
  · exact ⟨hp.1.1, hP1⟩  -- p1
  intro W5
  intro M6
  intro T7
  refine Co_shared_c W5 T7  ?_ (fun r8 q10 => ?_)
  · exact hp.2  -- p2
  intro W11
  intro M12
  refine ⟨?_, ?_⟩
  · decide  -- b3
  refine h _ ?_
  · trivial  -- q4

theorem At_statementOf_c {C : zC} {n0 : Nat} {a0 : Nat} {a1 : Int32} {a2 : Int32} {κ : zS} {Q : Int32 → zS → Prop} (W : zW C n0 κ) (Ta0 : zT κ a0 = 3)  (hp : atG κ a0) (h : ∀ (v : Int32), (True) → Q v κ) : zRun C 2 mAt_statementOf [.ref a0, .int a1, .int a2] κ (oI Q noX) := by
  refine At_statementOf_run W Ta0 ?_
  replace W := W.lo (Nat.le_trans W.1.2.1 W.1.2.2) (Nat.le_refl (zn κ))
  unfold w_At_statementOf_0
  intro T1
  refine Co_shared_c W T1  ?_ (fun r2 q4 => ?_)
  · exact hp.2  -- p1
  intro W5
  intro M6
  intro T7
  refine Ho_part_c W5 T7 1000 142 2048 ?_ (fun r8 q10 => ?_)
  · exact ⟨hp.1.1, hP1⟩  -- p2
  intro W11
  intro M12
  refine h _ ?_
  · trivial  -- q3

theorem At_hasVariable_c {C : zC} {n0 : Nat} {a0 : Nat} {a1 : Int32} {a2 : Int32} {a3 : Int32} {κ : zS} {Q : Int32 → zS → Prop} (W : zW C n0 κ) (Ta0 : zT κ a0 = 3)  (hp : atG κ a0) (h : ∀ (v : Int32), (nb v) → Q v κ) : zRun C 3 mAt_hasVariable [.ref a0, .int a1, .int a2, .int a3] κ (oI Q noX) := by
  refine At_hasVariable_run W Ta0 ?_
  replace W := W.lo (Nat.le_trans W.1.2.1 W.1.2.2) (Nat.le_refl (zn κ))
  unfold w_At_hasVariable_0
  refine ⟨fun c1 => ?_, fun c1 => ?_⟩
  · skip
    refine ⟨fun c2 => ?_, fun c2 => ?_⟩
    · skip
      refine h _ ?_
      · first | exact nb_0 | exact nb_1 | exact hp | exact ⟨hp.2, by decide, by decide⟩ | exact hp.2  -- q1
    · skip
      intro T3
      refine At_callsOf_c W T3  ?_ (fun r4 q6 => ?_)
      · first | exact nb_0 | exact nb_1 | exact hp | exact ⟨hp.2, by decide, by decide⟩ | exact hp.2  -- p2
      intro W7
      intro M8
      refine ⟨fun c9 => ?_, fun c9 => ?_⟩
      · skip
        refine h _ ?_
        · first | exact nb_0 | exact nb_1 | exact hp | exact ⟨hp.2, by decide, by decide⟩ | exact hp.2  -- q3
      · skip
        refine ⟨fun c10 => ?_, fun c10 => ?_⟩
        · skip
          intro T11
          refine At_statementOf_c W7 T11  ?_ (fun r12 q14 => ?_)
          · first | exact nb_0 | exact nb_1 | exact hp | exact ⟨hp.2, by decide, by decide⟩ | exact hp.2  -- p4
          intro W15
          intro M16
          intro T17
          refine Co_column_c W15 T17  ?_ (fun r18 q20 => ?_)
          · first | exact nb_0 | exact nb_1 | exact hp | exact ⟨hp.2, by decide, by decide⟩ | exact hp.2  -- p5
          intro W21
          intro M22
          refine ⟨fun c23 => ?_, fun c23 => ?_⟩
          · skip
            refine h _ ?_
            · first | exact nb_0 | exact nb_1 | exact hp | exact ⟨hp.2, by decide, by decide⟩ | exact hp.2  -- q6
          · skip
            refine ⟨fun c24 => ?_, fun c24 => ?_⟩
            · skip
              refine h _ ?_
              · first | exact nb_0 | exact nb_1 | exact hp | exact ⟨hp.2, by decide, by decide⟩ | exact hp.2  -- q7
            · skip
              refine ⟨?_, ?_⟩
              · have L := hp.2.1.2.2.2.2.2
                have e10 : (10 : Int32).toInt = 10 := rfl
                rw [lti, t0i] at c23
                rw [lei, e10] at c24
                rw [inb_iff]; omega
              refine ⟨fun c25 => ?_, fun c25 => ?_⟩
              · skip
                refine h _ ?_
                · first | exact nb_0 | exact nb_1 | exact hp | exact ⟨hp.2, by decide, by decide⟩ | exact hp.2  -- q9
              · skip
                refine h _ ?_
                · first | exact nb_0 | exact nb_1 | exact hp | exact ⟨hp.2, by decide, by decide⟩ | exact hp.2  -- q10
        · skip
          refine h _ ?_
          · first | exact nb_0 | exact nb_1 | exact hp | exact ⟨hp.2, by decide, by decide⟩ | exact hp.2  -- q11
  · skip
    intro T26
    refine Co_isShared_c W T26  ?_ (fun r27 q29 => ?_)
    · first | exact nb_0 | exact nb_1 | exact hp | exact ⟨hp.2, by decide, by decide⟩ | exact hp.2  -- p12
    intro W30
    intro M31
    refine ⟨?_, h _ ?_⟩
    · exact q29.1  -- b13
    · exact q29.1  -- q14

theorem At_variableOf_c {C : zC} {n0 : Nat} {a0 : Nat} {a1 : Int32} {a2 : Int32} {a3 : Int32} {κ : zS} {Q : Int32 → zS → Prop} (W : zW C n0 κ) (Ta0 : zT κ a0 = 3)  (hp : atG κ a0) (h : ∀ (v : Int32), (True) → Q v κ) : zRun C 2 mAt_variableOf [.ref a0, .int a1, .int a2, .int a3] κ (oI Q noX) := by
  refine At_variableOf_run W Ta0 ?_
  replace W := W.lo (Nat.le_trans W.1.2.1 W.1.2.2) (Nat.le_refl (zn κ))
  unfold w_At_variableOf_0
  refine ⟨fun c1 => ?_, fun c1 => ?_⟩
  · skip
    intro T2
    refine Co_shared_c W T2  ?_ (fun r3 q5 => ?_)
    · first | trivial | exact hp.2 | exact ⟨hp.1.1, hP1⟩  -- p1
    intro W6
    intro M7
    intro T8
    refine Ho_part_c W6 T8 1000 142 2048 ?_ (fun r9 q11 => ?_)
    · first | trivial | exact hp.2 | exact ⟨hp.1.1, hP1⟩  -- p2
    intro W12
    intro M13
    refine h _ ?_
    · first | trivial | exact hp.2 | exact ⟨hp.1.1, hP1⟩  -- q3
  · skip
    intro T14
    refine Ho_part_c W T14 1000 142 2048 ?_ (fun r15 q17 => ?_)
    · first | trivial | exact hp.2 | exact ⟨hp.1.1, hP1⟩  -- p4
    intro W18
    intro M19
    refine h _ ?_
    · first | trivial | exact hp.2 | exact ⟨hp.1.1, hP1⟩  -- q5

theorem At_chosen_c {C : zC} {n0 : Nat} {a0 : Nat} {a1 : Nat} {κ : zS} {Q : Int32 → zS → Prop} (W : zW C n0 κ) (Ta0 : zT κ a0 = 3) (Ta1 : zT κ a1 = 7)  (hp : atH κ a0 ∧ (zI κ atExplored a0 ≠ 0 → atM κ a0)) (h : ∀ (v : Int32), (True) → Q v κ) : zRun C 3 mAt_chosen [.ref a0, .ref a1] κ (oI Q noX) := by
  refine At_chosen_run W Ta0 Ta1 ?_
  replace W := W.lo (Nat.le_trans W.1.2.1 W.1.2.2) (Nat.le_refl (zn κ))
  unfold w_At_chosen_0
  have hj26 : ∀ (l0 : Nat) (l1 : Nat) (s0 : Int32) (τ : zS), zW C (zn κ) τ → zT τ l0 = 3 → zT τ l1 = 7 → (κ = τ ∧ a0 = l0 ∧ a1 = l1 ∧ (s0 ≠ -1 → zI κ atExplored a0 ≠ 0 ∧ 0 ≤ s0.toInt ∧ s0.toInt < 1000)) → w_At_chosen_26 C (zn κ) Q  l0 l1 s0 τ := by
    rintro _ _ y26_s0 _ W26 T26_0 T26_1 ⟨rfl, rfl, rfl, j26⟩
    unfold w_At_chosen_26
    refine ⟨fun c1 => ?_, fun c1 => ?_⟩
    · skip
      refine h _ ?_
      · trivial  -- q1
    · skip
      refine ⟨?_, ?_⟩
      · have J := j26 c1
        have L := (hp.2 J.1).2.2.2.1
        rw [inb_iff]; omega
      refine ⟨fun c2 => ?_, fun c2 => ?_⟩
      · skip
        refine h _ ?_
        · trivial  -- q3
      · skip
        refine ⟨?_, ?_⟩
        · have J := j26 c1
          have L := (hp.2 J.1).2.2.2.1
          rw [inb_iff]; omega
        refine h _ ?_
        · trivial  -- q5
  refine ⟨fun c3 => ?_, fun c3 => ?_⟩
  · skip
    refine hj26 _ _ _ _ W ?_ ?_ ?_
    · exact Ta0  -- t6
    · exact Ta1  -- t7
    · exact ⟨rfl, rfl, rfl, fun z => absurd rfl z⟩  -- k8
  · skip
    intro T4
    refine Ma_length_c W T4  (fun r5 q7 => ?_)
    intro W8
    intro M9
    intro T10
    intro T11
    refine Ho_find_c W8 T10 T11 1000 142 2048 ?_ (fun r12 q14 => ?_)
    · exact ⟨hp.1.1, hP1⟩  -- p9
    intro W15
    intro M16
    refine hj26 _ _ _ _ W15 ?_ ?_ ?_
    · exact Ta0  -- t10
    · exact Ta1  -- t11
    · have b := hp.1.1.2.1.2
      refine ⟨rfl, rfl, rfl, fun z => ⟨c3, ?_, by omega⟩⟩
      have n1 : r12.toInt ≠ -1 := fun e => z (Int32.toInt_inj.mp (e.trans tmi.symm))
      omega

theorem At_countTrue_c {C : zC} {n0 : Nat} {a0 : Nat} {a1 : Nat} {κ : zS} {Q : Int32 → zS → Prop} (W : zW C n0 κ) (Ta0 : zT κ a0 = 3) (Ta1 : zT κ a1 = 23)  (h : ∀ (v : Int32), (True) → Q v κ) : zRun C 0 mAt_countTrue [.ref a0, .ref a1] κ (oI Q noX) := by
  refine At_countTrue_run W Ta0 Ta1 ?_
  replace W := W.lo (Nat.le_trans W.1.2.1 W.1.2.2) (Nat.le_refl (zn κ))
  unfold w_At_countTrue_0
  have nN := W.n Ta1
  unfold w_At_countTrue_4
  refine ⟨fun n l0 l1 l2 l3 τ => n = (zN κ a1 - l3.toInt).toNat ∧ (κ = τ ∧ a0 = l0 ∧ a1 = l1 ∧ 0 ≤ l3.toInt), ⟨_, rfl, ?_⟩, ?_⟩
  · exact ⟨rfl, rfl, rfl, by decide⟩  -- j1
  rintro n4 _ _ x4_2 x4_3 _ W4 T4_0 T4_1 ⟨hn4, rfl, rfl, rfl, i4⟩
  have hj33 : ∀ (l0 : Nat) (l1 : Nat) (l3 : Int32) (s0 : Int32) (s1 : Int32) (τ : zS), zW C (zn κ) τ → zT τ l0 = 3 → zT τ l1 = 23 → (κ = τ ∧ a0 = l0 ∧ a1 = l1 ∧ l3 = x4_3 ∧ l3.toInt < zN κ a1) → w_At_countTrue_33 C (zn κ) Q (fun (l0' : Nat) (l1' : Nat) (l2' : Int32) (l3' : Int32) (τ : zS) => ∃ k < n4, (fun (n : Nat) (l0 : Nat) (l1 : Nat) (l2 : Int32) (l3 : Int32) (τ : zS) => n = (zN κ a1 - l3.toInt).toNat ∧ (κ = τ ∧ a0 = l0 ∧ a1 = l1 ∧ 0 ≤ l3.toInt)) k l0' l1' l2' l3' τ) l0 l1 l3 s0 s1 τ := by
    rintro _ _ y33_3 y33_s0 y33_s1 _ W33 T33_0 T33_1 ⟨rfl, rfl, rfl, j33⟩
    unfold w_At_countTrue_33
    intro x1 hx1
    intro x2 hx2
    refine ⟨_, ?_, rfl, ?_⟩
    · obtain ⟨e, l⟩ := j33
      have e1 := (cn1 (x := y33_3) (by rw [e]; exact i4) (by omega)).2
      rw [hn4, hx2, e1, e]; rw [e] at l; omega
    · obtain ⟨e, l⟩ := j33
      have e1 := (cn1 (x := y33_3) (by rw [e]; exact i4) (by omega)).2
      exact ⟨rfl, rfl, rfl, by rw [hx2, e1, e]; omega⟩
  refine ⟨fun c3 => ?_, fun c3 => ?_⟩
  · skip
    refine h _ ?_
    · trivial  -- q4
  · skip
    refine ⟨fun c4 => ?_, fun c4 => ?_⟩
    · skip
      refine h _ ?_
      · trivial  -- q5
    · skip
      rw [lei, ofn_i nN] at c4
      refine ⟨?_, ?_⟩
      · rw [inb_iff]; omega  -- b6
      refine ⟨fun c5 => ?_, fun c5 => ?_⟩
      · skip
        refine hj33 _ _ _ _ _ _ W4 ?_ ?_ ?_
        · exact Ta0  -- t7
        · exact Ta1  -- t8
        · exact ⟨rfl, rfl, rfl, rfl, by omega⟩  -- k9
      · skip
        refine hj33 _ _ _ _ _ _ W4 ?_ ?_ ?_
        · exact Ta0  -- t10
        · exact Ta1  -- t11
        · exact ⟨rfl, rfl, rfl, rfl, by omega⟩  -- k12

theorem At_howMany_c {C : zC} {n0 : Nat} {a0 : Nat} {a1 : Int32} {κ : zS} {Q : Int32 → zS → Prop} (W : zW C n0 κ) (Ta0 : zT κ a0 = 3)  (h : ∀ (v : Int32), (True) → Q v κ) : zRun C 1 mAt_howMany [.ref a0, .int a1] κ (oI Q noX) := by
  refine At_howMany_run W Ta0 ?_
  replace W := W.lo (Nat.le_trans W.1.2.1 W.1.2.2) (Nat.le_refl (zn κ))
  unfold w_At_howMany_0
  refine ⟨fun c1 => ?_, fun c1 => ?_, fun c1 => ?_, fun c1 => ?_, fun c1 => ?_, fun c1 => ?_⟩
  · skip
    refine ⟨fun c2 => ?_, fun c2 => ?_⟩
    · skip
      intro T3
      intro T4
      refine At_countTrue_c W T3 T4  (fun r5 q7 => ?_)
      intro W8
      intro M9
      refine h _ ?_
      · trivial  -- q1
    · skip
      intro T10
      intro T11
      refine At_countTrue_c W T10 T11  (fun r12 q14 => ?_)
      intro W15
      intro M16
      refine h _ ?_
      · trivial  -- q2
  · skip
    refine h _ ?_
    · trivial  -- q3
  · skip
    refine h _ ?_
    · trivial  -- q4
  · skip
    refine h _ ?_
    · trivial  -- q5
  · skip
    refine h _ ?_
    · trivial  -- q6
  · skip
    refine h _ ?_
    · trivial  -- q7

end
section
set_option maxHeartbeats 1600000
/-! the class: Atlas's rows: made, and made longer -/
/-- a field gets a longer row, and its length pays for it -/
theorem gr_g {C : zC} {n0 f c s t n : Nat} {κ κ1 κ2 : zS} (W : zW C n0 κ) (hr : zr f = some t) (ht : 20 ≤ t) (T : zT κ c = f / 100) (q : cpR κ κ1 s t n) (e : κ2 = uo κ1 f c (zn κ)) (cS : n + wS f (zN κ (zR κ f c)) ≤ wS f n) (cC : 4 + wC f (zN κ (zR κ f c)) ≤ wC f n) : zF (fun g b => g = f ∧ b = c) κ κ2 ∧ zI κ2 = zI κ ∧ (∀ g b, ¬ (g = f ∧ b = c) → zR κ2 g b = zR κ g b) ∧ zR κ2 f c = zn κ ∧ zN κ2 (zn κ) = n ∧ (∀ x d, zT κ x = d + 1 → zN κ2 x = zN κ x ∧ zA κ2 x = zA κ x) ∧ (∀ i, i < n → i < zN κ s → zA κ2 (zn κ) i = zA κ s i) := by
  have F : zF (fun g b => g = f ∧ b = c) κ κ2 := zF_uo W hr ht T ht ⟨rfl, rfl⟩ q.1 e cS cC
  obtain ⟨⟨g1, g2, g3, g4, g5, g6, -⟩, k1, k2, k3⟩ := q
  refine ⟨F, by rw [e]; exact g3, fun g b h => by rw [e]; exact (if_neg h).trans (congrFun (congrFun g4 g) b), by rw [e]; exact if_pos ⟨rfl, rfl⟩, ?_, fun x d hx => ⟨F.l hx, ?_⟩, fun i h1 h3 => ?_⟩
  · rw [e]
    show zN κ1 (zn κ) = n
    rw [g2]; exact if_pos rfl
  · rw [e]; exact (g5 x (W.nw hx)).1
  · rw [e]; exact k2 i h1 h3
/-- a field gets its first row -/
theorem mk_row {C : zC} {n0 f c t n : Nat} {κ κ1 κ2 : zS} (W : zW C n0 κ) (hr : zr f = some t) (ht : 20 ≤ t) (T : zT κ c = f / 100) (hf : f ≠ 0 ∧ f ≠ 605 ∧ f ≠ 800) (e1 : κ1 = na κ t n) (e : κ2 = uo κ1 f c (zn κ)) (h1 : zN κ (zR κ f c) ≤ 1) (h7 : 7 ≤ n) : zF (fun g b => g = f ∧ b = c) κ κ2 ∧ zI κ2 = zI κ ∧ (∀ g b, ¬ (g = f ∧ b = c) → zR κ2 g b = zR κ g b) ∧ zR κ2 f c = zn κ ∧ zN κ2 (zn κ) = n ∧ (∀ x d, zT κ x = d + 1 → zN κ2 x = zN κ x ∧ zA κ2 x = zA κ x) ∧ zA κ2 (zn κ) = fun _ => 0 := by
  have a := wS_le (f := f) (n := zN κ (zR κ f c)) hf.1 hf.2.1 hf.2.2
  have b := wS_le (f := f) (n := n) hf.1 hf.2.1 hf.2.2
  have c1 := wC_le (f := f) (n := zN κ (zR κ f c)) hf.1 hf.2.1 hf.2.2
  have d := wC_le (f := f) (n := n) hf.1 hf.2.1 hf.2.2
  have F : zF (fun g b => g = f ∧ b = c) κ κ2 := zF_uo W hr ht T ht ⟨rfl, rfl⟩ (na_h e1) e (by omega) (by omega)
  refine ⟨F, by rw [e, e1]; rfl, fun g b h => by rw [e, e1]; exact if_neg h, by rw [e]; exact if_pos ⟨rfl, rfl⟩, ?_, fun x d hx => ⟨F.l hx, ?_⟩, ?_⟩
  · rw [e, e1]
    exact if_pos rfl
  · rw [e, e1]
    exact if_neg (W.nw hx)
  · rw [e, e1]
    exact if_pos rfl
abbrev atRf : List Nat := [atFirsts, atTotals, atGains, atPlan, atChooses, atHopeless, atSorts, atNumbers, atWeights]
theorem atRf_r : ∀ f, f ∈ atRf → (∃ t, zr f = some t ∧ 20 ≤ t) ∧ f / 100 = 3 := by
  intro f h
  have z : ∀ q ∈ [(atFirsts, 20), (atTotals, 20), (atGains, 20), (atPlan, 20), (atChooses, 23), (atHopeless, 23), (atSorts, 20), (atNumbers, 20), (atWeights, 20)], zr q.1 = some q.2 ∧ 20 ≤ q.2 ∧ q.1 / 100 = 3 := by decide +kernel
  simp only [List.mem_cons, List.not_mem_nil, or_false] at h
  rcases h with rfl | rfl | rfl | rfl | rfl | rfl | rfl | rfl | rfl
  · exact ⟨⟨20, (z (306, 20) (by decide)).1, by decide⟩, rfl⟩
  · exact ⟨⟨20, (z (307, 20) (by decide)).1, by decide⟩, rfl⟩
  · exact ⟨⟨20, (z (308, 20) (by decide)).1, by decide⟩, rfl⟩
  · exact ⟨⟨20, (z (309, 20) (by decide)).1, by decide⟩, rfl⟩
  · exact ⟨⟨23, (z (310, 23) (by decide)).1, by decide⟩, rfl⟩
  · exact ⟨⟨23, (z (311, 23) (by decide)).1, by decide⟩, rfl⟩
  · exact ⟨⟨20, (z (312, 20) (by decide)).1, by decide⟩, rfl⟩
  · exact ⟨⟨20, (z (313, 20) (by decide)).1, by decide⟩, rfl⟩
  · exact ⟨⟨20, (z (314, 20) (by decide)).1, by decide⟩, rfl⟩
theorem atRf_n {C : zC} {n0 a f g : Nat} {κ : zS} (W : zW C n0 κ) (T : zT κ a = 3) (hf : f ∈ atRf) (hg : g ∈ atRf) (h : f ≠ g) : zR κ f a ≠ zR κ g a := by
  obtain ⟨⟨t, h1, h2⟩, h3⟩ := atRf_r f hf
  obtain ⟨⟨u, g1, g2⟩, g3⟩ := atRf_r g hg
  exact ow_ne W h1 h2 (T.trans h3.symm) g1 g2 (T.trans g3.symm) h
theorem atRf_o {C : zC} {n0 a f : Nat} {κ : zS} (W : zW C n0 κ) (T : zT κ a = 3) (hf : f ∈ atRf) : zO κ (zR κ f a) = (f, a) := by
  obtain ⟨⟨t, h1, h2⟩, h3⟩ := atRf_r f hf
  exact W.o h1 h2 (T.trans h3.symm)
/-- the nexts' rows -/
abbrev adF (a : Nat) : Nat → Nat → Prop := fun f x => x = a ∧ (f = atSorts ∨ f = atNumbers ∨ f = atWeights ∨ f = atNexts)
/-- rows of the nexts, made longer perhaps -/
def adJ (κ τ : zS) (a : Nat) : Prop := zF (adF a) κ τ ∧ zI τ = zI κ ∧ (∀ f b, ¬ adF a f b → zR τ f b = zR κ f b) ∧ atL τ a ∧ (zI κ atNexts a).toInt < (zN τ (zR τ atNumbers a)) ∧ ∀ i : Nat, (i : Int) < (zI κ atNexts a).toInt → zA τ (zR τ atSorts a) i = zA κ (zR κ atSorts a) i ∧ zA τ (zR τ atNumbers a) i = zA κ (zR κ atNumbers a) i ∧ zA τ (zR τ atWeights a) i = zA κ (zR κ atWeights a) i
/-- one next more -/
def adN (κ τ : zS) (a : Nat) (s n w : Int32) : Prop := zF (adF a) κ τ ∧ (∀ f b, ¬ (f = atNexts ∧ b = a) → zI τ f b = zI κ f b) ∧ (∀ f b, ¬ adF a f b → zR τ f b = zR κ f b) ∧ atL τ a ∧ ((zI τ atNexts a).toInt = (zI κ atNexts a).toInt + 1 ∧ (zI τ atNexts a).toInt ≤ (zN τ (zR τ atNumbers a))) ∧ (∀ i : Nat, (i : Int) < (zI κ atNexts a).toInt → zA τ (zR τ atSorts a) i = zA κ (zR κ atSorts a) i ∧ zA τ (zR τ atNumbers a) i = zA κ (zR κ atNumbers a) i ∧ zA τ (zR τ atWeights a) i = zA κ (zR κ atWeights a) i) ∧ zA τ (zR τ atSorts a) ((zI κ atNexts a).toInt).toNat = s ∧ zA τ (zR τ atNumbers a) ((zI κ atNexts a).toInt).toNat = n ∧ zA τ (zR τ atWeights a) ((zI κ atNexts a).toInt).toNat = w
theorem ad_n {C : zC} {n0 a : Nat} {κ τ κ1 κ3 κ5 κ7 : zS} {s n w : Int32} (W : zW C n0 τ) (T : zT τ a = 3) (J : adJ κ τ a) (h0 : 0 ≤ (zI κ atNexts a).toInt) (e1 : κ1 = ua τ (zR τ atSorts a) (zI τ atNexts a).toNatClampNeg s) (e3 : κ3 = ua κ1 (zR κ1 atNumbers a) (zI κ1 atNexts a).toNatClampNeg n) (e5 : κ5 = ua κ3 (zR κ3 atWeights a) (zI κ3 atNexts a).toNatClampNeg w) (e7 : κ7 = ui κ5 atNexts a (zI κ5 atNexts a + 1)) : adN κ κ7 a s n w := by
  obtain ⟨F, jI, jR, jL, jl, jA⟩ := J
  have r1 : zR κ1 = zR τ := by rw [e1]; rfl
  have r3 : zR κ3 = zR τ := by rw [e3]; exact r1
  have r5 : zR κ5 = zR τ := by rw [e5]; exact r3
  have r7 : zR κ7 = zR τ := by rw [e7]; exact r5
  have i1 : zI κ1 = zI κ := by rw [e1]; exact jI
  have i3 : zI κ3 = zI κ := by rw [e3]; exact i1
  have i5 : zI κ5 = zI κ := by rw [e5]; exact i3
  have n7 : zN κ7 = zN τ := by rw [e7, e5, e3, e1]; rfl
  rw [jI] at e1
  rw [r1, i1] at e3
  rw [r3, i3] at e5
  rw [i5] at e7
  have o1 : zO κ1 = zO τ := by rw [e1]; rfl
  have o3 : zO κ3 = zO τ := by rw [e3]; exact o1
  have f1 : zF (adF a) τ κ1 := by rw [e1]; exact zF_ua (by rw [atRf_o W T (by decide)]; exact ⟨rfl, Or.inl rfl⟩)
  have f3 : zF (adF a) κ1 κ3 := by rw [e3]; exact zF_ua (by rw [o1, atRf_o W T (by decide)]; exact ⟨rfl, Or.inr (Or.inl rfl)⟩)
  have f5 : zF (adF a) κ3 κ5 := by rw [e5]; exact zF_ua (by rw [o3, atRf_o W T (by decide)]; exact ⟨rfl, Or.inr (Or.inr (Or.inl rfl))⟩)
  have f7 : zF (adF a) κ5 κ7 := by rw [e7]; exact zF_ui ⟨rfl, Or.inr (Or.inr (Or.inr rfl))⟩
  have n12 := atRf_n W T (f := atSorts) (g := atNumbers) (by decide) (by decide) (by decide)
  have n13 := atRf_n W T (f := atSorts) (g := atWeights) (by decide) (by decide) (by decide)
  have n23 := atRf_n W T (f := atNumbers) (g := atWeights) (by decide) (by decide) (by decide)
  have kn : (zI κ atNexts a).toNatClampNeg = ((zI κ atNexts a).toInt).toNat := rfl
  have a7 : zA κ7 = zA κ5 := by rw [e7]; rfl
  have aS : zA κ7 (zR τ atSorts a) = upd (zA τ (zR τ atSorts a)) ((zI κ atNexts a).toInt).toNat s := by
    rw [a7, e5]
    refine (if_neg n13).trans ?_
    show zA κ3 _ = _
    rw [e3]
    refine (if_neg n12).trans ?_
    show zA κ1 _ = _
    rw [e1]
    exact if_pos rfl
  have aN : zA κ7 (zR τ atNumbers a) = upd (zA τ (zR τ atNumbers a)) ((zI κ atNexts a).toInt).toNat n := by
    rw [a7, e5]
    refine (if_neg n23).trans ?_
    show zA κ3 _ = _
    rw [e3]
    refine (if_pos rfl).trans ?_
    have q : zA κ1 (zR τ atNumbers a) = zA τ (zR τ atNumbers a) := by rw [e1]; exact if_neg (fun z => n12 z.symm)
    show upd (zA κ1 (zR τ atNumbers a)) _ _ = _
    rw [q, kn]
  have aW : zA κ7 (zR τ atWeights a) = upd (zA τ (zR τ atWeights a)) ((zI κ atNexts a).toInt).toNat w := by
    rw [a7, e5]
    refine (if_pos rfl).trans ?_
    have q : zA κ3 (zR τ atWeights a) = zA τ (zR τ atWeights a) := by
      rw [e3]
      refine (if_neg (fun z => n23 z.symm)).trans ?_
      show zA κ1 _ = _
      rw [e1]
      exact if_neg (fun z => n13 z.symm)
    show upd (zA κ3 (zR τ atWeights a)) _ _ = _
    rw [q, kn]
  have x7 : zI κ7 atNexts a = zI κ atNexts a + 1 := by rw [e7]; exact if_pos ⟨rfl, rfl⟩
  have jb := jL.2.2
  have t7 : (zI κ7 atNexts a).toInt = (zI κ atNexts a).toInt + 1 := by rw [x7, add_i (by rw [t1i]; omega) (by rw [t1i]; omega), t1i]
  refine ⟨(((F.tr f1).tr f3).tr f5).tr f7, fun f b z => ?_, fun f b z => by rw [r7]; exact jR f b z, ?_, ⟨t7, by rw [t7, r7, n7]; omega⟩, fun i hi => ?_, ?_, ?_, ?_⟩
  · rw [e7]
    exact (if_neg z).trans (congrFun (congrFun i5 f) b)
  · unfold atL
    rw [r7, n7]
    exact jL
  · have g := jA i hi
    rw [r7, aS, aN, aW]
    have ni : i ≠ ((zI κ atNexts a).toInt).toNat := by omega
    exact ⟨(if_neg ni).trans g.1, (if_neg ni).trans g.2.1, (if_neg ni).trans g.2.2⟩
  · rw [r7, aS]; exact if_pos rfl
  · rw [r7, aN]; exact if_pos rfl
  · rw [r7, aW]; exact if_pos rfl
/-- what a longer row costs -/
theorem ad_c {f o n : Nat} (hf : f = 312 ∨ f = 313 ∨ f = 314) (h64 : 64 ≤ o) (ho : o < 20000) (hn : n = 20000 ∨ n = 2 * o) : n + wS f o ≤ wS f n ∧ 4 + wC f o ≤ wC f n := by
  have c : cap9 f = 20000 := by
    rcases hf with rfl | rfl | rfl <;> rfl
  have h0 : f ≠ 0 ∧ f ≠ 605 ∧ f ≠ 800 := by omega
  unfold wS wC
  rw [if_neg h0.1, if_neg h0.2.1, if_neg h0.2.2, if_neg h0.1, if_neg h0.2.1, if_neg h0.2.2, if_neg h0.1, if_neg h0.2.1, if_neg h0.2.2, if_neg h0.1, if_neg h0.2.1, if_neg h0.2.2, c]
  split <;> split <;> omega
theorem At_addNext_c {C : zC} {n0 : Nat} {a0 : Nat} {a1 : Int32} {a2 : Int32} {a3 : Int32} {κ : zS} {Q : Int32 → zS → Prop} (W : zW C n0 κ) (Ta0 : zT κ a0 = 3)  (hp : atL κ a0 ∧ 0 ≤ (zI κ atNexts a0).toInt ∧ (zI κ atNexts a0).toInt ≤ (zN κ (zR κ atNumbers a0))) (h : ∀ (v : Int32) (κ' : zS), ((v = 0 ∧ κ' = κ) ∨ (v = 1 ∧ adN κ κ' a0 a1 a2 a3)) → Q v κ') : zRun C 2 mAt_addNext [.ref a0, .int a1, .int a2, .int a3] κ (oI Q noX) := by
  refine At_addNext_run W Ta0 ?_
  replace W := W.lo (Nat.le_trans W.1.2.1 W.1.2.2) (Nat.le_refl (zn κ))
  unfold w_At_addNext_0
  obtain ⟨H, p0, p1⟩ := hp
  have oN := W.n (ty_atSorts W Ta0)
  have H1 := H.1
  have H2 := H.2
  have hj77 : ∀ (l0 : Nat) (l1 : Int32) (l2 : Int32) (l3 : Int32) (τ : zS), zW C (zn κ) τ → zT τ l0 = 3 → (a0 = l0 ∧ a1 = l1 ∧ a2 = l2 ∧ a3 = l3 ∧ adJ κ τ a0) → w_At_addNext_77 C (zn κ) Q  l0 l1 l2 l3 τ := by
    rintro _ _ _ _ τ77 W77 T77_0 ⟨rfl, rfl, rfl, rfl, j77⟩
    unfold w_At_addNext_77
    refine ⟨?_, ?_⟩
    · have a := j77.2.2.2.1.1.1
      have c := j77.2.2.2.2.1
      rw [j77.2.1, inb_iff]; omega
    intro κ_1 hκ_1
    intro W2
    refine ⟨?_, ?_⟩
    · have c := j77.2.2.2.2.1
      rw [hκ_1]
      show inb (zI τ77 atNexts a0) (zN τ77 (zR τ77 atNumbers a0))
      rw [j77.2.1, inb_iff]; omega
    intro κ_3 hκ_3
    intro W4
    refine ⟨?_, ?_⟩
    · have a := j77.2.2.2.1.1.2
      have c := j77.2.2.2.2.1
      rw [hκ_3, hκ_1]
      show inb (zI τ77 atNexts a0) (zN τ77 (zR τ77 atWeights a0))
      rw [j77.2.1, inb_iff]; omega
    intro κ_5 hκ_5
    intro W6
    intro κ_7 hκ_7
    intro W8
    refine h _ _ ?_
    · exact Or.inr ⟨rfl, ad_n W77 T77_0 j77 p0 hκ_1 hκ_3 hκ_5 hκ_7⟩  -- q4
  refine ⟨fun c9 => ?_, fun c9 => ?_⟩
  · skip
    refine ⟨fun c10 => ?_, fun c10 => ?_⟩
    · skip
      refine hj77 _ _ _ _ _ W ?_ ?_
      · exact Ta0  -- t5
      · rw [lti, ofn_i oN] at c10
        exact ⟨rfl, rfl, rfl, rfl, zF.rf, rfl, fun _ _ _ => rfl, H, by omega, fun _ _ => ⟨rfl, rfl, rfl⟩⟩
    · skip
      intro x11 hx11
      intro T12
      have e20 : (20000 : Int32).toInt = 20000 := rfl
      rw [lti, e20] at c9
      have d9 : (zI κ atNexts a0).toInt = zN κ (zR κ atNumbers a0) := by rw [lti, ofn_i oN] at c10; omega
      have e2 : (zI κ atNexts a0 * 2).toInt = (zI κ atNexts a0).toInt * 2 := by rw [mul_i (by rw [t2i]; omega) (by rw [t2i]; omega), t2i]
      have xb : (x11.toInt = 20000 ∨ x11.toInt = 2 * zN κ (zR κ atNumbers a0)) ∧ x11.toInt ≤ 20000 := by
        rw [hx11]
        split
        · rw [e20]; omega
        · rename_i z
          rw [lti, e20, e2] at z
          rw [e2]; omega
      have kn := cnk (x := x11) (by omega)
      have xn : x11.toNatClampNeg = 20000 ∨ x11.toNatClampNeg = 2 * zN κ (zR κ atNumbers a0) := by omega
      refine Ar_copyOf_c W T12  ?_ (fun r13 κ_14 q15 => ?_)
      · exact ⟨⟨by rw [lei, t0i]; omega, by omega⟩, fun e => by
          have e9 := congrArg Int32.toInt e
          rw [ofn_i oN] at e9
          omega⟩
      intro W16
      intro M17
      intro T18
      refine ⟨?_, ?_⟩
      · rw [q15.1]; exact q15.2.2.1  -- b8
      intro κ_19 hκ_19
      intro W20
      intro T21
      have h19 : κ_19 = uo κ_14 atSorts a0 (zn κ) := by rw [hκ_19, q15.1]
      have k1 := ad_c (f := atSorts) (o := zN κ (zR κ atSorts a0)) (n := x11.toNatClampNeg) (Or.inl rfl) (by omega) (by omega) (by omega)
      obtain ⟨F1, u1, u2, u3, u4, u5, u6⟩ := gr_g (f := atSorts) W (show zr atSorts = some 20 by decide +kernel) (by decide) Ta0 q15.2 h19 k1.1 k1.2
      have T19 := F1.t Ta0 (by decide)
      have rN : zR κ_19 atNumbers a0 = zR κ atNumbers a0 := u2 atNumbers a0 (fun z => absurd z.1 (by decide))
      have nN := u5 _ _ (ty_atNumbers W Ta0)
      have pN := W20.n (ty_atNumbers W20 T19)
      refine Ar_copyOf_c W20 T21  ?_ (fun r22 κ_23 q24 => ?_)
      · exact ⟨⟨by rw [lei, t0i]; omega, by omega⟩, fun e => by
          have e9 := congrArg Int32.toInt e
          rw [ofn_i pN, rN, nN.1] at e9
          omega⟩
      intro W25
      intro M26
      intro T27
      refine ⟨?_, ?_⟩
      · rw [q24.1]; exact q24.2.2.1  -- b10
      intro κ_28 hκ_28
      intro W29
      intro T30
      have h28 : κ_28 = uo κ_23 atNumbers a0 (zn κ_19) := by rw [hκ_28, q24.1]
      have k2 := ad_c (f := atNumbers) (o := zN κ_19 (zR κ_19 atNumbers a0)) (n := x11.toNatClampNeg) (Or.inr (Or.inl rfl)) (by rw [rN, nN.1]; omega) (by rw [rN, nN.1]; omega) (by rw [rN, nN.1]; omega)
      obtain ⟨F2, v1, v2, v3, v4, v5, v6⟩ := gr_g (f := atNumbers) W20 (show zr atNumbers = some 20 by decide +kernel) (by decide) T19 q24.2 h28 k2.1 k2.2
      have T28 := F2.t T19 (by decide)
      have rw1 : zR κ_19 atWeights a0 = zR κ atWeights a0 := u2 atWeights a0 (fun z => absurd z.1 (by decide))
      have rw2 : zR κ_28 atWeights a0 = zR κ_19 atWeights a0 := v2 atWeights a0 (fun z => absurd z.1 (by decide))
      have nw1 := u5 _ _ (ty_atWeights W Ta0)
      have nw2 := v5 _ _ (ty_atWeights W20 T19)
      have ln : zN κ_28 (zR κ_28 atWeights a0) = zN κ (zR κ atNumbers a0) := by rw [rw2, nw2.1, rw1, nw1.1]; omega
      have lN := W29.n (ty_atWeights W29 T28)
      refine Ar_copyOf_c W29 T30  ?_ (fun r31 κ_32 q33 => ?_)
      · exact ⟨⟨by rw [lei, t0i]; omega, by omega⟩, fun e => by
          have e9 := congrArg Int32.toInt e
          rw [ofn_i lN, ln] at e9
          omega⟩
      intro W34
      intro M35
      intro T36
      refine ⟨?_, ?_⟩
      · rw [q33.1]; exact q33.2.2.1  -- b12
      intro κ_37 hκ_37
      intro W38
      have h37 : κ_37 = uo κ_32 atWeights a0 (zn κ_28) := by rw [hκ_37, q33.1]
      have k3 := ad_c (f := atWeights) (o := zN κ_28 (zR κ_28 atWeights a0)) (n := x11.toNatClampNeg) (Or.inr (Or.inr rfl)) (by rw [ln]; omega) (by rw [ln]; omega) (by rw [ln]; omega)
      obtain ⟨F3, w1, w2, w3, w4, w5, w6⟩ := gr_g (f := atWeights) W29 (show zr atWeights = some 20 by decide +kernel) (by decide) T28 q33.2 h37 k3.1 k3.2
      refine hj77 _ _ _ _ _ W38 ?_ ?_
      · exact F3.t T28 (by decide)  -- t13
      · have tS : zT κ_19 (zn κ) = 20 := by rw [← u3]; exact ty_atSorts W20 T19
        have tN : zT κ_28 (zn κ_19) = 20 := by rw [← v3]; exact ty_atNumbers W29 T28
        have rS : zR κ_37 atSorts a0 = zn κ := (w2 atSorts a0 (fun z => absurd z.1 (by decide))).trans ((v2 atSorts a0 (fun z => absurd z.1 (by decide))).trans u3)
        have rM : zR κ_37 atNumbers a0 = zn κ_19 := (w2 atNumbers a0 (fun z => absurd z.1 (by decide))).trans v3
        have nS : zN κ_37 (zn κ) = x11.toNatClampNeg := ((w5 _ _ (F2.t tS (by decide))).1).trans (((v5 _ _ tS).1).trans u4)
        have nM : zN κ_37 (zn κ_19) = x11.toNatClampNeg := ((w5 _ _ tN).1).trans v4
        refine ⟨rfl, rfl, rfl, rfl, ((F1.mono (fun f x z => ⟨z.2, Or.inl z.1⟩)).tr (F2.mono (fun f x z => ⟨z.2, Or.inr (Or.inl z.1)⟩))).tr (F3.mono (fun f x z => ⟨z.2, Or.inr (Or.inr (Or.inl z.1))⟩)), w1.trans (v1.trans u1), fun f b z => ?_, ?_, ?_, fun i hi => ⟨?_, ?_, ?_⟩⟩
        · rw [w2 f b (fun e => z ⟨e.2, Or.inr (Or.inr (Or.inl e.1))⟩), v2 f b (fun e => z ⟨e.2, Or.inr (Or.inl e.1)⟩), u2 f b (fun e => z ⟨e.2, Or.inl e.1⟩)]
        · unfold atL
          rw [rS, rM, w3, nS, nM, w4]
          exact ⟨⟨rfl, rfl⟩, by omega, by omega⟩
        · rw [rM, nM]; omega
        · rw [rS, (w5 _ _ (F2.t tS (by decide))).2, (v5 _ _ tS).2]
          exact u6 i (by omega) (by omega)
        · rw [rM, (w5 _ _ tN).2, v6 i (by omega) (by rw [rN, nN.1]; omega), rN, nN.2]
        · rw [w3, w6 i (by omega) (by rw [ln]; omega), rw2, nw2.2, rw1, nw1.2]
  · skip
    refine h _ _ ?_
    · exact Or.inl ⟨rfl, rfl⟩  -- q15

end
section
set_option maxHeartbeats 1600000
/-! the class: Atlas's lead -/
/-- nexts in order: states and endings that there are, weights not below 0 -/
def nxO (nS nE : Int) (S N Wt : Nat → Int32) (lo hi : Int) : Prop := ∀ i : Nat, lo ≤ (i : Int) → (i : Int) < hi → (S i = 0 → 0 ≤ (N i).toInt ∧ (N i).toInt < nS) ∧ (S i = 1 → 0 ≤ (N i).toInt ∧ (N i).toInt < nE) ∧ 0 ≤ (Wt i).toInt
def wSm (Wt : Nat → Int32) (lo hi : Int) : Int := sgI (fun i => (Wt (lo.toNat + i)).toInt) (hi - lo).toNat
theorem sgI_up {f g : Nat → Int} {j : Nat} {d : Int} : ∀ {n : Nat}, j < n → (∀ i, i < n → i ≠ j → g i = f i) → g j = f j + d → sgI g n = sgI f n + d
  | 0, h, _, _ => absurd h (Nat.not_lt_zero _)
  | n + 1, h, e, ej => by
    show sgI g n + g n = sgI f n + f n + d
    by_cases z : j = n
    · subst z
      rw [sgI_eq (f := g) (g := f) (fun i hi => e i (Nat.lt_succ_of_lt hi) (Nat.ne_of_lt hi)), ej]
      omega
    · rw [sgI_up (f := f) (g := g) (n := n) (by omega) (fun i hi hne => e i (Nat.lt_succ_of_lt hi) hne) ej, e n (Nat.lt_succ_self n) (fun q => z q.symm)]
      omega
/-- a machine at rest -/
def atR (κ : zS) (m : Nat) : Prop := mkI κ m ∧ (0 ≤ (zI κ maShared m).toInt ∧ (zI κ maShared m).toInt ≤ 34) ∧ (mO κ m ∨ zI κ maOutcome m = 1)
def ldA (κ : zS) (a : Nat) : Prop := atM κ a ∧ atL κ a ∧ atH κ a ∧ atR κ (zR κ atMachine a) ∧ (0 ≤ (zI κ atNexts a).toInt ∧ (zI κ atNexts a).toInt ≤ (zN κ (zR κ atNumbers a))) ∧ zR κ atStates a ≠ zR κ atEndings a
def ldX (κ : zS) (a : Nat) (k : Nat) (w : Int) : Prop := (0 ≤ (zA κ (zR κ atFirsts a) k).toInt ∧ (zA κ (zR κ atFirsts a) k).toInt ≤ (zI κ atNexts a).toInt) ∧ nxO ((zI κ hoTotal (zR κ atStates a)).toInt) ((zI κ hoTotal (zR κ atEndings a)).toInt) (zA κ (zR κ atSorts a)) (zA κ (zR κ atNumbers a)) (zA κ (zR κ atWeights a)) ((zA κ (zR κ atFirsts a) k).toInt) ((zI κ atNexts a).toInt) ∧ wSm (zA κ (zR κ atWeights a)) ((zA κ (zR κ atFirsts a) k).toInt) ((zI κ atNexts a).toInt) = w ∧ (zA κ (zR κ atChooses a) k ≠ 0 → ∀ i : Nat, (zA κ (zR κ atFirsts a) k).toInt ≤ (i : Int) → (i : Int) < (zI κ atNexts a).toInt → (zA κ (zR κ atWeights a) i).toInt = 1)
/-- what may be touched -/
abbrev ldF (κ : zS) (a : Nat) : Nat → Nat → Prop := fun f x => adF a f x ∨ x = zR κ atMachine a ∨ x = zR κ atStates a ∨ x = zR κ atEndings a
/-- nexts below a place stay, stores only grow -/
def ldP (κ τ : zS) (a : Nat) (lo : Int) : Prop := zF (ldF κ a) κ τ ∧ (∀ i : Nat, (i : Int) < lo → zA τ (zR τ atSorts a) i = zA κ (zR κ atSorts a) i ∧ zA τ (zR τ atNumbers a) i = zA κ (zR κ atNumbers a) i ∧ zA τ (zR τ atWeights a) i = zA κ (zR κ atWeights a) i) ∧ ((zI κ hoTotal (zR κ atStates a)).toInt ≤ (zI τ hoTotal (zR κ atStates a)).toInt ∧ (zI κ hoTotal (zR κ atEndings a)).toInt ≤ (zI τ hoTotal (zR κ atEndings a)).toInt) ∧ mG κ τ (zR κ atMachine a) ∧ zI τ maShared (zR κ atMachine a) = zI κ maShared (zR κ atMachine a)
/-- Atlas's own objects differ -/
theorem at_ne {C : zC} {n0 a : Nat} {κ : zS} (W : zW C n0 κ) (T : zT κ a = 3) : (zR κ atMachine a ≠ a ∧ zR κ atStates a ≠ a ∧ zR κ atEndings a ≠ a) ∧ zR κ atMachine a ≠ zR κ atStates a ∧ zR κ atMachine a ≠ zR κ atEndings a := by
  have m := ty_atMachine W T
  have s := ty_atStates W T
  have e := ty_atEndings W T
  refine ⟨⟨fun z => ?_, fun z => ?_, fun z => ?_⟩, fun z => ?_, fun z => ?_⟩
  · rw [z, T] at m; exact absurd m (by decide)
  · rw [z, T] at s; exact absurd s (by decide)
  · rw [z, T] at e; exact absurd e (by decide)
  · rw [z, s] at m; exact absurd m (by decide)
  · rw [z, e] at m; exact absurd m (by decide)
/-- what stays of the atlas under such a frame -/
theorem ld_r {C : zC} {n0 a : Nat} {κ τ : zS} (W : zW C n0 κ) (T : zT κ a = 3) (Z : zF (ldF κ a) κ τ) : (∀ f, f < atSorts ∨ atNexts < f → zR τ f a = zR κ f a) ∧ (∀ f, f < atSorts ∨ atNexts < f → zI τ f a = zI κ f a) ∧ (∀ f, f ∈ atRf → f < atSorts → zA τ (zR τ f a) = zA κ (zR κ f a) ∧ zN τ (zR τ f a) = zN κ (zR κ f a)) := by
  have n := at_ne W T
  have nf : ∀ f, f < atSorts ∨ atNexts < f → ¬ ldF κ a f a := fun f h z => by
    rcases z with z | z | z | z
    · have q := z.2
      have e1 : (atSorts : Nat) = 312 := rfl
      have e2 : (atNumbers : Nat) = 313 := rfl
      have e3 : (atWeights : Nat) = 314 := rfl
      have e4 : (atNexts : Nat) = 315 := rfl
      omega
    · exact n.1.1 z.symm
    · exact n.1.2.1 z.symm
    · exact n.1.2.2 z.symm
  refine ⟨fun f h => Z.r (nf f h), fun f h => Z.i (nf f h), fun f hf h => ?_⟩
  obtain ⟨⟨t, h1, h2⟩, h3⟩ := atRf_r f hf
  have T9 : zT κ a = f / 100 := T.trans h3.symm
  have ty := W.r h1 T9
  refine ⟨(Z.row W h1 h2 T9 (nf f (Or.inl h))).1, ?_⟩
  rw [Z.r (nf f (Or.inl h))]
  have t1 : zT κ (zR κ f a) = (t - 1) + 1 := by omega
  exact Z.l t1
theorem ldP.rf {κ : zS} {a : Nat} {lo : Int} : ldP κ κ a lo := ⟨zF.rf, fun _ _ => ⟨rfl, rfl, rfl⟩, ⟨Int.le_refl _, Int.le_refl _⟩, mG.rf, rfl⟩
theorem ldP.tr {C : zC} {n0 a : Nat} {κ τ σ : zS} {lo : Int} (W : zW C n0 κ) (T : zT κ a = 3) (h : ldP κ τ a lo) (g : ldP τ σ a lo) : ldP κ σ a lo := by
  have r := (ld_r W T h.1).1
  have rm : zR τ atMachine a = zR κ atMachine a := r atMachine (by decide)
  have rs : zR τ atStates a = zR κ atStates a := r atStates (by decide)
  have re : zR τ atEndings a = zR κ atEndings a := r atEndings (by decide)
  obtain ⟨z1, z2, z3, z4, z5⟩ := g
  have z1 : zF (ldF κ a) τ σ := z1.mono (fun f x q => by
    rcases q with q | q | q | q
    · exact Or.inl q
    · exact Or.inr (Or.inl (q.trans rm))
    · exact Or.inr (Or.inr (Or.inl (q.trans rs)))
    · exact Or.inr (Or.inr (Or.inr (q.trans re))))
  rw [rs, re] at z3
  rw [rm] at z4 z5
  refine ⟨h.1.tr z1, fun i hi => ?_, ⟨Int.le_trans h.2.2.1.1 z3.1, Int.le_trans h.2.2.1.2 z3.2⟩, h.2.2.2.1.tr z4, z5.trans h.2.2.2.2⟩
  obtain ⟨a1, a2, a3⟩ := h.2.1 i hi
  obtain ⟨b1, b2, b3⟩ := z2 i hi
  exact ⟨b1.trans a1, b2.trans a2, b3.trans a3⟩
/-- a Hoard that isn't touched -/
theorem hoI_zF {C : zC} {n0 h M D S : Nat} {F : Nat → Nat → Prop} {κ τ : zS} (Z : zF F κ τ) (W : zW C n0 κ) (T : zT κ h = 6) (hF : ∀ f, ¬ F f h) (H : hoI κ h M D S) : hoI τ h M D S := by
  refine hoI_f H (fun f _ => Z.i (hF f)) (fun f hf => ⟨Z.r (hF f), ?_, ?_⟩)
  · have q : (zr f = some 20 ∧ f / 100 = 6) := by rcases hf with rfl | rfl | rfl <;> decide +kernel
    have r := (Z.row W q.1 (by decide) (T.trans q.2.symm) (hF f)).1
    rw [Z.r (hF f)] at r
    exact r
  · have q : (zr f = some 20 ∧ f / 100 = 6) := by rcases hf with rfl | rfl | rfl <;> decide +kernel
    exact Z.l (W.r q.1 (T.trans q.2.symm))
/-- a machine that isn't touched -/
theorem mkI_zF {C : zC} {n0 m : Nat} {F : Nat → Nat → Prop} {κ τ : zS} (Z : zF F κ τ) (W : zW C n0 κ) (T : zT κ m = 7) (hF : ∀ f, ¬ F f m) (hC : ∀ f, ¬ F f (zR κ maCode m)) (H : mkI κ m) : mkI τ m := by
  refine ⟨?_, ?_⟩
  · unfold maL
    rw [Z.r (hF maMemory), Z.r (hF maStack), Z.r (hF maWorked), Z.r (hF maValues), Z.r (hF maWeights), Z.l (ty_maMemory W T), Z.l (ty_maStack W T), Z.l (ty_maWorked W T), Z.l (ty_maValues W T), Z.l (ty_maWeights W T)]
    exact H.1
  · rw [Z.r (hF maCode)]
    exact coI_zF Z W (ty_maCode W T) hC H.2
theorem atR_zF {C : zC} {n0 m : Nat} {F : Nat → Nat → Prop} {κ τ : zS} (Z : zF F κ τ) (W : zW C n0 κ) (T : zT κ m = 7) (hF : ∀ f, ¬ F f m) (hC : ∀ f, ¬ F f (zR κ maCode m)) (H : atR κ m) : atR τ m := by
  refine ⟨mkI_zF Z W T hF hC H.1, ?_, ?_⟩
  · rw [Z.i (hF maShared)]; exact H.2.1
  · unfold mO
    rw [Z.i (hF maShared), Z.i (hF maOpen), Z.i (hF maFrame), Z.i (hF maOutcome)]
    exact H.2.2
/-- one weight more in the sum -/
theorem wSm_up {Wt Wt' : Nat → Int32} {lo hi : Int} {i : Nat} {d : Int} (h0 : 0 ≤ lo) (h1 : lo ≤ (i : Int)) (h2 : (i : Int) < hi) (e : ∀ j, j ≠ i → Wt' j = Wt j) (ei : (Wt' i).toInt = (Wt i).toInt + d) : wSm Wt' lo hi = wSm Wt lo hi + d := by
  unfold wSm
  have q : lo.toNat + (i - lo.toNat) = i := by omega
  refine sgI_up (j := i - lo.toNat) (by omega) (fun j _ hj => ?_) ?_
  · show (Wt' (lo.toNat + j)).toInt = (Wt (lo.toNat + j)).toInt
    rw [e _ (by omega)]
  · show (Wt' (lo.toNat + (i - lo.toNat))).toInt = (Wt (lo.toNat + (i - lo.toNat))).toInt + d
    rw [q]; exact ei
theorem wSm_ex {Wt Wt' : Nat → Int32} {lo hi : Int} (h0 : 0 ≤ lo) (h1 : lo ≤ hi) (e : ∀ j : Nat, (j : Int) < hi → Wt' j = Wt j) : wSm Wt' lo (hi + 1) = wSm Wt lo hi + (Wt' hi.toNat).toInt := by
  unfold wSm
  have q : (hi + 1 - lo).toNat = (hi - lo).toNat + 1 := by omega
  rw [q]
  show sgI _ (hi - lo).toNat + (Wt' (lo.toNat + (hi - lo).toNat)).toInt = _
  have q2 : lo.toNat + (hi - lo).toNat = hi.toNat := by omega
  rw [q2]
  congr 1
  refine sgI_eq (fun j hj => ?_)
  rw [e _ (by omega)]
theorem wSm_eq {Wt Wt' : Nat → Int32} {lo hi : Int} (h0 : 0 ≤ lo) (e : ∀ j : Nat, lo ≤ (j : Int) → (j : Int) < hi → Wt' j = Wt j) : wSm Wt' lo hi = wSm Wt lo hi := by
  unfold wSm
  refine sgI_eq (fun j hj => ?_)
  rw [e _ (by omega) (by omega)]
/-- the machine and the stores alone were touched -/
theorem ld_0 {C : zC} {n0 a k : Nat} {κ τ : zS} {w lo : Int} (W : zW C n0 κ) (T : zT κ a = 3) (A : ldA κ a) (X : ldX κ a k w) (Z : zF (fun _ x => x = zR κ atMachine a ∨ x = zR κ atStates a ∨ x = zR κ atEndings a) κ τ) (H1 : hoI τ (zR κ atStates a) 1000 142 2048) (H2 : hoI τ (zR κ atEndings a) 1000 35 2048) (R : atR τ (zR κ atMachine a)) (g1 : (zI κ hoTotal (zR κ atStates a)).toInt ≤ (zI τ hoTotal (zR κ atStates a)).toInt) (g2 : (zI κ hoTotal (zR κ atEndings a)).toInt ≤ (zI τ hoTotal (zR κ atEndings a)).toInt) (G : mG κ τ (zR κ atMachine a)) (sh : zI τ maShared (zR κ atMachine a) = zI κ maShared (zR κ atMachine a)) : ldA τ a ∧ ldP κ τ a lo ∧ ldX τ a k w := by
  have n := at_ne W T
  have nf : ∀ f, ¬ (fun _ x => x = zR κ atMachine a ∨ x = zR κ atStates a ∨ x = zR κ atEndings a : Nat → Nat → Prop) f a := fun f z => by
    rcases z with z | z | z
    · exact n.1.1 z.symm
    · exact n.1.2.1 z.symm
    · exact n.1.2.2 z.symm
  have r : ∀ f, zR τ f a = zR κ f a := fun f => Z.r (nf f)
  have i : ∀ f, zI τ f a = zI κ f a := fun f => Z.i (nf f)
  have rw9 : ∀ f, f ∈ atRf → zA τ (zR κ f a) = zA κ (zR κ f a) ∧ zN τ (zR κ f a) = zN κ (zR κ f a) := fun f hf => by
    obtain ⟨⟨t, h1, h2⟩, h3⟩ := atRf_r f hf
    have T9 : zT κ a = f / 100 := T.trans h3.symm
    have ty := W.r h1 T9
    have q := (Z.row W h1 h2 T9 (nf f)).1
    rw [r f] at q
    have t1 : zT κ (zR κ f a) = (t - 1) + 1 := by omega
    exact ⟨q, Z.l t1⟩
  obtain ⟨A1, A2, A3, A4, A5, A6⟩ := A
  obtain ⟨X1, X2, X3, X4⟩ := X
  refine ⟨⟨?_, ?_, ⟨?_, ?_⟩, ?_, ?_, ?_⟩, ⟨Z.mono (fun f x q => Or.inr q), fun j _ => ?_, ⟨g1, g2⟩, G, sh⟩, ?_⟩
  · unfold atM
    rw [r, r, r, r, r, r, (rw9 atFirsts (by decide)).2, (rw9 atTotals (by decide)).2, (rw9 atGains (by decide)).2, (rw9 atPlan (by decide)).2, (rw9 atChooses (by decide)).2, (rw9 atHopeless (by decide)).2]
    exact A1
  · unfold atL
    rw [r, r, r, (rw9 atSorts (by decide)).2, (rw9 atNumbers (by decide)).2, (rw9 atWeights (by decide)).2]
    exact A2
  · rw [r]; exact H1
  · rw [r]; exact H2
  · rw [r]; exact R
  · rw [i, r, (rw9 atNumbers (by decide)).2]; exact A5
  · rw [r, r]; exact A6
  · rw [r, r, r, (rw9 atSorts (by decide)).1, (rw9 atNumbers (by decide)).1, (rw9 atWeights (by decide)).1]
    exact ⟨rfl, rfl, rfl⟩
  · unfold ldX
    rw [r, r, r, r, r, r, r, i, (rw9 atSorts (by decide)).1, (rw9 atNumbers (by decide)).1, (rw9 atWeights (by decide)).1, (rw9 atFirsts (by decide)).1, (rw9 atChooses (by decide)).1]
    refine ⟨X1, fun j h1 h2 => ?_, X3, X4⟩
    obtain ⟨b1, b2, b3⟩ := X2 j h1 h2
    exact ⟨fun z => ⟨(b1 z).1, Int.lt_of_lt_of_le (b1 z).2 g1⟩, fun z => ⟨(b2 z).1, Int.lt_of_lt_of_le (b2 z).2 g2⟩, b3⟩
/-- a frame of the nexts' rows alone -/
theorem ld_ad {C : zC} {n0 a : Nat} {κ τ : zS} (W : zW C n0 κ) (T : zT κ a = 3) (A : ldA κ a) (Z : zF (adF a) κ τ) (hL : atL τ a) (hb : 0 ≤ (zI τ atNexts a).toInt ∧ (zI τ atNexts a).toInt ≤ (zN τ (zR τ atNumbers a))) : ldA τ a ∧ zF (ldF κ a) κ τ ∧ (∀ x f, x ≠ a → zI τ f x = zI κ f x) ∧ mG κ τ (zR κ atMachine a) ∧ (∀ f, f < atSorts ∨ atNexts < f → zR τ f a = zR κ f a) ∧ (∀ f, f ∈ atRf → f < atSorts → zA τ (zR τ f a) = zA κ (zR κ f a) ∧ zN τ (zR τ f a) = zN κ (zR κ f a)) := by
  have n := at_ne W T
  have nx : ∀ x, x ≠ a → ∀ f, ¬ adF a f x := fun x hx f z => hx z.1
  have Z2 : zF (ldF κ a) κ τ := Z.mono (fun f x q => Or.inl q)
  obtain ⟨r, i, q⟩ := ld_r W T Z2
  have Tm := ty_atMachine W T
  have Tc := ty_maCode W Tm
  have nc : zR κ maCode (zR κ atMachine a) ≠ a := fun z => by rw [z, T] at Tc; exact absurd Tc (by decide)
  obtain ⟨A1, A2, A3, A4, A5, A6⟩ := A
  refine ⟨⟨?_, hL, ⟨?_, ?_⟩, ?_, hb, ?_⟩, Z2, fun x f hx => Z.i (nx x hx f), fun f hf => ⟨Z.i (nx _ n.1.1 f), fun e => ⟨Z.r (nx _ n.1.1 f), ?_⟩⟩, r, q⟩
  · unfold atM
    rw [(q atFirsts (by decide) (by decide)).2, (q atTotals (by decide) (by decide)).2, (q atGains (by decide) (by decide)).2, (q atPlan (by decide) (by decide)).2, (q atChooses (by decide) (by decide)).2, (q atHopeless (by decide) (by decide)).2]
    exact A1
  · rw [r atStates (by decide)]; exact hoI_zF Z W (ty_atStates W T) (nx _ n.1.2.1) A3.1
  · rw [r atEndings (by decide)]; exact hoI_zF Z W (ty_atEndings W T) (nx _ n.1.2.2) A3.2
  · rw [r atMachine (by decide)]; exact atR_zF Z W Tm (nx _ n.1.1) (nx _ nc) A4
  · rw [r atStates (by decide), r atEndings (by decide)]; exact A6
  · have z := (Z.row W (show zr maWeights = some 20 by decide +kernel) (by decide) Tm (nx _ n.1.1 maWeights)).1
    rw [e]
    rw [Z.r (nx _ n.1.1 maWeights)] at z
    exact z
/-- a weight grows -/
theorem ld_w {C : zC} {n0 a k i : Nat} {κ τ : zS} {w : Int} {d : Int32} (W : zW C n0 κ) (T : zT κ a = 3) (A : ldA κ a) (X : ldX κ a k w) (hc : zA κ (zR κ atChooses a) k = 0) (h1 : (zA κ (zR κ atFirsts a) k).toInt ≤ (i : Int)) (h2 : (i : Int) < (zI κ atNexts a).toInt) (d0 : 0 ≤ d.toInt) (hw : w + d.toInt ≤ 8000000) (e : τ = ua κ (zR κ atWeights a) i (zA κ (zR κ atWeights a) i + d)) : ldA τ a ∧ ldP κ τ a ((zA κ (zR κ atFirsts a) k).toInt) ∧ ldX τ a k (w + d.toInt) := by
  have Z : zF (adF a) κ τ := by rw [e]; exact zF_ua (by rw [atRf_o W T (by decide)]; exact ⟨rfl, Or.inr (Or.inr (Or.inl rfl))⟩)
  have R : zR τ = zR κ := by rw [e]; rfl
  have I : zI τ = zI κ := by rw [e]; rfl
  have N : zN τ = zN κ := by rw [e]; rfl
  have n13 := atRf_n W T (f := atSorts) (g := atWeights) (by decide) (by decide) (by decide)
  have n23 := atRf_n W T (f := atNumbers) (g := atWeights) (by decide) (by decide) (by decide)
  have aS : zA τ (zR κ atSorts a) = zA κ (zR κ atSorts a) := by rw [e]; exact if_neg n13
  have aN : zA τ (zR κ atNumbers a) = zA κ (zR κ atNumbers a) := by rw [e]; exact if_neg n23
  have aW : zA τ (zR κ atWeights a) = upd (zA κ (zR κ atWeights a)) i (zA κ (zR κ atWeights a) i + d) := by rw [e]; exact if_pos rfl
  obtain ⟨B, Z2, o, G, r, q⟩ := ld_ad W T A Z (by unfold atL; rw [R, N]; exact A.2.1) (by rw [I, R, N]; exact A.2.2.2.2.1)
  have qF := (q atFirsts (by decide) (by decide)).1
  have qC := (q atChooses (by decide) (by decide)).1
  rw [R] at qF qC
  obtain ⟨X1, X2, X3, X4⟩ := X
  have bi := (X2 i h1 h2).2.2
  have wb : (zA κ (zR κ atWeights a) i).toInt ≤ w := by
    rw [← X3]
    unfold wSm
    have q9 : ((zA κ (zR κ atFirsts a) k).toInt).toNat + (i - ((zA κ (zR κ atFirsts a) k).toInt).toNat) = i := by omega
    have le : ∀ (n j : Nat), j < n → (∀ x, x < n → 0 ≤ (zA κ (zR κ atWeights a) (((zA κ (zR κ atFirsts a) k).toInt).toNat + x)).toInt) → (zA κ (zR κ atWeights a) (((zA κ (zR κ atFirsts a) k).toInt).toNat + j)).toInt ≤ sgI (fun x => (zA κ (zR κ atWeights a) (((zA κ (zR κ atFirsts a) k).toInt).toNat + x)).toInt) n := by
      intro n
      induction n with
      | zero => intro j h; exact absurd h (Nat.not_lt_zero _)
      | succ n ih =>
        intro j hj hp
        show _ ≤ sgI _ n + (zA κ (zR κ atWeights a) (((zA κ (zR κ atFirsts a) k).toInt).toNat + n)).toInt
        by_cases z : j = n
        · subst z
          have s0 : ∀ m, (∀ x, x < m → 0 ≤ (zA κ (zR κ atWeights a) (((zA κ (zR κ atFirsts a) k).toInt).toNat + x)).toInt) → 0 ≤ sgI (fun x => (zA κ (zR κ atWeights a) (((zA κ (zR κ atFirsts a) k).toInt).toNat + x)).toInt) m := by
            intro m
            induction m with
            | zero => intro _; exact Int.le_refl _
            | succ m im =>
              intro hm
              have a1 := im (fun x hx => hm x (Nat.lt_succ_of_lt hx))
              have a2 := hm m (Nat.lt_succ_self m)
              show 0 ≤ sgI _ m + (zA κ (zR κ atWeights a) (((zA κ (zR κ atFirsts a) k).toInt).toNat + m)).toInt
              omega
          have := s0 j (fun x hx => hp x (Nat.lt_succ_of_lt hx))
          omega
        · have a1 := ih j (by omega) (fun x hx => hp x (Nat.lt_succ_of_lt hx))
          have a2 := hp n (Nat.lt_succ_self n)
          omega
    have := le (((zI κ atNexts a).toInt) - ((zA κ (zR κ atFirsts a) k).toInt)).toNat (i - ((zA κ (zR κ atFirsts a) k).toInt).toNat) (by omega) (fun x hx => (X2 _ (by omega) (by omega)).2.2)
    rw [q9] at this
    exact this
  have ei : (zA κ (zR κ atWeights a) i + d).toInt = (zA κ (zR κ atWeights a) i).toInt + d.toInt := add_i (by omega) (by omega)
  refine ⟨B, ⟨Z2, fun j hj => ?_, ⟨?_, ?_⟩, G, ?_⟩, ?_⟩
  · rw [R, aS, aN, aW]
    exact ⟨rfl, rfl, if_neg (by omega)⟩
  · rw [I]; exact Int.le_refl _
  · rw [I]; exact Int.le_refl _
  · rw [I]
  · unfold ldX
    rw [R, I, aS, aN, aW, qF, qC]
    refine ⟨X1, fun j h3 h4 => ?_, ?_, fun z => absurd hc z⟩
    · obtain ⟨b1, b2, b3⟩ := X2 j h3 h4
      refine ⟨b1, b2, ?_⟩
      show 0 ≤ Int32.toInt (if j = i then zA κ (zR κ atWeights a) i + d else zA κ (zR κ atWeights a) j)
      by_cases z : j = i
      · rw [if_pos z, ei]; omega
      · rw [if_neg z]; exact b3
    · rw [wSm_up (Wt := zA κ (zR κ atWeights a)) (Wt' := upd (zA κ (zR κ atWeights a)) i (zA κ (zR κ atWeights a) i + d)) X1.1 h1 h2 (fun j hj => if_neg hj) (d := d.toInt) (by
        show Int32.toInt (if i = i then zA κ (zR κ atWeights a) i + d else _) = _
        rw [if_pos rfl, ei]), X3]
/-- a next more -/
theorem ld_n {C : zC} {n0 a k : Nat} {κ τ : zS} {w : Int} {s n d : Int32} (W : zW C n0 κ) (T : zT κ a = 3) (A : ldA κ a) (X : ldX κ a k w) (hs : (s = 0 → 0 ≤ n.toInt ∧ n.toInt < (zI κ hoTotal (zR κ atStates a)).toInt) ∧ (s = 1 → 0 ≤ n.toInt ∧ n.toInt < (zI κ hoTotal (zR κ atEndings a)).toInt)) (d0 : 0 ≤ d.toInt) (h1 : zA κ (zR κ atChooses a) k ≠ 0 → d.toInt = 1) (J : adN κ τ a s n d) : ldA τ a ∧ ldP κ τ a ((zA κ (zR κ atFirsts a) k).toInt) ∧ ldX τ a k (w + d.toInt) := by
  obtain ⟨Z, jI, jR, jL, ⟨jn, jb⟩, jA, jS, jN, jW⟩ := J
  have nb0 := A.2.2.2.2.1
  obtain ⟨B, Z2, o, G, r, q⟩ := ld_ad W T A Z jL ⟨by omega, jb⟩
  have nn := at_ne W T
  have qF := (q atFirsts (by decide) (by decide)).1
  have qC := (q atChooses (by decide) (by decide)).1
  obtain ⟨X1, X2, X3, X4⟩ := X
  have oS := o (zR κ atStates a) hoTotal nn.1.2.1
  have oE := o (zR κ atEndings a) hoTotal nn.1.2.2
  refine ⟨B, ⟨Z2, fun j hj => jA j (by omega), ⟨by rw [oS]; exact Int.le_refl _, by rw [oE]; exact Int.le_refl _⟩, G, o _ _ nn.1.1⟩, ?_⟩
  unfold ldX
  rw [qF, qC, r atStates (by decide), r atEndings (by decide), oS, oE, jn]
  refine ⟨⟨X1.1, by omega⟩, fun j h3 h4 => ?_, ?_, fun z j h3 h4 => ?_⟩
  · by_cases z : (j : Int) < (zI κ atNexts a).toInt
    · obtain ⟨c1, c2, c3⟩ := jA j z
      rw [c1, c2, c3]
      exact X2 j h3 z
    · have ej : j = ((zI κ atNexts a).toInt).toNat := by omega
      rw [ej, jS, jN, jW]
      exact ⟨hs.1, hs.2, d0⟩
  · rw [wSm_ex (Wt := zA κ (zR κ atWeights a)) X1.1 X1.2 (fun j hj => (jA j hj).2.2), X3, jW]
  · by_cases y : (j : Int) < (zI κ atNexts a).toInt
    · rw [(jA j y).2.2]
      exact X4 z j h3 y
    · have ej : j = ((zI κ atNexts a).toInt).toNat := by omega
      rw [ej, jW]
      exact h1 z
/-- the machine's memory was written -/
theorem ld_m {C : zC} {n0 a k : Nat} {κ τ : zS} {w lo : Int} (W : zW C n0 κ) (T : zT κ a = 3) (A : ldA κ a) (X : ldX κ a k w) (F : mF κ τ (zR κ atMachine a)) (S : mS κ τ (zR κ atMachine a)) (I : zI τ = zI κ) : ldA τ a ∧ ldP κ τ a lo ∧ ldX τ a k w := by
  have n := at_ne W T
  have Tm := ty_atMachine W T
  refine ld_0 W T A X (F.1.mono (fun f x q => Or.inl q)) (hoI_zF F.1 W (ty_atStates W T) (fun f e => n.2.1 e.symm) A.2.2.1.1) (hoI_zF F.1 W (ty_atEndings W T) (fun f e => n.2.2 e.symm) A.2.2.1.2) ⟨(mkI_f F W Tm A.2.2.2.1.1).1, by rw [I]; exact A.2.2.2.1.2.1, ?_⟩ (by rw [I]; exact Int.le_refl _) (by rw [I]; exact Int.le_refl _) S.2 (by rw [I])
  unfold mO
  rw [I]
  exact A.2.2.2.1.2.2
/-- a store was entered -/
theorem ld_h {C : zC} {n0 a k h : Nat} {κ τ : zS} {w lo : Int} (W : zW C n0 κ) (T : zT κ a = 3) (A : ldA κ a) (X : ldX κ a k w) (hh : h = zR κ atStates a ∨ h = zR κ atEndings a) (Z : zF (hoF h) κ τ) (H1 : hoI τ (zR κ atStates a) 1000 142 2048) (H2 : hoI τ (zR κ atEndings a) 1000 35 2048) (g1 : (zI κ hoTotal (zR κ atStates a)).toInt ≤ (zI τ hoTotal (zR κ atStates a)).toInt) (g2 : (zI κ hoTotal (zR κ atEndings a)).toInt ≤ (zI τ hoTotal (zR κ atEndings a)).toInt) : ldA τ a ∧ ldP κ τ a lo ∧ ldX τ a k w := by
  have n := at_ne W T
  have Tm := ty_atMachine W T
  have Tc := ty_maCode W Tm
  have Th : zT κ h = 6 := by
    rcases hh with rfl | rfl
    · exact ty_atStates W T
    · exact ty_atEndings W T
  have nm : ∀ f, ¬ hoF h f (zR κ atMachine a) := fun f e => by
    have e := e.1
    rw [e, Th] at Tm
    exact absurd Tm (by decide)
  have nc : ∀ f, ¬ hoF h f (zR κ maCode (zR κ atMachine a)) := fun f e => by
    have e := e.1
    rw [e, Th] at Tc
    exact absurd Tc (by decide)
  refine ld_0 W T A X (Z.mono (fun f x q => ?_)) H1 H2 (atR_zF Z W Tm nm nc A.2.2.2.1) g1 g2 (fun f _ => ⟨Z.i (nm f), fun e => ⟨Z.r (nm f), ?_⟩⟩) (Z.i (nm _))
  · rcases hh with rfl | rfl
    · exact Or.inr (Or.inl q.1)
    · exact Or.inr (Or.inr q.1)
  · have z := (Z.row W (show zr maWeights = some 20 by decide +kernel) (by decide) Tm (nm maWeights)).1
    rw [e]
    rw [Z.r (nm maWeights)] at z
    exact z
theorem en_le {κ τ : zS} {h : Nat} {l m v : Int32} (e : enS κ τ h l m v) : (zI κ hoTotal h).toInt ≤ (zI τ hoTotal h).toInt := by
  rcases e with e | e
  · rw [e]; exact Int.le_refl _
  · have := e.1; omega
theorem ld_s {C : zC} {n0 a k : Nat} {κ τ : zS} {w lo : Int} {l m v : Int32} (W : zW C n0 κ) (T : zT κ a = 3) (A : ldA κ a) (X : ldX κ a k w) (q : zF (hoF (zR κ atStates a)) κ τ ∧ hoI τ (zR κ atStates a) 1000 142 2048 ∧ -1 ≤ v.toInt ∧ v.toInt < (zI τ hoTotal (zR κ atStates a)).toInt ∧ enS κ τ (zR κ atStates a) l m v) : ldA τ a ∧ ldP κ τ a lo ∧ ldX τ a k w := by
  have ne : ∀ f, ¬ hoF (zR κ atStates a) f (zR κ atEndings a) := fun f e => A.2.2.2.2.2 e.1.symm
  exact ld_h W T A X (Or.inl rfl) q.1 q.2.1 (hoI_zF q.1 W (ty_atEndings W T) ne A.2.2.1.2) (en_le q.2.2.2.2) (by rw [q.1.i (ne hoTotal)]; exact Int.le_refl _)
theorem ld_e {C : zC} {n0 a k : Nat} {κ τ : zS} {w lo : Int} {l m v : Int32} (W : zW C n0 κ) (T : zT κ a = 3) (A : ldA κ a) (X : ldX κ a k w) (q : zF (hoF (zR κ atEndings a)) κ τ ∧ hoI τ (zR κ atEndings a) 1000 35 2048 ∧ -1 ≤ v.toInt ∧ v.toInt < (zI τ hoTotal (zR κ atEndings a)).toInt ∧ enS κ τ (zR κ atEndings a) l m v) : ldA τ a ∧ ldP κ τ a lo ∧ ldX τ a k w := by
  have ne : ∀ f, ¬ hoF (zR κ atEndings a) f (zR κ atStates a) := fun f e => A.2.2.2.2.2 e.1
  exact ld_h W T A X (Or.inr rfl) q.1 (hoI_zF q.1 W (ty_atStates W T) ne A.2.2.1.1) q.2.1 (by rw [q.1.i (ne hoTotal)]; exact Int.le_refl _) (en_le q.2.2.2.2)
/-- how long a state's row is -/
theorem mO_l {κ : zS} {m : Nat} (O : mO κ m) : 0 ≤ (zI κ maShared m + zI κ maOpen m * 9).toInt := by
  obtain ⟨s, o, f⟩ := O
  have e9 : (9 : Int32).toInt = 9 := rfl
  have d2 : (zI κ maOpen m * 9).toInt = (zI κ maOpen m).toInt * 9 := by rw [mul_i (by rw [e9]; omega) (by rw [e9]; omega), e9]
  rw [add_i (by rw [d2]; omega) (by rw [d2]; omega), d2]
  omega
/-- no more states than there may be -/
def stB (κ τ : zS) (a : Nat) (m : Int32) : Prop := (zI κ hoTotal (zR κ atStates a)).toInt ≤ m.toInt → (zI τ hoTotal (zR τ atStates a)).toInt ≤ m.toInt
theorem At_lead_c {C : zC} {n0 : Nat} {a0 : Nat} {a1 : Int32} {a2 : Int32} {a3 : Int32} {κ : zS} {Q : Int32 → zS → Prop} (W : zW C n0 κ) (Ta0 : zT κ a0 = 3) (w : Int) (hp : ldA κ a0 ∧ ldX κ a0 a1.toNatClampNeg w ∧ (0 ≤ a1.toInt ∧ a1.toInt < 1000) ∧ (0 ≤ a2.toInt ∧ w + a2.toInt ≤ 8000000) ∧ (zA κ (zR κ atChooses a0) a1.toNatClampNeg ≠ 0 → a2.toInt = 1)) (h : ∀ (v : Int32) (κ' : zS), (ldA κ' a0 ∧ ldP κ κ' a0 ((zA κ (zR κ atFirsts a0) a1.toNatClampNeg).toInt) ∧ nb v ∧ (v ≠ 0 → ldX κ' a0 a1.toNatClampNeg (w + a2.toInt)) ∧ stB κ κ' a0 a3) → Q v κ') : zRun C 3 mAt_lead [.ref a0, .int a1, .int a2, .int a3] κ (oI Q noX) := by
  refine At_lead_run W Ta0 ?_
  replace W := W.lo (Nat.le_trans W.1.2.1 W.1.2.2) (Nat.le_refl (zn κ))
  unfold w_At_lead_0
  have pk := hp.2.2.1
  have hj195 : ∀ (l0 : Nat) (l2 : Int32) (l4 : Int32) (l5 : Int32) (τ : zS), zW C (zn κ) τ → zT τ l0 = 3 → (a0 = l0 ∧ a2 = l2 ∧ ldA τ a0 ∧ ldP κ τ a0 ((zA κ (zR κ atFirsts a0) a1.toNatClampNeg).toInt) ∧ ldX τ a0 a1.toNatClampNeg w ∧ ((l4 = 0 → 0 ≤ l5.toInt ∧ l5.toInt < (zI τ hoTotal (zR τ atStates a0)).toInt) ∧ (l4 = 1 → 0 ≤ l5.toInt ∧ l5.toInt < (zI τ hoTotal (zR τ atEndings a0)).toInt)) ∧ stB κ τ a0 a3) → w_At_lead_195 C (zn κ) Q  l0 l2 l4 l5 τ := by
    rintro _ _ y195_4 y195_5 τ195 W195 T195_0 ⟨rfl, rfl, j195⟩
    unfold w_At_lead_195
    intro T1
    refine At_addNext_c W195 T1  ?_ (fun r2 κ_3 q4 => ?_)
    · exact ⟨j195.1.2.1, j195.1.2.2.2.2.1.1, j195.1.2.2.2.2.1.2⟩  -- p1
    intro W5
    intro M6
    refine ⟨?_, h _ _ ?_⟩
    · rcases q4 with ⟨e, -⟩ | ⟨e, -⟩
      · rw [e]; exact nb_0
      · rw [e]; exact nb_1
    · rcases q4 with ⟨e1, e2⟩ | ⟨e1, J⟩
      · rw [e1, e2]
        exact ⟨j195.1, j195.2.1, nb_0, fun z => absurd rfl z, j195.2.2.2.2⟩
      · have qq := (ld_r W Ta0 j195.2.1.1).2.2
        have qC := (qq atChooses (by decide) (by decide)).1
        have qF := (qq atFirsts (by decide) (by decide)).1
        obtain ⟨B, P, X⟩ := ld_n W195 T195_0 j195.1 j195.2.2.1 j195.2.2.2.1 hp.2.2.2.1.1 (fun z => hp.2.2.2.2 (by rw [← qC]; exact z)) J
        rw [qF] at P
        rw [e1]
        refine ⟨B, ldP.tr W Ta0 j195.2.1 P, nb_1, fun _ => X, fun z => ?_⟩
        have nS := (at_ne W195 T195_0).1.2.1
        rw [J.2.2.1 atStates a0 (fun y => absurd y.2 (by decide)), J.2.1 hoTotal (zR τ195 atStates a0) (fun y => nS y.2)]
        exact j195.2.2.2.2 z
  have hj118 : ∀ (l0 : Nat) (l1 : Int32) (l2 : Int32) (l4 : Int32) (l5 : Int32) (τ : zS), zW C (zn κ) τ → zT τ l0 = 3 → (a0 = l0 ∧ a1 = l1 ∧ a2 = l2 ∧ ldA τ a0 ∧ ldP κ τ a0 ((zA κ (zR κ atFirsts a0) a1.toNatClampNeg).toInt) ∧ ldX τ a0 a1.toNatClampNeg w ∧ (l5 ≠ -1 → (l4 = 0 → 0 ≤ l5.toInt ∧ l5.toInt < (zI τ hoTotal (zR τ atStates a0)).toInt) ∧ (l4 = 1 → 0 ≤ l5.toInt ∧ l5.toInt < (zI τ hoTotal (zR τ atEndings a0)).toInt)) ∧ stB κ τ a0 a3) → w_At_lead_118 C (zn κ) Q  l0 l1 l2 l4 l5 τ := by
    rintro _ _ _ y118_4 y118_5 τ118 W118 T118_0 ⟨rfl, rfl, rfl, j118⟩
    unfold w_At_lead_118
    refine ⟨fun c7 => ?_, fun c7 => ?_⟩
    · skip
      refine ⟨?_, ?_⟩
      · have L := j118.1.1.1
        rw [inb_iff]; omega
      intro x8 hx8
      unfold w_At_lead_134
      refine ⟨fun n l0 l1 l2 l4 l5 l6 τ => n = ((zI τ118 atNexts a0).toInt - l6.toInt).toNat ∧ (a0 = l0 ∧ a1 = l1 ∧ a2 = l2 ∧ τ = τ118 ∧ l4 = y118_4 ∧ l5 = y118_5 ∧ (zA τ118 (zR τ118 atFirsts a0) a1.toNatClampNeg).toInt ≤ l6.toInt), ⟨_, rfl, ?_⟩, ?_⟩
      · exact ⟨rfl, rfl, rfl, rfl, rfl, rfl, by rw [hx8]; exact Int.le_refl _⟩  -- j5
      rintro n134 _ _ _ x134_4 x134_5 x134_6 κ134 W134 T134_0 ⟨hn134, rfl, rfl, rfl, i134⟩
      obtain ⟨rfl, rfl, rfl, l6⟩ := i134
      have nb0 := j118.1.2.2.2.2.1
      have L := j118.1.2.1.1
      have f0 := j118.2.2.1.1.1
      refine ⟨fun c9 => ?_, fun c9 => ?_⟩
      · skip
        refine hj195 _ _ _ _ _ W134 ?_ ?_
        · exact T134_0  -- t6
        · exact ⟨rfl, rfl, j118.1, j118.2.1, j118.2.2.1, j118.2.2.2.1 c7, j118.2.2.2.2⟩  -- k7
      · skip
        refine ⟨?_, ?_⟩
        · have L9 := j118.1.1.2.2.2.2.1
          rw [inb_iff]; omega
        refine ⟨fun c10 => ?_, fun c10 => ?_⟩
        · skip
          refine hj195 _ _ _ _ _ W134 ?_ ?_
          · exact T134_0  -- t9
          · exact ⟨rfl, rfl, j118.1, j118.2.1, j118.2.2.1, j118.2.2.2.1 c7, j118.2.2.2.2⟩  -- k10
        · skip
          rw [lei] at c9
          have l7 : x134_6.toInt < (zI κ134 atNexts a0).toInt := by omega
          have e1 := inc_i (x := x134_6) (y := zI κ134 atNexts a0) (by omega) l7
          have kn := cnk (x := x134_6) (by omega)
          refine ⟨?_, ?_⟩
          · rw [inb_iff]; omega  -- b11
          refine ⟨fun c11 => ?_, fun c11 => ?_⟩
          · skip
            intro x12 hx12
            refine ⟨_, ?_, rfl, ?_⟩
            · rw [hn134, hx12, e1]; omega  -- d12
            · exact ⟨rfl, rfl, rfl, rfl, rfl, rfl, by rw [hx12, e1]; omega⟩  -- i13
          · skip
            refine ⟨?_, ?_⟩
            · rw [inb_iff]; omega  -- b14
            refine ⟨fun c13 => ?_, fun c13 => ?_⟩
            · skip
              intro x14 hx14
              refine ⟨_, ?_, rfl, ?_⟩
              · rw [hn134, hx14, e1]; omega  -- d15
              · exact ⟨rfl, rfl, rfl, rfl, rfl, rfl, by rw [hx14, e1]; omega⟩  -- i16
            · skip
              refine ⟨?_, ?_⟩
              · rw [inb_iff]; omega  -- b17
              refine ⟨?_, ?_⟩
              · rw [inb_iff]; omega  -- b18
              intro κ_15 hκ_15
              intro W16
              refine h _ _ ?_
              · have qF := ((ld_r W Ta0 j118.2.1.1).2.2 atFirsts (by decide) (by decide)).1
                obtain ⟨B, P, X⟩ := ld_w W134 T134_0 j118.1 j118.2.2.1 c10 (by omega) (by omega) hp.2.2.2.1.1 hp.2.2.2.1.2 hκ_15
                rw [qF] at P
                refine ⟨B, ldP.tr W Ta0 j118.2.1 P, nb_1, fun _ => X, fun z => ?_⟩
                rw [hκ_15]
                exact j118.2.2.2.2 z
    · skip
      refine h _ _ ?_
      · exact ⟨j118.1, j118.2.1, nb_0, fun z => absurd rfl z, j118.2.2.2.2⟩  -- q20
  intro x17 hx17
  refine ⟨fun c18 => ?_, fun c18 => ?_⟩
  · skip
    refine ⟨fun c19 => ?_, fun c19 => ?_⟩
    · skip
      refine ⟨fun c20 => ?_, fun c20 => ?_⟩
      · skip
        refine hj118 _ _ _ _ _ _ W ?_ ?_
        · exact Ta0  -- t21
        · exact ⟨rfl, rfl, rfl, hp.1, ldP.rf, hp.2.1, fun _ => ⟨fun z => absurd z c18, fun z => absurd z c19⟩, fun z => z⟩  -- k22
      · skip
        intro x21 hx21
        refine hj118 _ _ _ _ _ _ W ?_ ?_
        · exact Ta0  -- t23
        · exact ⟨rfl, rfl, rfl, hp.1, ldP.rf, hp.2.1, fun _ => ⟨fun z => absurd z c18, fun z => absurd z c19⟩, fun z => z⟩  -- k24
    · skip
      have A4 := hp.1.2.2.2.1
      have sb := A4.2.1
      have Lm := A4.1.1.1
      refine ⟨?_, ?_⟩
      · rw [inb_iff]; omega  -- b25
      intro κ_22 hκ_22
      intro W23
      intro T24
      intro T25
      have f := mF_ua W (ty_atMachine W Ta0) (show zr maMemory = some 20 by decide +kernel) (by decide) hκ_22
      obtain ⟨B, P, X⟩ := ld_m (lo := ((zA κ (zR κ atFirsts a0) a1.toNatClampNeg).toInt)) W Ta0 hp.1 hp.2.1 f.1 f.2.1 f.2.2
      have e1 : (zI κ_22 maShared (zR κ_22 atMachine a0) + 1).toInt = (zI κ maShared (zR κ atMachine a0)).toInt + 1 := by
        have e : zI κ_22 maShared (zR κ_22 atMachine a0) = zI κ maShared (zR κ atMachine a0) := by rw [hκ_22]; rfl
        rw [e, add_i (by rw [t1i]; omega) (by rw [t1i]; omega), t1i]
      refine Ho_enter_c W23 T24 T25 1000 35 2048 ?_ (fun r26 κ_27 q28 => ?_)
      · exact ⟨B.2.2.1.2, hP2, by rw [e1]; omega⟩  -- p26
      intro W29
      intro M30
      refine hj118 _ _ _ _ _ _ W29 ?_ ?_
      · exact q28.1.t (P.1.t Ta0 (by decide)) (by decide)  -- t27
      · have T22 := P.1.t Ta0 (by decide)
        obtain ⟨B2, P2, X2⟩ := ld_e (lo := ((zA κ (zR κ atFirsts a0) a1.toNatClampNeg).toInt)) W23 T22 B X q28
        have rE := (ld_r W23 T22 P2.1).1 atEndings (by decide)
        have neE : zR κ_22 atStates a0 ≠ zR κ_22 atEndings a0 := B.2.2.2.2.2
        have sb9 : stB κ κ_27 a0 a3 := fun z => by
          rw [(ld_r W23 T22 P2.1).1 atStates (by decide), q28.1.i (fun y => neE y.1), hκ_22]
          exact z
        refine ⟨rfl, rfl, rfl, B2, ldP.tr W Ta0 P P2, X2, fun z => ⟨fun y => absurd y c18, fun y => ?_⟩, sb9⟩
        have n1 : r26.toInt ≠ -1 := fun e => z (Int32.toInt_inj.mp (e.trans tmi.symm))
        rw [rE]
        have u := q28.2.2.1
        exact ⟨by omega, q28.2.2.2.1⟩
  · skip
    intro T31
    refine Ma_length_c W T31  (fun r32 q34 => ?_)
    intro W35
    intro M36
    intro T37
    intro T38
    refine Ho_enter_c W35 T37 T38 1000 142 2048 ?_ (fun r39 κ_40 q41 => ?_)
    · refine ⟨hp.1.2.2.1.1, hP1, ?_⟩
      have O := hp.1.2.2.2.1.2.2.resolve_right (fun e => by rw [hx17] at c18; rw [e] at c18; exact absurd c18 (by decide))
      rw [q34]
      exact mO_l O
    intro W42
    intro M43
    refine hj118 _ _ _ _ _ _ W42 ?_ ?_
    · exact q41.1.t Ta0 (by decide)  -- t30
    · obtain ⟨B2, P2, X2⟩ := ld_s (lo := ((zA κ (zR κ atFirsts a0) a1.toNatClampNeg).toInt)) W Ta0 hp.1 hp.2.1 q41
      have rS := (ld_r W Ta0 P2.1).1 atStates (by decide)
      have sb9 : stB κ κ_40 a0 a3 := fun z => by
        rw [rS]
        rcases q41.2.2.2.2 with e | e
        · rw [e]; exact z
        · have e1 := e.1
          have e2 := e.2.2.1
          omega
      refine ⟨rfl, rfl, rfl, B2, P2, X2, fun z => ⟨fun y => ?_, fun y => by rw [c18] at y; exact absurd y (by decide)⟩, sb9⟩
      have n1 : r39.toInt ≠ -1 := fun e => z (Int32.toInt_inj.mp (e.trans tmi.symm))
      rw [rS]
      have u := q41.2.2.1
      exact ⟨by omega, q41.2.2.2.1⟩

end
section
set_option maxHeartbeats 1600000
/-! the class: Atlas's expand -/
/-- a state's nexts in order -/
def exR (nS nE nx : Int) (F T C S N Wt : Nat → Int32) (k : Nat) : Prop := (0 ≤ (F k).toInt ∧ (F k).toInt ≤ (F (k + 1)).toInt ∧ (F (k + 1)).toInt ≤ nx) ∧ nxO nS nE S N Wt (F k).toInt (F (k + 1)).toInt ∧ (1 ≤ wSm Wt (F k).toInt (F (k + 1)).toInt ∧ wSm Wt (F k).toInt (F (k + 1)).toInt ≤ 8000000) ∧ (C k = 0 → wSm Wt (F k).toInt (F (k + 1)).toInt = (T k).toInt) ∧ (C k ≠ 0 → ∀ i : Nat, (F k).toInt ≤ (i : Int) → (i : Int) < (F (k + 1)).toInt → (Wt i).toInt = 1)
theorem exR_m {nS nE nx nS' nE' nx' : Int} {F T C S N Wt F' T' C' S' N' Wt' : Nat → Int32} {k : Nat} (h : exR nS nE nx F T C S N Wt k) (f0 : F' k = F k) (f1 : F' (k + 1) = F (k + 1)) (t : T' k = T k) (c : C' k = C k) (r : ∀ i : Nat, (i : Int) < (F (k + 1)).toInt → S' i = S i ∧ N' i = N i ∧ Wt' i = Wt i) (gS : nS ≤ nS') (gE : nE ≤ nE') (gx : (F (k + 1)).toInt ≤ nx') : exR nS' nE' nx' F' T' C' S' N' Wt' k := by
  obtain ⟨h1, h2, h3, h4, h5⟩ := h
  have w : wSm Wt' (F k).toInt (F (k + 1)).toInt = wSm Wt (F k).toInt (F (k + 1)).toInt := wSm_eq h1.1 (fun j _ hj => (r j hj).2.2)
  unfold exR
  rw [f0, f1, t, c, w]
  refine ⟨⟨h1.1, h1.2.1, gx⟩, fun j a b => ?_, h3, h4, fun z j a b => by rw [(r j b).2.2]; exact h5 z j a b⟩
  obtain ⟨b1, b2, b3⟩ := h2 j a b
  obtain ⟨c1, c2, c3⟩ := r j b
  rw [c1, c2, c3]
  exact ⟨fun z => ⟨(b1 z).1, Int.lt_of_lt_of_le (b1 z).2 gS⟩, fun z => ⟨(b2 z).1, Int.lt_of_lt_of_le (b2 z).2 gE⟩, b3⟩
def exK (κ : zS) (a k : Nat) : Prop := exR ((zI κ hoTotal (zR κ atStates a)).toInt) ((zI κ hoTotal (zR κ atEndings a)).toInt) ((zI κ atNexts a).toInt) (zA κ (zR κ atFirsts a)) (zA κ (zR κ atTotals a)) (zA κ (zR κ atChooses a)) (zA κ (zR κ atSorts a)) (zA κ (zR κ atNumbers a)) (zA κ (zR κ atWeights a)) k
def exU9 (κ : zS) (a k : Nat) : Prop := ∀ j : Nat, j < k → exK κ a j ∧ (zA κ (zR κ atFirsts a) (j + 1)).toInt ≤ (zA κ (zR κ atFirsts a) k).toInt
/-- what expand may touch -/
abbrev exF (κ : zS) (a : Nat) : Nat → Nat → Prop := fun f x => (x = a ∧ (f = atFirsts ∨ f = atTotals ∨ f = atGains ∨ f = atChooses ∨ f = atSorts ∨ f = atNumbers ∨ f = atWeights ∨ f = atNexts)) ∨ x = zR κ atMachine a ∨ x = zR κ atStates a ∨ x = zR κ atEndings a
theorem exF_l {κ : zS} {a f x : Nat} (h : ldF κ a f x) : exF κ a f x := by
  rcases h with ⟨e, h⟩ | h
  · refine Or.inl ⟨e, ?_⟩
    rcases h with h | h | h | h
    · exact Or.inr (Or.inr (Or.inr (Or.inr (Or.inl h))))
    · exact Or.inr (Or.inr (Or.inr (Or.inr (Or.inr (Or.inl h)))))
    · exact Or.inr (Or.inr (Or.inr (Or.inr (Or.inr (Or.inr (Or.inl h))))))
    · exact Or.inr (Or.inr (Or.inr (Or.inr (Or.inr (Or.inr (Or.inr h))))))
  · exact Or.inr h
theorem exU9_P {C : zC} {n0 a k : Nat} {κ τ : zS} (W : zW C n0 κ) (T : zT κ a = 3) (P : ldP κ τ a ((zA κ (zR κ atFirsts a) k).toInt)) (hx : (zA κ (zR κ atFirsts a) k).toInt ≤ (zI τ atNexts a).toInt) (A : exU9 κ a k) : exU9 τ a k := by
  obtain ⟨r, i, q⟩ := ld_r W T P.1
  have qF := (q atFirsts (by decide) (by decide)).1
  have qT := (q atTotals (by decide) (by decide)).1
  have qC := (q atChooses (by decide) (by decide)).1
  intro j hj
  obtain ⟨A1, A2⟩ := A j hj
  refine ⟨?_, by rw [qF]; exact A2⟩
  unfold exK
  rw [qF, qT, qC, r atStates (by decide), r atEndings (by decide)]
  exact exR_m A1 rfl rfl rfl rfl (fun i hi => P.2.1 i (Int.lt_of_lt_of_le hi A2)) P.2.2.1.1 P.2.2.1.2 (Int.le_trans A2 hx)
/-- a step of the machine -/
theorem ld_f {C : zC} {n0 a k : Nat} {κ τ : zS} {w lo : Int} (W : zW C n0 κ) (T : zT κ a = 3) (A : ldA κ a) (X : ldX κ a k w) (F : mF κ τ (zR κ atMachine a)) (G : mG κ τ (zR κ atMachine a)) (s : zI τ maShared (zR κ atMachine a) = zI κ maShared (zR κ atMachine a)) (O : mO τ (zR κ atMachine a) ∨ zI τ maOutcome (zR κ atMachine a) = 1) : ldA τ a ∧ ldP κ τ a lo ∧ ldX τ a k w := by
  have n := at_ne W T
  have Tm := ty_atMachine W T
  exact ld_0 W T A X (F.1.mono (fun f x q => Or.inl q)) (hoI_zF F.1 W (ty_atStates W T) (fun f e => n.2.1 e.symm) A.2.2.1.1) (hoI_zF F.1 W (ty_atEndings W T) (fun f e => n.2.2 e.symm) A.2.2.1.2) ⟨(mkI_f F W Tm A.2.2.2.1.1).1, by rw [s]; exact A.2.2.2.1.2.1, O⟩ (by rw [F.1.i (fun e => n.2.1 e.symm)]; exact Int.le_refl _) (by rw [F.1.i (fun e => n.2.2 e.symm)]; exact Int.le_refl _) G s
/-- a step of the machine that sets its draws -/
theorem ld_a {C : zC} {n0 a k : Nat} {κ τ : zS} (W : zW C n0 κ) (T : zT κ a = 3) (A : ldA κ a) (E : exU9 κ a k) (e : (zA κ (zR κ atFirsts a) k).toInt = (zI κ atNexts a).toInt) (F : mF κ τ (zR κ atMachine a)) (s : zI τ maShared (zR κ atMachine a) = zI κ maShared (zR κ atMachine a)) (O : mO τ (zR κ atMachine a) ∨ zI τ maOutcome (zR κ atMachine a) = 1) : ldA τ a ∧ exU9 τ a k ∧ (zA τ (zR τ atFirsts a) k).toInt = (zI τ atNexts a).toInt ∧ zF (exF κ a) κ τ ∧ zR τ = zR κ := by
  have n := at_ne W T
  have Tm := ty_atMachine W T
  have R := F.2.1
  have N := F.2.2.1
  have i : ∀ f, zI τ f a = zI κ f a := fun f => F.1.i (fun e => n.1.1 e.symm)
  have rw9 : ∀ f, f ∈ atRf → zA τ (zR κ f a) = zA κ (zR κ f a) := fun f hf => by
    obtain ⟨⟨t, h1, h2⟩, h3⟩ := atRf_r f hf
    have q := (F.1.row W h1 h2 (T.trans h3.symm) (fun e => n.1.1 e.symm)).1
    rw [R] at q
    exact q
  have iS : zI τ hoTotal (zR κ atStates a) = zI κ hoTotal (zR κ atStates a) := F.1.i (fun e => n.2.1 e.symm)
  have iE : zI τ hoTotal (zR κ atEndings a) = zI κ hoTotal (zR κ atEndings a) := F.1.i (fun e => n.2.2 e.symm)
  obtain ⟨A1, A2, A3, A4, A5, A6⟩ := A
  refine ⟨⟨?_, ?_, ⟨?_, ?_⟩, ?_, ?_, ?_⟩, fun j hj => ?_, ?_, F.1.mono (fun f x q => Or.inr (Or.inl q)), R⟩
  · unfold atM; rw [R, N]; exact A1
  · unfold atL; rw [R, N]; exact A2
  · rw [R]; exact hoI_zF F.1 W (ty_atStates W T) (fun f e => n.2.1 e.symm) A3.1
  · rw [R]; exact hoI_zF F.1 W (ty_atEndings W T) (fun f e => n.2.2 e.symm) A3.2
  · rw [R]; exact ⟨(mkI_f F W Tm A4.1).1, by rw [s]; exact A4.2.1, O⟩
  · rw [i, R, N]; exact A5
  · rw [R]; exact A6
  · obtain ⟨E1, E2⟩ := E j hj
    unfold exK
    rw [R, rw9 atFirsts (by decide), rw9 atTotals (by decide), rw9 atChooses (by decide), rw9 atSorts (by decide), rw9 atNumbers (by decide), rw9 atWeights (by decide), iS, iE, i]
    exact ⟨E1, E2⟩
  · rw [R, rw9 atFirsts (by decide), i]; exact e
/-- a row of the atlas's own was written -/
theorem ld_own {C : zC} {n0 a : Nat} {κ τ : zS} (W : zW C n0 κ) (T : zT κ a = 3) (A : ldA κ a) (Z : zF (objF a) κ τ) (R : zR τ = zR κ) (N : zN τ = zN κ) (I : zI τ = zI κ) : ldA τ a ∧ mG κ τ (zR κ atMachine a) := by
  have n := at_ne W T
  have Tm := ty_atMachine W T
  have Tc := ty_maCode W Tm
  have nc : zR κ maCode (zR κ atMachine a) ≠ a := fun z => by rw [z, T] at Tc; exact absurd Tc (by decide)
  obtain ⟨A1, A2, A3, A4, A5, A6⟩ := A
  refine ⟨⟨?_, ?_, ⟨?_, ?_⟩, ?_, ?_, ?_⟩, fun f _ => ⟨by rw [I], fun e => ⟨by rw [R], ?_⟩⟩⟩
  · unfold atM; rw [R, N]; exact A1
  · unfold atL; rw [R, N]; exact A2
  · rw [R]; exact hoI_zF Z W (ty_atStates W T) (fun f e => n.1.2.1 e) A3.1
  · rw [R]; exact hoI_zF Z W (ty_atEndings W T) (fun f e => n.1.2.2 e) A3.2
  · rw [R]; exact atR_zF Z W Tm (fun f e => n.1.1 e) (fun f e => nc e) A4
  · rw [I, R, N]; exact A5
  · rw [R]; exact A6
  · have z := (Z.row W (show zr maWeights = some 20 by decide +kernel) (by decide) Tm (fun e => n.1.1 e)).1
    rw [R] at z
    rw [e]
    exact z
def exI (κ τ : zS) (a k : Nat) : Prop := ldA τ a ∧ exU9 τ a k ∧ (zA τ (zR τ atFirsts a) k).toInt = (zI τ atNexts a).toInt ∧ zF (exF κ a) κ τ ∧ (zR τ atMachine a = zR κ atMachine a ∧ zR τ atStates a = zR κ atStates a ∧ zR τ atEndings a = zR κ atEndings a ∧ zI τ hoTotal (zR κ atStates a) = zI κ hoTotal (zR κ atStates a))
theorem ld_o3 {κ : zS} {a k : Nat} (A : ldA κ a) (e : (zA κ (zR κ atFirsts a) k).toInt = (zI κ atNexts a).toInt) : ldX κ a k 0 := by
  have b := A.2.2.2.2.1
  refine ⟨by omega, fun i h1 h2 => by omega, ?_, fun _ i h1 h2 => by omega⟩
  unfold wSm
  have z : ((zI κ atNexts a).toInt - (zA κ (zR κ atFirsts a) k).toInt).toNat = 0 := by omega
  rw [z]
  rfl
/-- chooses, totals or gains of the state -/
theorem ex_u {C : zC} {n0 a k f : Nat} {κ σ τ : zS} {x : Int32} (W : zW C n0 σ) (T : zT σ a = 3) (H : exI κ σ a k) (hf : f = atChooses ∨ f = atTotals ∨ f = atGains) (e : τ = ua σ (zR σ f a) k x) : exI κ τ a k ∧ mG σ τ (zR κ atMachine a) ∧ zR τ = zR σ ∧ zI τ = zI σ ∧ (∀ g, g ∈ atRf → g ≠ f → zA τ (zR σ g a) = zA σ (zR σ g a)) ∧ zA τ (zR σ f a) = upd (zA σ (zR σ f a)) k x := by
  obtain ⟨A, E, h, Z, rm, rs, re, tq⟩ := H
  have fm : f ∈ atRf ∧ f ≠ atFirsts ∧ f ≠ atSorts ∧ f ≠ atNumbers ∧ f ≠ atWeights := by rcases hf with rfl | rfl | rfl <;> decide
  have ow : zO σ (zR σ f a) = (f, a) := atRf_o W T fm.1
  have R : zR τ = zR σ := by rw [e]; rfl
  have I : zI τ = zI σ := by rw [e]; rfl
  have N : zN τ = zN σ := by rw [e]; rfl
  have o : ∀ g, g ∈ atRf → g ≠ f → zA τ (zR σ g a) = zA σ (zR σ g a) := fun g hg hn => by
    rw [e]; exact if_neg (atRf_n W T hg fm.1 hn)
  have u : zA τ (zR σ f a) = upd (zA σ (zR σ f a)) k x := by rw [e]; exact if_pos rfl
  obtain ⟨B, G⟩ := ld_own W T A (by rw [e]; exact zF_ua (by rw [ow])) R N I
  rw [rm] at G
  have c : ∀ g, g ∈ atRf → ∀ j, j < k → zA τ (zR σ g a) j = zA σ (zR σ g a) j := fun g hg j hj => by
    by_cases z : g = f
    · rw [z, u]; exact if_neg (Nat.ne_of_lt hj)
    · rw [o g hg z]
  have oF := o atFirsts (by decide) (fun z => fm.2.1 z.symm)
  have oS := o atSorts (by decide) (fun z => fm.2.2.1 z.symm)
  have oN := o atNumbers (by decide) (fun z => fm.2.2.2.1 z.symm)
  have oW := o atWeights (by decide) (fun z => fm.2.2.2.2 z.symm)
  refine ⟨⟨B, fun j hj => ?_, ?_, Z.tr ?_, ?_⟩, G, R, I, o, u⟩
  · obtain ⟨E1, E2⟩ := E j hj
    unfold exK
    rw [R, I, oF, oS, oN, oW]
    exact ⟨exR_m E1 rfl rfl (c _ (by decide) j hj) (c _ (by decide) j hj) (fun i _ => ⟨rfl, rfl, rfl⟩) (Int.le_refl _) (Int.le_refl _) E1.1.2.2, E2⟩
  · rw [R, I, oF]; exact h
  · rw [e]
    refine zF_ua ?_
    rw [ow]
    refine Or.inl ⟨rfl, ?_⟩
    rcases hf with z | z | z
    · exact Or.inr (Or.inr (Or.inr (Or.inl z)))
    · exact Or.inr (Or.inl z)
    · exact Or.inr (Or.inr (Or.inl z))
  · rw [R, I]; exact ⟨rm, rs, re, tq⟩
/-- the first next's place -/
theorem ex_1 {C : zC} {n0 a k : Nat} {κ τ : zS} (W : zW C n0 κ) (T : zT κ a = 3) (A : ldA κ a) (E : exU9 κ a k) (h : 0 < k → (zA κ (zR κ atFirsts a) k).toInt = (zI κ atNexts a).toInt) (e : τ = ua κ (zR κ atFirsts a) k (zI κ atNexts a)) : exI κ τ a k := by
  have ow : zO κ (zR κ atFirsts a) = (atFirsts, a) := atRf_o W T (by decide)
  have R : zR τ = zR κ := by rw [e]; rfl
  have I : zI τ = zI κ := by rw [e]; rfl
  have N : zN τ = zN κ := by rw [e]; rfl
  have o : ∀ g, g ∈ atRf → g ≠ atFirsts → zA τ (zR κ g a) = zA κ (zR κ g a) := fun g hg hn => by
    rw [e]; exact if_neg (atRf_n W T hg (by decide) hn)
  have u : zA τ (zR κ atFirsts a) = upd (zA κ (zR κ atFirsts a)) k (zI κ atNexts a) := by rw [e]; exact if_pos rfl
  obtain ⟨B, G⟩ := ld_own W T A (by rw [e]; exact zF_ua (by rw [ow])) R N I
  have uk : zA τ (zR κ atFirsts a) k = zI κ atNexts a := by rw [u]; exact if_pos rfl
  have c : ∀ j, 0 < k → zA τ (zR κ atFirsts a) j = zA κ (zR κ atFirsts a) j := fun j hk => by
    by_cases z : j = k
    · rw [z, uk]; exact (Int32.toInt_inj.mp (h hk)).symm
    · rw [u]; exact if_neg z
  refine ⟨B, fun j hj => ?_, ?_, ?_, ?_⟩
  · obtain ⟨E1, E2⟩ := E j hj
    have k0 : 0 < k := Nat.lt_of_le_of_lt (Nat.zero_le j) hj
    unfold exK
    rw [R, I, o atTotals (by decide) (by decide), o atChooses (by decide) (by decide), o atSorts (by decide) (by decide), o atNumbers (by decide) (by decide), o atWeights (by decide) (by decide)]
    exact ⟨exR_m E1 (c j k0) (c (j + 1) k0) rfl rfl (fun i _ => ⟨rfl, rfl, rfl⟩) (Int.le_refl _) (Int.le_refl _) E1.1.2.2, by rw [c _ k0, c _ k0]; exact E2⟩
  · rw [R, I, uk]
  · rw [e]; exact zF_ua (by rw [ow]; exact Or.inl ⟨rfl, Or.inl rfl⟩)
  · rw [R, I]; exact ⟨rfl, rfl, rfl, rfl⟩
/-- the last one's place -/
theorem ex_2 {C : zC} {n0 a k : Nat} {κ τ : zS} {w : Int} (W : zW C n0 κ) (T : zT κ a = 3) (A : ldA κ a) (E : exU9 κ a k) (X : ldX κ a k w) (w1 : 1 ≤ w ∧ w ≤ 8000000) (wt : zA κ (zR κ atChooses a) k = 0 → w = (zA κ (zR κ atTotals a) k).toInt) (e : τ = ua κ (zR κ atFirsts a) (k + 1) (zI κ atNexts a)) : exU9 τ a (k + 1) ∧ (zA τ (zR τ atFirsts a) (k + 1)).toInt = (zI τ atNexts a).toInt := by
  have R : zR τ = zR κ := by rw [e]; rfl
  have I : zI τ = zI κ := by rw [e]; rfl
  have o : ∀ g, g ∈ atRf → g ≠ atFirsts → zA τ (zR κ g a) = zA κ (zR κ g a) := fun g hg hn => by
    rw [e]; exact if_neg (atRf_n W T hg (by decide) hn)
  have u : zA τ (zR κ atFirsts a) = upd (zA κ (zR κ atFirsts a)) (k + 1) (zI κ atNexts a) := by rw [e]; exact if_pos rfl
  have uk : zA τ (zR κ atFirsts a) (k + 1) = zI κ atNexts a := by rw [u]; exact if_pos rfl
  have c : ∀ j, j ≤ k → zA τ (zR κ atFirsts a) j = zA κ (zR κ atFirsts a) j := fun j hk => by rw [u]; exact if_neg (by omega)
  obtain ⟨X1, X2, X3, X4⟩ := X
  refine ⟨fun j hj => ?_, by rw [R, I, uk]⟩
  unfold exK
  rw [R, I, uk, o atTotals (by decide) (by decide), o atChooses (by decide) (by decide), o atSorts (by decide) (by decide), o atNumbers (by decide) (by decide), o atWeights (by decide) (by decide)]
  by_cases z : j = k
  · subst z
    rw [uk]
    refine ⟨?_, Int.le_refl _⟩
    unfold exR
    rw [uk, c j (Nat.le_refl _)]
    rw [X3]
    exact ⟨⟨X1.1, X1.2, Int.le_refl _⟩, X2, w1, wt, X4⟩
  · obtain ⟨E1, E2⟩ := E j (by omega)
    refine ⟨exR_m E1 (c j (by omega)) (c (j + 1) (by omega)) rfl rfl (fun i _ => ⟨rfl, rfl, rfl⟩) (Int.le_refl _) (Int.le_refl _) E1.1.2.2, ?_⟩
    rw [c (j + 1) (by omega)]
    exact Int.le_trans E2 X1.2
/-- what the machine's draws are to the state -/
def exM (κ : zS) (a k : Nat) (d : Int32) : Prop := mDw κ (zR κ atMachine a) ∧ (d ≠ 0 ↔ zI κ maWants (zR κ atMachine a) = 3) ∧ (zA κ (zR κ atChooses a) k ≠ 0 ↔ zI κ maWants (zR κ atMachine a) = 4) ∧ (zI κ maWants (zR κ atMachine a) = 3 → (zA κ (zR κ atTotals a) k).toInt = (zI κ maTotal (zR κ atMachine a)).toInt) ∧ (zI κ maWants (zR κ atMachine a) = -1 → (zA κ (zR κ atTotals a) k).toInt = 1)
def exW (κ : zS) (a : Nat) (x : Int32) : Int := if zI κ maWants (zR κ atMachine a) = -1 then 1 else sgI (fun n => (zA κ (zR κ maWeights (zR κ atMachine a)) n).toInt) x.toNatClampNeg
theorem exM_P {C : zC} {n0 a k : Nat} {κ τ : zS} {d : Int32} {lo : Int} (W : zW C n0 κ) (T : zT κ a = 3) (P : ldP κ τ a lo) (M : exM κ a k d) : exM τ a k d ∧ (∀ x, exW τ a x = exW κ a x) ∧ zI τ maWants (zR τ atMachine a) = zI κ maWants (zR κ atMachine a) ∧ zI τ maWays (zR τ atMachine a) = zI κ maWays (zR κ atMachine a) ∧ zA τ (zR τ maWeights (zR τ atMachine a)) = zA κ (zR κ maWeights (zR κ atMachine a)) := by
  obtain ⟨r, i, q⟩ := ld_r W T P.1
  have G := P.2.2.2.1
  have rm := r atMachine (by decide)
  have qT := (q atTotals (by decide) (by decide)).1
  have qC := (q atChooses (by decide) (by decide)).1
  have g1 := (G maWants (by decide)).1
  have g2 := (G maTotal (by decide)).1
  have g3 := (G maWays (by decide)).1
  have g4 := (G maWeights (by decide)).2 rfl
  have g5 : zA τ (zR τ maWeights (zR κ atMachine a)) = zA κ (zR κ maWeights (zR κ atMachine a)) := by rw [g4.1]; exact g4.2
  refine ⟨?_, fun x => ?_, by rw [rm]; exact g1, by rw [rm]; exact g3, by rw [rm]; exact g5⟩
  · unfold exM
    rw [rm, qT, qC, g1, g2]
    exact ⟨mDw_g G M.1, M.2⟩
  · unfold exW
    rw [rm, g1, g5]
theorem sgI_mo {f : Nat → Int} {m : Nat} : ∀ {n : Nat}, n ≤ m → (∀ i, i < m → 0 ≤ f i) → sgI f n ≤ sgI f m := by
  induction m with
  | zero =>
    intro n h _
    have : n = 0 := by omega
    rw [this]; exact Int.le_refl _
  | succ m ih =>
    intro n h p
    by_cases z : n = m + 1
    · rw [z]; exact Int.le_refl _
    · have a1 := ih (n := n) (by omega) (fun i hi => p i (Nat.lt_succ_of_lt hi))
      have a2 := p m (Nat.lt_succ_self m)
      show _ ≤ sgI f m + f m
      omega
/-- one way more -/
theorem ex_w {κ : zS} {a k : Nat} {d x : Int32} (M : exM κ a k d) (h : zI κ maWants (zR κ atMachine a) ≠ -1) (h0 : 0 ≤ x.toInt) (h1 : x.toInt < (zI κ maWays (zR κ atMachine a)).toInt) : ((zI κ maWays (zR κ atMachine a)).toInt ≤ 64) ∧ exW κ a (x + 1) = exW κ a x + (zA κ (zR κ maWeights (zR κ atMachine a)) x.toNatClampNeg).toInt ∧ 0 ≤ (zA κ (zR κ maWeights (zR κ atMachine a)) x.toNatClampNeg).toInt ∧ exW κ a (x + 1) ≤ 8000000 ∧ (zA κ (zR κ atChooses a) k ≠ 0 → (zA κ (zR κ maWeights (zR κ atMachine a)) x.toNatClampNeg).toInt = 1) := by
  have kx := cnk h0
  have hi9 := ihi (zI κ maWays (zR κ atMachine a))
  have e1 := cn1 h0 (by omega)
  have eq : exW κ a (x + 1) = exW κ a x + (zA κ (zR κ maWeights (zR κ atMachine a)) x.toNatClampNeg).toInt := by
    unfold exW
    rw [if_neg h, if_neg h, e1.1]
    rfl
  have ew : exW κ a (x + 1) = sgI (fun n => (zA κ (zR κ maWeights (zR κ atMachine a)) n).toInt) (x.toNatClampNeg + 1) := by
    unfold exW
    rw [if_neg h, e1.1]
  rcases M.1 with z | ⟨z, D⟩ | ⟨z, D⟩
  · exact absurd z h
  · have p : ∀ i, i < ((zI κ maWays (zR κ atMachine a)).toInt).toNat → 0 ≤ (zA κ (zR κ maWeights (zR κ atMachine a)) i).toInt := fun i hi => (D.2.1 i (by omega)).1
    have mo := sgI_mo (f := fun n => (zA κ (zR κ maWeights (zR κ atMachine a)) n).toInt) (n := x.toNatClampNeg + 1) (m := ((zI κ maWays (zR κ atMachine a)).toInt).toNat) (by omega) p
    have t1 := D.2.2.1
    have t2 := D.2.2.2.2
    have t3 := D.1.2
    refine ⟨t3, eq, (D.2.1 _ (by omega)).1, by omega, fun y => ?_⟩
    have := M.2.2.1.mp y
    rw [z] at this
    exact absurd this (by decide)
  · have o := D.2 x.toNatClampNeg (by omega)
    have t3 := D.1.2
    have s8 : ∀ n : Nat, n ≤ 8 → (n : Int) ≤ (zI κ maWays (zR κ atMachine a)).toInt → sgI (fun n => (zA κ (zR κ maWeights (zR κ atMachine a)) n).toInt) n = n := by
      intro n
      induction n with
      | zero => intro _ _; rfl
      | succ n ih =>
        intro h8 hw
        have a1 := ih (by omega) (by omega)
        have a2 := D.2 n (by omega)
        show sgI _ n + (zA κ (zR κ maWeights (zR κ atMachine a)) n).toInt = _
        rw [a1, a2]
        omega
    have s9 := s8 (x.toNatClampNeg + 1) (by omega) (by omega)
    exact ⟨by omega, eq, by omega, by omega, fun _ => o⟩
/-- all ways -/
theorem ex_e {κ : zS} {a k : Nat} {d x : Int32} (M : exM κ a k d) (h0 : 0 ≤ x.toInt) (h : zI κ maWants (zR κ atMachine a) ≠ -1 → x.toInt = (zI κ maWays (zR κ atMachine a)).toInt) : (1 ≤ exW κ a x ∧ exW κ a x ≤ 8000000) ∧ (zA κ (zR κ atChooses a) k = 0 → exW κ a x = (zA κ (zR κ atTotals a) k).toInt) := by
  have kx := cnk h0
  rcases M.1 with z | ⟨z, D⟩ | ⟨z, D⟩
  · have e : exW κ a x = 1 := if_pos z
    rw [e, M.2.2.2.2 z]
    exact ⟨by omega, fun _ => rfl⟩
  · have n1 : zI κ maWants (zR κ atMachine a) ≠ -1 := by rw [z]; decide
    have e : exW κ a x = sgI (fun n => (zA κ (zR κ maWeights (zR κ atMachine a)) n).toInt) x.toNatClampNeg := if_neg n1
    have hx := h n1
    have kk : x.toNatClampNeg = ((zI κ maWays (zR κ atMachine a)).toInt).toNat := by omega
    rw [kk] at e
    have t1 := D.2.2.1
    have t2 := D.2.2.2
    have t4 := M.2.2.2.1 z
    exact ⟨by omega, fun _ => by omega⟩
  · have n1 : zI κ maWants (zR κ atMachine a) ≠ -1 := by rw [z]; decide
    have e : exW κ a x = sgI (fun n => (zA κ (zR κ maWeights (zR κ atMachine a)) n).toInt) x.toNatClampNeg := if_neg n1
    have hx := h n1
    have s8 : ∀ n : Nat, (n : Int) ≤ (zI κ maWays (zR κ atMachine a)).toInt → sgI (fun n => (zA κ (zR κ maWeights (zR κ atMachine a)) n).toInt) n = n := by
      intro n
      induction n with
      | zero => intro _; rfl
      | succ n ih =>
        intro hw
        have a1 := ih (by omega)
        have a2 := D.2 n (by omega)
        show sgI _ n + (zA κ (zR κ maWeights (zR κ atMachine a)) n).toInt = _
        rw [a1, a2]
        omega
    have s9 := s8 x.toNatClampNeg (by omega)
    have b := D.1
    exact ⟨by omega, fun y => absurd (M.2.2.1.mpr z) (fun q => q y)⟩
/-- on the way through the ways -/
def exL (κ τ : zS) (a k : Nat) (d r x : Int32) : Prop := ldA τ a ∧ zF (exF κ a) κ τ ∧ (zR τ atMachine a = zR κ atMachine a ∧ zR τ atStates a = zR κ atStates a ∧ zR τ atEndings a = zR κ atEndings a) ∧ nb r ∧ (0 ≤ x.toInt ∧ x.toInt ≤ 64) ∧ (r ≠ 0 → exU9 τ a k ∧ exM τ a k d ∧ ldX τ a k (exW τ a x) ∧ (zI τ maWants (zR τ atMachine a) ≠ -1 → x.toInt ≤ (zI τ maWays (zR τ atMachine a)).toInt))
def exZ (κ τ : zS) (a k : Nat) (r : Int32) : Prop := ldA τ a ∧ zF (exF κ a) κ τ ∧ nb r ∧ (r ≠ 0 → exU9 τ a k ∧ ∃ w, ldX τ a k w ∧ (1 ≤ w ∧ w ≤ 8000000) ∧ (zA τ (zR τ atChooses a) k = 0 → w = (zA τ (zR τ atTotals a) k).toInt))
theorem exZ_L {κ τ : zS} {a k : Nat} {d r x : Int32} (L : exL κ τ a k d r x) (h : r ≠ 0 → zI τ maWants (zR τ atMachine a) ≠ -1 → x.toInt = (zI τ maWays (zR τ atMachine a)).toInt) : exZ κ τ a k r := by
  obtain ⟨A, Z, R, b, x0, L⟩ := L
  refine ⟨A, Z, b, fun hr => ?_⟩
  obtain ⟨E, M, X, -⟩ := L hr
  have q := ex_e M x0.1 (h hr)
  exact ⟨E, _, X, q.1, q.2⟩
/-- load, settle and lead for one way -/
theorem exL_s {C : zC} {n0 a k : Nat} {κ σ τ υ : zS} {d x y r : Int32} (W : zW C n0 σ) (T : zT σ a = 3) (L : exL κ σ a k d 1 x) (h : zI σ maWants (zR σ atMachine a) ≠ -1) (h1 : x.toInt < (zI σ maWays (zR σ atMachine a)).toInt) (P : ldP σ τ a ((zA σ (zR σ atFirsts a) k).toInt)) (Wt : zW C n0 τ) (Tt : zT τ a = 3) (B : ldA υ a) (Q : ldP τ υ a ((zA τ (zR τ atFirsts a) k).toInt)) (hb : nb r) (X : r ≠ 0 → ldX υ a k (exW σ a x + (zA τ (zR τ maWeights (zR τ atMachine a)) x.toNatClampNeg).toInt)) (e : y = x + 1) : exL κ υ a k d r y := by
  obtain ⟨A, Z, ⟨R1, R2, R3⟩, b, x0, L⟩ := L
  obtain ⟨E, M, X0, hw⟩ := L (by decide)
  have ww := ex_w M h x0.1 h1
  have f0 : zA τ (zR τ atFirsts a) = zA σ (zR σ atFirsts a) := ((ld_r W T P.1).2.2 atFirsts (by decide) (by decide)).1
  rw [f0] at Q
  have PQ := ldP.tr W T P Q
  have r0 := (ld_r W T PQ.1).1
  have f1 : zA υ (zR υ atFirsts a) = zA σ (zR σ atFirsts a) := ((ld_r W T PQ.1).2.2 atFirsts (by decide) (by decide)).1
  have m1 := exM_P W T P M
  have m2 := exM_P W T PQ M
  have e1 := cn1 x0.1 (by omega)
  refine ⟨B, Z.tr (PQ.1.mono (fun f z q => ?_)), ⟨(r0 atMachine (by decide)).trans R1, (r0 atStates (by decide)).trans R2, (r0 atEndings (by decide)).trans R3⟩, hb, by rw [e, e1.2]; omega, fun hr => ?_⟩
  · rcases exF_l q with q | q | q | q
    · exact Or.inl q
    · exact Or.inr (Or.inl (q.trans R1))
    · exact Or.inr (Or.inr (Or.inl (q.trans R2)))
    · exact Or.inr (Or.inr (Or.inr (q.trans R3)))
  · have X := X hr
    refine ⟨exU9_P W T PQ (by rw [← f1]; exact X.1.2) E, m2.1, ?_, fun _ => by rw [m2.2.2.2.1, e, e1.2]; omega⟩
    rw [m2.2.1, e, ww.2.1]
    rw [m1.2.2.2.2] at X
    exact X
theorem exI_a {C : zC} {n0 a k : Nat} {κ σ τ : zS} (W : zW C n0 σ) (T : zT σ a = 3) (H : exI κ σ a k) (F : mF σ τ (zR σ atMachine a)) (s : zI τ maShared (zR σ atMachine a) = zI σ maShared (zR σ atMachine a)) (O : mO τ (zR σ atMachine a) ∨ zI τ maOutcome (zR σ atMachine a) = 1) : exI κ τ a k := by
  obtain ⟨A, E, e, Z, R1, R2, R3, tq⟩ := H
  have tz : zI τ hoTotal (zR σ atStates a) = zI σ hoTotal (zR σ atStates a) := F.1.i (fun e => (at_ne W T).2.1 e.symm)
  rw [R2] at tz
  obtain ⟨h1, h2, h3, h4, h5⟩ := ld_a W T A E e F s O
  refine ⟨h1, h2, h3, Z.tr (h4.mono (fun f z q => ?_)), ?_⟩
  · rcases q with q | q | q | q
    · exact Or.inl q
    · exact Or.inr (Or.inl (q.trans R1))
    · exact Or.inr (Or.inr (Or.inl (q.trans R2)))
    · exact Or.inr (Or.inr (Or.inr (q.trans R3)))
  · rw [h5]; exact ⟨R1, R2, R3, tz.trans tq⟩
theorem exL_0 {κ τ : zS} {a k : Nat} {d : Int32} (H : exI κ τ a k) (M : exM τ a k d) (h : zI τ maWants (zR τ atMachine a) ≠ -1) : exL κ τ a k d 1 0 := by
  obtain ⟨A, E, e, Z, R⟩ := H
  refine ⟨A, Z, ⟨R.1, R.2.1, R.2.2.1⟩, nb_1, by decide, fun _ => ⟨E, M, ?_, fun _ => ?_⟩⟩
  · have z : exW τ a 0 = 0 := if_neg h
    rw [z]
    exact ld_o3 A e
  · rcases M.1 with z | ⟨z, D⟩ | ⟨z, D⟩
    · exact absurd z h
    · rw [t0i]; exact D.1.1
    · have := D.1.1
      rw [t0i]; omega
theorem exL_1 {C : zC} {n0 a k : Nat} {κ σ υ : zS} {d r : Int32} (W : zW C n0 σ) (T : zT σ a = 3) (H : exI κ σ a k) (M : exM σ a k d) (h : zI σ maWants (zR σ atMachine a) = -1) (B : ldA υ a) (P : ldP σ υ a ((zA σ (zR σ atFirsts a) k).toInt)) (hb : nb r) (X : r ≠ 0 → ldX υ a k (0 + Int32.toInt 1)) : exL κ υ a k d r 0 := by
  obtain ⟨A, E, e, Z, R1, R2, R3, -⟩ := H
  have r0 := (ld_r W T P.1).1
  have f1 : zA υ (zR υ atFirsts a) = zA σ (zR σ atFirsts a) := ((ld_r W T P.1).2.2 atFirsts (by decide) (by decide)).1
  have m := exM_P W T P M
  refine ⟨B, Z.tr (P.1.mono (fun f z q => ?_)), ⟨(r0 atMachine (by decide)).trans R1, (r0 atStates (by decide)).trans R2, (r0 atEndings (by decide)).trans R3⟩, hb, by decide, fun hr => ?_⟩
  · rcases exF_l q with q | q | q | q
    · exact Or.inl q
    · exact Or.inr (Or.inl (q.trans R1))
    · exact Or.inr (Or.inr (Or.inl (q.trans R2)))
    · exact Or.inr (Or.inr (Or.inr (q.trans R3)))
  · have X := X hr
    refine ⟨exU9_P W T P (by rw [← f1]; exact X.1.2) E, m.1, ?_, fun z => absurd (m.2.2.1.trans h) z⟩
    have z : exW σ a 0 = 1 := if_pos h
    rw [m.2.1, z]
    exact X
theorem At_expand_c {C : zC} {n0 : Nat} {a0 : Nat} {a1 : Int32} {a2 : Int32} {κ : zS} {Q : Int32 → zS → Prop} (W : zW C n0 κ) (Ta0 : zT κ a0 = 3)  (hp : ldA κ a0 ∧ (0 ≤ a1.toInt ∧ a1.toInt < 1000) ∧ exU9 κ a0 a1.toNatClampNeg ∧ (0 < a1.toNatClampNeg → (zA κ (zR κ atFirsts a0) a1.toNatClampNeg).toInt = (zI κ atNexts a0).toInt)) (h : ∀ (v : Int32) (κ' : zS), (ldA κ' a0 ∧ zF (exF κ a0) κ κ' ∧ nb v ∧ (v ≠ 0 → exU9 κ' a0 (a1.toNatClampNeg + 1) ∧ (zA κ' (zR κ' atFirsts a0) (a1.toNatClampNeg + 1)).toInt = (zI κ' atNexts a0).toInt) ∧ stB κ κ' a0 a2) → Q v κ') : zRun C 5 mAt_expand [.ref a0, .int a1, .int a2] κ (oI Q noX) := by
  refine At_expand_run W Ta0 ?_
  replace W := W.lo (Nat.le_trans W.1.2.1 W.1.2.2) (Nat.le_refl (zn κ))
  unfold w_At_expand_0
  obtain ⟨A0, k01, E0, F0⟩ := hp
  have kn := cnk k01.1
  have en := cn1 k01.1 (by omega)
  have hj231 : ∀ (l0 : Nat) (l1 : Int32) (l4 : Int32) (τ : zS), zW C (zn κ) τ → zT τ l0 = 3 → (a0 = l0 ∧ a1 = l1 ∧ stB κ τ a0 a2 ∧ exZ κ τ a0 a1.toNatClampNeg l4) → w_At_expand_231 C (zn κ) Q  l0 l1 l4 τ := by
    rintro _ _ y231_4 τ231 W231 T231_0 ⟨rfl, rfl, j231⟩
    unfold w_At_expand_231
    obtain ⟨b231, j231⟩ := j231
    refine ⟨?_, ?_⟩
    · have L := j231.1.1.1
      rw [inb_iff, en.2]; omega
    intro κ_1 hκ_1
    intro W2
    refine ⟨?_, h _ _ ?_⟩
    · exact j231.2.2.1  -- b2
    · obtain ⟨A, Z, b, q⟩ := j231
      rw [en.1] at hκ_1
      have ow : zO τ231 (zR τ231 atFirsts a0) = (atFirsts, a0) := atRf_o W231 T231_0 (by decide)
      have R : zR κ_1 = zR τ231 := by rw [hκ_1]; rfl
      have I : zI κ_1 = zI τ231 := by rw [hκ_1]; rfl
      have N : zN κ_1 = zN τ231 := by rw [hκ_1]; rfl
      refine ⟨(ld_own W231 T231_0 A (by rw [hκ_1]; exact zF_ua (by rw [ow])) R N I).1, Z.tr (by rw [hκ_1]; exact zF_ua (by rw [ow]; exact Or.inl ⟨rfl, Or.inl rfl⟩)), b, fun hr => ?_, fun z => by rw [R, I]; exact b231 z⟩
      obtain ⟨E, w, X, w1, wt⟩ := q hr
      exact ex_2 W231 T231_0 A E X w1 wt hκ_1
  have hh143 : ∀ (l0 : Nat) (l1 : Int32) (l2 : Int32) (l3 : Int32) (l4 : Int32) (l5 : Int32) (τ : zS), zW C (zn κ) τ → zT τ l0 = 3 → (a0 = l0 ∧ a1 = l1 ∧ a2 = l2 ∧ stB κ τ a0 a2 ∧ exL κ τ a0 a1.toNatClampNeg l3 l4 l5) → w_At_expand_143 C (zn κ) Q  l0 l1 l2 l3 l4 l5 τ := by
    intro z0 z1 z2 z3 z4 z5 τi Wi _ hinit
    unfold w_At_expand_143
    refine ⟨fun n l0 l1 l2 l3 l4 l5 τ => n = (64 - l5.toInt).toNat ∧ (a0 = l0 ∧ a1 = l1 ∧ a2 = l2 ∧ stB κ τ a0 a2 ∧ exL κ τ a0 a1.toNatClampNeg l3 l4 l5), ⟨_, rfl, hinit⟩, ?_⟩
    clear hinit
    rintro n143 _ _ _ x143_3 x143_4 x143_5 κ143 W143 T143_0 ⟨hn143, rfl, rfl, rfl, i143⟩
    obtain ⟨b143, i143⟩ := i143
    have hj156 : ∀ (l0 : Nat) (l1 : Int32) (l2 : Int32) (l3 : Int32) (l4 : Int32) (l5 : Int32) (τ : zS), zW C (zn κ) τ → zT τ l0 = 3 → (a0 = l0 ∧ a1 = l1 ∧ a2 = l2 ∧ κ143 = τ ∧ x143_3 = l3 ∧ x143_4 = l4 ∧ x143_5 = l5 ∧ (l4 ≠ 0 → zI τ maWants (zR τ atMachine a0) ≠ -1)) → w_At_expand_156 C (zn κ) Q (fun (l0' : Nat) (l1' : Int32) (l2' : Int32) (l3' : Int32) (l4' : Int32) (l5' : Int32) (τ : zS) => ∃ k < n143, (fun (n : Nat) (l0 : Nat) (l1 : Int32) (l2 : Int32) (l3 : Int32) (l4 : Int32) (l5 : Int32) (τ : zS) => n = (64 - l5.toInt).toNat ∧ (a0 = l0 ∧ a1 = l1 ∧ a2 = l2 ∧ stB κ τ a0 a2 ∧ exL κ τ a0 a1.toNatClampNeg l3 l4 l5)) k l0' l1' l2' l3' l4' l5' τ) l0 l1 l2 l3 l4 l5 τ := by
      rintro _ _ _ y156_3 y156_4 y156_5 τ156 W156 T156_0 ⟨rfl, rfl, rfl, j156⟩
      unfold w_At_expand_156
      obtain ⟨rfl, rfl, rfl, rfl, jw⟩ := j156
      refine ⟨fun c3 => ?_, fun c3 => ?_⟩
      · skip
        refine hj231 _ _ _ _ W156 ?_ ?_
        · exact T143_0  -- t4
        · rw [lei] at c3
          exact ⟨rfl, rfl, b143, exZ_L i143 (fun hr hw => by
            have := (i143.2.2.2.2.2 hr).2.2.2 hw
            omega)⟩
      · skip
        refine ⟨fun c4 => ?_, fun c4 => ?_⟩
        · skip
          refine hj231 _ _ _ _ W156 ?_ ?_
          · exact T143_0  -- t6
          · exact ⟨rfl, rfl, b143, exZ_L i143 (fun hr => absurd c4 hr)⟩  -- k7
        · skip
          have jh := jw c4
          have e4 : x143_4 = 1 := i143.2.2.2.1.resolve_left c4
          have LL := i143
          rw [e4] at LL
          obtain ⟨A, Z, R, b, x0, L⟩ := i143
          obtain ⟨E, M, X, xw⟩ := L c4
          rw [lei] at c3
          have h1 : x143_5.toInt < (zI κ143 maWays (zR κ143 atMachine a0)).toInt := by omega
          have ww := ex_w M jh x0.1 h1
          have kx := cnk x0.1
          have e1 := cn1 x0.1 (by omega)
          refine ⟨?_, ?_⟩
          · have Lm := A.2.2.2.1.1.1.2.2.2.2
            rw [inb_iff]; omega
          refine ⟨fun c5 => ?_, fun c5 => ?_⟩
          · skip
            intro x6 hx6
            refine ⟨_, ?_, rfl, ?_⟩
            · rw [hn143, hx6, e1.2]; omega  -- d9
            · rw [lei, t0i] at c5
              have e : exW κ143 a0 x6 = exW κ143 a0 x143_5 := by rw [hx6, ww.2.1]; omega
              exact ⟨rfl, rfl, rfl, b143, A, Z, R, b, by rw [hx6, e1.2]; omega, fun hr => ⟨E, M, by rw [e]; exact X, fun _ => by rw [hx6, e1.2]; omega⟩⟩
          · skip
            intro T7
            intro T8
            refine Ma_load_c W156 T7 T8  ?_ (fun κ_9 q10 => ?_)
            · exact ⟨A.2.2.2.1.1, A.2.2.2.1.2.1, A.2.2.1.1⟩  -- p11
            obtain ⟨A1, P1, X1⟩ := ld_f (lo := (zA κ143 (zR κ143 atFirsts a0) a1.toNatClampNeg).toInt) W143 T143_0 A X q10.1 q10.2.1 q10.2.2.1 (Or.inl q10.2.2.2)
            have r1 := (ld_r W143 T143_0 P1.1).1
            have T1 := P1.1.t T143_0 (by decide)
            have rm1 := r1 atMachine (by decide)
            have M1 := exM_P W143 T143_0 P1 M
            intro W11
            intro M12
            intro T13
            refine Ma_settle_c W11 T13  ?_ (fun κ_14 q15 => ?_)
            · exact ⟨A1.2.2.2.1.1, by rw [rm1]; exact q10.2.2.2, by rw [M1.2.2.2.1]; exact ww.1⟩  -- p12
            obtain ⟨A2, P2, X2⟩ := ld_f (lo := (zA κ143 (zR κ143 atFirsts a0) a1.toNatClampNeg).toInt) W11 T1 A1 X1 q15.1 q15.2.2.2 q15.2.1 q15.2.2.1
            have P12 := ldP.tr W143 T143_0 P1 P2
            have M2 := exM_P W143 T143_0 P12 M
            have T2 := P2.1.t T1 (by decide)
            intro W16
            intro M17
            refine ⟨?_, ?_⟩
            · have L2 := A2.2.2.2.1.1.1.2.2.2.2
              rw [inb_iff]; omega
            intro T18
            refine At_lead_c W16 T18 (exW κ143 a0 x143_5) ?_ (fun r19 κ_20 q21 => ?_)
            · have qC := ((ld_r W143 T143_0 P12.1).2.2 atChooses (by decide) (by decide)).1
              have w2 := ww.2.1
              have w3 := ww.2.2.2.1
              refine ⟨A2, X2, k01, ⟨by rw [M2.2.2.2.2]; exact ww.2.2.1, by rw [M2.2.2.2.2]; omega⟩, fun z => ?_⟩
              rw [qC] at z
              rw [M2.2.2.2.2]
              exact ww.2.2.2.2 z
            intro W22
            intro M23
            intro x24 hx24
            refine ⟨_, ?_, rfl, ?_⟩
            · rw [hn143, hx24, e1.2]; omega  -- d15
            · have nS := (at_ne W143 T143_0).2.1
              have nS1 := (at_ne W11 T1).2.1
              have t1 : zI κ_14 hoTotal (zR κ_14 atStates a0) = zI κ143 hoTotal (zR κ143 atStates a0) := by
                rw [(ld_r W11 T1 P2.1).1 atStates (by decide), q15.1.1.i (fun y => nS1 y.symm), r1 atStates (by decide), q10.1.1.i (fun y => nS y.symm)]
              exact ⟨rfl, rfl, rfl, fun z => q21.2.2.2.2 (by rw [t1]; exact b143 z), exL_s W143 T143_0 LL jh h1 P12 W16 T2 q21.1 q21.2.1 q21.2.2.1 q21.2.2.2.1 hx24⟩
    refine ⟨fun c25 => ?_, fun c25 => ?_⟩
    · skip
      refine hj156 _ _ _ _ _ _ _ W143 ?_ ?_
      · exact T143_0  -- t17
      · exact ⟨rfl, rfl, rfl, rfl, rfl, rfl, rfl, fun hr => by
          rw [(i143.2.2.2.2.2 hr).2.1.2.1.mp c25]; decide⟩
    · skip
      refine ⟨?_, ?_⟩
      · have L := i143.1.1.2.2.2.2.1
        rw [inb_iff]; omega
      refine ⟨fun c26 => ?_, fun c26 => ?_⟩
      · skip
        refine hj231 _ _ _ _ W143 ?_ ?_
        · exact T143_0  -- t20
        · exact ⟨rfl, rfl, b143, exZ_L i143 (fun hr hw => by
            have M := (i143.2.2.2.2.2 hr).2.1
            rcases M.1 with z | ⟨z, -⟩ | ⟨z, -⟩
            · exact absurd z hw
            · exact absurd c25 (M.2.1.mpr z)
            · exact absurd c26 (M.2.2.1.mpr z))⟩
      · skip
        refine hj156 _ _ _ _ _ _ _ W143 ?_ ?_
        · exact T143_0  -- t22
        · exact ⟨rfl, rfl, rfl, rfl, rfl, rfl, rfl, fun hr => by
            rw [(i143.2.2.2.2.2 hr).2.1.2.2.1.mp c26]; decide⟩
  have hj101 : ∀ (l0 : Nat) (l1 : Int32) (l2 : Int32) (l3 : Int32) (s0 : Nat) (s1 : Int32) (s2 : Int32) (τ : zS), zW C (zn κ) τ → zT τ l0 = 3 → zT τ s0 = 20 → (a0 = l0 ∧ a1 = l1 ∧ a2 = l2 ∧ exI κ τ a0 a1.toNatClampNeg ∧ mDw τ (zR κ atMachine a0) ∧ (l3 ≠ 0 ↔ zI τ maWants (zR κ atMachine a0) = 3) ∧ s0 = zR τ atTotals a0 ∧ a1 = s1 ∧ (zA τ (zR τ atChooses a0) a1.toNatClampNeg ≠ 0 ↔ zI τ maWants (zR κ atMachine a0) = 4) ∧ (zI τ maWants (zR κ atMachine a0) = 3 → s2 = zI τ maTotal (zR κ atMachine a0)) ∧ (zI τ maWants (zR κ atMachine a0) = -1 → s2 = 1)) → w_At_expand_101 C (zn κ) Q  l0 l1 l2 l3 s0 s1 s2 τ := by
    rintro _ _ _ y101_3 y101_s0 y101_s1 y101_s2 τ101 W101 T101_0 T101_1 ⟨rfl, rfl, rfl, j101⟩
    unfold w_At_expand_101
    obtain ⟨H, D, d3, rfl, rfl, cC, t3, t1⟩ := j101
    refine ⟨?_, ?_⟩
    · have L := H.1.1.2.1
      rw [inb_iff]; omega
    intro κ_27 hκ_27
    intro W28
    have U1 := ex_u W101 T101_0 H (Or.inr (Or.inl rfl)) hκ_27
    have T27 : zT κ_27 a0 = 3 := by rw [hκ_27]; exact T101_0
    refine ⟨?_, ?_⟩
    · have L := U1.1.1.1.2.2.1
      rw [inb_iff]; omega
    intro κ_29 hκ_29
    intro W30
    have U2 := ex_u W28 T27 U1.1 (Or.inr (Or.inr rfl)) hκ_29
    have T29 : zT κ_29 a0 = 3 := by rw [hκ_29]; exact T27
    have G := U1.2.1.tr U2.2.1
    have rm : zR κ_29 atMachine a0 = zR κ atMachine a0 := U2.1.2.2.2.2.1
    have gw := (G maWants (by decide)).1
    have gt := (G maTotal (by decide)).1
    have cr : zA κ_29 (zR κ_29 atChooses a0) = zA τ101 (zR τ101 atChooses a0) := by
      rw [U2.2.2.1, U2.2.2.2.2.1 atChooses (by decide) (by decide), U1.2.2.1, U1.2.2.2.2.1 atChooses (by decide) (by decide)]
    have tr9 : zA κ_29 (zR κ_29 atTotals a0) a1.toNatClampNeg = y101_s2 := by
      rw [U2.2.2.1, U2.2.2.2.2.1 atTotals (by decide) (by decide), U1.2.2.1, U1.2.2.2.2.2]
      exact if_pos rfl
    have sb29 : stB κ κ_29 a0 a2 := fun z => by
      rw [U2.1.2.2.2.2.2.1, U2.1.2.2.2.2.2.2.2]
      exact z
    have M9 : exM κ_29 a0 a1.toNatClampNeg y101_3 := by
      unfold exM
      rw [rm, cr, tr9, gw, gt]
      exact ⟨mDw_g G D, d3, cC, fun z => by rw [t3 z], fun z => by rw [t1 z]; rfl⟩
    refine ⟨fun c31 => ?_, fun c31 => ?_⟩
    · skip
      refine hh143 _ _ _ _ _ _ _ W30 (by assumption) ?_
      · exact ⟨rfl, rfl, rfl, sb29, exL_0 U2.1 M9 (by rw [M9.2.1.mp c31]; decide)⟩  -- j26
    · skip
      refine ⟨?_, ?_⟩
      · have L := U2.1.1.1.2.2.2.2.1
        rw [inb_iff]; omega
      refine ⟨fun c32 => ?_, fun c32 => ?_⟩
      · skip
        refine hh143 _ _ _ _ _ _ _ W30 (by assumption) ?_
        · exact ⟨rfl, rfl, rfl, sb29, exL_0 U2.1 M9 (by rw [M9.2.2.1.mp c32]; decide)⟩  -- j28
      · skip
        intro T33
        refine At_lead_c W30 T33 0 ?_ (fun r34 κ_35 q36 => ?_)
        · exact ⟨U2.1.1, ld_o3 U2.1.1 U2.1.2.2.1, k01, by decide, fun z => absurd c32 z⟩  -- p29
        have T35 := q36.2.1.1.t T29 (by decide)
        intro W37
        intro M38
        refine hh143 _ _ _ _ _ _ _ W37 (by assumption) ?_
        · have hw : zI κ_29 maWants (zR κ_29 atMachine a0) = -1 := by
            rcases M9.1 with z | ⟨z, -⟩ | ⟨z, -⟩
            · exact z
            · exact absurd c31 (M9.2.1.mpr z)
            · exact absurd c32 (M9.2.2.1.mpr z)
          exact ⟨rfl, rfl, rfl, fun z => q36.2.2.2.2 (sb29 z), exL_1 W30 T29 U2.1 M9 hw q36.1 q36.2.1 q36.2.2.1 q36.2.2.2.1⟩
  have hj67 : ∀ (l0 : Nat) (l1 : Int32) (l2 : Int32) (l3 : Int32) (s0 : Nat) (s1 : Int32) (s2 : Int32) (τ : zS), zW C (zn κ) τ → zT τ l0 = 3 → zT τ s0 = 23 → (a0 = l0 ∧ a1 = l1 ∧ a2 = l2 ∧ exI κ τ a0 a1.toNatClampNeg ∧ mDw τ (zR κ atMachine a0) ∧ (l3 ≠ 0 ↔ zI τ maWants (zR κ atMachine a0) = 3) ∧ s0 = zR τ atChooses a0 ∧ a1 = s1 ∧ (s2 = 0 ∨ s2 = 1) ∧ (s2 ≠ 0 ↔ zI τ maWants (zR κ atMachine a0) = 4)) → w_At_expand_67 C (zn κ) Q  l0 l1 l2 l3 s0 s1 s2 τ := by
    rintro _ _ _ y67_3 y67_s0 y67_s1 y67_s2 τ67 W67 T67_0 T67_1 ⟨rfl, rfl, rfl, j67⟩
    unfold w_At_expand_67
    obtain ⟨H, D, d3, rfl, rfl, s01, s4⟩ := j67
    refine ⟨?_, ?_⟩
    · have L := H.1.1.2.2.2.2.1
      rw [inb_iff]; omega
    intro κ_39 hκ_39
    intro W40
    have nv : vp_nar .boolean y67_s2 = y67_s2 := by
      rcases s01 with e | e
      · rw [e]; rfl
      · rw [e]; rfl
    rw [nv] at hκ_39
    have U := ex_u W67 T67_0 H (Or.inl rfl) hκ_39
    have T39 : zT κ_39 a0 = 3 := by rw [hκ_39]; exact T67_0
    have gw := (U.2.1 maWants (by decide)).1
    have cv : zA κ_39 (zR κ_39 atChooses a0) a1.toNatClampNeg = y67_s2 := by
      rw [U.2.2.1, U.2.2.2.2.2]; exact if_pos rfl
    have D9 := mDw_g U.2.1 D
    rw [← gw] at d3 s4
    have s5 := s4
    rw [← cv] at s5
    refine ⟨fun c41 => ?_, fun c41 => ?_⟩
    · skip
      refine ⟨?_, ?_⟩
      · have L := U.1.1.1.2.2.2.2.1
        rw [inb_iff]; omega
      refine ⟨fun c42 => ?_, fun c42 => ?_⟩
      · skip
        refine hj101 _ _ _ _ _ _ _ _ W40 ?_ ?_ ?_
        · exact T39  -- t33
        · exact ty_atTotals W40 T39  -- t34
        · exact ⟨rfl, rfl, rfl, U.1, D9, d3, rfl, rfl, s5, fun z => absurd c41 (d3.mpr z), fun _ => rfl⟩  -- k35
      · skip
        refine hj101 _ _ _ _ _ _ _ _ W40 ?_ ?_ ?_
        · exact T39  -- t36
        · exact ty_atTotals W40 T39  -- t37
        · exact ⟨rfl, rfl, rfl, U.1, D9, d3, rfl, rfl, s5, fun z => absurd c41 (d3.mpr z), fun z => by
            have y := s5.mp c42
            rw [z] at y
            exact absurd y (by decide)⟩
    · skip
      refine hj101 _ _ _ _ _ _ _ _ W40 ?_ ?_ ?_
      · exact T39  -- t39
      · exact ty_atTotals W40 T39  -- t40
      · have rm : zR κ_39 atMachine a0 = zR κ atMachine a0 := U.1.2.2.2.2.1
        exact ⟨rfl, rfl, rfl, U.1, D9, d3, rfl, rfl, s5, fun _ => by rw [rm], fun z => by
          have y := d3.mp c41
          rw [z] at y
          exact absurd y (by decide)⟩
  have hj45 : ∀ (l0 : Nat) (l1 : Int32) (l2 : Int32) (s0 : Int32) (τ : zS), zW C (zn κ) τ → zT τ l0 = 3 → (a0 = l0 ∧ a1 = l1 ∧ a2 = l2 ∧ exI κ τ a0 a1.toNatClampNeg ∧ mDw τ (zR κ atMachine a0) ∧ (s0 ≠ 0 ↔ zI τ maWants (zR κ atMachine a0) = 3)) → w_At_expand_45 C (zn κ) Q  l0 l1 l2 s0 τ := by
    rintro _ _ _ y45_s0 τ45 W45 T45_0 ⟨rfl, rfl, rfl, j45⟩
    unfold w_At_expand_45
    have rm : zR τ45 atMachine a0 = zR κ atMachine a0 := j45.1.2.2.2.2.1
    refine ⟨fun c43 => ?_, fun c43 => ?_⟩
    · skip
      refine hj67 _ _ _ _ _ _ _ _ W45 ?_ ?_ ?_
      · exact T45_0  -- t42
      · exact ty_atChooses W45 T45_0  -- t43
      · rw [rm] at c43
        exact ⟨rfl, rfl, rfl, j45.1, j45.2.1, j45.2.2, rfl, rfl, Or.inl rfl, fun z => absurd rfl z, fun z => absurd z c43⟩
    · skip
      refine hj67 _ _ _ _ _ _ _ _ W45 ?_ ?_ ?_
      · exact T45_0  -- t45
      · exact ty_atChooses W45 T45_0  -- t46
      · rw [rm] at c43
        exact ⟨rfl, rfl, rfl, j45.1, j45.2.1, j45.2.2, rfl, rfl, Or.inr rfl, fun _ => c43, fun _ => by decide⟩
  refine ⟨?_, ?_⟩
  · have L := A0.1.1
    rw [inb_iff]; omega
  intro κ_44 hκ_44
  intro W45
  intro T46
  intro T47
  have H1 := ex_1 W Ta0 A0 E0 F0 hκ_44
  have T44 : zT κ_44 a0 = 3 := by rw [hκ_44]; exact Ta0
  refine Ma_load_c W45 T46 T47  ?_ (fun κ_48 q49 => ?_)
  · exact ⟨H1.1.2.2.2.1.1, H1.1.2.2.2.1.2.1, H1.1.2.2.1.1⟩  -- p49
  have H2 := exI_a W45 T44 H1 q49.1 q49.2.2.1 (Or.inl q49.2.2.2)
  have T48 := q49.1.1.t T44 (by decide)
  intro W50
  intro M51
  intro T52
  refine Ma_act_c W50 T52  ?_ (fun κ_53 q54 => ?_)
  · exact ⟨H2.1.2.2.2.1.1, by rw [q49.1.2.1]; exact q49.2.2.2⟩  -- p50
  have H3 := exI_a W50 T48 H2 q54.1 q54.2.1 q54.2.2.1
  have T53 := q54.1.1.t T48 (by decide)
  have rm : zR κ_53 atMachine a0 = zR κ atMachine a0 := H3.2.2.2.2.1
  have rm2 : zR κ_48 atMachine a0 = zR κ atMachine a0 := H2.2.2.2.2.1
  have D : mDw κ_53 (zR κ atMachine a0) := by rw [← rm2]; exact q54.2.2.2
  intro W55
  intro M56
  refine ⟨fun c57 => ?_, fun c57 => ?_⟩
  · skip
    refine hj45 _ _ _ _ _ W55 ?_ ?_
    · exact T53  -- t51
    · rw [rm] at c57
      exact ⟨rfl, rfl, rfl, H3, D, fun z => absurd rfl z, fun z => absurd z c57⟩
  · skip
    refine hj45 _ _ _ _ _ W55 ?_ ?_
    · exact T53  -- t53
    · rw [rm] at c57
      exact ⟨rfl, rfl, rfl, H3, D, fun _ => c57, fun _ => by decide⟩

end
