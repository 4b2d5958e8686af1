set_option maxHeartbeats 1600000
/-! the class: Atlas: what holds of it; its leaves -/
def atL (κ : zS) (a : Nat) : Prop := ((zN κ (zR κ atSorts a)) = (zN κ (zR κ atNumbers a)) ∧ (zN κ (zR κ atWeights a)) = (zN κ (zR κ atNumbers a))) ∧ 64 ≤ (zN κ (zR κ atNumbers a)) ∧ (zN κ (zR κ atNumbers a)) ≤ 20000
def atM (κ : zS) (a : Nat) : Prop := (zN κ (zR κ atFirsts a)) = 1001 ∧ (zN κ (zR κ atTotals a)) = 1000 ∧ (zN κ (zR κ atGains a)) = 1000 ∧ (zN κ (zR κ atPlan a)) = 1000 ∧ (zN κ (zR κ atChooses a)) = 1000 ∧ (zN κ (zR κ atHopeless a)) = 1000
def atH (κ : zS) (a : Nat) : Prop := hoI κ (zR κ atStates a) 1000 142 2048 ∧ hoI κ (zR κ atEndings a) 1000 35 2048
def atG (κ : zS) (a : Nat) : Prop := atH κ a ∧ coI κ (zR κ atCode a)
theorem hP1 : hoP 1000 142 2048 := Or.inl ⟨rfl, rfl, rfl⟩
theorem hP2 : hoP 1000 35 2048 := Or.inr (Or.inl ⟨rfl, rfl, rfl⟩)
theorem At_holds_c {C : zC} {n0 : Nat} {a0 : Nat} {a1 : Int32} {κ : zS} {Q : Int32 → zS → Prop} (W : zW C n0 κ) (Ta0 : zT κ a0 = 3)  (h : ∀ (v : Int32), (nb v ∧ (v ≠ 0 → zI κ atExplored a0 ≠ 0 ∧ 0 ≤ a1.toInt ∧ a1.toInt < (zI κ hoTotal (zR κ atStates a0)).toInt)) → Q v κ) : zRun C 0 mAt_holds [.ref a0, .int a1] κ (oI Q noX) := by
  refine At_holds_run W Ta0 ?_
  replace W := W.lo (Nat.le_trans W.1.2.1 W.1.2.2) (Nat.le_refl (zn κ))
  unfold w_At_holds_0
  refine ⟨fun c1 => ?_, fun c1 => ?_⟩
  · skip
    refine h _ ?_
    · exact ⟨nb_0, fun z => absurd rfl z⟩  -- q1
  · skip
    refine ⟨fun c2 => ?_, fun c2 => ?_⟩
    · skip
      refine h _ ?_
      · exact ⟨nb_0, fun z => absurd rfl z⟩  -- q2
    · skip
      refine ⟨fun c3 => ?_, fun c3 => ?_⟩
      · skip
        refine h _ ?_
        · exact ⟨nb_0, fun z => absurd rfl z⟩  -- q3
      · skip
        refine h _ ?_
        · rw [lti, t0i] at c2
          rw [lei] at c3
          exact ⟨nb_1, fun _ => ⟨c1, by omega, by omega⟩⟩

theorem At_holdsEnding_c {C : zC} {n0 : Nat} {a0 : Nat} {a1 : Int32} {κ : zS} {Q : Int32 → zS → Prop} (W : zW C n0 κ) (Ta0 : zT κ a0 = 3)  (h : ∀ (v : Int32), (nb v ∧ (v ≠ 0 → zI κ atExplored a0 ≠ 0 ∧ 0 ≤ a1.toInt ∧ a1.toInt < (zI κ hoTotal (zR κ atEndings a0)).toInt)) → Q v κ) : zRun C 0 mAt_holdsEnding [.ref a0, .int a1] κ (oI Q noX) := by
  refine At_holdsEnding_run W Ta0 ?_
  replace W := W.lo (Nat.le_trans W.1.2.1 W.1.2.2) (Nat.le_refl (zn κ))
  unfold w_At_holdsEnding_0
  refine ⟨fun c1 => ?_, fun c1 => ?_⟩
  · skip
    refine h _ ?_
    · exact ⟨nb_0, fun z => absurd rfl z⟩  -- q1
  · skip
    refine ⟨fun c2 => ?_, fun c2 => ?_⟩
    · skip
      refine h _ ?_
      · exact ⟨nb_0, fun z => absurd rfl z⟩  -- q2
    · skip
      refine ⟨fun c3 => ?_, fun c3 => ?_⟩
      · skip
        refine h _ ?_
        · exact ⟨nb_0, fun z => absurd rfl z⟩  -- q3
      · skip
        refine h _ ?_
        · rw [lti, t0i] at c2
          rw [lei] at c3
          exact ⟨nb_1, fun _ => ⟨c1, by omega, by omega⟩⟩

theorem cn1 {x : Int32} (h0 : 0 ≤ x.toInt) (h1 : x.toInt < 2147483647) : (x + 1).toNatClampNeg = x.toNatClampNeg + 1 ∧ (x + 1).toInt = x.toInt + 1 := by
  have e : (x + 1).toInt = x.toInt + 1 := by rw [add_i (by rw [t1i]; omega) (by rw [t1i]; omega), t1i]
  have k := cnk h0
  have k1 := cnk (x := x + 1) (by omega)
  exact ⟨by omega, e⟩
theorem At_waysOf_c {C : zC} {n0 : Nat} {a0 : Nat} {a1 : Int32} {κ : zS} {Q : Int32 → zS → Prop} (W : zW C n0 κ) (Ta0 : zT κ a0 = 3)  (hp : (zN κ (zR κ atFirsts a0)) = 1001 ∧ 0 ≤ a1.toInt ∧ a1.toInt < 1000) (h : ∀ (v : Int32), (v = zA κ (zR κ atFirsts a0) (a1.toNatClampNeg + 1) - zA κ (zR κ atFirsts a0) a1.toNatClampNeg) → Q v κ) : zRun C 0 mAt_waysOf [.ref a0, .int a1] κ (oI Q noX) := by
  refine At_waysOf_run W Ta0 ?_
  replace W := W.lo (Nat.le_trans W.1.2.1 W.1.2.2) (Nat.le_refl (zn κ))
  unfold w_At_waysOf_0
  obtain ⟨L, p0, p1⟩ := hp
  have e := cn1 p0 (by omega)
  refine ⟨?_, ?_⟩
  · rw [inb_iff, e.2]; omega  -- b1
  refine ⟨?_, ?_⟩
  · rw [inb_iff]; omega  -- b2
  refine h _ ?_
  · rw [e.1]  -- q3

theorem At_divisorOf_c {C : zC} {n0 : Nat} {a0 : Nat} {a1 : Int32} {κ : zS} {Q : Int32 → zS → Prop} (W : zW C n0 κ) (Ta0 : zT κ a0 = 3)  (hp : atM κ a0 ∧ 0 ≤ a1.toInt ∧ a1.toInt < 1000) (h : ∀ (v : Int32), (v = if zA κ (zR κ atChooses a0) a1.toNatClampNeg = 0 then zA κ (zR κ atTotals a0) a1.toNatClampNeg else 1) → Q v κ) : zRun C 0 mAt_divisorOf [.ref a0, .int a1] κ (oI Q noX) := by
  refine At_divisorOf_run W Ta0 ?_
  replace W := W.lo (Nat.le_trans W.1.2.1 W.1.2.2) (Nat.le_refl (zn κ))
  unfold w_At_divisorOf_0
  obtain ⟨L, p0, p1⟩ := hp
  have L2 := L.2.1
  have L5 := L.2.2.2.2.1
  refine ⟨?_, ?_⟩
  · rw [inb_iff]; omega  -- b1
  refine ⟨fun c1 => ?_, fun c1 => ?_⟩
  · skip
    refine ⟨?_, ?_⟩
    · rw [inb_iff]; omega  -- b2
    refine h _ ?_
    · rw [if_pos c1]  -- q3
  · skip
    refine h _ ?_
    · rw [if_neg c1]  -- q4

theorem At_isTaken_c {C : zC} {n0 : Nat} {a0 : Nat} {a1 : Int32} {a2 : Int32} {κ : zS} {Q : Int32 → zS → Prop} (W : zW C n0 κ) (Ta0 : zT κ a0 = 3)  (hp : atM κ a0 ∧ 0 ≤ a1.toInt ∧ a1.toInt < 1000) (h : ∀ (v : Int32), (nb v ∧ (v ≠ 0 ↔ zA κ (zR κ atChooses a0) a1.toNatClampNeg = 0 ∨ a2 = zA κ (zR κ atFirsts a0) a1.toNatClampNeg + zA κ (zR κ atPlan a0) a1.toNatClampNeg)) → Q v κ) : zRun C 0 mAt_isTaken [.ref a0, .int a1, .int a2] κ (oI Q noX) := by
  refine At_isTaken_run W Ta0 ?_
  replace W := W.lo (Nat.le_trans W.1.2.1 W.1.2.2) (Nat.le_refl (zn κ))
  unfold w_At_isTaken_0
  obtain ⟨L, p0, p1⟩ := hp
  have L1 := L.1
  have L4 := L.2.2.2.1
  have L5 := L.2.2.2.2.1
  refine ⟨?_, ?_⟩
  · rw [inb_iff]; omega  -- b1
  refine ⟨fun c1 => ?_, fun c1 => ?_⟩
  · skip
    refine h _ ?_
    · exact ⟨nb_1, fun _ => Or.inl c1, fun _ => by decide⟩  -- q2
  · skip
    refine ⟨?_, ?_⟩
    · rw [inb_iff]; omega  -- b3
    refine ⟨?_, ?_⟩
    · rw [inb_iff]; omega  -- b4
    refine ⟨fun c2 => ?_, fun c2 => ?_⟩
    · skip
      refine h _ ?_
      · exact ⟨nb_0, fun z => absurd rfl z, fun z => absurd (z.resolve_left c1) c2⟩  -- q5
    · skip
      refine h _ ?_
      · exact ⟨nb_1, fun _ => Or.inr c2, fun _ => by decide⟩  -- q6

theorem At_callsOf_c {C : zC} {n0 : Nat} {a0 : Nat} {a1 : Int32} {κ : zS} {Q : Int32 → zS → Prop} (W : zW C n0 κ) (Ta0 : zT κ a0 = 3)  (hp : atG κ a0) (h : ∀ (v : Int32), (True) → Q v κ) : zRun C 1 mAt_callsOf [.ref a0, .int a1] κ (oI Q noX) := by
  refine At_callsOf_run W Ta0 ?_
  replace W := W.lo (Nat.le_trans W.1.2.1 W.1.2.2) (Nat.le_refl (zn κ))
  unfold w_At_callsOf_0
  intro T1
  refine Ho_lengthOf_c W T1 1000 142 2048 ?_ (fun r2 q4 => ?_)
  · exact ⟨hp.1.1, hP1⟩  -- p1
  intro W5
  intro M6
  intro T7
  refine Co_shared_c W5 T7  ?_ (fun r8 q10 => ?_)
  · exact hp.2  -- p2
  intro W11
  intro M12
  refine ⟨?_, ?_⟩
  · decide  -- b3
  refine h _ ?_
  · trivial  -- q4

theorem At_statementOf_c {C : zC} {n0 : Nat} {a0 : Nat} {a1 : Int32} {a2 : Int32} {κ : zS} {Q : Int32 → zS → Prop} (W : zW C n0 κ) (Ta0 : zT κ a0 = 3)  (hp : atG κ a0) (h : ∀ (v : Int32), (True) → Q v κ) : zRun C 2 mAt_statementOf [.ref a0, .int a1, .int a2] κ (oI Q noX) := by
  refine At_statementOf_run W Ta0 ?_
  replace W := W.lo (Nat.le_trans W.1.2.1 W.1.2.2) (Nat.le_refl (zn κ))
  unfold w_At_statementOf_0
  intro T1
  refine Co_shared_c W T1  ?_ (fun r2 q4 => ?_)
  · exact hp.2  -- p1
  intro W5
  intro M6
  intro T7
  refine Ho_part_c W5 T7 1000 142 2048 ?_ (fun r8 q10 => ?_)
  · exact ⟨hp.1.1, hP1⟩  -- p2
  intro W11
  intro M12
  refine h _ ?_
  · trivial  -- q3

theorem At_hasVariable_c {C : zC} {n0 : Nat} {a0 : Nat} {a1 : Int32} {a2 : Int32} {a3 : Int32} {κ : zS} {Q : Int32 → zS → Prop} (W : zW C n0 κ) (Ta0 : zT κ a0 = 3)  (hp : atG κ a0) (h : ∀ (v : Int32), (nb v) → Q v κ) : zRun C 3 mAt_hasVariable [.ref a0, .int a1, .int a2, .int a3] κ (oI Q noX) := by
  refine At_hasVariable_run W Ta0 ?_
  replace W := W.lo (Nat.le_trans W.1.2.1 W.1.2.2) (Nat.le_refl (zn κ))
  unfold w_At_hasVariable_0
  refine ⟨fun c1 => ?_, fun c1 => ?_⟩
  · skip
    refine ⟨fun c2 => ?_, fun c2 => ?_⟩
    · skip
      refine h _ ?_
      · first | exact nb_0 | exact nb_1 | exact hp | exact ⟨hp.2, by decide, by decide⟩ | exact hp.2  -- q1
    · skip
      intro T3
      refine At_callsOf_c W T3  ?_ (fun r4 q6 => ?_)
      · first | exact nb_0 | exact nb_1 | exact hp | exact ⟨hp.2, by decide, by decide⟩ | exact hp.2  -- p2
      intro W7
      intro M8
      refine ⟨fun c9 => ?_, fun c9 => ?_⟩
      · skip
        refine h _ ?_
        · first | exact nb_0 | exact nb_1 | exact hp | exact ⟨hp.2, by decide, by decide⟩ | exact hp.2  -- q3
      · skip
        refine ⟨fun c10 => ?_, fun c10 => ?_⟩
        · skip
          intro T11
          refine At_statementOf_c W7 T11  ?_ (fun r12 q14 => ?_)
          · first | exact nb_0 | exact nb_1 | exact hp | exact ⟨hp.2, by decide, by decide⟩ | exact hp.2  -- p4
          intro W15
          intro M16
          intro T17
          refine Co_column_c W15 T17  ?_ (fun r18 q20 => ?_)
          · first | exact nb_0 | exact nb_1 | exact hp | exact ⟨hp.2, by decide, by decide⟩ | exact hp.2  -- p5
          intro W21
          intro M22
          refine ⟨fun c23 => ?_, fun c23 => ?_⟩
          · skip
            refine h _ ?_
            · first | exact nb_0 | exact nb_1 | exact hp | exact ⟨hp.2, by decide, by decide⟩ | exact hp.2  -- q6
          · skip
            refine ⟨fun c24 => ?_, fun c24 => ?_⟩
            · skip
              refine h _ ?_
              · first | exact nb_0 | exact nb_1 | exact hp | exact ⟨hp.2, by decide, by decide⟩ | exact hp.2  -- q7
            · skip
              refine ⟨?_, ?_⟩
              · have L := hp.2.1.2.2.2.2.2
                have e10 : (10 : Int32).toInt = 10 := rfl
                rw [lti, t0i] at c23
                rw [lei, e10] at c24
                rw [inb_iff]; omega
              refine ⟨fun c25 => ?_, fun c25 => ?_⟩
              · skip
                refine h _ ?_
                · first | exact nb_0 | exact nb_1 | exact hp | exact ⟨hp.2, by decide, by decide⟩ | exact hp.2  -- q9
              · skip
                refine h _ ?_
                · first | exact nb_0 | exact nb_1 | exact hp | exact ⟨hp.2, by decide, by decide⟩ | exact hp.2  -- q10
        · skip
          refine h _ ?_
          · first | exact nb_0 | exact nb_1 | exact hp | exact ⟨hp.2, by decide, by decide⟩ | exact hp.2  -- q11
  · skip
    intro T26
    refine Co_isShared_c W T26  ?_ (fun r27 q29 => ?_)
    · first | exact nb_0 | exact nb_1 | exact hp | exact ⟨hp.2, by decide, by decide⟩ | exact hp.2  -- p12
    intro W30
    intro M31
    refine ⟨?_, h _ ?_⟩
    · exact q29.1  -- b13
    · exact q29.1  -- q14

theorem At_variableOf_c {C : zC} {n0 : Nat} {a0 : Nat} {a1 : Int32} {a2 : Int32} {a3 : Int32} {κ : zS} {Q : Int32 → zS → Prop} (W : zW C n0 κ) (Ta0 : zT κ a0 = 3)  (hp : atG κ a0) (h : ∀ (v : Int32), (True) → Q v κ) : zRun C 2 mAt_variableOf [.ref a0, .int a1, .int a2, .int a3] κ (oI Q noX) := by
  refine At_variableOf_run W Ta0 ?_
  replace W := W.lo (Nat.le_trans W.1.2.1 W.1.2.2) (Nat.le_refl (zn κ))
  unfold w_At_variableOf_0
  refine ⟨fun c1 => ?_, fun c1 => ?_⟩
  · skip
    intro T2
    refine Co_shared_c W T2  ?_ (fun r3 q5 => ?_)
    · first | trivial | exact hp.2 | exact ⟨hp.1.1, hP1⟩  -- p1
    intro W6
    intro M7
    intro T8
    refine Ho_part_c W6 T8 1000 142 2048 ?_ (fun r9 q11 => ?_)
    · first | trivial | exact hp.2 | exact ⟨hp.1.1, hP1⟩  -- p2
    intro W12
    intro M13
    refine h _ ?_
    · first | trivial | exact hp.2 | exact ⟨hp.1.1, hP1⟩  -- q3
  · skip
    intro T14
    refine Ho_part_c W T14 1000 142 2048 ?_ (fun r15 q17 => ?_)
    · first | trivial | exact hp.2 | exact ⟨hp.1.1, hP1⟩  -- p4
    intro W18
    intro M19
    refine h _ ?_
    · first | trivial | exact hp.2 | exact ⟨hp.1.1, hP1⟩  -- q5

theorem At_chosen_c {C : zC} {n0 : Nat} {a0 : Nat} {a1 : Nat} {κ : zS} {Q : Int32 → zS → Prop} (W : zW C n0 κ) (Ta0 : zT κ a0 = 3) (Ta1 : zT κ a1 = 7)  (hp : atH κ a0 ∧ (zI κ atExplored a0 ≠ 0 → atM κ a0)) (h : ∀ (v : Int32), (True) → Q v κ) : zRun C 3 mAt_chosen [.ref a0, .ref a1] κ (oI Q noX) := by
  refine At_chosen_run W Ta0 Ta1 ?_
  replace W := W.lo (Nat.le_trans W.1.2.1 W.1.2.2) (Nat.le_refl (zn κ))
  unfold w_At_chosen_0
  have hj26 : ∀ (l0 : Nat) (l1 : Nat) (s0 : Int32) (τ : zS), zW C (zn κ) τ → zT τ l0 = 3 → zT τ l1 = 7 → (κ = τ ∧ a0 = l0 ∧ a1 = l1 ∧ (s0 ≠ -1 → zI κ atExplored a0 ≠ 0 ∧ 0 ≤ s0.toInt ∧ s0.toInt < 1000)) → w_At_chosen_26 C (zn κ) Q  l0 l1 s0 τ := by
    rintro _ _ y26_s0 _ W26 T26_0 T26_1 ⟨rfl, rfl, rfl, j26⟩
    unfold w_At_chosen_26
    refine ⟨fun c1 => ?_, fun c1 => ?_⟩
    · skip
      refine h _ ?_
      · trivial  -- q1
    · skip
      refine ⟨?_, ?_⟩
      · have J := j26 c1
        have L := (hp.2 J.1).2.2.2.1
        rw [inb_iff]; omega
      refine ⟨fun c2 => ?_, fun c2 => ?_⟩
      · skip
        refine h _ ?_
        · trivial  -- q3
      · skip
        refine ⟨?_, ?_⟩
        · have J := j26 c1
          have L := (hp.2 J.1).2.2.2.1
          rw [inb_iff]; omega
        refine h _ ?_
        · trivial  -- q5
  refine ⟨fun c3 => ?_, fun c3 => ?_⟩
  · skip
    refine hj26 _ _ _ _ W ?_ ?_ ?_
    · exact Ta0  -- t6
    · exact Ta1  -- t7
    · exact ⟨rfl, rfl, rfl, fun z => absurd rfl z⟩  -- k8
  · skip
    intro T4
    refine Ma_length_c W T4  (fun r5 q7 => ?_)
    intro W8
    intro M9
    intro T10
    intro T11
    refine Ho_find_c W8 T10 T11 1000 142 2048 ?_ (fun r12 q14 => ?_)
    · exact ⟨hp.1.1, hP1⟩  -- p9
    intro W15
    intro M16
    refine hj26 _ _ _ _ W15 ?_ ?_ ?_
    · exact Ta0  -- t10
    · exact Ta1  -- t11
    · have b := hp.1.1.2.1.2
      refine ⟨rfl, rfl, rfl, fun z => ⟨c3, ?_, by omega⟩⟩
      have n1 : r12.toInt ≠ -1 := fun e => z (Int32.toInt_inj.mp (e.trans tmi.symm))
      omega

theorem At_countTrue_c {C : zC} {n0 : Nat} {a0 : Nat} {a1 : Nat} {κ : zS} {Q : Int32 → zS → Prop} (W : zW C n0 κ) (Ta0 : zT κ a0 = 3) (Ta1 : zT κ a1 = 23)  (h : ∀ (v : Int32), (True) → Q v κ) : zRun C 0 mAt_countTrue [.ref a0, .ref a1] κ (oI Q noX) := by
  refine At_countTrue_run W Ta0 Ta1 ?_
  replace W := W.lo (Nat.le_trans W.1.2.1 W.1.2.2) (Nat.le_refl (zn κ))
  unfold w_At_countTrue_0
  have nN := W.n Ta1
  unfold w_At_countTrue_4
  refine ⟨fun n l0 l1 l2 l3 τ => n = (zN κ a1 - l3.toInt).toNat ∧ (κ = τ ∧ a0 = l0 ∧ a1 = l1 ∧ 0 ≤ l3.toInt), ⟨_, rfl, ?_⟩, ?_⟩
  · exact ⟨rfl, rfl, rfl, by decide⟩  -- j1
  rintro n4 _ _ x4_2 x4_3 _ W4 T4_0 T4_1 ⟨hn4, rfl, rfl, rfl, i4⟩
  have hj33 : ∀ (l0 : Nat) (l1 : Nat) (l3 : Int32) (s0 : Int32) (s1 : Int32) (τ : zS), zW C (zn κ) τ → zT τ l0 = 3 → zT τ l1 = 23 → (κ = τ ∧ a0 = l0 ∧ a1 = l1 ∧ l3 = x4_3 ∧ l3.toInt < zN κ a1) → w_At_countTrue_33 C (zn κ) Q (fun (l0' : Nat) (l1' : Nat) (l2' : Int32) (l3' : Int32) (τ : zS) => ∃ k < n4, (fun (n : Nat) (l0 : Nat) (l1 : Nat) (l2 : Int32) (l3 : Int32) (τ : zS) => n = (zN κ a1 - l3.toInt).toNat ∧ (κ = τ ∧ a0 = l0 ∧ a1 = l1 ∧ 0 ≤ l3.toInt)) k l0' l1' l2' l3' τ) l0 l1 l3 s0 s1 τ := by
    rintro _ _ y33_3 y33_s0 y33_s1 _ W33 T33_0 T33_1 ⟨rfl, rfl, rfl, j33⟩
    unfold w_At_countTrue_33
    intro x1 hx1
    intro x2 hx2
    refine ⟨_, ?_, rfl, ?_⟩
    · obtain ⟨e, l⟩ := j33
      have e1 := (cn1 (x := y33_3) (by rw [e]; exact i4) (by omega)).2
      rw [hn4, hx2, e1, e]; rw [e] at l; omega
    · obtain ⟨e, l⟩ := j33
      have e1 := (cn1 (x := y33_3) (by rw [e]; exact i4) (by omega)).2
      exact ⟨rfl, rfl, rfl, by rw [hx2, e1, e]; omega⟩
  refine ⟨fun c3 => ?_, fun c3 => ?_⟩
  · skip
    refine h _ ?_
    · trivial  -- q4
  · skip
    refine ⟨fun c4 => ?_, fun c4 => ?_⟩
    · skip
      refine h _ ?_
      · trivial  -- q5
    · skip
      rw [lei, ofn_i nN] at c4
      refine ⟨?_, ?_⟩
      · rw [inb_iff]; omega  -- b6
      refine ⟨fun c5 => ?_, fun c5 => ?_⟩
      · skip
        refine hj33 _ _ _ _ _ _ W4 ?_ ?_ ?_
        · exact Ta0  -- t7
        · exact Ta1  -- t8
        · exact ⟨rfl, rfl, rfl, rfl, by omega⟩  -- k9
      · skip
        refine hj33 _ _ _ _ _ _ W4 ?_ ?_ ?_
        · exact Ta0  -- t10
        · exact Ta1  -- t11
        · exact ⟨rfl, rfl, rfl, rfl, by omega⟩  -- k12

theorem At_howMany_c {C : zC} {n0 : Nat} {a0 : Nat} {a1 : Int32} {κ : zS} {Q : Int32 → zS → Prop} (W : zW C n0 κ) (Ta0 : zT κ a0 = 3)  (h : ∀ (v : Int32), (True) → Q v κ) : zRun C 1 mAt_howMany [.ref a0, .int a1] κ (oI Q noX) := by
  refine At_howMany_run W Ta0 ?_
  replace W := W.lo (Nat.le_trans W.1.2.1 W.1.2.2) (Nat.le_refl (zn κ))
  unfold w_At_howMany_0
  refine ⟨fun c1 => ?_, fun c1 => ?_, fun c1 => ?_, fun c1 => ?_, fun c1 => ?_, fun c1 => ?_⟩
  · skip
    refine ⟨fun c2 => ?_, fun c2 => ?_⟩
    · skip
      intro T3
      intro T4
      refine At_countTrue_c W T3 T4  (fun r5 q7 => ?_)
      intro W8
      intro M9
      refine h _ ?_
      · trivial  -- q1
    · skip
      intro T10
      intro T11
      refine At_countTrue_c W T10 T11  (fun r12 q14 => ?_)
      intro W15
      intro M16
      refine h _ ?_
      · trivial  -- q2
  · skip
    refine h _ ?_
    · trivial  -- q3
  · skip
    refine h _ ?_
    · trivial  -- q4
  · skip
    refine h _ ?_
    · trivial  -- q5
  · skip
    refine h _ ?_
    · trivial  -- q6
  · skip
    refine h _ ?_
    · trivial  -- q7
