set_option maxHeartbeats 1600000
/-! the class: Machine's leaves -/
/-- the lengths of a machine's rows -/
def maL (κ : zS) (m : Nat) : Prop := (zN κ (zR κ maMemory m)) = 142 ∧ (zN κ (zR κ maStack m)) = 256 ∧ (zN κ (zR κ maWorked m)) = 16 ∧ (zN κ (zR κ maValues m)) = 64 ∧ (zN κ (zR κ maWeights m)) = 64
theorem Ma_length_c {C : zC} {n0 : Nat} {a0 : Nat} {κ : zS} {Q : Int32 → zS → Prop} (W : zW C n0 κ) (Ta0 : zT κ a0 = 7)  (h : ∀ (v : Int32), (v = zI κ maShared a0 + zI κ maOpen a0 * 9) → Q v κ) : zRun C 0 mMa_length [.ref a0] κ (oI Q noX) := by
  refine Ma_length_run W Ta0 ?_
  replace W := W.lo (Nat.le_trans W.1.2.1 W.1.2.2) (Nat.le_refl (zn κ))
  unfold w_Ma_length_0
  refine h _ ?_
  · rfl  -- q1

theorem Ma_fail_c {C : zC} {n0 : Nat} {a0 : Nat} {a1 : Int32} {κ : zS} {Q : zS → Prop} (W : zW C n0 κ) (Ta0 : zT κ a0 = 7)  (h : ∀ (κ' : zS), (zF (objF a0) κ κ' ∧ zR κ' = zR κ ∧ zN κ' = zN κ ∧ zA κ' = zA κ ∧ (∀ f b, ¬ (f = maFailure ∧ b = a0) → ¬ (f = maOutcome ∧ b = a0) → zI κ' f b = zI κ f b) ∧ zI κ' maFailure a0 = a1 ∧ zI κ' maOutcome a0 = 2) → Q κ') : zRun C 0 mMa_fail [.ref a0, .int a1] κ (oV Q noX) := by
  refine Ma_fail_run W Ta0 ?_
  replace W := W.lo (Nat.le_trans W.1.2.1 W.1.2.2) (Nat.le_refl (zn κ))
  unfold w_Ma_fail_0
  intro κ_1 hκ_1
  intro W2
  intro κ_3 hκ_3
  intro W4
  refine h _ ?_
  · have f1 : zF (objF a0) κ κ_1 := by rw [hκ_1]; exact zF_ui rfl
    have f2 : zF (objF a0) κ_1 κ_3 := by rw [hκ_3]; exact zF_ui rfl
    refine ⟨f1.tr f2, by rw [hκ_3, hκ_1]; rfl, by rw [hκ_3, hκ_1]; rfl, by rw [hκ_3, hκ_1]; rfl, fun f b h1 h2 => ?_, ?_, ?_⟩
    · rw [hκ_3, hκ_1]
      exact (if_neg h2).trans (if_neg h1)
    · have e : zI κ_3 maFailure a0 = zI κ_1 maFailure a0 := by rw [hκ_3]; rfl
      rw [e, hκ_1]
      exact if_pos ⟨rfl, rfl⟩
    · rw [hκ_3]
      exact if_pos ⟨rfl, rfl⟩

theorem Ma_slot_c {C : zC} {n0 : Nat} {a0 : Nat} {a1 : Int32} {a2 : Int32} {κ : zS} {Q : Int32 → zS → Prop} (W : zW C n0 κ) (Ta0 : zT κ a0 = 7)  (h : ∀ (v : Int32), (True) → Q v κ) : zRun C 0 mMa_slot [.ref a0, .int a1, .int a2] κ (oI Q noX) := by
  refine Ma_slot_run W Ta0 ?_
  replace W := W.lo (Nat.le_trans W.1.2.1 W.1.2.2) (Nat.le_refl (zn κ))
  unfold w_Ma_slot_0
  refine ⟨fun c1 => ?_, fun c1 => ?_⟩
  · skip
    refine ⟨fun c2 => ?_, fun c2 => ?_⟩
    · skip
      refine h _ ?_
      · trivial  -- q1
    · skip
      refine h _ ?_
      · trivial  -- q2
  · skip
    refine h _ ?_
    · trivial  -- q3

theorem Ma_cellAt_c {C : zC} {n0 : Nat} {a0 : Nat} {a1 : Int32} {a2 : Int32} {κ : zS} {Q : Int32 → zS → Prop} (W : zW C n0 κ) (Ta0 : zT κ a0 = 7)  (hp : coI κ (zR κ maCode a0)) (h : ∀ (v : Int32), (v = -1 ∨ (0 ≤ v.toInt ∧ v.toInt < 34)) → Q v κ) : zRun C 0 mMa_cellAt [.ref a0, .int a1, .int a2] κ (oI Q noX) := by
  refine Ma_cellAt_run W Ta0 ?_
  replace W := W.lo (Nat.le_trans W.1.2.1 W.1.2.2) (Nat.le_refl (zn κ))
  unfold w_Ma_cellAt_0
  have H := hp.1
  have V := hp.2.1
  have B := hp.2.2.2.2.2.2.2.2
  have hj31 : ∀ (l0 : Nat) (l1 : Int32) (l2 : Int32) (s0 : Int32) (τ : zS), zW C (zn κ) τ → zT τ l0 = 7 → (κ = τ ∧ a0 = l0 ∧ a1 = l1 ∧ a2 = l2 ∧ (s0 = 0 ∨ (0 ≤ a1.toInt ∧ a1.toInt < 3 ∧ 0 ≤ a2.toInt ∧ a2.toInt < (zA κ (zR κ coArraySizes (zR κ maCode a0)) a1.toNatClampNeg).toInt))) → w_Ma_cellAt_31 C (zn κ) Q  l0 l1 l2 s0 τ := by
    rintro _ _ _ y31_s0 _ W31 T31_0 ⟨rfl, rfl, rfl, rfl, j31⟩
    unfold w_Ma_cellAt_31
    refine ⟨fun c1 => ?_, fun c1 => ?_⟩
    · skip
      refine h _ ?_
      · exact Or.inl rfl  -- q1
    · skip
      have J := j31.resolve_left c1
      have kn := cnk (x := a1) J.1
      have b9 := B a1.toNatClampNeg (by omega)
      refine ⟨?_, ?_⟩
      · rw [inb_iff]; omega  -- b2
      refine h _ ?_
      · right
        have e1 : (zI κ coVars (zR κ maCode a0) + zA κ (zR κ coArrayBases (zR κ maCode a0)) a1.toNatClampNeg).toInt = (zI κ coVars (zR κ maCode a0)).toInt + (zA κ (zR κ coArrayBases (zR κ maCode a0)) a1.toNatClampNeg).toInt := add_i (by omega) (by omega)
        rw [add_i (by rw [e1]; omega) (by rw [e1]; omega), e1]
        omega
  refine ⟨fun c2 => ?_, fun c2 => ?_⟩
  · skip
    refine hj31 _ _ _ _ _ W ?_ ?_
    · exact Ta0  -- t4
    · first | exact ⟨rfl, rfl, rfl, rfl, Or.inl rfl⟩ | exact ⟨rfl, rfl, rfl, rfl, Or.inr (by simp only [lti, lei, t0i, show (3 : Int32).toInt = 3 from rfl] at *; omega)⟩  -- k5
  · skip
    refine ⟨fun c3 => ?_, fun c3 => ?_⟩
    · skip
      refine hj31 _ _ _ _ _ W ?_ ?_
      · exact Ta0  -- t6
      · first | exact ⟨rfl, rfl, rfl, rfl, Or.inl rfl⟩ | exact ⟨rfl, rfl, rfl, rfl, Or.inr (by simp only [lti, lei, t0i, show (3 : Int32).toInt = 3 from rfl] at *; omega)⟩  -- k7
    · skip
      refine ⟨fun c4 => ?_, fun c4 => ?_⟩
      · skip
        refine hj31 _ _ _ _ _ W ?_ ?_
        · exact Ta0  -- t8
        · first | exact ⟨rfl, rfl, rfl, rfl, Or.inl rfl⟩ | exact ⟨rfl, rfl, rfl, rfl, Or.inr (by simp only [lti, lei, t0i, show (3 : Int32).toInt = 3 from rfl] at *; omega)⟩  -- k9
      · skip
        refine ⟨?_, ?_⟩
        · rw [inb_iff]
          simp only [lti, lei, t0i, show (3 : Int32).toInt = 3 from rfl] at *
          omega
        refine ⟨fun c5 => ?_, fun c5 => ?_⟩
        · skip
          refine hj31 _ _ _ _ _ W ?_ ?_
          · exact Ta0  -- t11
          · first | exact ⟨rfl, rfl, rfl, rfl, Or.inl rfl⟩ | exact ⟨rfl, rfl, rfl, rfl, Or.inr (by simp only [lti, lei, t0i, show (3 : Int32).toInt = 3 from rfl] at *; omega)⟩  -- k12
        · skip
          refine hj31 _ _ _ _ _ W ?_ ?_
          · exact Ta0  -- t13
          · first | exact ⟨rfl, rfl, rfl, rfl, Or.inl rfl⟩ | exact ⟨rfl, rfl, rfl, rfl, Or.inr (by simp only [lti, lei, t0i, show (3 : Int32).toInt = 3 from rfl] at *; omega)⟩  -- k14

theorem Ma_put_c {C : zC} {n0 : Nat} {a0 : Nat} {a1 : Int32} {a2 : Int32} {κ : zS} {Q : zS → Prop} (W : zW C n0 κ) (Ta0 : zT κ a0 = 7)  (hp : maL κ a0) (h : ∀ (κ' : zS), (zF (oneF maMemory a0) κ κ' ∧ zI κ' = zI κ ∧ zR κ' = zR κ ∧ zN κ' = zN κ ∧ (∀ x, x ≠ zR κ maMemory a0 → zA κ' x = zA κ x) ∧ zR κ maWeights a0 ≠ zR κ maMemory a0) → Q κ') : zRun C 0 mMa_put [.ref a0, .int a1, .int a2] κ (oV Q noX) := by
  refine Ma_put_run W Ta0 ?_
  replace W := W.lo (Nat.le_trans W.1.2.1 W.1.2.2) (Nat.le_refl (zn κ))
  unfold w_Ma_put_0
  have B := W.n (ty_maMemory W Ta0)
  have nw : zR κ maWeights a0 ≠ zR κ maMemory a0 := ow_ne W (show zr maWeights = some 20 by decide +kernel) (by decide) Ta0 (show zr maMemory = some 20 by decide +kernel) (by decide) Ta0 (by decide)
  refine ⟨fun c1 => ?_, fun c1 => ?_⟩
  · skip
    refine h _ ?_
    · exact ⟨zF.rf, rfl, rfl, rfl, fun _ _ => rfl, nw⟩  -- q1
  · skip
    refine ⟨fun c2 => ?_, fun c2 => ?_⟩
    · skip
      refine h _ ?_
      · exact ⟨zF.rf, rfl, rfl, rfl, fun _ _ => rfl, nw⟩  -- q2
    · skip
      refine ⟨?_, ?_⟩
      · rw [lti, t0i] at c1
        rw [lei, ofn_i B] at c2
        rw [inb_iff]; omega
      intro κ_3 hκ_3
      intro W4
      refine h _ ?_
      · refine ⟨?_, by rw [hκ_3]; rfl, by rw [hκ_3]; rfl, by rw [hκ_3]; rfl, fun x h => by rw [hκ_3]; exact if_neg h, nw⟩
        rw [hκ_3]; exact zF_ua (by rw [ow_maMemory W Ta0]; exact ⟨rfl, rfl⟩)

theorem Ma_fetch_c {C : zC} {n0 : Nat} {a0 : Nat} {a1 : Int32} {a2 : Int32} {κ : zS} {Q : Int32 → zS → Prop} (W : zW C n0 κ) (Ta0 : zT κ a0 = 7)  (hp : maL κ a0) (h : ∀ (v : Int32), (True) → Q v κ) : zRun C 0 mMa_fetch [.ref a0, .int a1, .int a2] κ (oI Q noX) := by
  refine Ma_fetch_run W Ta0 ?_
  replace W := W.lo (Nat.le_trans W.1.2.1 W.1.2.2) (Nat.le_refl (zn κ))
  unfold w_Ma_fetch_0
  have B := W.n (ty_maMemory W Ta0)
  have hj24 : ∀ (l0 : Nat) (s0 : Int32) (τ : zS), zW C (zn κ) τ → zT τ l0 = 7 → (κ = τ ∧ a0 = l0 ∧ True) → w_Ma_fetch_24 C (zn κ) Q  l0 s0 τ := by
    rintro _ y24_s0 _ W24 T24_0 ⟨rfl, rfl, j24⟩
    unfold w_Ma_fetch_24
    refine ⟨fun c1 => ?_, fun c1 => ?_⟩
    · skip
      refine h _ ?_
      · trivial  -- q1
    · skip
      refine ⟨fun c2 => ?_, fun c2 => ?_⟩
      · skip
        refine h _ ?_
        · trivial  -- q2
      · skip
        refine ⟨?_, ?_⟩
        · simp only [lti, lei, t0i, ofn_i B] at *
          rw [inb_iff]; omega
        refine h _ ?_
        · trivial  -- q4
  refine ⟨fun c3 => ?_, fun c3 => ?_⟩
  · skip
    refine ⟨fun c4 => ?_, fun c4 => ?_⟩
    · skip
      refine hj24 _ _ _ W ?_ ?_
      · exact Ta0  -- t5
      · exact ⟨rfl, rfl, trivial⟩  -- k6
    · skip
      refine hj24 _ _ _ W ?_ ?_
      · exact Ta0  -- t7
      · exact ⟨rfl, rfl, trivial⟩  -- k8
  · skip
    refine h _ ?_
    · trivial  -- q9

theorem Ma_combine_c {C : zC} {n0 : Nat} {a0 : Int32} {a1 : Int32} {a2 : Int32} {κ : zS} {Q : Int32 → zS → Prop} (W : zW C n0 κ)   (h : ∀ (v : Int32), (True) → Q v κ) : zRun C 0 mMa_combine [.int a0, .int a1, .int a2] κ (oI Q noX) := by
  refine Ma_combine_run W  ?_
  replace W := W.lo (Nat.le_trans W.1.2.1 W.1.2.2) (Nat.le_refl (zn κ))
  unfold w_Ma_combine_0
  refine ⟨fun c1 => ?_, fun c1 => ?_, fun c1 => ?_, fun c1 => ?_, fun c1 => ?_, fun c1 => ?_, fun c1 => ?_, fun c1 => ?_, fun c1 => ?_, fun c1 => ?_, fun c1 => ?_, fun c1 => ?_, fun c1 => ?_⟩
  · skip
    refine ⟨fun c2 => ?_, fun c2 => ?_⟩
    · skip
      refine h _ ?_
      · first | trivial | assumption  -- q1
    · skip
      refine ⟨?_, ?_⟩
      · first | trivial | assumption  -- b2
      refine h _ ?_
      · first | trivial | assumption  -- q3
  · skip
    refine ⟨fun c3 => ?_, fun c3 => ?_⟩
    · skip
      refine h _ ?_
      · first | trivial | assumption  -- q4
    · skip
      refine ⟨fun c4 => ?_, fun c4 => ?_⟩
      · skip
        refine h _ ?_
        · first | trivial | assumption  -- q5
      · skip
        refine h _ ?_
        · first | trivial | assumption  -- q6
  · skip
    refine ⟨fun c5 => ?_, fun c5 => ?_⟩
    · skip
      refine h _ ?_
      · first | trivial | assumption  -- q7
    · skip
      refine ⟨fun c6 => ?_, fun c6 => ?_⟩
      · skip
        refine h _ ?_
        · first | trivial | assumption  -- q8
      · skip
        refine h _ ?_
        · first | trivial | assumption  -- q9
  · skip
    refine ⟨fun c7 => ?_, fun c7 => ?_⟩
    · skip
      refine h _ ?_
      · first | trivial | assumption  -- q10
    · skip
      refine h _ ?_
      · first | trivial | assumption  -- q11
  · skip
    refine ⟨fun c8 => ?_, fun c8 => ?_⟩
    · skip
      refine h _ ?_
      · first | trivial | assumption  -- q12
    · skip
      refine h _ ?_
      · first | trivial | assumption  -- q13
  · skip
    refine ⟨fun c9 => ?_, fun c9 => ?_⟩
    · skip
      refine h _ ?_
      · first | trivial | assumption  -- q14
    · skip
      refine h _ ?_
      · first | trivial | assumption  -- q15
  · skip
    refine ⟨fun c10 => ?_, fun c10 => ?_⟩
    · skip
      refine h _ ?_
      · first | trivial | assumption  -- q16
    · skip
      refine h _ ?_
      · first | trivial | assumption  -- q17
  · skip
    refine ⟨fun c11 => ?_, fun c11 => ?_⟩
    · skip
      refine h _ ?_
      · first | trivial | assumption  -- q18
    · skip
      refine h _ ?_
      · first | trivial | assumption  -- q19
  · skip
    refine ⟨fun c12 => ?_, fun c12 => ?_⟩
    · skip
      refine h _ ?_
      · first | trivial | assumption  -- q20
    · skip
      refine h _ ?_
      · first | trivial | assumption  -- q21
  · skip
    refine h _ ?_
    · first | trivial | assumption  -- q22
  · skip
    refine h _ ?_
    · first | trivial | assumption  -- q23
  · skip
    refine h _ ?_
    · first | trivial | assumption  -- q24
  · skip
    refine ⟨fun c13 => ?_, fun c13 => ?_⟩
    · skip
      refine h _ ?_
      · first | trivial | assumption  -- q25
    · skip
      refine ⟨?_, ?_⟩
      · first | trivial | assumption  -- b26
      refine h _ ?_
      · first | trivial | assumption  -- q27

theorem Ma_wayAt_c {C : zC} {n0 : Nat} {a0 : Nat} {a1 : Int64} {κ : zS} {Q : Int32 → zS → Prop} (W : zW C n0 κ) (Ta0 : zT κ a0 = 7)  (hp : maL κ a0 ∧ (zI κ maWays a0).toInt ≤ 64) (h : ∀ (v : Int32), (0 ≤ v.toInt ∧ (v = 0 ∨ v.toInt < (zI κ maWays a0).toInt)) → Q v κ) : zRun C 0 mMa_wayAt [.ref a0, .long a1] κ (oI Q noX) := by
  refine Ma_wayAt_run W Ta0 ?_
  replace W := W.lo (Nat.le_trans W.1.2.1 W.1.2.2) (Nat.le_refl (zn κ))
  unfold w_Ma_wayAt_0
  obtain ⟨H, p0⟩ := hp
  have B := H.2.2.2.2
  have hj18 : ∀ (l0 : Nat) (s0 : Int64) (τ : zS), zW C (zn κ) τ → zT τ l0 = 7 → (κ = τ ∧ a0 = l0 ∧ True) → w_Ma_wayAt_18 C (zn κ) Q  l0 s0 τ := by
    rintro _ y18_s0 _ W18 T18_0 ⟨rfl, rfl, j18⟩
    unfold w_Ma_wayAt_18
    unfold w_Ma_wayAt_25
    refine ⟨fun n l0 l3 l5 l7 τ => n = ((zI κ maWays a0).toInt - l7.toInt).toNat ∧ (κ = τ ∧ a0 = l0 ∧ 0 ≤ l7.toInt), ⟨_, rfl, ?_⟩, ?_⟩
    · exact ⟨rfl, rfl, by decide⟩  -- j1
    rintro n25 _ x25_3 x25_5 x25_7 _ W25 T25_0 ⟨hn25, rfl, rfl, i25⟩
    refine ⟨fun c1 => ?_, fun c1 => ?_⟩
    · skip
      refine h _ ?_
      · exact ⟨by decide, Or.inl rfl⟩  -- q2
    · skip
      have d1 : x25_7.toInt < (zI κ maWays a0).toInt := by rw [lei] at c1; omega
      have e1 := inc_i (x := x25_7) (y := zI κ maWays a0) i25 d1
      refine ⟨?_, ?_⟩
      · rw [inb_iff]; omega  -- b3
      intro x2 hx2
      refine ⟨fun c3 => ?_, fun c3 => ?_⟩
      · skip
        intro x4 hx4
        refine ⟨_, ?_, rfl, ?_⟩
        · rw [hn25, hx4, e1]; omega  -- d4
        · exact ⟨rfl, rfl, by rw [hx4, e1]; omega⟩  -- i5
      · skip
        refine h _ ?_
        · exact ⟨i25, Or.inr d1⟩  -- q6
  refine ⟨fun c5 => ?_, fun c5 => ?_⟩
  · skip
    refine hj18 _ _ _ W ?_ ?_
    · exact Ta0  -- t7
    · exact ⟨rfl, rfl, trivial⟩  -- k8
  · skip
    refine ⟨?_, ?_⟩
    · intro e
      have e9 := congrArg Int64.toInt e
      rw [Int32.toInt_toInt64] at e9
      rw [lei, t0i] at c5
      have z9 : (0 : Int64).toInt = 0 := rfl
      rw [z9] at e9
      omega
    refine hj18 _ _ _ W ?_ ?_
    · exact Ta0  -- t10
    · exact ⟨rfl, rfl, trivial⟩  -- k11
