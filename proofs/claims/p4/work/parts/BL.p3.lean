set_option maxHeartbeats 1600000
/-! the class: Parser: statements, the whole text -/
theorem psi2 {C : zC} {n0 p : Nat} {κ τ σ : zS} (T : zT κ p = 10) (S : paS κ τ p) (W : zW C n0 τ) (h : paT τ σ p) : 2 ≤ psi σ p := by
  have a := psi_T W (paS_t S T) S.2.1 h
  have b := S.2.2.2
  omega
theorem Pa_localStatement_c {C : zC} {n0 : Nat} {a0 : Nat} {a1 : Int32} {κ : zS} {Q : zS → Prop} {X : zXp} (W : zW C n0 κ) (Ta0 : zT κ a0 = 10)  (hp : paA κ a0 ∧ zI κ paKind a0 = 153) (h : ∀ (κ' : zS), (paS κ κ' a0) → Q κ') (hx : ∀ (cls : String) (κ' : zS), (paX κ cls κ' a0) → X cls κ') : zRun C 12 mPa_localStatement [.ref a0, .int a1] κ (oV Q X) := by
  refine Pa_localStatement_run W Ta0 ?_
  replace W := W.lo (Nat.le_trans W.1.2.1 W.1.2.2) (Nat.le_refl (zn κ))
  unfold w_Pa_localStatement_0
  have S0 := paS_0 hp.1
  intro T1
  refine Pa_take_c W T1  ?_ (fun κ_2 q3 => ?_)
  · exact ⟨hp.1.1, paK_t hp.1.2.1 hp.2 (by decide)⟩  -- p1
  have S4 := paS_T Ta0 S0 W q3
  intro W5
  intro M6
  intro T7
  refine Pa_newName_c W5 T7  ?_ (fun r8 κ_9 q10 => ?_) (fun cls9 κ9 q9 => hx _ _ ?_)
  · exact ⟨S4.2.1, S4.2.2.1⟩  -- p2
  rotate_left
  · exact paX_tr S4.1 q9  -- x3
  have S11 := paS_T Ta0 S4 W5 q10.1
  intro W12
  intro M13
  intro T14
  refine Pa_pass_c W12 T14  ?_ (fun κ_15 q16 => ?_) (fun cls9 κ9 q9 => hx _ _ ?_)
  · exact ⟨S11.2.1, S11.2.2.1, by decide⟩  -- p4
  rotate_left
  · exact paX_tr S11.1 q9  -- x5
  have S17 := paS_T Ta0 S11 W12 q16
  intro W18
  intro M19
  intro T20
  refine Pa_expression_c W18 T20  ?_ (fun κ_21 q22 => ?_) (fun cls9 κ9 q9 => hx _ _ ?_)
  · exact ⟨S17.2.1, S17.2.2.1, S17.2.2.2, Or.inl rfl⟩  -- p6
  rotate_left
  · exact paX_tr S17.1 q9  -- x7
  have S23 := (⟨S17.1.tr q22.1, q22.2⟩ : paS κ κ_21 a0)
  intro W24
  intro M25
  intro T26
  refine Pa_pass_c W24 T26  ?_ (fun κ_27 q28 => ?_) (fun cls9 κ9 q9 => hx _ _ ?_)
  · exact ⟨S23.2.1, S23.2.2.1, by decide⟩  -- p8
  rotate_left
  · exact paX_tr S23.1 q9  -- x9
  have S29 := paS_T Ta0 S23 W24 q28
  intro W30
  intro M31
  intro T32
  refine Pa_setPlace_c W30 T32  ?_ (fun κ_33 q34 => ?_)
  · exact S29.2.1  -- p10
  have S35 := paS_N S29 q34
  intro W36
  intro M37
  intro T38
  refine Co_setColumn_c W36 T38  ?_ (fun κ_39 q40 => ?_)
  · exact ⟨S35.2.1.2.1, by decide, by decide⟩  -- p11
  have S41 := paS_N S35 (paN_k W36 (paS_t S35 Ta0) S35.2.1 q40)
  intro W42
  intro M43
  intro T44
  refine Pa_addOwn_c W42 T44  ?_ (fun κ_45 q46 => ?_)
  · exact S41.2.1  -- p12
  have S47 := paS_N S41 q46
  intro W48
  intro M49
  refine h _ ?_
  · exact S47  -- q13

theorem Pa_wordStatement_c {C : zC} {n0 : Nat} {a0 : Nat} {a1 : Int32} {κ : zS} {Q : zS → Prop} {X : zXp} (W : zW C n0 κ) (Ta0 : zT κ a0 = 10)  (hp : paA κ a0 ∧ zI κ paKind a0 ≠ 142) (h : ∀ (κ' : zS), (paS κ κ' a0) → Q κ') (hx : ∀ (cls : String) (κ' : zS), (paX κ cls κ' a0) → X cls κ') : zRun C 12 mPa_wordStatement [.ref a0, .int a1] κ (oV Q X) := by
  refine Pa_wordStatement_run W Ta0 ?_
  replace W := W.lo (Nat.le_trans W.1.2.1 W.1.2.2) (Nat.le_refl (zn κ))
  unfold w_Pa_wordStatement_0
  have S0 := paS_0 hp.1
  have hj97 : ∀ (l0 : Nat) (s0 : Nat) (s1 : Int32) (s2 : Int32) (s3 : Int32) (τ : zS), zW C (zn κ) τ → zT τ l0 = 10 → zT τ s0 = 5 → (a0 = l0 ∧ paS κ τ a0 ∧ s0 = zR τ paCode a0 ∧ s2 = 0) → w_Pa_wordStatement_97 C (zn κ) Q X  l0 s0 s1 s2 s3 τ := by
    rintro _ y97_s0 y97_s1 y97_s2 y97_s3 τ97 W97 T97_0 T97_1 ⟨rfl, j97⟩
    unfold w_Pa_wordStatement_97
    intro T1
    refine Co_setColumn_c W97 T1  ?_ (fun κ_2 q3 => ?_)
    · rw [j97.2.1, j97.2.2]; exact ⟨j97.1.2.1.2.1, by decide, by decide⟩  -- p1
    rw [j97.2.1] at q3
    have S4 := paS_N j97.1 (paN_k W97 (paS_t j97.1 Ta0) j97.1.2.1 q3)
    intro W5
    intro M6
    intro T7
    refine Pa_pass_c W5 T7  ?_ (fun κ_8 q9 => ?_) (fun cls9 κ9 q9 => hx _ _ ?_)
    · exact ⟨S4.2.1, S4.2.2.1, by decide⟩  -- p2
    rotate_left
    · exact paX_tr S4.1 q9  -- x3
    have S10 := paS_T Ta0 S4 W5 q9
    intro W11
    intro M12
    refine h _ ?_
    · exact S10  -- q4
  have hj49 : ∀ (l0 : Nat) (l1 : Int32) (s0 : Nat) (s1 : Int32) (s2 : Int32) (s3 : Int32) (τ : zS), zW C (zn κ) τ → zT τ l0 = 10 → zT τ s0 = 5 → (a0 = l0 ∧ a1 = l1 ∧ paS κ τ a0 ∧ s0 = zR τ paCode a0 ∧ s2 = 0) → w_Pa_wordStatement_49 C (zn κ) Q X  l0 l1 s0 s1 s2 s3 τ := by
    rintro _ _ y49_s0 y49_s1 y49_s2 y49_s3 τ49 W49 T49_0 T49_1 ⟨rfl, rfl, j49⟩
    unfold w_Pa_wordStatement_49
    intro T13
    refine Co_setColumn_c W49 T13  ?_ (fun κ_14 q15 => ?_)
    · rw [j49.2.1, j49.2.2]; exact ⟨j49.1.2.1.2.1, by decide, by decide⟩  -- p5
    rw [j49.2.1] at q15
    have S16 := paS_N j49.1 (paN_k W49 (paS_t j49.1 Ta0) j49.1.2.1 q15)
    intro W17
    intro M18
    intro T19
    refine Pa_openSign_c W17 T19  ?_ (fun κ_20 q21 => ?_) (fun cls9 κ9 q9 => hx _ _ ?_)
    · exact ⟨S16.2.1, S16.2.2.1, by decide⟩  -- p6
    rotate_left
    · exact paX_tr S16.1 q9  -- x7
    have S22 := paS_T Ta0 S16 W17 q21
    intro W23
    intro M24
    intro T25
    refine Pa_pushBlock_c W23 T25  ?_ (fun κ_26 q27 => ?_)
    · exact S22.2.1  -- p8
    have S28 := paS_N S22 q27
    intro W29
    intro M30
    refine h _ ?_
    · exact S28  -- q9
  have hj29 : ∀ (l0 : Nat) (l1 : Int32) (l2 : Int32) (τ : zS), zW C (zn κ) τ → zT τ l0 = 10 → (a0 = l0 ∧ a1 = l1 ∧ paS κ τ a0) → w_Pa_wordStatement_29 C (zn κ) Q X  l0 l1 l2 τ := by
    rintro _ _ y29_2 τ29 W29 T29_0 ⟨rfl, rfl, j29⟩
    unfold w_Pa_wordStatement_29
    refine ⟨fun c31 => ?_, fun c31 => ?_⟩
    · skip
      refine hj49 _ _ _ _ _ _ _ W29 ?_ ?_ ?_
      · exact paS_t j29 Ta0  -- t10
      · exact ty_paCode W29 (paS_t j29 Ta0)  -- t11
      · exact ⟨rfl, rfl, j29, rfl, rfl⟩  -- k12
    · skip
      refine hj49 _ _ _ _ _ _ _ W29 ?_ ?_ ?_
      · exact paS_t j29 Ta0  -- t13
      · exact ty_paCode W29 (paS_t j29 Ta0)  -- t14
      · exact ⟨rfl, rfl, j29, rfl, rfl⟩  -- k15
  intro x32 hx32
  intro T33
  refine Pa_take_c W T33  ?_ (fun κ_34 q35 => ?_)
  · exact ⟨hp.1.1, paK_t hp.1.2.1 rfl hp.2⟩  -- p16
  have S36 := paS_T Ta0 S0 W q35
  intro W37
  intro M38
  intro T39
  refine Pa_expression_c W37 T39  ?_ (fun κ_40 q41 => ?_) (fun cls9 κ9 q9 => hx _ _ ?_)
  · exact ⟨S36.2.1, S36.2.2.1, S36.2.2.2, Or.inl rfl⟩  -- p17
  rotate_left
  · exact paX_tr S36.1 q9  -- x18
  have S42 := (⟨S36.1.tr q41.1, q41.2⟩ : paS κ κ_40 a0)
  intro W43
  intro M44
  refine ⟨fun c45 => ?_, fun c45 => ?_⟩
  · skip
    refine hj29 _ _ _ _ W43 ?_ ?_
    · exact paS_t S42 Ta0  -- t19
    · exact ⟨rfl, rfl, S42⟩  -- k20
  · skip
    refine ⟨fun c46 => ?_, fun c46 => ?_⟩
    · skip
      refine ⟨fun c47 => ?_, fun c47 => ?_⟩
      · skip
        refine ⟨fun c48 => ?_, fun c48 => ?_⟩
        · skip
          refine hj97 _ _ _ _ _ _ W43 ?_ ?_ ?_
          · exact paS_t S42 Ta0  -- t21
          · exact ty_paCode W43 (paS_t S42 Ta0)  -- t22
          · exact ⟨rfl, S42, rfl, rfl⟩  -- k23
        · skip
          refine hj97 _ _ _ _ _ _ W43 ?_ ?_ ?_
          · exact paS_t S42 Ta0  -- t24
          · exact ty_paCode W43 (paS_t S42 Ta0)  -- t25
          · exact ⟨rfl, S42, rfl, rfl⟩  -- k26
      · skip
        refine hj97 _ _ _ _ _ _ W43 ?_ ?_ ?_
        · exact paS_t S42 Ta0  -- t27
        · exact ty_paCode W43 (paS_t S42 Ta0)  -- t28
        · exact ⟨rfl, S42, rfl, rfl⟩  -- k29
    · skip
      refine hj29 _ _ _ _ W43 ?_ ?_
      · exact paS_t S42 Ta0  -- t30
      · exact ⟨rfl, rfl, S42⟩  -- k31

theorem bh_k {l k : Int32} (h : l = 0 ∨ l = 3 ∨ k ≠ 142) (h0 : l ≠ 0) (h3 : l ≠ 3) : k ≠ 142 := by
  rcases h with e | e | e
  · exact absurd e h0
  · exact absurd e h3
  · exact e
theorem Pa_behindPlace_c {C : zC} {n0 : Nat} {a0 : Nat} {a1 : Int32} {κ : zS} {Q : Int32 → zS → Prop} {X : zXp} (W : zW C n0 κ) (Ta0 : zT κ a0 = 10)  (hp : paA κ a0) (h : ∀ (v : Int32) (κ' : zS), (paS κ κ' a0 ∧ 2 ≤ psi κ' a0) → Q v κ') (hx : ∀ (cls : String) (κ' : zS), (paX κ cls κ' a0) → X cls κ') : zRun C 10 mPa_behindPlace [.ref a0, .int a1] κ (oI Q X) := by
  refine Pa_behindPlace_run W Ta0 ?_
  replace W := W.lo (Nat.le_trans W.1.2.1 W.1.2.2) (Nat.le_refl (zn κ))
  unfold w_Pa_behindPlace_0
  have S0 := paS_0 hp
  have hj159 : ∀ (l0 : Nat) (l4 : Int32) (τ : zS), zW C (zn κ) τ → zT τ l0 = 10 → (a0 = l0 ∧ paS κ τ a0 ∧ 2 ≤ psi τ a0) → w_Pa_behindPlace_159 C (zn κ) Q X  l0 l4 τ := by
    rintro _ y159_4 τ159 W159 T159_0 ⟨rfl, j159⟩
    unfold w_Pa_behindPlace_159
    refine ⟨fun c1 => ?_, fun c1 => ?_⟩
    · skip
      refine h _ _ ?_
      · exact j159  -- q1
    · skip
      refine h _ _ ?_
      · exact j159  -- q2
  have hj133 : ∀ (l0 : Nat) (l3 : Int32) (s0 : Int32) (τ : zS), zW C (zn κ) τ → zT τ l0 = 10 → (a0 = l0 ∧ paS κ τ a0 ∧ 2 ≤ psi τ a0 ∧ (l3 = 0 ∨ l3 = 3 ∨ zI τ paKind a0 ≠ 142) ∧ (s0 ≠ 0 → zI τ paKind a0 ≠ 142)) → w_Pa_behindPlace_133 C (zn κ) Q X  l0 l3 s0 τ := by
    rintro _ y133_3 y133_s0 τ133 W133 T133_0 ⟨rfl, j133⟩
    unfold w_Pa_behindPlace_133
    refine ⟨fun c2 => ?_, fun c2 => ?_⟩
    · skip
      intro T3
      refine Pa_take_c W133 T3  ?_ (fun κ_4 q5 => ?_)
      · exact ⟨j133.1.2.1, paK_t j133.1.2.2.1 rfl (j133.2.2.2 c2)⟩  -- p3
      have S6 := paS_T Ta0 j133.1 W133 q5
      intro W7
      intro M8
      refine hj159 _ _ _ W7 ?_ ?_
      · exact paS_t S6 Ta0  -- t4
      · exact ⟨rfl, S6, psi2 Ta0 j133.1 W133 q5⟩  -- k5
    · skip
      refine ⟨fun c9 => ?_, fun c9 => ?_⟩
      · skip
        intro T10
        refine Pa_take_c W133 T10  ?_ (fun κ_11 q12 => ?_)
        · exact ⟨j133.1.2.1, paK_t j133.1.2.2.1 rfl (bh_k j133.2.2.1 (by rw [c9]; decide) (by rw [c9]; decide))⟩  -- p6
        have S13 := paS_T Ta0 j133.1 W133 q12
        intro W14
        intro M15
        refine hj159 _ _ _ W14 ?_ ?_
        · exact paS_t S13 Ta0  -- t7
        · exact ⟨rfl, S13, psi2 Ta0 j133.1 W133 q12⟩  -- k8
      · skip
        refine ⟨fun c16 => ?_, fun c16 => ?_⟩
        · skip
          intro T17
          refine Pa_take_c W133 T17  ?_ (fun κ_18 q19 => ?_)
          · exact ⟨j133.1.2.1, paK_t j133.1.2.2.1 rfl (bh_k j133.2.2.1 (by rw [c16]; decide) (by rw [c16]; decide))⟩  -- p9
          have S20 := paS_T Ta0 j133.1 W133 q19
          intro W21
          intro M22
          refine hj159 _ _ _ W21 ?_ ?_
          · exact paS_t S20 Ta0  -- t10
          · exact ⟨rfl, S20, psi2 Ta0 j133.1 W133 q19⟩  -- k11
        · skip
          refine ⟨fun c23 => ?_, fun c23 => ?_⟩
          · skip
            refine hj159 _ _ _ W133 ?_ ?_
            · exact paS_t j133.1 Ta0  -- t12
            · exact ⟨rfl, j133.1, j133.2.1⟩  -- k13
          · skip
            intro T24
            refine Pa_take_c W133 T24  ?_ (fun κ_25 q26 => ?_)
            · exact ⟨j133.1.2.1, paK_t j133.1.2.2.1 rfl (bh_k j133.2.2.1 (by rw [c23]; decide) (by rw [c23]; decide))⟩  -- p14
            have S27 := paS_T Ta0 j133.1 W133 q26
            intro W28
            intro M29
            refine hj159 _ _ _ W28 ?_ ?_
            · exact paS_t S27 Ta0  -- t15
            · exact ⟨rfl, S27, psi2 Ta0 j133.1 W133 q26⟩  -- k16
  have hj91 : ∀ (l0 : Nat) (l1 : Int32) (l3 : Int32) (τ : zS), zW C (zn κ) τ → zT τ l0 = 10 → (a0 = l0 ∧ a1 = l1 ∧ paS κ τ a0 ∧ 2 ≤ psi τ a0 ∧ (l3 = 0 ∨ l3 = 3 ∨ zI τ paKind a0 ≠ 142)) → w_Pa_behindPlace_91 C (zn κ) Q X  l0 l1 l3 τ := by
    rintro _ _ y91_3 τ91 W91 T91_0 ⟨rfl, rfl, j91⟩
    unfold w_Pa_behindPlace_91
    intro T30
    refine Co_setColumn_c W91 T30  ?_ (fun κ_31 q32 => ?_)
    · exact ⟨j91.1.2.1.2.1, by decide, by decide⟩  -- p17
    have S33 := paS_N j91.1 (paN_k W91 (paS_t j91.1 Ta0) j91.1.2.1 q32)
    intro W34
    intro M35
    have P : psi κ_31 a0 = psi τ91 a0 := psi_N (paN_k W91 (paS_t j91.1 Ta0) j91.1.2.1 q32)
    refine ⟨fun c36 => ?_, fun c36 => ?_⟩
    · skip
      refine hj133 _ _ _ _ W34 ?_ ?_
      · exact paS_t S33 Ta0  -- t18
      · exact ⟨rfl, S33, by rw [P]; exact j91.2.1, by rw [q32.2.2.1]; exact j91.2.2, fun z => absurd rfl z⟩  -- k19
    · skip
      refine ⟨fun c37 => ?_, fun c37 => ?_⟩
      · skip
        refine hj133 _ _ _ _ W34 ?_ ?_
        · exact paS_t S33 Ta0  -- t20
        · exact ⟨rfl, S33, by rw [P]; exact j91.2.1, by rw [q32.2.2.1]; exact j91.2.2, fun z => absurd rfl z⟩  -- k21
      · skip
        intro T38
        refine Co_column_c W34 T38  ?_ (fun r39 q41 => ?_)
        · exact ⟨S33.2.1.2.1, by decide, by decide⟩  -- p22
        intro W42
        intro M43
        refine ⟨fun c44 => ?_, fun c44 => ?_⟩
        · skip
          refine hj133 _ _ _ _ W42 ?_ ?_
          · exact paS_t S33 Ta0  -- t23
          · exact ⟨rfl, S33, by rw [P]; exact j91.2.1, by rw [q32.2.2.1]; exact j91.2.2, fun z => absurd rfl z⟩  -- k24
        · skip
          refine hj133 _ _ _ _ W42 ?_ ?_
          · exact paS_t S33 Ta0  -- t25
          · exact ⟨rfl, S33, by rw [P]; exact j91.2.1, by rw [q32.2.2.1]; exact j91.2.2, fun _ => by rw [c37]; decide⟩  -- k26
  have hj63 : ∀ (l0 : Nat) (l1 : Int32) (s0 : Int32) (τ : zS), zW C (zn κ) τ → zT τ l0 = 10 → (a0 = l0 ∧ a1 = l1 ∧ paS κ τ a0 ∧ 2 ≤ psi τ a0 ∧ (s0 = 2 ∨ s0 = 3 ∨ (s0 = 1 ∧ zI τ paKind a0 ≠ 142))) → w_Pa_behindPlace_63 C (zn κ) Q X  l0 l1 s0 τ := by
    rintro _ _ y63_s0 τ63 W63 T63_0 ⟨rfl, rfl, j63⟩
    unfold w_Pa_behindPlace_63
    refine ⟨fun c45 => ?_, fun c45 => ?_⟩
    · skip
      refine hj91 _ _ _ _ W63 ?_ ?_
      · exact paS_t j63.1 Ta0  -- t27
      · refine ⟨rfl, rfl, j63.1, j63.2.1, ?_⟩
        rcases j63.2.2 with e | e | e
        · exact absurd e c45
        · exact Or.inr (Or.inl e)
        · exact Or.inr (Or.inr e.2)
    · skip
      intro T46
      refine Pa_expect_c W63 T46  ?_ (fun κ_47 q48 => ?_) (fun cls9 κ9 q9 => hx _ _ ?_)
      · exact j63.1.2.1  -- p29
      rotate_left
      · exact paX_tr j63.1.1 q9  -- x30
      have S49 := paS_e j63.1 q48
      intro W50
      intro M51
      refine hj91 _ _ _ _ W50 ?_ ?_
      · exact paS_t S49 Ta0  -- t31
      · exact ⟨rfl, rfl, S49, by rw [← q48.1]; exact j63.2.1, Or.inr (Or.inr (by rw [← q48.1, q48.2]; decide))⟩  -- k32
  have hj25 : ∀ (l0 : Nat) (l1 : Int32) (l2 : Int32) (τ : zS), zW C (zn κ) τ → zT τ l0 = 10 → (κ = τ ∧ a0 = l0 ∧ a1 = l1 ∧ zI κ paKind a0 ≠ 142) → w_Pa_behindPlace_25 C (zn κ) Q X  l0 l1 l2 τ := by
    rintro _ _ y25_2 _ W25 T25_0 ⟨rfl, rfl, rfl, j25⟩
    unfold w_Pa_behindPlace_25
    intro T52
    refine Pa_take_c W25 T52  ?_ (fun κ_53 q54 => ?_)
    · exact ⟨hp.1, paK_t hp.2.1 rfl j25⟩  -- p33
    have S55 := paS_T Ta0 S0 W25 q54
    intro W56
    intro M57
    refine ⟨fun c58 => ?_, fun c58 => ?_⟩
    · skip
      refine ⟨fun c59 => ?_, fun c59 => ?_⟩
      · skip
        refine hj91 _ _ _ _ W56 ?_ ?_
        · exact paS_t S55 Ta0  -- t34
        · exact ⟨rfl, rfl, S55, psi2 Ta0 S0 W25 q54, Or.inl rfl⟩  -- k35
      · skip
        refine hj91 _ _ _ _ W56 ?_ ?_
        · exact paS_t S55 Ta0  -- t36
        · exact ⟨rfl, rfl, S55, psi2 Ta0 S0 W25 q54, Or.inr (Or.inr (by rw [c59]; decide))⟩  -- k37
    · skip
      refine ⟨fun c60 => ?_, fun c60 => ?_⟩
      · skip
        refine ⟨fun c61 => ?_, fun c61 => ?_⟩
        · skip
          refine hj63 _ _ _ _ W56 ?_ ?_
          · exact paS_t S55 Ta0  -- t38
          · exact ⟨rfl, rfl, S55, psi2 Ta0 S0 W25 q54, Or.inl rfl⟩  -- k39
        · skip
          refine hj63 _ _ _ _ W56 ?_ ?_
          · exact paS_t S55 Ta0  -- t40
          · exact ⟨rfl, rfl, S55, psi2 Ta0 S0 W25 q54, Or.inr (Or.inr ⟨rfl, by rw [c61]; decide⟩)⟩  -- k41
      · skip
        refine hj63 _ _ _ _ W56 ?_ ?_
        · exact paS_t S55 Ta0  -- t42
        · exact ⟨rfl, rfl, S55, psi2 Ta0 S0 W25 q54, Or.inr (Or.inl rfl)⟩  -- k43
  have hj14 : ∀ (l0 : Nat) (l1 : Int32) (s0 : Int32) (τ : zS), zW C (zn κ) τ → zT τ l0 = 10 → (κ = τ ∧ a0 = l0 ∧ a1 = l1 ∧ (s0 ≠ 0 → zI κ paKind a0 = 126)) → w_Pa_behindPlace_14 C (zn κ) Q X  l0 l1 s0 τ := by
    rintro _ _ y14_s0 _ W14 T14_0 ⟨rfl, rfl, rfl, j14⟩
    unfold w_Pa_behindPlace_14
    refine ⟨fun c62 => ?_, fun c62 => ?_⟩
    · skip
      refine hj25 _ _ _ _ W14 ?_ ?_
      · exact paS_t S0 Ta0  -- t44
      · exact ⟨rfl, rfl, rfl, by rw [j14 c62]; decide⟩  -- k45
    · skip
      intro T63
      refine Pa_expect_c W14 T63  ?_ (fun κ_64 q65 => ?_) (fun cls9 κ9 q9 => hx _ _ ?_)
      · exact S0.2.1  -- p46
      rotate_left
      · exact paX_tr S0.1 q9  -- x47
      have S66 := paS_e S0 q65
      intro W67
      intro M68
      refine hj25 _ _ _ _ W67 ?_ ?_
      · exact paS_t S66 Ta0  -- t48
      · exact ⟨q65.1, rfl, rfl, by rw [q65.2]; decide⟩  -- k49
  refine ⟨fun c69 => ?_, fun c69 => ?_⟩
  · skip
    refine hj14 _ _ _ _ W ?_ ?_
    · exact paS_t S0 Ta0  -- t50
    · exact ⟨rfl, rfl, rfl, fun z => absurd rfl z⟩  -- k51
  · skip
    refine hj14 _ _ _ _ W ?_ ?_
    · exact paS_t S0 Ta0  -- t52
    · exact ⟨rfl, rfl, rfl, fun _ => c69⟩  -- k53

theorem Pa_finish_c {C : zC} {n0 : Nat} {a0 : Nat} {a1 : Int32} {a2 : Int32} {κ : zS} {Q : zS → Prop} {X : zXp} (W : zW C n0 κ) (Ta0 : zT κ a0 = 10)  (hp : paA κ a0 ∧ 2 ≤ psi κ a0) (h : ∀ (κ' : zS), (paS κ κ' a0) → Q κ') (hx : ∀ (cls : String) (κ' : zS), (paX κ cls κ' a0) → X cls κ') : zRun C 12 mPa_finish [.ref a0, .int a1, .int a2] κ (oV Q X) := by
  refine Pa_finish_run W Ta0 ?_
  replace W := W.lo (Nat.le_trans W.1.2.1 W.1.2.2) (Nat.le_refl (zn κ))
  unfold w_Pa_finish_0
  have S0 := paS_0 hp.1
  have hj44 : ∀ (l0 : Nat) (l1 : Int32) (l2 : Int32) (s0 : Int32) (τ : zS), zW C (zn κ) τ → zT τ l0 = 10 → (a0 = l0 ∧ a1 = l1 ∧ a2 = l2 ∧ paS κ τ a0) → w_Pa_finish_44 C (zn κ) Q X  l0 l1 l2 s0 τ := by
    rintro _ _ _ y44_s0 τ44 W44 T44_0 ⟨rfl, rfl, rfl, j44⟩
    unfold w_Pa_finish_44
    unfold w_Pa_finish_48
    refine ⟨fun n l0 l1 l2 l3 l4 τ => n = (10244 - l4.toInt).toNat ∧ (a0 = l0 ∧ a1 = l1 ∧ a2 = l2 ∧ paS κ τ a0 ∧ 0 ≤ l4.toInt ∧ l4.toInt ≤ 10244), ⟨_, rfl, ?_⟩, ?_⟩
    · exact ⟨rfl, rfl, rfl, j44, by decide, by decide⟩  -- j1
    rintro n48 _ _ _ x48_3 x48_4 κ48 W48 T48_0 ⟨hn48, rfl, rfl, rfl, i48⟩
    have hj107 : ∀ (l0 : Nat) (l1 : Int32) (l2 : Int32) (l4 : Int32) (s0 : Int32) (τ : zS), zW C (zn κ) τ → zT τ l0 = 10 → (a0 = l0 ∧ a1 = l1 ∧ a2 = l2 ∧ paS κ τ a0 ∧ l4 = x48_4 ∧ l4.toInt ≤ 10242) → w_Pa_finish_107 C (zn κ) Q X (fun (l0' : Nat) (l1' : Int32) (l2' : Int32) (l3' : Int32) (l4' : Int32) (τ : zS) => ∃ k < n48, (fun (n : Nat) (l0 : Nat) (l1 : Int32) (l2 : Int32) (l3 : Int32) (l4 : Int32) (τ : zS) => n = (10244 - l4.toInt).toNat ∧ (a0 = l0 ∧ a1 = l1 ∧ a2 = l2 ∧ paS κ τ a0 ∧ 0 ≤ l4.toInt ∧ l4.toInt ≤ 10244)) k l0' l1' l2' l3' l4' τ) l0 l1 l2 l4 s0 τ := by
      rintro _ _ _ y107_4 y107_s0 τ107 W107 T107_0 ⟨rfl, rfl, rfl, j107⟩
      unfold w_Pa_finish_107
      have e4 := j107.2.1
      have l4 := j107.2.2
      have l0 := i48.2.1
      have e1 : (y107_4 + 1).toInt = y107_4.toInt + 1 := by rw [add_i (by rw [t1i, e4]; omega) (by rw [t1i]; omega), t1i]
      refine ⟨fun c1 => ?_, fun c1 => ?_⟩
      · skip
        intro x2 hx2
        refine ⟨_, ?_, rfl, ?_⟩
        · rw [hn48, hx2, e1, e4]; rw [e4] at l4; omega  -- d2
        · exact ⟨rfl, rfl, rfl, j107.1, by rw [hx2, e1, e4]; omega, by rw [hx2, e1]; omega⟩  -- i3
      · skip
        intro T3
        refine Pa_pass_c W107 T3  ?_ (fun κ_4 q5 => ?_) (fun cls9 κ9 q9 => hx _ _ ?_)
        · exact ⟨j107.1.2.1, j107.1.2.2.1, by decide⟩  -- p4
        rotate_left
        · exact paX_tr j107.1.1 q9  -- x5
        have S6 := paS_T Ta0 j107.1 W107 q5
        intro W7
        intro M8
        intro x9 hx9
        refine ⟨_, ?_, rfl, ?_⟩
        · rw [hn48, hx9, e1, e4]; rw [e4] at l4; omega  -- d6
        · exact ⟨rfl, rfl, rfl, S6, by rw [hx9, e1, e4]; omega, by rw [hx9, e1]; omega⟩  -- i7
    refine ⟨fun c10 => ?_, fun c10 => ?_⟩
    · skip
      intro T11
      refine Pa_closeSign_c W48 T11  ?_ (fun κ_12 q13 => ?_) (fun cls9 κ9 q9 => hx _ _ ?_)
      · exact ⟨i48.1.2.1, i48.1.2.2.1, by decide⟩  -- p8
      rotate_left
      · exact paX_tr i48.1.1 q9  -- x9
      have S14 := paS_T Ta0 i48.1 W48 q13
      intro W15
      intro M16
      refine h _ ?_
      · exact S14  -- q10
    · skip
      refine ⟨fun c17 => ?_, fun c17 => ?_⟩
      · skip
        intro T18
        refine Pa_closeSign_c W48 T18  ?_ (fun κ_19 q20 => ?_) (fun cls9 κ9 q9 => hx _ _ ?_)
        · exact ⟨i48.1.2.1, i48.1.2.2.1, by decide⟩  -- p11
        rotate_left
        · exact paX_tr i48.1.1 q9  -- x12
        have S21 := paS_T Ta0 i48.1 W48 q20
        intro W22
        intro M23
        refine h _ ?_
        · exact S21  -- q13
      · skip
        intro T24
        refine Pa_expression_c W48 T24  ?_ (fun κ_25 q26 => ?_) (fun cls9 κ9 q9 => hx _ _ ?_)
        · exact ⟨i48.1.2.1, i48.1.2.2.1, i48.1.2.2.2, Or.inl rfl⟩  -- p14
        rotate_left
        · exact paX_tr i48.1.1 q9  -- x15
        have S27 := (⟨i48.1.1.tr q26.1, q26.2⟩ : paS κ κ_25 a0)
        intro W28
        intro M29
        have l2 : x48_4.toInt ≤ 10242 := by
          rw [lti] at c17
          have tb := i48.1.2.1.1.2.2
          omega
        refine ⟨fun c30 => ?_, fun c30 => ?_⟩
        · skip
          refine ⟨fun c31 => ?_, fun c31 => ?_⟩
          · skip
            refine hj107 _ _ _ _ _ _ W28 ?_ ?_
            · exact paS_t S27 Ta0  -- t16
            · exact ⟨rfl, rfl, rfl, S27, rfl, l2⟩  -- k17
          · skip
            refine ⟨fun c32 => ?_, fun c32 => ?_⟩
            · skip
              refine hj107 _ _ _ _ _ _ W28 ?_ ?_
              · exact paS_t S27 Ta0  -- t18
              · exact ⟨rfl, rfl, rfl, S27, rfl, l2⟩  -- k19
            · skip
              refine hj107 _ _ _ _ _ _ W28 ?_ ?_
              · exact paS_t S27 Ta0  -- t20
              · exact ⟨rfl, rfl, rfl, S27, rfl, l2⟩  -- k21
        · skip
          refine ⟨fun c33 => ?_, fun c33 => ?_⟩
          · skip
            refine hj107 _ _ _ _ _ _ W28 ?_ ?_
            · exact paS_t S27 Ta0  -- t22
            · exact ⟨rfl, rfl, rfl, S27, rfl, l2⟩  -- k23
          · skip
            refine hj107 _ _ _ _ _ _ W28 ?_ ?_
            · exact paS_t S27 Ta0  -- t24
            · exact ⟨rfl, rfl, rfl, S27, rfl, l2⟩  -- k25
  refine ⟨fun c34 => ?_, fun c34 => ?_⟩
  · skip
    intro T35
    refine Pa_openSign_c W T35  ?_ (fun κ_36 q37 => ?_) (fun cls9 κ9 q9 => hx _ _ ?_)
    · exact ⟨S0.2.1, S0.2.2.1, by decide⟩  -- p26
    rotate_left
    · exact paX_tr S0.1 q9  -- x27
    have S38 := paS_T Ta0 S0 W q37
    intro W39
    intro M40
    refine ⟨fun c41 => ?_, fun c41 => ?_⟩
    · skip
      refine hj44 _ _ _ _ _ W39 ?_ ?_
      · exact paS_t S38 Ta0  -- t28
      · exact ⟨rfl, rfl, rfl, S38⟩  -- k29
    · skip
      refine ⟨fun c42 => ?_, fun c42 => ?_⟩
      · skip
        refine hj44 _ _ _ _ _ W39 ?_ ?_
        · exact paS_t S38 Ta0  -- t30
        · exact ⟨rfl, rfl, rfl, S38⟩  -- k31
      · skip
        refine hj44 _ _ _ _ _ W39 ?_ ?_
        · exact paS_t S38 Ta0  -- t32
        · exact ⟨rfl, rfl, rfl, S38⟩  -- k33
  · skip
    intro T43
    refine Co_column_c W T43  ?_ (fun r44 q46 => ?_)
    · exact ⟨S0.2.1.2.1, by decide, by decide⟩  -- p34
    intro W47
    intro M48
    intro T49
    refine Pa_expression_c W47 T49  ?_ (fun κ_50 q51 => ?_) (fun cls9 κ9 q9 => hx _ _ ?_)
    · exact ⟨hp.1.1, hp.1.2.1, hp.1.2.2, Or.inr hp.2⟩  -- p35
    rotate_left
    · exact paX_tr S0.1 q9  -- x36
    have S52 := (⟨S0.1.tr q51.1, q51.2⟩ : paS κ κ_50 a0)
    intro W53
    intro M54
    refine h _ ?_
    · exact S52  -- q37

theorem Pa_spread_c {C : zC} {n0 : Nat} {a0 : Nat} {a1 : Int32} {κ : zS} {Q : zS → Prop} {X : zXp} (W : zW C n0 κ) (Ta0 : zT κ a0 = 10)  (hp : paA κ a0) (h : ∀ (κ' : zS), (paS κ κ' a0) → Q κ') (hx : ∀ (cls : String) (κ' : zS), (paX κ cls κ' a0) → X cls κ') : zRun C 12 mPa_spread [.ref a0, .int a1] κ (oV Q X) := by
  refine Pa_spread_run W Ta0 ?_
  replace W := W.lo (Nat.le_trans W.1.2.1 W.1.2.2) (Nat.le_refl (zn κ))
  unfold w_Pa_spread_0
  have S0 := paS_0 hp
  intro T1
  refine Pa_openSign_c W T1  ?_ (fun κ_2 q3 => ?_) (fun cls9 κ9 q9 => hx _ _ ?_)
  · exact ⟨S0.2.1, S0.2.2.1, by decide⟩  -- p1
  rotate_left
  · exact paX_tr S0.1 q9  -- x2
  have S4 := paS_T Ta0 S0 W q3
  intro W5
  intro M6
  unfold w_Pa_spread_10
  refine ⟨fun n l0 l1 l2 l3 τ => n = (9 - l3.toInt).toNat ∧ (a0 = l0 ∧ a1 = l1 ∧ paS κ τ a0 ∧ 0 ≤ l3.toInt ∧ l3.toInt ≤ 9), ⟨_, rfl, ?_⟩, ?_⟩
  · exact ⟨rfl, rfl, S4, by decide, by decide⟩  -- j3
  rintro n10 _ _ x10_2 x10_3 κ10 W10 T10_0 ⟨hn10, rfl, rfl, i10⟩
  have hj72 : ∀ (l0 : Nat) (l1 : Int32) (l3 : Int32) (s0 : Int32) (τ : zS), zW C (zn κ) τ → zT τ l0 = 10 → (a0 = l0 ∧ a1 = l1 ∧ paS κ τ a0 ∧ l3 = x10_3 ∧ l3.toInt ≤ 8 ∧ (s0 ≠ 0 → zI τ paKind a0 = 44)) → w_Pa_spread_72 C (zn κ) Q X (fun (l0' : Nat) (l1' : Int32) (l2' : Int32) (l3' : Int32) (τ : zS) => ∃ k < n10, (fun (n : Nat) (l0 : Nat) (l1 : Int32) (l2 : Int32) (l3 : Int32) (τ : zS) => n = (9 - l3.toInt).toNat ∧ (a0 = l0 ∧ a1 = l1 ∧ paS κ τ a0 ∧ 0 ≤ l3.toInt ∧ l3.toInt ≤ 9)) k l0' l1' l2' l3' τ) l0 l1 l3 s0 τ := by
    rintro _ _ y72_3 y72_s0 τ72 W72 T72_0 ⟨rfl, rfl, j72⟩
    unfold w_Pa_spread_72
    have e3 := j72.2.1
    have l3 := j72.2.2.1
    have l0 := i10.2.1
    have e1 : (y72_3 + 1).toInt = y72_3.toInt + 1 := by rw [add_i (by rw [t1i, e3]; omega) (by rw [t1i]; omega), t1i]
    refine ⟨fun c7 => ?_, fun c7 => ?_⟩
    · skip
      intro x8 hx8
      refine ⟨_, ?_, rfl, ?_⟩
      · rw [hn10, hx8, e1, e3]; rw [e3] at l3; omega  -- d4
      · exact ⟨rfl, rfl, j72.1, by rw [hx8, e1, e3]; omega, by rw [hx8, e1]; omega⟩  -- i5
    · skip
      intro T9
      refine Pa_take_c W72 T9  ?_ (fun κ_10 q11 => ?_)
      · exact ⟨j72.1.2.1, paK_t j72.1.2.2.1 (j72.2.2.2 c7) (by decide)⟩  -- p6
      have S12 := paS_T Ta0 j72.1 W72 q11
      intro W13
      intro M14
      intro x15 hx15
      refine ⟨_, ?_, rfl, ?_⟩
      · rw [hn10, hx15, e1, e3]; rw [e3] at l3; omega  -- d7
      · exact ⟨rfl, rfl, S12, by rw [hx15, e1, e3]; omega, by rw [hx15, e1]; omega⟩  -- i8
  have hj48 : ∀ (l0 : Nat) (l1 : Int32) (l3 : Int32) (τ : zS), zW C (zn κ) τ → zT τ l0 = 10 → (a0 = l0 ∧ a1 = l1 ∧ paS κ τ a0 ∧ l3 = x10_3 ∧ l3.toInt ≤ 8 ∧ zI τ paKind a0 = 58) → w_Pa_spread_48 C (zn κ) Q X (fun (l0' : Nat) (l1' : Int32) (l2' : Int32) (l3' : Int32) (τ : zS) => ∃ k < n10, (fun (n : Nat) (l0 : Nat) (l1 : Int32) (l2 : Int32) (l3 : Int32) (τ : zS) => n = (9 - l3.toInt).toNat ∧ (a0 = l0 ∧ a1 = l1 ∧ paS κ τ a0 ∧ 0 ≤ l3.toInt ∧ l3.toInt ≤ 9)) k l0' l1' l2' l3' τ) l0 l1 l3 τ := by
    rintro _ _ y48_3 τ48 W48 T48_0 ⟨rfl, rfl, j48⟩
    unfold w_Pa_spread_48
    intro T16
    refine Pa_take_c W48 T16  ?_ (fun κ_17 q18 => ?_)
    · exact ⟨j48.1.2.1, paK_t j48.1.2.2.1 j48.2.2.2 (by decide)⟩  -- p9
    have S19 := paS_T Ta0 j48.1 W48 q18
    intro W20
    intro M21
    intro T22
    refine Pa_expression_c W20 T22  ?_ (fun κ_23 q24 => ?_) (fun cls9 κ9 q9 => hx _ _ ?_)
    · exact ⟨S19.2.1, S19.2.2.1, S19.2.2.2, Or.inl rfl⟩  -- p10
    rotate_left
    · exact paX_tr S19.1 q9  -- x11
    have S25 := (⟨S19.1.tr q24.1, q24.2⟩ : paS κ κ_23 a0)
    intro W26
    intro M27
    refine ⟨fun c28 => ?_, fun c28 => ?_⟩
    · skip
      refine hj72 _ _ _ _ _ W26 ?_ ?_
      · exact paS_t S25 Ta0  -- t12
      · exact ⟨rfl, rfl, S25, j48.2.1, j48.2.2.1, fun z => absurd rfl z⟩  -- k13
    · skip
      refine hj72 _ _ _ _ _ W26 ?_ ?_
      · exact paS_t S25 Ta0  -- t14
      · exact ⟨rfl, rfl, S25, j48.2.1, j48.2.2.1, fun _ => c28⟩  -- k15
  refine ⟨fun c29 => ?_, fun c29 => ?_⟩
  · skip
    intro T30
    refine Pa_closeSign_c W10 T30  ?_ (fun κ_31 q32 => ?_) (fun cls9 κ9 q9 => hx _ _ ?_)
    · exact ⟨i10.1.2.1, i10.1.2.2.1, by decide⟩  -- p16
    rotate_left
    · exact paX_tr i10.1.1 q9  -- x17
    have S33 := paS_T Ta0 i10.1 W10 q32
    intro W34
    intro M35
    refine h _ ?_
    · exact S33  -- q18
  · skip
    refine ⟨fun c36 => ?_, fun c36 => ?_⟩
    · skip
      intro T37
      refine Pa_closeSign_c W10 T37  ?_ (fun κ_38 q39 => ?_) (fun cls9 κ9 q9 => hx _ _ ?_)
      · exact ⟨i10.1.2.1, i10.1.2.2.1, by decide⟩  -- p19
      rotate_left
      · exact paX_tr i10.1.1 q9  -- x20
      have S40 := paS_T Ta0 i10.1 W10 q39
      intro W41
      intro M42
      refine h _ ?_
      · exact S40  -- q21
    · skip
      intro T43
      refine Pa_expression_c W10 T43  ?_ (fun κ_44 q45 => ?_) (fun cls9 κ9 q9 => hx _ _ ?_)
      · exact ⟨i10.1.2.1, i10.1.2.2.1, i10.1.2.2.2, Or.inl rfl⟩  -- p22
      rotate_left
      · exact paX_tr i10.1.1 q9  -- x23
      have S46 := (⟨i10.1.1.tr q45.1, q45.2⟩ : paS κ κ_44 a0)
      intro W47
      intro M48
      intro T49
      refine Pa_expect_c W47 T49  ?_ (fun κ_50 q51 => ?_) (fun cls9 κ9 q9 => hx _ _ ?_)
      · exact S46.2.1  -- p24
      rotate_left
      · exact paX_tr S46.1 q9  -- x25
      have S52 := paS_e S46 q51
      intro W53
      intro M54
      refine ⟨fun c55 => ?_, fun c55 => ?_⟩
      · skip
        refine hj48 _ _ _ _ W53 ?_ ?_
        · exact paS_t S52 Ta0  -- t26
        · have e8 : (8 : Int32).toInt = 8 := rfl
          rw [lti, e8] at c36
          exact ⟨rfl, rfl, S52, rfl, by omega, by rw [← q51.1]; exact q51.2⟩
      · skip
        intro T56
        refine Pa_refuse_c W53 T56  ?_ (fun κ_57 q58 => False.elim q58) (fun cls9 κ9 q9 => hx _ _ ?_)
        · exact S52.2.1  -- p28
        · exact paX_tr S52.1 q9  -- x29

theorem Pa_statement_c {C : zC} {n0 : Nat} {a0 : Nat} {a1 : Int32} {κ : zS} {Q : zS → Prop} {X : zXp} (W : zW C n0 κ) (Ta0 : zT κ a0 = 10)  (hp : paA κ a0 ∧ zI κ paKind a0 ≠ 142) (h : ∀ (κ' : zS), (paS κ κ' a0) → Q κ') (hx : ∀ (cls : String) (κ' : zS), (paX κ cls κ' a0) → X cls κ') : zRun C 13 mPa_statement [.ref a0, .int a1] κ (oV Q X) := by
  refine Pa_statement_run W Ta0 ?_
  replace W := W.lo (Nat.le_trans W.1.2.1 W.1.2.2) (Nat.le_refl (zn κ))
  unfold w_Pa_statement_0
  have S0 := paS_0 hp.1
  have hj268 : ∀ (l0 : Nat) (τ : zS), zW C (zn κ) τ → zT τ l0 = 10 → (a0 = l0 ∧ paS κ τ a0) → w_Pa_statement_268 C (zn κ) Q X  l0 τ := by
    rintro _ τ268 W268 T268_0 ⟨rfl, j268⟩
    unfold w_Pa_statement_268
    intro T1
    refine Pa_pass_c W268 T1  ?_ (fun κ_2 q3 => ?_) (fun cls9 κ9 q9 => hx _ _ ?_)
    · exact ⟨j268.2.1, j268.2.2.1, by decide⟩  -- p1
    rotate_left
    · exact paX_tr j268.1 q9  -- x2
    have S4 := paS_T Ta0 j268 W268 q3
    intro W5
    intro M6
    refine h _ ?_
    · exact S4  -- q3
  have hj233 : ∀ (l0 : Nat) (l1 : Int32) (τ : zS), zW C (zn κ) τ → zT τ l0 = 10 → (a0 = l0 ∧ a1 = l1 ∧ paS κ τ a0 ∧ 2 ≤ psi τ a0) → w_Pa_statement_233 C (zn κ) Q X  l0 l1 τ := by
    rintro _ _ τ233 W233 T233_0 ⟨rfl, rfl, j233⟩
    unfold w_Pa_statement_233
    intro T7
    refine Co_column_c W233 T7  ?_ (fun r8 q10 => ?_)
    · exact ⟨j233.1.2.1.2.1, by decide, by decide⟩  -- p4
    intro W11
    intro M12
    refine ⟨fun c13 => ?_, fun c13 => ?_⟩
    · skip
      intro T14
      refine Co_column_c W11 T14  ?_ (fun r15 q17 => ?_)
      · exact ⟨j233.1.2.1.2.1, by decide, by decide⟩  -- p5
      intro W18
      intro M19
      intro T20
      refine Pa_finish_c W18 T20  ?_ (fun κ_21 q22 => ?_) (fun cls9 κ9 q9 => hx _ _ ?_)
      · exact ⟨j233.1.2, j233.2⟩  -- p6
      rotate_left
      · exact paX_tr j233.1.1 q9  -- x7
      have S23 := (⟨j233.1.1.tr q22.1, q22.2⟩ : paS κ κ_21 a0)
      intro W24
      intro M25
      refine hj268 _ _ W24 ?_ ?_
      · exact paS_t S23 Ta0  -- t8
      · exact ⟨rfl, S23⟩  -- k9
    · skip
      intro T26
      refine Pa_spread_c W11 T26  ?_ (fun κ_27 q28 => ?_) (fun cls9 κ9 q9 => hx _ _ ?_)
      · exact j233.1.2  -- p10
      rotate_left
      · exact paX_tr j233.1.1 q9  -- x11
      have S29 := (⟨j233.1.1.tr q28.1, q28.2⟩ : paS κ κ_27 a0)
      intro W30
      intro M31
      refine hj268 _ _ W30 ?_ ?_
      · exact paS_t S29 Ta0  -- t12
      · exact ⟨rfl, S29⟩  -- k13
  have hj223 : ∀ (l0 : Nat) (l1 : Int32) (τ : zS), zW C (zn κ) τ → zT τ l0 = 10 → (a0 = l0 ∧ a1 = l1 ∧ paS κ τ a0 ∧ 2 ≤ psi τ a0) → w_Pa_statement_223 C (zn κ) Q X  l0 l1 τ := by
    rintro _ _ τ223 W223 T223_0 ⟨rfl, rfl, j223⟩
    unfold w_Pa_statement_223
    intro T32
    refine Co_setColumn_c W223 T32  ?_ (fun κ_33 q34 => ?_)
    · exact ⟨j223.1.2.1.2.1, by decide, by decide⟩  -- p14
    have S35 := paS_N j223.1 (paN_k W223 (paS_t j223.1 Ta0) j223.1.2.1 q34)
    intro W36
    intro M37
    refine hj233 _ _ _ W36 ?_ ?_
    · exact paS_t S35 Ta0  -- t15
    · have P := psi_N (paN_k W223 (paS_t j223.1 Ta0) j223.1.2.1 q34)
      exact ⟨rfl, rfl, S35, by rw [P]; exact j223.2⟩
  have hj191 : ∀ (l0 : Nat) (l1 : Int32) (l3 : Int32) (s0 : Int32) (τ : zS), zW C (zn κ) τ → zT τ l0 = 10 → (a0 = l0 ∧ a1 = l1 ∧ paS κ τ a0 ∧ 2 ≤ psi τ a0) → w_Pa_statement_191 C (zn κ) Q X  l0 l1 l3 s0 τ := by
    rintro _ _ y191_3 y191_s0 τ191 W191 T191_0 ⟨rfl, rfl, j191⟩
    unfold w_Pa_statement_191
    intro T38
    refine Co_setColumn_c W191 T38  ?_ (fun κ_39 q40 => ?_)
    · exact ⟨j191.1.2.1.2.1, by decide, by decide⟩  -- p17
    have S41 := paS_N j191.1 (paN_k W191 (paS_t j191.1 Ta0) j191.1.2.1 q40)
    intro W42
    intro M43
    have P := psi_N (paN_k W191 (paS_t j191.1 Ta0) j191.1.2.1 q40)
    refine ⟨fun c44 => ?_, fun c44 => ?_⟩
    · skip
      refine hj223 _ _ _ W42 ?_ ?_
      · exact paS_t S41 Ta0  -- t18
      · exact ⟨rfl, rfl, S41, by rw [P]; exact j191.2⟩  -- k19
    · skip
      refine ⟨fun c45 => ?_, fun c45 => ?_⟩
      · skip
        refine hj233 _ _ _ W42 ?_ ?_
        · exact paS_t S41 Ta0  -- t20
        · exact ⟨rfl, rfl, S41, by rw [P]; exact j191.2⟩  -- k21
      · skip
        refine ⟨fun c46 => ?_, fun c46 => ?_⟩
        · skip
          refine hj233 _ _ _ W42 ?_ ?_
          · exact paS_t S41 Ta0  -- t22
          · exact ⟨rfl, rfl, S41, by rw [P]; exact j191.2⟩  -- k23
        · skip
          refine hj223 _ _ _ W42 ?_ ?_
          · exact paS_t S41 Ta0  -- t24
          · exact ⟨rfl, rfl, S41, by rw [P]; exact j191.2⟩  -- k25
  have hj177 : ∀ (l0 : Nat) (l1 : Int32) (l2 : Int32) (s0 : Int32) (τ : zS), zW C (zn κ) τ → zT τ l0 = 10 → (a0 = l0 ∧ a1 = l1 ∧ paS κ τ a0 ∧ 2 ≤ psi τ a0) → w_Pa_statement_177 C (zn κ) Q X  l0 l1 l2 s0 τ := by
    rintro _ _ y177_2 y177_s0 τ177 W177 T177_0 ⟨rfl, rfl, j177⟩
    unfold w_Pa_statement_177
    refine ⟨fun c47 => ?_, fun c47 => ?_⟩
    · skip
      intro T48
      refine Pa_behindPlace_c W177 T48  ?_ (fun r49 κ_50 q51 => ?_) (fun cls9 κ9 q9 => hx _ _ ?_)
      · exact j177.1.2  -- p26
      rotate_left
      · exact paX_tr j177.1.1 q9  -- x27
      have S52 := (⟨j177.1.1.tr q51.1.1, q51.1.2⟩ : paS κ κ_50 a0)
      intro W53
      intro M54
      refine hj191 _ _ _ _ _ W53 ?_ ?_
      · exact paS_t S52 Ta0  -- t28
      · exact ⟨rfl, rfl, S52, q51.2⟩  -- k29
    · skip
      refine hj191 _ _ _ _ _ W177 ?_ ?_
      · exact paS_t j177.1 Ta0  -- t30
      · exact ⟨rfl, rfl, j177.1, j177.2⟩  -- k31
  have hj151 : ∀ (l0 : Nat) (l1 : Int32) (l2 : Int32) (τ : zS), zW C (zn κ) τ → zT τ l0 = 10 → (a0 = l0 ∧ a1 = l1 ∧ paS κ τ a0 ∧ 2 ≤ psi τ a0) → w_Pa_statement_151 C (zn κ) Q X  l0 l1 l2 τ := by
    rintro _ _ y151_2 τ151 W151 T151_0 ⟨rfl, rfl, j151⟩
    unfold w_Pa_statement_151
    refine ⟨fun c55 => ?_, fun c55 => ?_⟩
    · skip
      refine hj177 _ _ _ _ _ W151 ?_ ?_
      · exact paS_t j151.1 Ta0  -- t32
      · exact ⟨rfl, rfl, j151.1, j151.2⟩  -- k33
    · skip
      intro T56
      refine Co_column_c W151 T56  ?_ (fun r57 q59 => ?_)
      · exact ⟨j151.1.2.1.2.1, by decide, by decide⟩  -- p34
      intro W60
      intro M61
      refine ⟨fun c62 => ?_, fun c62 => ?_⟩
      · skip
        refine hj177 _ _ _ _ _ W60 ?_ ?_
        · exact paS_t j151.1 Ta0  -- t35
        · exact ⟨rfl, rfl, j151.1, j151.2⟩  -- k36
      · skip
        refine hj177 _ _ _ _ _ W60 ?_ ?_
        · exact paS_t j151.1 Ta0  -- t37
        · exact ⟨rfl, rfl, j151.1, j151.2⟩  -- k38
  have hj121 : ∀ (l0 : Nat) (l1 : Int32) (l2 : Int32) (l3 : Int32) (s0 : Nat) (s1 : Int32) (s2 : Int32) (τ : zS), zW C (zn κ) τ → zT τ l0 = 10 → zT τ s0 = 10 → (a0 = l0 ∧ a1 = l1 ∧ paS κ τ a0 ∧ 2 ≤ psi τ a0 ∧ s0 = a0) → w_Pa_statement_121 C (zn κ) Q X  l0 l1 l2 l3 s0 s1 s2 τ := by
    rintro _ _ y121_2 y121_3 y121_s0 y121_s1 y121_s2 τ121 W121 T121_0 T121_1 ⟨rfl, rfl, j121⟩
    unfold w_Pa_statement_121
    refine ⟨fun c63 => ?_, fun c63 => ?_⟩
    · skip
      intro T64
      intro T65
      refine Ta_findName_c W121 T64 T65  ?_ (fun r66 q68 => ?_)
      · exact ⟨j121.1.2.1.1.1, j121.1.2.1.1.2.1⟩  -- p39
      intro W69
      intro M70
      intro T71
      refine Pa_setPlace_c W69 T71  ?_ (fun κ_72 q73 => ?_)
      · rw [j121.2.2]; exact j121.1.2.1  -- p40
      rw [j121.2.2] at q73
      have S74 := paS_N j121.1 q73
      intro W75
      intro M76
      refine hj151 _ _ _ _ W75 ?_ ?_
      · exact paS_t S74 Ta0  -- t41
      · exact ⟨rfl, rfl, S74, by rw [psi_N q73]; exact j121.2.1⟩  -- k42
    · skip
      intro T77
      refine Pa_setPlace_c W121 T77  ?_ (fun κ_78 q79 => ?_)
      · rw [j121.2.2]; exact j121.1.2.1  -- p43
      rw [j121.2.2] at q79
      have S80 := paS_N j121.1 q79
      intro W81
      intro M82
      refine hj151 _ _ _ _ W81 ?_ ?_
      · exact paS_t S80 Ta0  -- t44
      · exact ⟨rfl, rfl, S80, by rw [psi_N q79]; exact j121.2.1⟩  -- k45
  have hj104 : ∀ (l0 : Nat) (l1 : Int32) (l2 : Int32) (τ : zS), zW C (zn κ) τ → zT τ l0 = 10 → (a0 = l0 ∧ a1 = l1 ∧ paS κ τ a0 ∧ 2 ≤ psi τ a0) → w_Pa_statement_104 C (zn κ) Q X  l0 l1 l2 τ := by
    rintro _ _ y104_2 τ104 W104 T104_0 ⟨rfl, rfl, j104⟩
    unfold w_Pa_statement_104
    intro T83
    refine Pa_findVariable_c W104 T83  ?_ (fun r84 q86 => ?_) (fun cls9 κ9 q9 => hx _ _ ?_)
    · exact j104.1.2.1  -- p46
    rotate_left
    · exact paX_tr j104.1.1 q9  -- x47
    intro W87
    intro M88
    refine ⟨fun c89 => ?_, fun c89 => ?_⟩
    · skip
      refine hj121 _ _ _ _ _ _ _ _ W87 ?_ ?_ ?_
      · exact paS_t j104.1 Ta0  -- t48
      · exact paS_t j104.1 Ta0  -- t49
      · exact ⟨rfl, rfl, j104.1, j104.2, rfl⟩  -- k50
    · skip
      refine hj121 _ _ _ _ _ _ _ _ W87 ?_ ?_ ?_
      · exact paS_t j104.1 Ta0  -- t51
      · exact paS_t j104.1 Ta0  -- t52
      · exact ⟨rfl, rfl, j104.1, j104.2, rfl⟩  -- k53
  refine ⟨fun c90 => ?_, fun c90 => ?_⟩
  · skip
    refine ⟨fun c91 => ?_, fun c91 => ?_⟩
    · skip
      intro x92 hx92
      intro T93
      refine Pa_take_c W T93  ?_ (fun κ_94 q95 => ?_)
      · exact ⟨hp.1.1, paK_t hp.1.2.1 c91 (by decide)⟩  -- p54
      have S96 := paS_T Ta0 S0 W q95
      intro W97
      intro M98
      refine ⟨fun c99 => ?_, fun c99 => ?_⟩
      · skip
        refine ⟨fun c100 => ?_, fun c100 => ?_⟩
        · skip
          refine hj104 _ _ _ _ W97 ?_ ?_
          · exact paS_t S96 Ta0  -- t55
          · exact ⟨rfl, rfl, S96, psi2 Ta0 S0 W q95⟩  -- k56
        · skip
          refine ⟨fun c101 => ?_, fun c101 => ?_⟩
          · skip
            refine hj151 _ _ _ _ W97 ?_ ?_
            · exact paS_t S96 Ta0  -- t57
            · exact ⟨rfl, rfl, S96, psi2 Ta0 S0 W q95⟩  -- k58
          · skip
            refine hj104 _ _ _ _ W97 ?_ ?_
            · exact paS_t S96 Ta0  -- t59
            · exact ⟨rfl, rfl, S96, psi2 Ta0 S0 W q95⟩  -- k60
      · skip
        intro T102
        refine Pa_findArray_c W97 T102  ?_ (fun r103 q105 => ?_) (fun cls9 κ9 q9 => hx _ _ ?_)
        · exact S96.2.1  -- p61
        rotate_left
        · exact paX_tr S96.1 q9  -- x62
        intro W106
        intro M107
        intro T108
        refine Pa_setPlace_c W106 T108  ?_ (fun κ_109 q110 => ?_)
        · exact S96.2.1  -- p63
        have S111 := paS_N S96 q110
        intro W112
        intro M113
        intro T114
        refine Pa_openSign_c W112 T114  ?_ (fun κ_115 q116 => ?_) (fun cls9 κ9 q9 => hx _ _ ?_)
        · exact ⟨S111.2.1, S111.2.2.1, by decide⟩  -- p64
        rotate_left
        · exact paX_tr S111.1 q9  -- x65
        have S117 := paS_T Ta0 S111 W112 q116
        intro W118
        intro M119
        intro T120
        refine Pa_expression_c W118 T120  ?_ (fun κ_121 q122 => ?_) (fun cls9 κ9 q9 => hx _ _ ?_)
        · exact ⟨S117.2.1, S117.2.2.1, S117.2.2.2, Or.inl rfl⟩  -- p66
        rotate_left
        · exact paX_tr S117.1 q9  -- x67
        have S123 := (⟨S117.1.tr q122.1, q122.2⟩ : paS κ κ_121 a0)
        intro W124
        intro M125
        intro T126
        refine Pa_closeSign_c W124 T126  ?_ (fun κ_127 q128 => ?_) (fun cls9 κ9 q9 => hx _ _ ?_)
        · exact ⟨S123.2.1, S123.2.2.1, by decide⟩  -- p68
        rotate_left
        · exact paX_tr S123.1 q9  -- x69
        have S129 := paS_T Ta0 S123 W124 q128
        intro W130
        intro M131
        refine hj151 _ _ _ _ W130 ?_ ?_
        · exact paS_t S129 Ta0  -- t70
        · exact ⟨rfl, rfl, S129, psi2 Ta0 S123 W124 q128⟩  -- k71
    · skip
      intro T132
      refine Pa_wordStatement_c W T132  ?_ (fun κ_133 q134 => ?_) (fun cls9 κ9 q9 => hx _ _ ?_)
      · exact hp  -- p72
      rotate_left
      · exact paX_tr S0.1 q9  -- x73
      intro W135
      intro M136
      refine h _ ?_
      · exact q134  -- q74
  · skip
    intro T137
    refine Pa_localStatement_c W T137  ?_ (fun κ_138 q139 => ?_) (fun cls9 κ9 q9 => hx _ _ ?_)
    · exact ⟨hp.1, c90⟩  -- p75
    rotate_left
    · exact paX_tr S0.1 q9  -- x76
    intro W140
    intro M141
    refine h _ ?_
    · exact q139  -- q77

theorem paN_m {C : zC} {n0 p : Nat} {κ τ : zS} {x : Int32} (W : zW C n0 κ) (T : zT κ p = 10) (H : paI κ p) (e : τ = ui κ coMain (zR κ paCode p) x) : paN κ τ p := by
  have Z : zF (objF (zR κ paCode p)) κ τ := by rw [e]; exact zF_ui rfl
  have o : ∀ g, g ≠ coMain → zI τ g (zR κ paCode p) = zI κ g (zR κ paCode p) := fun g hg => by rw [e]; exact if_neg (fun z => hg z.1)
  refine (paN_c W T H Z ?_ (o _ (by decide))).1
  refine coI_g H.2.1 (fun g hg => o g (fun z => absurd (z ▸ hg) (by decide))) (fun g _ => by rw [e]; rfl) (fun g _ => by rw [e]; rfl) (fun g _ => by rw [e]; rfl)
theorem Pa_findCalled_c {C : zC} {n0 : Nat} {a0 : Nat} {κ : zS} {Q : zS → Prop} {X : zXp} (W : zW C n0 κ) (Ta0 : zT κ a0 = 10)  (hp : paA κ a0) (h : ∀ (κ' : zS), (paS κ κ' a0) → Q κ') (hx : ∀ (cls : String) (κ' : zS), (paX κ cls κ' a0) → X cls κ') : zRun C 12 mPa_findCalled [.ref a0] κ (oV Q X) := by
  refine Pa_findCalled_run W Ta0 ?_
  replace W := W.lo (Nat.le_trans W.1.2.1 W.1.2.2) (Nat.le_refl (zn κ))
  unfold w_Pa_findCalled_0
  have S0 := paS_0 hp
  have hj166 : ∀ (l0 : Nat) (τ : zS), zW C (zn κ) τ → zT τ l0 = 10 → (a0 = l0 ∧ paS κ τ a0) → w_Pa_findCalled_166 C (zn κ) Q X  l0 τ := by
    rintro _ τ166 W166 T166_0 ⟨rfl, j166⟩
    unfold w_Pa_findCalled_166
    refine ⟨fun c1 => ?_, fun c1 => ?_⟩
    · skip
      refine h _ ?_
      · exact j166  -- q1
    · skip
      intro T2
      refine Pa_refuse_c W166 T2  ?_ (fun κ_3 q4 => False.elim q4) (fun cls9 κ9 q9 => hx _ _ ?_)
      · exact j166.2.1  -- p2
      · exact paX_tr j166.1 q9  -- x3
  unfold w_Pa_findCalled_2
  refine ⟨fun n l0 l1 τ => n = (150 - l1.toInt).toNat ∧ (a0 = l0 ∧ paS κ τ a0 ∧ 0 ≤ l1.toInt), ⟨_, rfl, ?_⟩, ?_⟩
  · exact ⟨rfl, S0, by decide⟩  -- j4
  rintro n2 _ x2_1 κ2 W2 T2_0 ⟨hn2, rfl, i2⟩
  have hj89 : ∀ (l0 : Nat) (l1 : Int32) (l3 : Int32) (τ : zS), zW C (zn κ) τ → zT τ l0 = 10 → (a0 = l0 ∧ paS κ τ a0 ∧ l1 = x2_1 ∧ l1.toInt < 150) → w_Pa_findCalled_89 C (zn κ) Q X (fun (l0' : Nat) (l1' : Int32) (τ : zS) => ∃ k < n2, (fun (n : Nat) (l0 : Nat) (l1 : Int32) (τ : zS) => n = (150 - l1.toInt).toNat ∧ (a0 = l0 ∧ paS κ τ a0 ∧ 0 ≤ l1.toInt)) k l0' l1' τ) l0 l1 l3 τ := by
    rintro _ y89_1 y89_3 τ89 W89 T89_0 ⟨rfl, j89⟩
    unfold w_Pa_findCalled_89
    intro T5
    refine Co_setColumn_c W89 T5  ?_ (fun κ_6 q7 => ?_)
    · exact ⟨j89.1.2.1.2.1, by decide, by decide⟩  -- p5
    have S8 := paS_N j89.1 (paN_k W89 (paS_t j89.1 Ta0) j89.1.2.1 q7)
    intro W9
    intro M10
    intro x11 hx11
    refine ⟨_, ?_, rfl, ?_⟩
    · have e3 := j89.2.1
      have l3 := j89.2.2
      have l0 := i2.2
      have e1 : (y89_1 + 1).toInt = y89_1.toInt + 1 := by rw [add_i (by rw [t1i, e3]; omega) (by rw [t1i]; omega), t1i]
      rw [hn2, hx11, e1, e3]; rw [e3] at l3; omega
    · have e3 := j89.2.1
      have l3 := j89.2.2
      have l0 := i2.2
      have e1 : (y89_1 + 1).toInt = y89_1.toInt + 1 := by rw [add_i (by rw [t1i, e3]; omega) (by rw [t1i]; omega), t1i]
      exact ⟨rfl, S8, by rw [hx11, e1, e3]; omega⟩
  have hj82 : ∀ (l0 : Nat) (l1 : Int32) (l2 : Int32) (l3 : Int32) (τ : zS), zW C (zn κ) τ → zT τ l0 = 10 → (a0 = l0 ∧ paS κ τ a0) → w_Pa_findCalled_82 C (zn κ) Q X (fun (l0' : Nat) (l1' : Int32) (τ : zS) => ∃ k < n2, (fun (n : Nat) (l0 : Nat) (l1 : Int32) (τ : zS) => n = (150 - l1.toInt).toNat ∧ (a0 = l0 ∧ paS κ τ a0 ∧ 0 ≤ l1.toInt)) k l0' l1' τ) l0 l1 l2 l3 τ := by
    rintro _ y82_1 y82_2 y82_3 τ82 W82 T82_0 ⟨rfl, j82⟩
    unfold w_Pa_findCalled_82
    intro T12
    refine Pa_refuse_c W82 T12  ?_ (fun κ_13 q14 => False.elim q14) (fun cls9 κ9 q9 => hx _ _ ?_)
    · exact j82.2.1  -- p8
    · exact paX_tr j82.1 q9  -- x9
  refine ⟨fun c15 => ?_, fun c15 => ?_⟩
  · skip
    unfold w_Pa_findCalled_107
    refine ⟨fun n l0 l1 τ => n = (10 - l1.toInt).toNat ∧ (a0 = l0 ∧ paS κ τ a0 ∧ 0 ≤ l1.toInt), ⟨_, rfl, ?_⟩, ?_⟩
    · exact ⟨rfl, i2.1, by decide⟩  -- j10
    rintro n107 _ x107_1 κ107 W107 T107_0 ⟨hn107, rfl, i107⟩
    refine ⟨fun c16 => ?_, fun c16 => ?_⟩
    · skip
      refine hj166 _ _ W107 ?_ ?_
      · exact paS_t i107.1 Ta0  -- t11
      · exact ⟨rfl, i107.1⟩  -- k12
    · skip
      refine ⟨fun c17 => ?_, fun c17 => ?_⟩
      · skip
        refine hj166 _ _ W107 ?_ ?_
        · exact paS_t i107.1 Ta0  -- t13
        · exact ⟨rfl, i107.1⟩  -- k14
      · skip
        have e10 : (10 : Int32).toInt = 10 := rfl
        rw [lei, e10] at c17
        have l0 := i107.2
        have e1 : (x107_1 + 1).toInt = x107_1.toInt + 1 := by rw [add_i (by rw [t1i]; omega) (by rw [t1i]; omega), t1i]
        refine ⟨?_, ?_⟩
        · have L := i107.1.2.1.2.2.1.2.2.1
          rw [inb_iff]; omega
        intro T18
        refine Ta_isMain_c W107 T18  ?_ (fun r19 q21 => ?_)
        · exact ⟨i107.1.2.1.1.1, i107.1.2.1.1.2.1⟩  -- p16
        intro W22
        intro M23
        refine ⟨fun c24 => ?_, fun c24 => ?_⟩
        · skip
          intro x25 hx25
          refine ⟨_, ?_, rfl, ?_⟩
          · rw [hn107, hx25, e1]; omega  -- d17
          · exact ⟨rfl, i107.1, by rw [hx25, e1]; omega⟩  -- i18
        · skip
          refine ⟨?_, ?_⟩
          · have L := i107.1.2.1.2.1.1.2.2.2.2.1
            rw [inb_iff]; omega
          refine ⟨fun c26 => ?_, fun c26 => ?_⟩
          · skip
            intro x27 hx27
            refine ⟨_, ?_, rfl, ?_⟩
            · rw [hn107, hx27, e1]; omega  -- d20
            · exact ⟨rfl, i107.1, by rw [hx27, e1]; omega⟩  -- i21
          · skip
            intro κ_28 hκ_28
            have S29 := paS_N i107.1 (paN_m W22 (paS_t i107.1 Ta0) i107.1.2.1 hκ_28)
            intro W30
            intro x31 hx31
            refine ⟨_, ?_, rfl, ?_⟩
            · rw [hn107, hx31, e1]; omega  -- d22
            · exact ⟨rfl, S29, by rw [hx31, e1]; omega⟩  -- i23
  · skip
    intro T32
    have l0 := i2.2
    have sb := i2.1.2.1.2.1.2.2.2.2.2.1
    rw [lei] at c15
    have l1 : x2_1.toInt < 150 := by omega
    have e1 : (x2_1 + 1).toInt = x2_1.toInt + 1 := by rw [add_i (by rw [t1i]; omega) (by rw [t1i]; omega), t1i]
    refine Co_column_c W2 T32  ?_ (fun r33 q35 => ?_)
    · exact ⟨i2.1.2.1.2.1, by decide, by decide⟩  -- p24
    intro W36
    intro M37
    refine ⟨fun c38 => ?_, fun c38 => ?_⟩
    · skip
      intro x39 hx39
      refine ⟨_, ?_, rfl, ?_⟩
      · rw [hn2, hx39, e1]; omega  -- d25
      · exact ⟨rfl, i2.1, by rw [hx39, e1]; omega⟩  -- i26
    · skip
      intro T40
      refine Co_column_c W36 T40  ?_ (fun r41 q43 => ?_)
      · exact ⟨i2.1.2.1.2.1, by decide, by decide⟩  -- p27
      intro W44
      intro M45
      intro T46
      intro T47
      refine Ta_findName_c W44 T46 T47  ?_ (fun r48 q50 => ?_)
      · exact ⟨i2.1.2.1.1.1, i2.1.2.1.1.2.1⟩  -- p28
      intro W51
      intro M52
      refine ⟨fun c53 => ?_, fun c53 => ?_⟩
      · skip
        refine hj82 _ _ _ _ _ W51 ?_ ?_
        · exact paS_t i2.1 Ta0  -- t29
        · exact ⟨rfl, i2.1⟩  -- k30
      · skip
        refine ⟨?_, ?_⟩
        · have L1 := i2.1.2.1.2.2.1.2.2.1
          have L2 := i2.1.2.1.2.1.1.2.2.2.2.1
          have n1 : r48.toInt ≠ -1 := fun e => c53 (Int32.toInt_inj.mp (e.trans tmi.symm))
          obtain ⟨u1, u2, -⟩ := q50
          rw [inb_iff]; omega
        intro T54
        refine Co_column_c W51 T54  ?_ (fun r55 q57 => ?_)
        · exact ⟨i2.1.2.1.2.1, by decide, by decide⟩  -- p32
        intro W58
        intro M59
        refine ⟨fun c60 => ?_, fun c60 => ?_⟩
        · skip
          refine hj89 _ _ _ _ W58 ?_ ?_
          · exact paS_t i2.1 Ta0  -- t33
          · exact ⟨rfl, i2.1, rfl, l1⟩  -- k34
        · skip
          refine hj82 _ _ _ _ _ W58 ?_ ?_
          · exact paS_t i2.1 Ta0  -- t35
          · exact ⟨rfl, i2.1⟩  -- k36
