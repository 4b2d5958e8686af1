section
set_option maxHeartbeats 1600000
/-! the class's machine: offer, openCall, spreadOut -/
theorem Ma_offer_q6 {C : zC} {n0 : Nat} {a0 : Nat} {a1 : Int32} {κ : zS} {Q : zS → Prop} (W : zW C n0 κ) (Ta0 : zT κ a0 = 7)  (hp : maL κ a0 ∧ zI κ maWants a0 = -1) (h : ∀ (κ' : zS), ((mF κ κ' a0 ∧ mS0 κ κ' a0 ∧ mDw κ' a0) ∧ f5_Ma_offer a1 (am6 κ a0) = .inl (am6 κ' a0, ())) → Q κ') : zRun C 1 mMa_offer [.ref a0, .int a1] κ (oV Q noX) := by
  refine Ma_offer_run W Ta0 ?_
  replace W := W.lo (Nat.le_trans W.1.2.1 W.1.2.2) (Nat.le_refl (zn κ))
  unfold w_Ma_offer_0
  have hE : f5_Ma_offer a1 (am6 κ a0) = f5_Ma_offer a1 (am6 κ a0) := rfl
  refine ⟨fun c1 => ?_, fun c1 => ?_⟩
  · skip
    replace hE := rb_t5 hE c1
    intro T2
    refine Ma_fail_q6 W T2  (fun κ_3 q4 => ?_)
    obtain ⟨q4, z9⟩ := q4
    replace hE := rb_i5 hE z9
    have tκ_3 : zT κ_3 a0 = 7 := by first | exact q4.1.t Ta0 (by decide) | exact q4.1.1.t Ta0 (by decide) | (rw [q4]; exact Ta0)
    intro W5
    intro M6
    refine h _ ?_
    · refine and_5 ?_ (fun o9 => hE)  -- q1
      have f := mF_fail q4
      exact ⟨f.1, f.2.1, mDw_g f.2.2 (Or.inl hp.2)⟩
  · skip
    replace hE := rb_f5 hE c1
    refine ⟨fun c7 => ?_, fun c7 => ?_⟩
    · skip
      replace hE := rb_t5 hE c7
      intro κ_8 hκ_8
      replace hE := rb_i5 hE (am_ui6 (m := a0) (f := maWays) (by first | exact hκ_8 | (rw [hκ_8]; congr 1; assumption)) (by decide))
      have tκ_8 : zT κ_8 a0 = 7 := by rw [hκ_8]; exact Ta0
      intro W9
      intro κ_10 hκ_10
      replace hE := rb_i5 hE (am_ui6 (m := a0) (f := maTotal) (by first | exact hκ_10 | (rw [hκ_10]; congr 1; assumption)) (by decide))
      have tκ_10 : zT κ_10 a0 = 7 := by rw [hκ_10]; exact tκ_8
      intro W11
      unfold w_Ma_offer_29
      refine ⟨fun n l0 l1 l2 τ => n = (a1.toInt - l2.toInt).toNat ∧ ((a0 = l0 ∧ a1 = l1 ∧ mF κ τ a0 ∧ mS0 κ τ a0 ∧ 0 ≤ l2.toInt ∧ zI τ maWays a0 = a1 ∧ l2.toInt ≤ a1.toInt ∧ ∀ n : Nat, (n : Int) < l2.toInt → (zA τ (zR τ maWeights a0) n).toInt = 1) ∧ ∃ m5, n < m5 ∧ f5_Ma_offer a1 (am6 κ a0) = f5_Ma_offer_29 m5 l1 l2 (am6 τ a0)), ⟨_, rfl, ?_⟩, ?_⟩
      · refine and_5 ?_ (fun o9 => ⟨fu5, by first | exact fb5 | (unfold fu5; omega) | decide, hE⟩)  -- j2
        have e8 : (8 : Int32).toInt = 8 := rfl
        rw [lei, e8] at c7
        have w : zI κ_10 maWays a0 = a1 := by rw [hκ_10, hκ_8]; exact if_pos ⟨rfl, rfl⟩
        rw [lti, t1i] at c1
        exact ⟨rfl, rfl, (mF_uw hκ_8 (by omega)).tr (mF_ui hκ_10 (by decide)), (mS0_ui hκ_8 (by decide)).tr (mS0_ui hκ_10 (by decide)), by decide, w, by rw [t0i]; omega, fun n hn => by rw [t0i] at hn; omega⟩
      rintro n29 _ _ x29_2 κ29 W29 T29_0 ⟨hn29, ⟨rfl, rfl, i29⟩, m29, hm29, hE⟩
      obtain ⟨m29, rfl⟩ : ∃ m9, m29 = m9 + 1 := ⟨m29 - 1, by omega⟩
      refine ⟨fun c12 => ?_, fun c12 => ?_⟩
      · skip
        replace hE := rb_t5 hE c12
        intro κ_13 hκ_13
        replace hE := rb_i5 hE (am_ui6 (m := a0) (f := maWants) (by first | exact hκ_13 | (rw [hκ_13]; congr 1; assumption)) (by decide))
        have tκ_13 : zT κ_13 a0 = 7 := by rw [hκ_13]; exact T29_0
        intro W14
        refine h _ ?_
        · refine and_5 ?_ (fun o9 => hE)  -- q3
          obtain ⟨F, S, l0, w, l1, on⟩ := i29
          have e8 : (8 : Int32).toInt = 8 := rfl
          rw [lei, e8] at c7
          rw [lei] at c12
          rw [lti, t1i] at c1
          have w9 : zI κ_13 maWays a0 = a1 := by rw [hκ_13]; exact w
          have n9 : zI κ_13 maWants a0 = 4 := by rw [hκ_13]; exact if_pos ⟨rfl, rfl⟩
          have a9 : zA κ_13 (zR κ_13 maWeights a0) = zA κ29 (zR κ29 maWeights a0) := by rw [hκ_13]; rfl
          refine ⟨F.tr (mF_ui hκ_13 (by decide)), S.tr (mS0_ui hκ_13 (by decide)), Or.inr (Or.inr ⟨n9, ⟨by rw [w9]; omega, by rw [w9]; omega⟩, fun n hn => ?_⟩)⟩
          rw [w9] at hn
          rw [a9]
          exact on n (by omega)
      · skip
        replace hE := rb_f5 hE c12
        obtain ⟨F, S, l0, w, l1, on⟩ := i29
        have e8 : (8 : Int32).toInt = 8 := rfl
        rw [lei, e8] at c7
        have d1 : x29_2.toInt < a1.toInt := by rw [lei] at c12; omega
        have e1 := inc_i l0 d1
        have LV : zN κ29 (zR κ29 maValues a0) = 64 := by rw [F.2.1, F.2.2.1]; exact hp.1.2.2.2.1
        have LW : zN κ29 (zR κ29 maWeights a0) = 64 := by rw [F.2.1, F.2.2.1]; exact hp.1.2.2.2.2
        refine ⟨?_, ?_⟩
        · rw [inb_iff]; omega  -- b4
        intro κ_15 hκ_15
        replace hE := rb_i5 hE (am_ua6 (m := a0) (f := maValues) W29 T29_0 hκ_15 (by decide))
        have tκ_15 : zT κ_15 a0 = 7 := by rw [hκ_15]; exact T29_0
        intro W16
        refine ⟨?_, ?_⟩
        · have f := mF_ua W29 T29_0 (show zr maValues = some 20 by decide +kernel) (by decide) hκ_15
          rw [f.1.2.1, f.1.2.2.1, inb_iff]; omega
        intro κ_17 hκ_17
        replace hE := rb_i5 hE (am_ua6 (m := a0) (f := maWeights) W16 tκ_15 hκ_17 (by decide))
        have tκ_17 : zT κ_17 a0 = 7 := by rw [hκ_17]; exact tκ_15
        intro W18
        intro x19 hx19
        replace hE := rb_p5 hE hx19
        refine lp_b5 ?_ (fun d9 => ⟨rfl, ?_⟩)
        · rw [hn29, hx19, e1]; omega  -- d6
        · refine and_5 ?_ (fun o9 => ⟨m29, by omega, hE⟩)  -- i7
          have f1 := mF_ua W29 T29_0 (show zr maValues = some 20 by decide +kernel) (by decide) hκ_15
          have f2 := mF_ub W16 (f1.1.1.t T29_0 (by decide)) (show zr maWeights = some 20 by decide +kernel) (by decide) hκ_17
          have r := wRow W29 T29_0 hκ_15 hκ_17
          refine ⟨rfl, rfl, (F.tr f1.1).tr f2.1, (S.tr f1.2.1.1).tr f2.2.1, by rw [hx19, e1]; omega, by rw [f2.2.2, f1.2.2]; exact w, by rw [hx19, e1]; omega, ?_⟩
          rw [r]
          exact upd_ones l0 (by rw [hx19, e1]) on
    · skip
      replace hE := rb_f5 hE c7
      intro T20
      refine Ma_fail_q6 W T20  (fun κ_21 q22 => ?_)
      obtain ⟨q22, z9⟩ := q22
      replace hE := rb_i5 hE z9
      have tκ_21 : zT κ_21 a0 = 7 := by first | exact q22.1.t Ta0 (by decide) | exact q22.1.1.t Ta0 (by decide) | (rw [q22]; exact Ta0)
      intro W23
      intro M24
      refine h _ ?_
      · refine and_5 ?_ (fun o9 => hE)  -- q8
        have f := mF_fail q22
        exact ⟨f.1, f.2.1, mDw_g f.2.2 (Or.inl hp.2)⟩

theorem Ma_openCall_q6 {C : zC} {n0 : Nat} {a0 : Nat} {a1 : Int32} {a2 : Int32} {κ : zS} {Q : zS → Prop} (W : zW C n0 κ) (Ta0 : zT κ a0 = 7)  (hp : mkI κ a0 ∧ mO κ a0) (h : ∀ (κ' : zS), ((mF κ κ' a0 ∧ zI κ' maShared a0 = zI κ maShared a0 ∧ mO κ' a0 ∧ mG κ κ' a0) ∧ f5_Ma_openCall a1 a2 (am6 κ a0) = .inl (am6 κ' a0, ())) → Q κ') : zRun C 2 mMa_openCall [.ref a0, .int a1, .int a2] κ (oV Q noX) := by
  refine Ma_openCall_run W Ta0 ?_
  replace W := W.lo (Nat.le_trans W.1.2.1 W.1.2.2) (Nat.le_refl (zn κ))
  unfold w_Ma_openCall_0
  have hj92 : ∀ (l0 : Nat) (l1 : Int32) (τ : zS), zW C (zn κ) τ → zT τ l0 = 7 → ((a0 = l0 ∧ a1 = l1 ∧ mF κ τ a0 ∧ zI τ maShared a0 = zI κ maShared a0 ∧ mO τ a0 ∧ mG κ τ a0) ∧ f5_Ma_openCall a1 a2 (am6 κ a0) = f5_Ma_openCall_92 l1 (am6 τ a0)) → w_Ma_openCall_92 C (zn κ) Q  l0 l1 τ := by
    rintro _ _ τ92 W92 T92_0 ⟨⟨rfl, rfl, j92⟩, hE⟩
    unfold w_Ma_openCall_92
    intro T1
    refine Co_firstOf_q6 W92 T1  ?_ (fun r2 q4 => ?_)
    · exact (mkI_f j92.1 W Ta0 hp.1).1.2  -- p1
    obtain ⟨q4, z9⟩ := q4
    replace hE := rb_p5 hE (z9 a0 T92_0 (by first | rfl | assumption))
    intro W5
    intro M6
    intro κ_7 hκ_7
    replace hE := rb_i5 hE (am_ui6 (m := a0) (f := maGoing) (by first | exact hκ_7 | (rw [hκ_7]; congr 1; assumption)) (by decide))
    have tκ_7 : zT κ_7 a0 = 7 := by rw [hκ_7]; exact T92_0
    intro W8
    refine h _ ?_
    · refine and_5 ?_ (fun o9 => hE)  -- q2
      exact ⟨j92.1.tr (mF_ui hκ_7 (by decide)), ((mS_ui hκ_7 (by decide)).1 maShared (by decide)).trans j92.2.1, mO_s (mS_ui hκ_7 (by decide)) j92.2.2.1, j92.2.2.2.tr (mG_ui hκ_7 (by decide))⟩
  have hE : f5_Ma_openCall a1 a2 (am6 κ a0) = f5_Ma_openCall a1 a2 (am6 κ a0) := rfl
  refine ⟨fun c9 => ?_, fun c9 => ?_⟩
  · skip
    replace hE := rb_t5 hE c9
    intro κ_10 hκ_10
    replace hE := rb_i5 hE (am_ui6 (m := a0) (f := maOpen) (by first | exact hκ_10 | (rw [hκ_10]; congr 1; assumption)) (by decide))
    have tκ_10 : zT κ_10 a0 = 7 := by rw [hκ_10]; exact Ta0
    intro W11
    intro κ_12 hκ_12
    replace hE := rb_i5 hE (am_ui6 (m := a0) (f := maFrame) (by first | exact hκ_12 | (rw [hκ_12]; congr 1; assumption)) (by decide))
    have tκ_12 : zT κ_12 a0 = 7 := by rw [hκ_12]; exact tκ_10
    intro W13
    intro T14
    refine Ar_fill4_c W13 T14  ?_ (fun κ_15 q16 => ?_)
    · have P := mO_push hp.2 c9 hκ_10 hκ_12
      have F := (mF_ui hκ_10 (by decide)).tr (mF_ui hκ_12 (by decide))
      have L := (mkI_f F W Ta0 hp.1).1.1.1
      obtain ⟨⟨s, o, f⟩, -⟩ := P
      have e9 : (9 : Int32).toInt = 9 := rfl
      have ef : (zI κ_12 maFrame a0 + 9).toInt = (zI κ_12 maFrame a0).toInt + 9 := by rw [add_i (by rw [e9]; omega) (by rw [e9]; omega), e9]
      have kn := cnk (x := zI κ_12 maFrame a0 + 9) (by omega)
      exact ⟨by rw [lei, t0i]; omega, by rw [lei, ef]; omega, by omega⟩
    replace hE := rb_i5 hE (am_uf6 W13 tκ_12 q16)
    have tκ_15 : zT κ_15 a0 = 7 := by first | exact q16.1.t tκ_12 (by decide) | exact q16.1.1.t tκ_12 (by decide) | (rw [q16]; exact tκ_12)
    intro W17
    intro M18
    unfold w_Ma_openCall_57
    refine ⟨fun n l0 l1 l2 l3 τ => n = (4 - l3.toInt).toNat ∧ ((a0 = l0 ∧ a1 = l1 ∧ a2 = l2 ∧ mF κ τ a0 ∧ zI τ maShared a0 = zI κ maShared a0 ∧ mO τ a0 ∧ 0 ≤ l3.toInt ∧ mG κ τ a0) ∧ ∃ m5, n < m5 ∧ f5_Ma_openCall a1 a2 (am6 κ a0) = f5_Ma_openCall_57 m5 l1 l2 l3 (am6 τ a0)), ⟨_, rfl, ?_⟩, ?_⟩
    · refine and_5 ?_ (fun o9 => ⟨fu5, by first | exact fb5 | (unfold fu5; omega) | decide, hE⟩)  -- j4
      have P := mO_push hp.2 c9 hκ_10 hκ_12
      have F := (mF_ui hκ_10 (by decide)).tr (mF_ui hκ_12 (by decide))
      have f := mF_uf W13 (F.1.t Ta0 (by decide)) (show zr maMemory = some 20 by decide +kernel) (by decide) q16
      exact ⟨rfl, rfl, rfl, F.tr f.1, by rw [f.2.2]; exact P.2, mO_i f.2.2 P.1, by decide, ((mG_ui hκ_10 (by decide)).tr (mG_ui hκ_12 (by decide))).tr f.2.1.2⟩
    rintro n57 _ _ _ x57_3 κ57 W57 T57_0 ⟨hn57, ⟨rfl, rfl, rfl, i57⟩, m57, hm57, hE⟩
    obtain ⟨m57, rfl⟩ : ∃ m9, m57 = m9 + 1 := ⟨m57 - 1, by omega⟩
    refine ⟨fun c19 => ?_, fun c19 => ?_⟩
    · skip
      replace hE := rb_t5 hE c19
      refine hj92 _ _ _ W57 ?_ ?_
      · exact T57_0  -- t5
      · refine and_5 ?_ (fun o9 => hE)  -- k6
        exact ⟨rfl, rfl, i57.1, i57.2.1, i57.2.2.1, i57.2.2.2.2⟩
    · skip
      replace hE := rb_f5 hE c19
      refine ⟨fun c20 => ?_, fun c20 => ?_⟩
      · skip
        replace hE := rb_t5 hE c20
        refine hj92 _ _ _ W57 ?_ ?_
        · exact T57_0  -- t7
        · refine and_5 ?_ (fun o9 => hE)  -- k8
          exact ⟨rfl, rfl, i57.1, i57.2.1, i57.2.2.1, i57.2.2.2.2⟩
      · skip
        replace hE := rb_f5 hE c20
        obtain ⟨F, eS, O, l0, G⟩ := i57
        have I := (mkI_f F W Ta0 hp.1).1
        have LM := I.1.1
        have LW := I.1.2.2.1
        have e4 : (4 : Int32).toInt = 4 := rfl
        rw [lei, e4] at c20
        have e1 : (x57_3 + 1).toInt = x57_3.toInt + 1 := by rw [add_i (by rw [t1i]; omega) (by rw [t1i]; omega), t1i]
        refine ⟨?_, ?_⟩
        · rw [inb_iff]; omega  -- b9
        refine ⟨?_, ?_⟩
        · obtain ⟨s, o, f⟩ := O
          have e5 : (zI κ57 maFrame a0 + 1).toInt = (zI κ57 maFrame a0).toInt + 1 := by rw [add_i (by rw [t1i]; omega) (by rw [t1i]; omega), t1i]
          have e6 : (zI κ57 maFrame a0 + 1 + x57_3).toInt = (zI κ57 maFrame a0).toInt + 1 + x57_3.toInt := by rw [add_i (by rw [e5]; omega) (by rw [e5]; omega), e5]
          rw [inb_iff, e6]; omega
        intro κ_21 hκ_21
        replace hE := rb_i5 hE (am_ua6 (m := a0) (f := maMemory) W57 T57_0 hκ_21 (by decide))
        have tκ_21 : zT κ_21 a0 = 7 := by rw [hκ_21]; exact T57_0
        intro W22
        intro x23 hx23
        replace hE := rb_p5 hE hx23
        refine lp_b5 ?_ (fun d9 => ⟨rfl, ?_⟩)
        · rw [hn57, hx23, e1]; omega  -- d11
        · refine and_5 ?_ (fun o9 => ⟨m57, by omega, hE⟩)  -- i12
          have f := mF_ua W57 T57_0 (show zr maMemory = some 20 by decide +kernel) (by decide) hκ_21
          exact ⟨rfl, rfl, rfl, F.tr f.1, by rw [f.2.2]; exact eS, mO_i f.2.2 O, by rw [hx23, e1]; omega, G.tr f.2.1.2⟩
  · skip
    replace hE := rb_f5 hE c9
    intro T24
    refine Ma_fail_q6 W T24  (fun κ_25 q26 => ?_)
    obtain ⟨q26, z9⟩ := q26
    replace hE := rb_i5 hE z9
    have tκ_25 : zT κ_25 a0 = 7 := by first | exact q26.1.t Ta0 (by decide) | exact q26.1.1.t Ta0 (by decide) | (rw [q26]; exact Ta0)
    intro W27
    intro M28
    refine h _ ?_
    · refine and_5 ?_ (fun o9 => hE)  -- q13
      have f := mF_fail q26
      exact ⟨f.1, f.2.1 maShared (by decide), mO_s f.2 hp.2, f.2.2⟩

theorem Ma_spreadOut_q6 {C : zC} {n0 : Nat} {a0 : Nat} {a1 : Int32} {a2 : Int32} {κ : zS} {Q : zS → Prop} (W : zW C n0 κ) (Ta0 : zT κ a0 = 7)  (hp : mkI κ a0 ∧ zI κ maWants a0 = -1) (h : ∀ (κ' : zS), ((mF κ κ' a0 ∧ mS0 κ κ' a0 ∧ mDw κ' a0) ∧ f5_Ma_spreadOut a1 a2 (am6 κ a0) = .inl (am6 κ' a0, ())) → Q κ') : zRun C 1 mMa_spreadOut [.ref a0, .int a1, .int a2] κ (oV Q noX) := by
  refine Ma_spreadOut_run W Ta0 ?_
  replace W := W.lo (Nat.le_trans W.1.2.1 W.1.2.2) (Nat.le_refl (zn κ))
  unfold w_Ma_spreadOut_0
  have hj282 : ∀ (l0 : Nat) (τ : zS), zW C (zn κ) τ → zT τ l0 = 7 → ((a0 = l0 ∧ mF κ τ a0 ∧ mS0 κ τ a0 ∧ zI τ maWants a0 = -1) ∧ f5_Ma_spreadOut a1 a2 (am6 κ a0) = f5_Ma_spreadOut_282 (am6 τ a0)) → w_Ma_spreadOut_282 C (zn κ) Q  l0 τ := by
    rintro _ τ282 W282 T282_0 ⟨⟨rfl, j282⟩, hE⟩
    unfold w_Ma_spreadOut_282
    intro T1
    refine Ma_fail_q6 W282 T1  (fun κ_2 q3 => ?_)
    obtain ⟨q3, z9⟩ := q3
    replace hE := rb_i5 hE z9
    have tκ_2 : zT κ_2 a0 = 7 := by first | exact q3.1.t T282_0 (by decide) | exact q3.1.1.t T282_0 (by decide) | (rw [q3]; exact T282_0)
    intro W4
    intro M5
    refine h _ ?_
    · refine and_5 ?_ (fun o9 => hE)  -- q1
      have f := mF_fail q3
      exact ⟨j282.1.tr f.1, j282.2.1.tr f.2.1, mDw_g f.2.2 (Or.inl j282.2.2)⟩
  have hj190 : ∀ (l0 : Nat) (τ : zS), zW C (zn κ) τ → zT τ l0 = 7 → ((a0 = l0 ∧ mF κ τ a0 ∧ mS0 κ τ a0 ∧ (zI τ maWays a0).toInt ≤ 64 ∧ zI τ maWants a0 = -1 ∧ spO τ a0) ∧ f5_Ma_spreadOut a1 a2 (am6 κ a0) = f5_Ma_spreadOut_190 (am6 τ a0)) → w_Ma_spreadOut_190 C (zn κ) Q  l0 τ := by
    rintro _ τ190 W190 T190_0 ⟨⟨rfl, j190⟩, hE⟩
    unfold w_Ma_spreadOut_190
    intro κ_6 hκ_6
    replace hE := rb_i5 hE (am_ui6 (m := a0) (f := maTotal) (by first | exact hκ_6 | (rw [hκ_6]; congr 1; assumption)) (by decide))
    have tκ_6 : zT κ_6 a0 = 7 := by rw [hκ_6]; exact T190_0
    intro W7
    unfold w_Ma_spreadOut_200
    refine ⟨fun n l0 l3 l4 τ => n = (64 - l4.toInt).toNat ∧ ((a0 = l0 ∧ mF κ τ a0 ∧ mS0 κ τ a0 ∧ (zI τ maWays a0).toInt ≤ 64 ∧ 0 ≤ l4.toInt ∧ zI τ maWants a0 = -1 ∧ spO τ a0 ∧ spW τ a0 l3 l4) ∧ ∃ m5, n < m5 ∧ f5_Ma_spreadOut a1 a2 (am6 κ a0) = f5_Ma_spreadOut_200 m5 l3 l4 (am6 τ a0)), ⟨_, rfl, ?_⟩, ?_⟩
    · refine and_5 ?_ (fun o9 => ⟨fu5, by first | exact fb5 | (unfold fu5; omega) | decide, hE⟩)  -- j2
      have w : zI κ_6 maWays a0 = zI τ190 maWays a0 := by rw [hκ_6]; rfl
      have w1 : zI κ_6 maWants a0 = zI τ190 maWants a0 := by rw [hκ_6]; rfl
      have t9 : zI κ_6 maTotal a0 = 0 := by rw [hκ_6]; exact if_pos ⟨rfl, rfl⟩
      exact ⟨rfl, j190.1.tr (mF_ui hκ_6 (by decide)), j190.2.1.tr (mS0_ui hκ_6 (by decide)), by rw [w]; exact j190.2.2.1, by decide, w1.trans j190.2.2.2.1, spO_e w (by rw [hκ_6]; rfl) j190.2.2.2.2, fun _ => ⟨fun n hn => by rw [t0i] at hn; omega, by rw [t9]; rfl, Or.inl rfl⟩⟩
    rintro n200 _ x200_3 x200_4 κ200 W200 T200_0 ⟨hn200, ⟨rfl, i200⟩, m200, hm200, hE⟩
    obtain ⟨m200, rfl⟩ : ∃ m9, m200 = m9 + 1 := ⟨m200 - 1, by omega⟩
    have hj240 : ∀ (l0 : Nat) (l4 : Int32) (s0 : Int32) (τ : zS), zW C (zn κ) τ → zT τ l0 = 7 → ((a0 = l0 ∧ τ = κ200 ∧ l4 = x200_4 ∧ l4.toInt < (zI κ200 maWays a0).toInt ∧ (s0 ≠ 0 → x200_3 ≠ 0 ∧ 0 ≤ (zA κ200 (zR κ200 maWeights a0) l4.toNatClampNeg).toInt ∧ (zA κ200 (zR κ200 maWeights a0) l4.toNatClampNeg).toInt ≤ 1000000)) ∧ f5_Ma_spreadOut a1 a2 (am6 κ a0) = f5_Ma_spreadOut_240 (f5_Ma_spreadOut_200 m200) l4 s0 (am6 τ a0)) → w_Ma_spreadOut_240 C (zn κ) Q (fun (l0' : Nat) (l3' : Int32) (l4' : Int32) (τ : zS) => ∃ k < n200, (fun (n : Nat) (l0 : Nat) (l3 : Int32) (l4 : Int32) (τ : zS) => n = (64 - l4.toInt).toNat ∧ ((a0 = l0 ∧ mF κ τ a0 ∧ mS0 κ τ a0 ∧ (zI τ maWays a0).toInt ≤ 64 ∧ 0 ≤ l4.toInt ∧ zI τ maWants a0 = -1 ∧ spO τ a0 ∧ spW τ a0 l3 l4) ∧ ∃ m5, n < m5 ∧ f5_Ma_spreadOut a1 a2 (am6 κ a0) = f5_Ma_spreadOut_200 m5 l3 l4 (am6 τ a0))) k l0' l3' l4' τ) l0 l4 s0 τ := by
      clear hE
      rintro _ y240_4 y240_s0 τ240 W240 T240_0 ⟨⟨rfl, j240⟩, hE⟩
      unfold w_Ma_spreadOut_240
      refine ⟨?_, ?_⟩
      · obtain ⟨et, e, l1, g⟩ := j240
        have L := (maL_f i200.1 hp.1.1).2.2.2.2
        have l0 := i200.2.2.2.1
        have w := i200.2.2.1
        rw [et, inb_iff, e]
        rw [e] at l1
        omega
      intro κ_8 hκ_8
      replace hE := rb_i5 hE (am_ui6 (m := a0) (f := maTotal) (by first | exact hκ_8 | (rw [hκ_8]; congr 1; assumption)) (by decide))
      have tκ_8 : zT κ_8 a0 = 7 := by rw [hκ_8]; exact T240_0
      intro W9
      intro x10 hx10
      replace hE := rb_p5 hE hx10
      refine lp_b5 ?_ (fun d9 => ⟨rfl, ?_⟩)
      · obtain ⟨et, e, l1, g⟩ := j240
        have l0 := i200.2.2.2.1
        have w := i200.2.2.1
        rw [e] at l1
        have e1 := inc_i l0 l1
        rw [hn200, hx10, e, e1]; omega
      · refine and_5 ?_ (fun o9 => ⟨m200, by omega, hE⟩)  -- i5
        obtain ⟨et, e, l1, g⟩ := j240
        obtain ⟨F, S, w, l0, wn, O, P⟩ := i200
        rw [e] at l1 g hx10 hκ_8
        rw [et] at hκ_8
        have e1 := inc_i l0 l1
        have w' : zI κ_8 maWays a0 = zI κ200 maWays a0 := by rw [hκ_8]; rfl
        have w1 : zI κ_8 maWants a0 = zI κ200 maWants a0 := by rw [hκ_8]; rfl
        exact ⟨rfl, F.tr (mF_ui hκ_8 (by decide)), S.tr (mS0_ui hκ_8 (by decide)), by rw [w']; exact w, by rw [hx10, e1]; omega, w1.trans wn, spO_e w' (by rw [hκ_8]; rfl) O, spW_n P l0 l1 w g hκ_8 (by rw [hx10]; exact e1)⟩
    refine ⟨fun c11 => ?_, fun c11 => ?_⟩
    · skip
      replace hE := rb_t5 hE c11
      refine ⟨fun c12 => ?_, fun c12 => ?_⟩
      · skip
        replace hE := rb_t5 hE c12
        refine hj282 _ _ W200 ?_ ?_
        · exact T200_0  -- t6
        · refine and_5 ?_ (fun o9 => hE)  -- k7
          exact ⟨rfl, i200.1, i200.2.1, i200.2.2.2.2.1⟩
      · skip
        replace hE := rb_f5 hE c12
        refine ⟨fun c13 => ?_, fun c13 => ?_⟩
        · skip
          replace hE := rb_t5 hE c13
          refine hj282 _ _ W200 ?_ ?_
          · exact T200_0  -- t8
          · refine and_5 ?_ (fun o9 => hE)  -- k9
            exact ⟨rfl, i200.1, i200.2.1, i200.2.2.2.2.1⟩
        · skip
          replace hE := rb_f5 hE c13
          intro κ_14 hκ_14
          replace hE := rb_i5 hE (am_ui6 (m := a0) (f := maWants) (by first | exact hκ_14 | (rw [hκ_14]; congr 1; assumption)) (by decide))
          have tκ_14 : zT κ_14 a0 = 7 := by rw [hκ_14]; exact T200_0
          intro W15
          refine h _ ?_
          · refine and_5 ?_ (fun o9 => hE)  -- q10
            obtain ⟨F, S, w, l0, wn, O, P⟩ := i200
            rw [lei] at c11
            rw [lei, t0i] at c13
            exact ⟨F.tr (mF_ui hκ_14 (by decide)), S.tr (mS0_ui hκ_14 (by decide)), spW_q P c12 O w c11 l0 (by omega) hκ_14⟩
    · skip
      replace hE := rb_f5 hE c11
      refine ⟨fun c16 => ?_, fun c16 => ?_⟩
      · skip
        replace hE := rb_t5 hE c16
        refine hj240 _ _ _ _ W200 ?_ ?_
        · exact T200_0  -- t11
        · refine and_5 ?_ (fun o9 => hE)  -- k12
          exact ⟨rfl, rfl, rfl, by rw [lei] at c11; omega, fun z => absurd rfl z⟩
      · skip
        replace hE := rb_f5 hE c16
        refine ⟨?_, ?_⟩
        · have L := (maL_f i200.1 hp.1.1).2.2.2.2
          have w := i200.2.2.1
          have l := i200.2.2.2.1
          rw [lei] at c11
          rw [inb_iff]; omega
        refine ⟨fun c17 => ?_, fun c17 => ?_⟩
        · skip
          replace hE := rb_t5 hE c17
          refine hj240 _ _ _ _ W200 ?_ ?_
          · exact T200_0  -- t14
          · refine and_5 ?_ (fun o9 => hE)  -- k15
            exact ⟨rfl, rfl, rfl, by rw [lei] at c11; omega, fun z => absurd rfl z⟩
        · skip
          replace hE := rb_f5 hE c17
          refine ⟨?_, ?_⟩
          · have L := (maL_f i200.1 hp.1.1).2.2.2.2
            have w := i200.2.2.1
            have l := i200.2.2.2.1
            rw [lei] at c11
            rw [inb_iff]; omega
          refine ⟨fun c18 => ?_, fun c18 => ?_⟩
          · skip
            replace hE := rb_t5 hE c18
            refine hj240 _ _ _ _ W200 ?_ ?_
            · exact T200_0  -- t17
            · refine and_5 ?_ (fun o9 => hE)  -- k18
              exact ⟨rfl, rfl, rfl, by rw [lei] at c11; omega, fun z => absurd rfl z⟩
          · skip
            replace hE := rb_f5 hE c18
            refine hj240 _ _ _ _ W200 ?_ ?_
            · exact T200_0  -- t19
            · refine and_5 ?_ (fun o9 => hE)  -- k20
              refine ⟨rfl, rfl, rfl, by rw [lei] at c11; omega, fun _ => ⟨c16, ?_⟩⟩
              have e6 : (1000000 : Int32).toInt = 1000000 := rfl
              rw [lti, t0i] at c17
              rw [lti, e6] at c18
              omega
  have hj37 : ∀ (l0 : Nat) (s0 : Nat) (s1 : Int32) (τ : zS), zW C (zn κ) τ → zT τ l0 = 7 → zT τ s0 = 7 → ((a0 = l0 ∧ τ = κ ∧ s0 = a0 ∧ s1.toInt ≤ 64) ∧ f5_Ma_spreadOut a1 a2 (am6 κ a0) = f5_Ma_spreadOut_37 s1 (am6 τ a0)) → w_Ma_spreadOut_37 C (zn κ) Q  l0 s0 s1 τ := by
    rintro _ y37_s0 y37_s1 τ37 W37 T37_0 T37_1 ⟨⟨rfl, j37⟩, hE⟩
    unfold w_Ma_spreadOut_37
    intro κ_19 hκ_19
    have h9 : κ_19 = ui τ37 maWays a0 y37_s1 := by rw [hκ_19, j37.2.1]
    replace hE := rb_i5 hE (am_ui6 (m := a0) (f := maWays) h9 (by decide))
    have tκ_19 : zT κ_19 a0 = 7 := by rw [h9]; exact T37_0
    intro W20
    unfold w_Ma_spreadOut_42
    refine ⟨fun n l0 l3 τ => n = (64 - l3.toInt).toNat ∧ ((a0 = l0 ∧ mF κ τ a0 ∧ mS0 κ τ a0 ∧ (zI τ maWays a0).toInt ≤ 64 ∧ 0 ≤ l3.toInt ∧ zI τ maWants a0 = -1 ∧ ∀ n : Nat, (n : Int) < l3.toInt → (zA τ (zR τ maWeights a0) n).toInt = 1) ∧ ∃ m5, n < m5 ∧ f5_Ma_spreadOut a1 a2 (am6 κ a0) = f5_Ma_spreadOut_42 m5 l3 (am6 τ a0)), ⟨_, rfl, ?_⟩, ?_⟩
    · refine and_5 ?_ (fun o9 => ⟨fu5, by first | exact fb5 | (unfold fu5; omega) | decide, hE⟩)  -- j21
      obtain ⟨e1, e2, w⟩ := j37
      rw [e1, e2] at hκ_19
      have w9 : zI κ_19 maWays a0 = y37_s1 := by rw [hκ_19]; exact if_pos ⟨rfl, rfl⟩
      have w1 : zI κ_19 maWants a0 = zI κ maWants a0 := by rw [hκ_19]; rfl
      exact ⟨rfl, mF_uw hκ_19 w, mS0_ui hκ_19 (by decide), by rw [w9]; exact w, by decide, w1.trans hp.2, fun n hn => by rw [t0i] at hn; omega⟩
    rintro n42 _ x42_3 κ42 W42 T42_0 ⟨hn42, ⟨rfl, i42⟩, m42, hm42, hE⟩
    obtain ⟨m42, rfl⟩ : ∃ m9, m42 = m9 + 1 := ⟨m42 - 1, by omega⟩
    refine ⟨fun c21 => ?_, fun c21 => ?_⟩
    · skip
      replace hE := rb_t5 hE c21
      refine hj190 _ _ W42 ?_ ?_
      · exact T42_0  -- t22
      · refine and_5 ?_ (fun o9 => hE)  -- k23
        rw [lei] at c21
        exact ⟨rfl, i42.1, i42.2.1, i42.2.2.1, i42.2.2.2.2.1, fun _ n hn => i42.2.2.2.2.2 n (by omega)⟩
    · skip
      replace hE := rb_f5 hE c21
      obtain ⟨F, S, w, l0, wn, on⟩ := i42
      have d1 : x42_3.toInt < (zI κ42 maWays a0).toInt := by rw [lei] at c21; omega
      have e1 := inc_i l0 d1
      have L := maL_f F hp.1.1
      have LV := L.2.2.2.1
      have LW := L.2.2.2.2
      refine ⟨?_, ?_⟩
      · rw [inb_iff]; omega  -- b24
      intro κ_22 hκ_22
      replace hE := rb_i5 hE (am_ua6 (m := a0) (f := maValues) W42 T42_0 hκ_22 (by decide))
      have tκ_22 : zT κ_22 a0 = 7 := by rw [hκ_22]; exact T42_0
      intro W23
      refine ⟨?_, ?_⟩
      · have f := uVa W42 T42_0 hκ_22
        rw [f.1.2.1, f.1.2.2.1, inb_iff]; omega
      intro κ_24 hκ_24
      replace hE := rb_i5 hE (am_ua6 (m := a0) (f := maWeights) W23 tκ_22 hκ_24 (by decide))
      have tκ_24 : zT κ_24 a0 = 7 := by rw [hκ_24]; exact tκ_22
      intro W25
      intro x26 hx26
      replace hE := rb_p5 hE hx26
      refine lp_b5 ?_ (fun d9 => ⟨rfl, ?_⟩)
      · rw [hn42, hx26, e1]; omega  -- d26
      · refine and_5 ?_ (fun o9 => ⟨m42, by omega, hE⟩)  -- i27
        have f := uVa W42 T42_0 hκ_22
        have g := uWt W23 f.2.2.2 hκ_24
        refine ⟨rfl, (F.tr f.1).tr g.1, (S.tr f.2.1.1).tr g.2.1, by rw [g.2.2.1, f.2.2.1]; exact w, by rw [hx26, e1]; omega, by rw [g.2.2.1, f.2.2.1]; exact wn, ?_⟩
        rw [wRow W42 T42_0 hκ_22 hκ_24]
        exact upd_ones l0 (by rw [hx26, e1]) on
  have hE : f5_Ma_spreadOut a1 a2 (am6 κ a0) = f5_Ma_spreadOut a1 a2 (am6 κ a0) := rfl
  refine ⟨fun c27 => ?_, fun c27 => ?_⟩
  · skip
    replace hE := rb_f5 hE c27
    refine ⟨fun c28 => ?_, fun c28 => ?_⟩
    · skip
      replace hE := rb_f5 hE c28
      intro T29
      refine Co_column_q6 W T29  ?_ (fun r30 q32 => ?_)
      · exact ⟨hp.1.2, by decide, by decide⟩  -- p28
      obtain ⟨q32, z9⟩ := q32
      replace hE := rb_p5 hE (z9 a0 Ta0 (by first | rfl | assumption))
      intro W33
      intro M34
      refine ⟨?_, ?_⟩
      · decide  -- b29
      intro κ_35 hκ_35
      replace hE := rb_i5 hE (am_ui6 (m := a0) (f := maWays) (by first | exact hκ_35 | (rw [hκ_35]; congr 1; assumption)) (by decide))
      have tκ_35 : zT κ_35 a0 = 7 := by rw [hκ_35]; exact Ta0
      intro W36
      unfold w_Ma_spreadOut_146
      refine ⟨fun n l0 l3 τ => n = (8 - l3.toInt).toNat ∧ ((a0 = l0 ∧ mF κ τ a0 ∧ mS0 κ τ a0 ∧ (zI τ maWays a0).toInt ≤ 8 ∧ 0 ≤ l3.toInt ∧ zI τ maWants a0 = -1) ∧ ∃ m5, n < m5 ∧ f5_Ma_spreadOut a1 a2 (am6 κ a0) = f5_Ma_spreadOut_146 m5 l3 (am6 τ a0)), ⟨_, rfl, ?_⟩, ?_⟩
      · refine and_5 ?_ (fun o9 => ⟨fu5, by first | exact fb5 | (unfold fu5; omega) | decide, hE⟩)  -- j30
        have e8 : (8 : Int32).toInt = 8 := rfl
        have w9 : zI κ_35 maWays a0 = (if (8 : Int32) < r30 / 2 then (8 : Int32) else r30 / 2) := by rw [hκ_35]; exact if_pos ⟨rfl, rfl⟩
        have b : (if (8 : Int32) < r30 / 2 then (8 : Int32) else r30 / 2).toInt ≤ 8 := by
          split
          · decide
          · rename_i z
            rw [lti, e8] at z
            omega
        have w1 : zI κ_35 maWants a0 = zI κ maWants a0 := by rw [hκ_35]; rfl
        exact ⟨rfl, mF_uw hκ_35 (by omega), mS0_ui hκ_35 (by decide), by rw [w9]; exact b, by decide, w1.trans hp.2⟩
      rintro n146 _ x146_3 κ146 W146 T146_0 ⟨hn146, ⟨rfl, i146⟩, m146, hm146, hE⟩
      obtain ⟨m146, rfl⟩ : ∃ m9, m146 = m9 + 1 := ⟨m146 - 1, by omega⟩
      refine ⟨fun c37 => ?_, fun c37 => ?_⟩
      · skip
        replace hE := rb_t5 hE c37
        refine hj190 _ _ W146 ?_ ?_
        · exact T146_0  -- t31
        · refine and_5 ?_ (fun o9 => hE)  -- k32
          have w8 := i146.2.2.1
          exact ⟨rfl, i146.1, i146.2.1, by omega, i146.2.2.2.2, fun z => absurd z (by omega)⟩
      · skip
        replace hE := rb_f5 hE c37
        obtain ⟨F, S, w, l0, wn⟩ := i146
        have d1 : x146_3.toInt < (zI κ146 maWays a0).toInt := by rw [lei] at c37; omega
        have e1 := inc_i l0 d1
        have L := maL_f F hp.1.1
        have LK := L.2.2.1
        have LV := L.2.2.2.1
        have LW := L.2.2.2.2
        have m2 : ((2 : Int32) * x146_3).toInt = 2 * x146_3.toInt := by rw [mul_i (by rw [t2i]; omega) (by rw [t2i]; omega), t2i]
        have m3 : ((2 : Int32) * x146_3 + 1).toInt = 2 * x146_3.toInt + 1 := by rw [add_i (by rw [m2, t1i]; omega) (by rw [m2, t1i]; omega), m2, t1i]
        refine ⟨?_, ?_⟩
        · rw [inb_iff, m2]; omega  -- b33
        refine ⟨?_, ?_⟩
        · rw [inb_iff]; omega  -- b34
        intro κ_38 hκ_38
        replace hE := rb_i5 hE (am_ua6 (m := a0) (f := maValues) W146 T146_0 hκ_38 (by decide))
        have tκ_38 : zT κ_38 a0 = 7 := by rw [hκ_38]; exact T146_0
        intro W39
        refine ⟨?_, ?_⟩
        · have f := uVa W146 T146_0 hκ_38
          rw [f.1.2.1, f.1.2.2.1, inb_iff, m3]; omega
        refine ⟨?_, ?_⟩
        · have f := uVa W146 T146_0 hκ_38
          rw [f.1.2.1, f.1.2.2.1, inb_iff]; omega
        intro κ_40 hκ_40
        replace hE := rb_i5 hE (am_ua6 (m := a0) (f := maWeights) W39 tκ_38 hκ_40 (by decide))
        have tκ_40 : zT κ_40 a0 = 7 := by rw [hκ_40]; exact tκ_38
        intro W41
        intro x42 hx42
        replace hE := rb_p5 hE hx42
        refine lp_b5 ?_ (fun d9 => ⟨rfl, ?_⟩)
        · rw [hn146, hx42, e1]; omega  -- d37
        · refine and_5 ?_ (fun o9 => ⟨m146, by omega, hE⟩)  -- i38
          have f := uVa W146 T146_0 hκ_38
          have g := uWt W39 f.2.2.2 hκ_40
          exact ⟨rfl, (F.tr f.1).tr g.1, (S.tr f.2.1.1).tr g.2.1, by rw [g.2.2.1, f.2.2.1]; exact w, by rw [hx42, e1]; omega, by rw [g.2.2.1, f.2.2.1]; exact wn⟩
    · skip
      replace hE := rb_t5 hE c28
      intro κ_43 hκ_43
      replace hE := rb_i5 hE (am_ui6 (m := a0) (f := maWays) (by first | exact hκ_43 | (rw [hκ_43]; congr 1; assumption)) (by decide))
      have tκ_43 : zT κ_43 a0 = 7 := by rw [hκ_43]; exact Ta0
      intro W44
      refine ⟨?_, ?_⟩
      · have F3 := mF_uw hκ_43 (by decide)
        have T3 : zT κ_43 a0 = 7 := F3.1.t Ta0 (by decide)
        have L := (maL_f F3 hp.1.1).2.2.2.1
        rw [inb_iff, t0i]; omega
      intro κ_45 hκ_45
      replace hE := rb_i5 hE (am_ua6 (m := a0) (f := maValues) W44 tκ_43 hκ_45 (by decide))
      have tκ_45 : zT κ_45 a0 = 7 := by rw [hκ_45]; exact tκ_43
      intro W46
      refine ⟨?_, ?_⟩
      · have F3 := mF_uw hκ_43 (by decide)
        have T3 : zT κ_43 a0 = 7 := F3.1.t Ta0 (by decide)
        have f1 := uVa W44 T3 hκ_45
        have L := (maL_f (F3.tr f1.1) hp.1.1).2.2.1
        rw [inb_iff, t0i]; omega
      refine ⟨?_, ?_⟩
      · have F3 := mF_uw hκ_43 (by decide)
        have T3 : zT κ_43 a0 = 7 := F3.1.t Ta0 (by decide)
        have f1 := uVa W44 T3 hκ_45
        have L := (maL_f (F3.tr f1.1) hp.1.1).2.2.2.2
        rw [inb_iff, t0i]; omega
      intro κ_47 hκ_47
      replace hE := rb_i5 hE (am_ua6 (m := a0) (f := maWeights) W46 tκ_45 hκ_47 (by decide))
      have tκ_47 : zT κ_47 a0 = 7 := by rw [hκ_47]; exact tκ_45
      intro W48
      refine ⟨?_, ?_⟩
      · have F3 := mF_uw hκ_43 (by decide)
        have T3 : zT κ_43 a0 = 7 := F3.1.t Ta0 (by decide)
        have f1 := uVa W44 T3 hκ_45
        have f2 := uWt W46 f1.2.2.2 hκ_47
        have L := (maL_f ((F3.tr f1.1).tr f2.1) hp.1.1).2.2.2.1
        rw [inb_iff, t1i]; omega
      intro κ_49 hκ_49
      replace hE := rb_i5 hE (am_ua6 (m := a0) (f := maValues) W48 tκ_47 hκ_49 (by decide))
      have tκ_49 : zT κ_49 a0 = 7 := by rw [hκ_49]; exact tκ_47
      intro W50
      refine ⟨?_, ?_⟩
      · have F3 := mF_uw hκ_43 (by decide)
        have T3 : zT κ_43 a0 = 7 := F3.1.t Ta0 (by decide)
        have f1 := uVa W44 T3 hκ_45
        have f2 := uWt W46 f1.2.2.2 hκ_47
        have f3 := uVa W48 f2.2.2.2 hκ_49
        have L := (maL_f (((F3.tr f1.1).tr f2.1).tr f3.1) hp.1.1).2.2.1
        rw [inb_iff, t1i]; omega
      refine ⟨?_, ?_⟩
      · have F3 := mF_uw hκ_43 (by decide)
        have T3 : zT κ_43 a0 = 7 := F3.1.t Ta0 (by decide)
        have f1 := uVa W44 T3 hκ_45
        have f2 := uWt W46 f1.2.2.2 hκ_47
        have f3 := uVa W48 f2.2.2.2 hκ_49
        have L := (maL_f (((F3.tr f1.1).tr f2.1).tr f3.1) hp.1.1).2.2.2.2
        rw [inb_iff, t1i]; omega
      intro κ_51 hκ_51
      replace hE := rb_i5 hE (am_ua6 (m := a0) (f := maWeights) W50 tκ_49 hκ_51 (by decide))
      have tκ_51 : zT κ_51 a0 = 7 := by rw [hκ_51]; exact tκ_49
      intro W52
      refine hj190 _ _ W52 ?_ ?_
      · have F3 := mF_uw hκ_43 (by decide)
        have T3 : zT κ_43 a0 = 7 := F3.1.t Ta0 (by decide)
        have f1 := uVa W44 T3 hκ_45
        have f2 := uWt W46 f1.2.2.2 hκ_47
        have f3 := uVa W48 f2.2.2.2 hκ_49
        have f4 := uWt W50 f3.2.2.2 hκ_51
        exact f4.2.2.2
      · refine and_5 ?_ (fun o9 => hE)  -- k46
        have F3 := mF_uw hκ_43 (by decide)
        have T3 : zT κ_43 a0 = 7 := F3.1.t Ta0 (by decide)
        have f1 := uVa W44 T3 hκ_45
        have f2 := uWt W46 f1.2.2.2 hκ_47
        have f3 := uVa W48 f2.2.2.2 hκ_49
        have f4 := uWt W50 f3.2.2.2 hκ_51
        have w : zI κ_43 maWays a0 = 2 := by rw [hκ_43]; exact if_pos ⟨rfl, rfl⟩
        have w1 : zI κ_43 maWants a0 = zI κ maWants a0 := by rw [hκ_43]; rfl
        have w2 : zI κ_51 maWays a0 = 2 := by rw [f4.2.2.1, f3.2.2.1, f2.2.2.1, f1.2.2.1, w]
        exact ⟨rfl, (((F3.tr f1.1).tr f2.1).tr f3.1).tr f4.1, ((((mS0_ui hκ_43 (by decide)).tr f1.2.1.1).tr f2.2.1).tr f3.2.1.1).tr f4.2.1, by rw [w2]; decide, by rw [f4.2.2.1, f3.2.2.1, f2.2.2.1, f1.2.2.1]; exact w1.trans hp.2, fun z => absurd z (by rw [w2]; decide)⟩
  · skip
    replace hE := rb_t5 hE c27
    refine ⟨?_, ?_⟩
    · have L := hp.1.1.2.2.1
      rw [inb_iff, t0i]; omega
    refine ⟨fun c53 => ?_, fun c53 => ?_⟩
    · skip
      replace hE := rb_t5 hE c53
      refine hj37 _ _ _ _ W ?_ ?_ ?_
      · exact Ta0  -- t48
      · exact Ta0  -- t49
      · refine and_5 ?_ (fun o9 => hE)  -- k50
        exact ⟨rfl, rfl, rfl, by decide⟩
    · skip
      replace hE := rb_f5 hE c53
      refine ⟨?_, ?_⟩
      · have L := hp.1.1.2.2.1
        rw [inb_iff, t0i]; omega
      refine ⟨fun c54 => ?_, fun c54 => ?_⟩
      · skip
        replace hE := rb_t5 hE c54
        refine hj37 _ _ _ _ W ?_ ?_ ?_
        · exact Ta0  -- t52
        · exact Ta0  -- t53
        · refine and_5 ?_ (fun o9 => hE)  -- k54
          exact ⟨rfl, rfl, rfl, by decide⟩
      · skip
        replace hE := rb_f5 hE c54
        refine ⟨?_, ?_⟩
        · have L := hp.1.1.2.2.1
          rw [inb_iff, t0i]; omega
        refine hj37 _ _ _ _ W ?_ ?_ ?_
        · exact Ta0  -- t56
        · exact Ta0  -- t57
        · refine and_5 ?_ (fun o9 => hE)  -- k58
          have e64 : (64 : Int32).toInt = 64 := rfl
          rw [lti, e64] at c54
          exact ⟨rfl, rfl, rfl, by omega⟩

end
section
set_option maxHeartbeats 1600000
/-! the class's machine: obey, act -/
theorem Ma_obey_q6 {C : zC} {n0 : Nat} {a0 : Nat} {a1 : Int32} {a2 : Int32} {κ : zS} {Q : zS → Prop} (W : zW C n0 κ) (Ta0 : zT κ a0 = 7)  (hp : (mkI κ a0 ∧ mO κ a0) ∧ zI κ maWants a0 = -1) (h : ∀ (κ' : zS), ((mF κ κ' a0 ∧ zI κ' maShared a0 = zI κ maShared a0 ∧ mO κ' a0 ∧ mDw κ' a0) ∧ f5_Ma_obey a1 a2 (am6 κ a0) = .inl (am6 κ' a0, ())) → Q κ') : zRun C 3 mMa_obey [.ref a0, .int a1, .int a2] κ (oV Q noX) := by
  refine Ma_obey_run W Ta0 ?_
  replace W := W.lo (Nat.le_trans W.1.2.1 W.1.2.2) (Nat.le_refl (zn κ))
  unfold w_Ma_obey_0
  have hj134 : ∀ (l0 : Nat) (s0 : Nat) (s1 : Int32) (s2 : Int32) (τ : zS), zW C (zn κ) τ → zT τ l0 = 7 → zT τ s0 = 5 → ((κ = τ ∧ a0 = l0 ∧ s0 = zR κ maCode a0 ∧ 0 ≤ s2.toInt ∧ s2.toInt < 11) ∧ f5_Ma_obey a1 a2 (am6 κ a0) = f5_Ma_obey_134 s1 s2 (am6 τ a0)) → w_Ma_obey_134 C (zn κ) Q  l0 s0 s1 s2 τ := by
    rintro _ y134_s0 y134_s1 y134_s2 _ W134 T134_0 T134_1 ⟨⟨rfl, rfl, j134⟩, hE⟩
    unfold w_Ma_obey_134
    intro T1
    refine Co_column_q6 W134 T1  ?_ (fun r2 q4 => ?_)
    · obtain ⟨e, b⟩ := j134
      rw [e]
      exact ⟨hp.1.1.2, b⟩
    obtain ⟨q4, z9⟩ := q4
    replace hE := rb_p5 hE (z9 a0 T134_0 j134.1.symm)
    intro W5
    intro M6
    refine ⟨fun c7 => ?_, fun c7 => ?_⟩
    · skip
      replace hE := rb_f5 hE c7
      intro κ_8 hκ_8
      replace hE := rb_i5 hE (am_ui6 (m := a0) (f := maGoing) (by first | exact hκ_8 | (rw [hκ_8]; congr 1; assumption)) (by decide))
      have tκ_8 : zT κ_8 a0 = 7 := by rw [hκ_8]; exact T134_0
      intro W9
      refine h _ ?_
      · refine and_5 ?_ (fun o9 => hE)  -- q2
        exact ob_u hκ_8 (by decide) (by decide) hp.1.2 hp.2
    · skip
      replace hE := rb_t5 hE c7
      intro κ_10 hκ_10
      replace hE := rb_i5 hE (am_ui6 (m := a0) (f := maGoing) (by first | exact hκ_10 | (rw [hκ_10]; congr 1; assumption)) (by decide))
      have tκ_10 : zT κ_10 a0 = 7 := by rw [hκ_10]; exact T134_0
      intro W11
      refine h _ ?_
      · refine and_5 ?_ (fun o9 => hE)  -- q3
        exact ob_u hκ_10 (by decide) (by decide) hp.1.2 hp.2
  have hE : f5_Ma_obey a1 a2 (am6 κ a0) = f5_Ma_obey a1 a2 (am6 κ a0) := rfl
  refine ⟨?_, ?_⟩
  · have L := hp.1.1.1.2.2.1
    rw [inb_iff, t0i]; omega
  intro x12 hx12
  replace hE := rb_p5 hE hx12
  refine ⟨fun c13 => ?_, fun c13 => ?_, fun c13 => ?_, fun c13 => ?_, fun c13 => ?_, fun c13 => ?_, fun c13 => ?_, fun c13 => ?_, fun c13 => ?_, fun c13 => ?_, fun c13 => ?_⟩
  · skip
    replace hE := (rb_f5 (rb_f5 (rb_f5 (rb_f5 (rb_f5 (rb_f5 (rb_f5 (rb_f5 (rb_f5 (rb_f5 hE (by omega)) (by omega)) (by omega)) (by omega)) (by omega)) (by omega)) (by omega)) (by omega)) (by omega)) (by omega))
    intro κ_14 hκ_14
    replace hE := rb_i5 hE (am_ui6 (m := a0) (f := maGained) (by first | exact hκ_14 | (rw [hκ_14]; congr 1; assumption)) (by decide))
    have tκ_14 : zT κ_14 a0 = 7 := by rw [hκ_14]; exact Ta0
    intro W15
    refine h _ ?_
    · refine and_5 ?_ (fun o9 => hE)  -- q5
      exact ob_u hκ_14 (by decide) (by decide) hp.1.2 hp.2
  · skip
    replace hE := rb_t5 hE c13
    intro T16
    refine Ma_put_q6 W T16  ?_ (fun κ_17 q18 => ?_)
    · exact hp.1.1.1  -- p6
    obtain ⟨q18, z9⟩ := q18
    replace hE := rb_i5 hE z9
    have tκ_17 : zT κ_17 a0 = 7 := by first | exact q18.1.t Ta0 (by decide) | exact q18.1.1.t Ta0 (by decide) | (rw [q18]; exact Ta0)
    intro W19
    intro M20
    refine h _ ?_
    · refine and_5 ?_ (fun o9 => hE)  -- q7
      have f := mF_put q18
      exact ob_s f.1 f.2.1 hp.1.2 hp.2
  · skip
    replace hE := rb_t5 (rb_f5 hE (by rw [c13]; decide)) c13
    intro T21
    refine Ma_spreadOut_q6 W T21  ?_ (fun κ_22 q23 => ?_)
    · exact ⟨hp.1.1, hp.2⟩  -- p8
    obtain ⟨q23, z9⟩ := q23
    replace hE := rb_i5 hE z9
    have tκ_22 : zT κ_22 a0 = 7 := by first | exact q23.1.t Ta0 (by decide) | exact q23.1.1.t Ta0 (by decide) | (rw [q23]; exact Ta0)
    intro W24
    intro M25
    refine h _ ?_
    · refine and_5 ?_ (fun o9 => hE)  -- q9
      exact ⟨q23.1, q23.2.1 maShared (by decide), mO_0 q23.2.1 hp.1.2, q23.2.2⟩
  · skip
    replace hE := rb_t5 (rb_f5 (rb_f5 hE (by rw [c13]; decide)) (by rw [c13]; decide)) c13
    intro T26
    refine Ma_spreadOut_q6 W T26  ?_ (fun κ_27 q28 => ?_)
    · exact ⟨hp.1.1, hp.2⟩  -- p10
    obtain ⟨q28, z9⟩ := q28
    replace hE := rb_i5 hE z9
    have tκ_27 : zT κ_27 a0 = 7 := by first | exact q28.1.t Ta0 (by decide) | exact q28.1.1.t Ta0 (by decide) | (rw [q28]; exact Ta0)
    intro W29
    intro M30
    refine h _ ?_
    · refine and_5 ?_ (fun o9 => hE)  -- q11
      exact ⟨q28.1, q28.2.1 maShared (by decide), mO_0 q28.2.1 hp.1.2, q28.2.2⟩
  · skip
    replace hE := rb_t5 (rb_f5 (rb_f5 (rb_f5 hE (by rw [c13]; decide)) (by rw [c13]; decide)) (by rw [c13]; decide)) c13
    intro T31
    refine Ma_spreadOut_q6 W T31  ?_ (fun κ_32 q33 => ?_)
    · exact ⟨hp.1.1, hp.2⟩  -- p12
    obtain ⟨q33, z9⟩ := q33
    replace hE := rb_i5 hE z9
    have tκ_32 : zT κ_32 a0 = 7 := by first | exact q33.1.t Ta0 (by decide) | exact q33.1.1.t Ta0 (by decide) | (rw [q33]; exact Ta0)
    intro W34
    intro M35
    refine h _ ?_
    · refine and_5 ?_ (fun o9 => hE)  -- q13
      exact ⟨q33.1, q33.2.1 maShared (by decide), mO_0 q33.2.1 hp.1.2, q33.2.2⟩
  · skip
    replace hE := rb_t5 (rb_f5 (rb_f5 (rb_f5 (rb_f5 hE (by rw [c13]; decide)) (by rw [c13]; decide)) (by rw [c13]; decide)) (by rw [c13]; decide)) c13
    intro T36
    refine Ma_offer_q6 W T36  ?_ (fun κ_37 q38 => ?_)
    · exact ⟨hp.1.1.1, hp.2⟩  -- p14
    obtain ⟨q38, z9⟩ := q38
    replace hE := rb_i5 hE z9
    have tκ_37 : zT κ_37 a0 = 7 := by first | exact q38.1.t Ta0 (by decide) | exact q38.1.1.t Ta0 (by decide) | (rw [q38]; exact Ta0)
    intro W39
    intro M40
    refine h _ ?_
    · refine and_5 ?_ (fun o9 => hE)  -- q15
      exact ⟨q38.1, q38.2.1 maShared (by decide), mO_0 q38.2.1 hp.1.2, q38.2.2⟩
  · skip
    replace hE := rb_t5 (rb_f5 (rb_f5 (rb_f5 (rb_f5 (rb_f5 hE (by rw [c13]; decide)) (by rw [c13]; decide)) (by rw [c13]; decide)) (by rw [c13]; decide)) (by rw [c13]; decide)) c13
    intro T41
    refine Co_column_q6 W T41  ?_ (fun r42 q44 => ?_)
    · exact ⟨hp.1.1.2, by decide, by decide⟩  -- p16
    obtain ⟨q44, z9⟩ := q44
    replace hE := rb_p5 hE (z9 a0 Ta0 (by first | rfl | assumption))
    intro W45
    intro M46
    intro T47
    refine Co_column_q6 W45 T47  ?_ (fun r48 q50 => ?_)
    · exact ⟨hp.1.1.2, by decide, by decide⟩  -- p17
    obtain ⟨q50, z9⟩ := q50
    replace hE := rb_p5 hE (z9 a0 Ta0 (by first | rfl | assumption))
    intro W51
    intro M52
    intro T53
    refine Ma_openCall_q6 W51 T53  ?_ (fun κ_54 q55 => ?_)
    · exact hp.1  -- p18
    obtain ⟨q55, z9⟩ := q55
    replace hE := rb_i5 hE z9
    have tκ_54 : zT κ_54 a0 = 7 := by first | exact q55.1.t Ta0 (by decide) | exact q55.1.1.t Ta0 (by decide) | (rw [q55]; exact Ta0)
    intro W56
    intro M57
    refine h _ ?_
    · refine and_5 ?_ (fun o9 => hE)  -- q19
      exact ⟨q55.1, q55.2.1, q55.2.2.1, mDw_g q55.2.2.2 (Or.inl hp.2)⟩
  · skip
    replace hE := rb_t5 (rb_f5 (rb_f5 (rb_f5 (rb_f5 (rb_f5 (rb_f5 hE (by rw [c13]; decide)) (by rw [c13]; decide)) (by rw [c13]; decide)) (by rw [c13]; decide)) (by rw [c13]; decide)) (by rw [c13]; decide)) c13
    refine ⟨fun c58 => ?_, fun c58 => ?_⟩
    · skip
      replace hE := rb_t5 hE c58
      refine hj134 _ _ _ _ _ W ?_ ?_ ?_
      · exact Ta0  -- t20
      · exact ty_maCode W Ta0  -- t21
      · refine and_5 ?_ (fun o9 => hE)  -- k22
        exact ⟨rfl, rfl, rfl, by decide, by decide⟩
    · skip
      replace hE := rb_f5 hE c58
      refine hj134 _ _ _ _ _ W ?_ ?_ ?_
      · exact Ta0  -- t23
      · exact ty_maCode W Ta0  -- t24
      · refine and_5 ?_ (fun o9 => hE)  -- k25
        exact ⟨rfl, rfl, rfl, by decide, by decide⟩
  · skip
    replace hE := rb_t5 (rb_f5 (rb_f5 (rb_f5 (rb_f5 (rb_f5 (rb_f5 (rb_f5 hE (by rw [c13]; decide)) (by rw [c13]; decide)) (by rw [c13]; decide)) (by rw [c13]; decide)) (by rw [c13]; decide)) (by rw [c13]; decide)) (by rw [c13]; decide)) c13
    intro T59
    refine Co_column_q6 W T59  ?_ (fun r60 q62 => ?_)
    · exact ⟨hp.1.1.2, by decide, by decide⟩  -- p26
    obtain ⟨q62, z9⟩ := q62
    replace hE := rb_p5 hE (z9 a0 Ta0 (by first | rfl | assumption))
    intro W63
    intro M64
    refine ⟨fun c65 => ?_, fun c65 => ?_⟩
    · skip
      replace hE := rb_f5 hE c65
      refine ⟨fun c66 => ?_, fun c66 => ?_⟩
      · skip
        replace hE := rb_f5 hE c66
        intro κ_67 hκ_67
        replace hE := rb_i5 hE (am_ui6 (m := a0) (f := maGoing) (by first | exact hκ_67 | (rw [hκ_67]; congr 1; assumption)) (by decide))
        have tκ_67 : zT κ_67 a0 = 7 := by rw [hκ_67]; exact Ta0
        intro W68
        refine h _ ?_
        · refine and_5 ?_ (fun o9 => hE)  -- q27
          exact ob_u hκ_67 (by decide) (by decide) hp.1.2 hp.2
      · skip
        replace hE := rb_t5 hE c66
        intro κ_69 hκ_69
        replace hE := rb_i5 hE (am_ui6 (m := a0) (f := maGoing) (by first | exact hκ_69 | (rw [hκ_69]; congr 1; assumption)) (by decide))
        have tκ_69 : zT κ_69 a0 = 7 := by rw [hκ_69]; exact Ta0
        intro W70
        refine h _ ?_
        · refine and_5 ?_ (fun o9 => hE)  -- q28
          exact ob_u hκ_69 (by decide) (by decide) hp.1.2 hp.2
    · skip
      replace hE := rb_t5 hE c65
      intro κ_71 hκ_71
      replace hE := rb_i5 hE (am_ui6 (m := a0) (f := maGoing) (by first | exact hκ_71 | (rw [hκ_71]; congr 1; assumption)) (by decide))
      have tκ_71 : zT κ_71 a0 = 7 := by rw [hκ_71]; exact Ta0
      intro W72
      refine h _ ?_
      · refine and_5 ?_ (fun o9 => hE)  -- q29
        exact ob_u hκ_71 (by decide) (by decide) hp.1.2 hp.2
  · skip
    replace hE := rb_t5 (rb_f5 (rb_f5 (rb_f5 (rb_f5 (rb_f5 (rb_f5 (rb_f5 (rb_f5 hE (by rw [c13]; decide)) (by rw [c13]; decide)) (by rw [c13]; decide)) (by rw [c13]; decide)) (by rw [c13]; decide)) (by rw [c13]; decide)) (by rw [c13]; decide)) (by rw [c13]; decide)) c13
    intro κ_73 hκ_73
    replace hE := rb_i5 hE (am_ui6 (m := a0) (f := maGoing) (by first | exact hκ_73 | (rw [hκ_73]; congr 1; assumption)) (by decide))
    have tκ_73 : zT κ_73 a0 = 7 := by rw [hκ_73]; exact Ta0
    intro W74
    intro κ_75 hκ_75
    replace hE := rb_i5 hE (am_ui6 (m := a0) (f := maAnswer) (by first | exact hκ_75 | (rw [hκ_75]; congr 1; assumption)) (by decide))
    have tκ_75 : zT κ_75 a0 = 7 := by rw [hκ_75]; exact tκ_73
    intro W76
    refine h _ ?_
    · refine and_5 ?_ (fun o9 => hE)  -- q30
      exact ob_s ((mF_ui hκ_73 (by decide)).tr (mF_ui hκ_75 (by decide))) ((mS_ui hκ_73 (by decide)).tr (mS_ui hκ_75 (by decide))) hp.1.2 hp.2
  · skip
    replace hE := rb_t5 (rb_f5 (rb_f5 (rb_f5 (rb_f5 (rb_f5 (rb_f5 (rb_f5 (rb_f5 (rb_f5 hE (by rw [c13]; decide)) (by rw [c13]; decide)) (by rw [c13]; decide)) (by rw [c13]; decide)) (by rw [c13]; decide)) (by rw [c13]; decide)) (by rw [c13]; decide)) (by rw [c13]; decide)) (by rw [c13]; decide)) c13
    refine ⟨fun c77 => ?_, fun c77 => ?_⟩
    · skip
      replace hE := rb_f5 hE c77
      intro κ_78 hκ_78
      replace hE := rb_i5 hE (am_ui6 (m := a0) (f := maOutcome) (by first | exact hκ_78 | (rw [hκ_78]; congr 1; assumption)) (by decide))
      have tκ_78 : zT κ_78 a0 = 7 := by rw [hκ_78]; exact Ta0
      intro W79
      refine h _ ?_
      · refine and_5 ?_ (fun o9 => hE)  -- q31
        exact ob_u hκ_78 (by decide) (by decide) hp.1.2 hp.2
    · skip
      replace hE := rb_t5 hE c77
      intro κ_80 hκ_80
      replace hE := rb_i5 hE (am_ui6 (m := a0) (f := maOutcome) (by first | exact hκ_80 | (rw [hκ_80]; congr 1; assumption)) (by decide))
      have tκ_80 : zT κ_80 a0 = 7 := by rw [hκ_80]; exact Ta0
      intro W81
      refine h _ ?_
      · refine and_5 ?_ (fun o9 => hE)  -- q32
        exact ob_u hκ_80 (by decide) (by decide) hp.1.2 hp.2

theorem Ma_act_q6 {C : zC} {n0 : Nat} {a0 : Nat} {κ : zS} {Q : zS → Prop} (W : zW C n0 κ) (Ta0 : zT κ a0 = 7)  (hp : mkI κ a0 ∧ mO κ a0) (h : ∀ (κ' : zS), ((mF κ κ' a0 ∧ zI κ' maShared a0 = zI κ maShared a0 ∧ (mO κ' a0 ∨ zI κ' maOutcome a0 = 1) ∧ mDw κ' a0) ∧ f5_Ma_act (am6 κ a0) = .inl (am6 κ' a0, ())) → Q κ') : zRun C 4 mMa_act [.ref a0] κ (oV Q noX) := by
  refine Ma_act_run W Ta0 ?_
  replace W := W.lo (Nat.le_trans W.1.2.1 W.1.2.2) (Nat.le_refl (zn κ))
  unfold w_Ma_act_0
  have hj92 : ∀ (l0 : Nat) (l1 : Int32) (τ : zS), zW C (zn κ) τ → zT τ l0 = 7 → ((a0 = l0 ∧ mF κ τ a0 ∧ mS0 κ τ a0 ∧ zI τ maWants a0 = -1) ∧ f5_Ma_act (am6 κ a0) = f5_Ma_act_92 l1 (am6 τ a0)) → w_Ma_act_92 C (zn κ) Q  l0 l1 τ := by
    rintro _ y92_1 τ92 W92 T92_0 ⟨⟨rfl, j92⟩, hE⟩
    unfold w_Ma_act_92
    refine ⟨fun c1 => ?_, fun c1 => ?_⟩
    · skip
      replace hE := rb_t5 hE c1
      intro T2
      refine Co_column_q6 W92 T2  ?_ (fun r3 q5 => ?_)
      · exact ⟨(mkI_f j92.1 W Ta0 hp.1).1.2, by decide, by decide⟩  -- p1
      obtain ⟨q5, z9⟩ := q5
      replace hE := rb_p5 hE (z9 a0 T92_0 (by first | rfl | assumption))
      intro W6
      intro M7
      intro κ_8 hκ_8
      replace hE := rb_i5 hE (am_ui6 (m := a0) (f := maGoing) (by first | exact hκ_8 | (rw [hκ_8]; congr 1; assumption)) (by decide))
      have tκ_8 : zT κ_8 a0 = 7 := by rw [hκ_8]; exact T92_0
      intro W9
      intro κ_10 hκ_10
      replace hE := rb_i5 hE (am_ui6 (m := a0) (f := maAnswer) (by first | exact hκ_10 | (rw [hκ_10]; congr 1; assumption)) (by decide))
      have tκ_10 : zT κ_10 a0 = 7 := by rw [hκ_10]; exact tκ_8
      intro W11
      intro T12
      refine Co_column_q6 W11 T12  ?_ (fun r13 q15 => ?_)
      · have F := (j92.1.tr (mF_ui hκ_8 (by decide))).tr (mF_ui hκ_10 (by decide))
        exact ⟨(mkI_f F W Ta0 hp.1).1.2, by decide, by decide⟩
      obtain ⟨q15, z9⟩ := q15
      replace hE := rb_p5 hE (z9 a0 tκ_10 (by first | rfl | assumption))
      intro W16
      intro M17
      intro T18
      refine Ma_obey_q6 W16 T18  ?_ (fun κ_19 q20 => ?_)
      · have F := (j92.1.tr (mF_ui hκ_8 (by decide))).tr (mF_ui hκ_10 (by decide))
        have S := (j92.2.1.tr (mS_ui hκ_8 (by decide)).1).tr (mS_ui hκ_10 (by decide)).1
        have w1 : zI κ_10 maWants a0 = zI τ92 maWants a0 := by rw [hκ_10, hκ_8]; rfl
        exact ⟨⟨(mkI_f F W Ta0 hp.1).1, mO_0 S hp.2⟩, w1.trans j92.2.2⟩
      obtain ⟨q20, z9⟩ := q20
      replace hE := rb_i5 hE z9
      have tκ_19 : zT κ_19 a0 = 7 := by first | exact q20.1.t tκ_10 (by decide) | exact q20.1.1.t tκ_10 (by decide) | (rw [q20]; exact tκ_10)
      intro W21
      intro M22
      refine ⟨fun c23 => ?_, fun c23 => ?_⟩
      · skip
        replace hE := rb_f5 hE c23
        refine h _ ?_
        · refine and_5 ?_ (fun o9 => hE)  -- q4
          have F := (j92.1.tr (mF_ui hκ_8 (by decide))).tr (mF_ui hκ_10 (by decide))
          have S := (j92.2.1.tr (mS_ui hκ_8 (by decide)).1).tr (mS_ui hκ_10 (by decide)).1
          exact ⟨F.tr q20.1, q20.2.1.trans (S maShared (by decide)), Or.inl q20.2.2.1, q20.2.2.2⟩
      · skip
        replace hE := rb_t5 hE c23
        refine ⟨fun c24 => ?_, fun c24 => ?_⟩
        · skip
          replace hE := rb_f5 hE c24
          refine h _ ?_
          · refine and_5 ?_ (fun o9 => hE)  -- q5
            have F := (j92.1.tr (mF_ui hκ_8 (by decide))).tr (mF_ui hκ_10 (by decide))
            have S := (j92.2.1.tr (mS_ui hκ_8 (by decide)).1).tr (mS_ui hκ_10 (by decide)).1
            exact ⟨F.tr q20.1, q20.2.1.trans (S maShared (by decide)), Or.inl q20.2.2.1, q20.2.2.2⟩
        · skip
          replace hE := rb_t5 hE c24
          intro T25
          refine Ma_proceed_q6 W21 T25  ?_ (fun κ_26 q27 => ?_)
          · have F := (j92.1.tr (mF_ui hκ_8 (by decide))).tr (mF_ui hκ_10 (by decide))
            exact ⟨(mkI_f (F.tr q20.1) W Ta0 hp.1).1, q20.2.2.1⟩
          obtain ⟨q27, z9⟩ := q27
          replace hE := rb_i5 hE z9
          have tκ_26 : zT κ_26 a0 = 7 := by first | exact q27.1.t tκ_19 (by decide) | exact q27.1.1.t tκ_19 (by decide) | (rw [q27]; exact tκ_19)
          intro W28
          intro M29
          refine h _ ?_
          · refine and_5 ?_ (fun o9 => hE)  -- q7
            have F := (j92.1.tr (mF_ui hκ_8 (by decide))).tr (mF_ui hκ_10 (by decide))
            have S := (j92.2.1.tr (mS_ui hκ_8 (by decide)).1).tr (mS_ui hκ_10 (by decide)).1
            exact ⟨(F.tr q20.1).tr q27.1, q27.2.1.trans (q20.2.1.trans (S maShared (by decide))), q27.2.2.1, mDw_g q27.2.2.2 q20.2.2.2⟩
    · skip
      replace hE := rb_f5 hE c1
      intro κ_30 hκ_30
      replace hE := rb_i5 hE (am_ui6 (m := a0) (f := maOutcome) (by first | exact hκ_30 | (rw [hκ_30]; congr 1; assumption)) (by decide))
      have tκ_30 : zT κ_30 a0 = 7 := by rw [hκ_30]; exact T92_0
      intro W31
      refine h _ ?_
      · refine and_5 ?_ (fun o9 => hE)  -- q8
        have S := j92.2.1.tr (mS_ui hκ_30 (by decide)).1
        exact ⟨j92.1.tr (mF_ui hκ_30 (by decide)), S maShared (by decide), Or.inl (mO_0 S hp.2), mDw_g (mS_ui hκ_30 (by decide)).2 (Or.inl j92.2.2)⟩
  have hE : f5_Ma_act (am6 κ a0) = f5_Ma_act (am6 κ a0) := rfl
  refine ⟨?_, ?_⟩
  · have L := hp.1.1.1
    obtain ⟨s, o, f⟩ := hp.2
    rw [inb_iff]; omega
  intro x32 hx32
  replace hE := rb_p5 hE hx32
  intro κ_33 hκ_33
  replace hE := rb_i5 hE (am_ui6 (m := a0) (f := maWants) (by first | exact hκ_33 | (rw [hκ_33]; congr 1; assumption)) (by decide))
  have tκ_33 : zT κ_33 a0 = 7 := by rw [hκ_33]; exact Ta0
  intro W34
  intro κ_35 hκ_35
  replace hE := rb_i5 hE (am_ui6 (m := a0) (f := maGained) (by first | exact hκ_35 | (rw [hκ_35]; congr 1; assumption)) (by decide))
  have tκ_35 : zT κ_35 a0 = 7 := by rw [hκ_35]; exact tκ_33
  intro W36
  intro κ_37 hκ_37
  replace hE := rb_i5 hE (am_ui6 (m := a0) (f := maFailure) (by first | exact hκ_37 | (rw [hκ_37]; congr 1; assumption)) (by decide))
  have tκ_37 : zT κ_37 a0 = 7 := by rw [hκ_37]; exact tκ_35
  intro W38
  intro T39
  refine Co_column_q6 W38 T39  ?_ (fun r40 q42 => ?_)
  · have F := ((mF_ui hκ_33 (by decide)).tr (mF_ui hκ_35 (by decide))).tr (mF_ui hκ_37 (by decide))
    exact ⟨(mkI_f F W Ta0 hp.1).1.2, by decide, by decide⟩
  obtain ⟨q42, z9⟩ := q42
  replace hE := rb_p5 hE (z9 a0 tκ_37 (by first | rfl | assumption))
  intro W43
  intro M44
  intro κ_45 hκ_45
  replace hE := rb_i5 hE (am_ui6 (m := a0) (f := maPc) (by first | exact hκ_45 | (rw [hκ_45]; congr 1; assumption)) (by decide))
  have tκ_45 : zT κ_45 a0 = 7 := by rw [hκ_45]; exact tκ_37
  intro W46
  intro T47
  refine Ma_aim_q6 W46 T47  ?_ (fun κ_48 q49 => ?_)
  · have F := ((mF_ui hκ_33 (by decide)).tr (mF_ui hκ_35 (by decide))).tr (mF_ui hκ_37 (by decide))
    exact (mkI_f (F.tr (mF_ui hκ_45 (by decide))) W Ta0 hp.1).1
  obtain ⟨q49, z9⟩ := q49
  replace hE := rb_i5 hE z9
  have tκ_48 : zT κ_48 a0 = 7 := by first | exact q49.1.t tκ_45 (by decide) | exact q49.1.1.t tκ_45 (by decide) | (rw [q49]; exact tκ_45)
  intro W50
  intro M51
  intro T52
  refine Co_column_q6 W50 T52  ?_ (fun r53 q55 => ?_)
  · have F := ((mF_ui hκ_33 (by decide)).tr (mF_ui hκ_35 (by decide))).tr (mF_ui hκ_37 (by decide))
    exact ⟨(mkI_f ((F.tr (mF_ui hκ_45 (by decide))).tr q49.1) W Ta0 hp.1).1.2, by decide, by decide⟩
  obtain ⟨q55, z9⟩ := q55
  replace hE := rb_p5 hE (z9 a0 tκ_48 (by first | rfl | assumption))
  intro W56
  intro M57
  unfold w_Ma_act_55
  refine ⟨fun n l0 l1 l2 l3 τ => n = (16 - l3.toInt).toNat ∧ ((a0 = l0 ∧ mF κ τ a0 ∧ mS0 κ τ a0 ∧ 0 ≤ l3.toInt ∧ zI τ maWants a0 = -1) ∧ ∃ m5, n < m5 ∧ f5_Ma_act (am6 κ a0) = f5_Ma_act_55 m5 l1 l2 l3 (am6 τ a0)), ⟨_, rfl, ?_⟩, ?_⟩
  · refine and_5 ?_ (fun o9 => ⟨fu5, by first | exact fb5 | (unfold fu5; omega) | decide, hE⟩)  -- j13
    have F := ((mF_ui hκ_33 (by decide)).tr (mF_ui hκ_35 (by decide))).tr (mF_ui hκ_37 (by decide))
    have S := ((mS0_ui hκ_33 (by decide)).tr (mS0_ui hκ_35 (by decide))).tr (mS0_ui hκ_37 (by decide))
    have w0 : zI κ_33 maWants a0 = -1 := by rw [hκ_33]; exact if_pos ⟨rfl, rfl⟩
    have w1 : zI κ_45 maWants a0 = zI κ_33 maWants a0 := by rw [hκ_45, hκ_37, hκ_35]; rfl
    have w2 := (q49.2.2 maWants (by decide)).1
    exact ⟨rfl, (F.tr (mF_ui hκ_45 (by decide))).tr q49.1, (S.tr (mS0_ui hκ_45 (by decide))).tr q49.2.1, by decide, w2.trans (w1.trans w0)⟩
  rintro n55 _ x55_1 x55_2 x55_3 κ55 W55 T55_0 ⟨hn55, ⟨rfl, i55⟩, m55, hm55, hE⟩
  obtain ⟨m55, rfl⟩ : ∃ m9, m55 = m9 + 1 := ⟨m55 - 1, by omega⟩
  refine ⟨fun c58 => ?_, fun c58 => ?_⟩
  · skip
    replace hE := rb_t5 hE c58
    refine hj92 _ _ _ W55 ?_ ?_
    · exact T55_0  -- t14
    · refine and_5 ?_ (fun o9 => hE)  -- k15
      exact ⟨rfl, i55.1, i55.2.1, i55.2.2.2⟩
  · skip
    replace hE := rb_f5 hE c58
    refine ⟨fun c59 => ?_, fun c59 => ?_⟩
    · skip
      replace hE := rb_t5 hE c59
      refine hj92 _ _ _ W55 ?_ ?_
      · exact T55_0  -- t16
      · refine and_5 ?_ (fun o9 => hE)  -- k17
        exact ⟨rfl, i55.1, i55.2.1, i55.2.2.2⟩
    · skip
      replace hE := rb_f5 hE c59
      refine ⟨fun c60 => ?_, fun c60 => ?_⟩
      · skip
        replace hE := rb_f5 hE c60
        refine hj92 _ _ _ W55 ?_ ?_
        · exact T55_0  -- t18
        · refine and_5 ?_ (fun o9 => hE)  -- k19
          exact ⟨rfl, i55.1, i55.2.1, i55.2.2.2⟩
      · skip
        replace hE := rb_t5 hE c60
        intro T61
        refine Ma_work_q6 W55 T61  ?_ (fun r62 κ_63 q64 => ?_)
        · exact (mkI_f i55.1 W Ta0 hp.1).1  -- p20
        obtain ⟨q64, z9⟩ := q64
        replace hE := rb_i5 hE z9
        have tκ_63 : zT κ_63 a0 = 7 := by first | exact q64.1.t T55_0 (by decide) | exact q64.1.1.t T55_0 (by decide) | (rw [q64]; exact T55_0)
        intro W65
        intro M66
        have LK := (maL_f i55.1 hp.1.1).2.2.1
        have bN := W55.n (ty_maWorked W55 T55_0)
        have l := i55.2.2.1
        rw [lei, ofn_i bN] at c59
        have e1 : (x55_3 + 1).toInt = x55_3.toInt + 1 := by rw [add_i (by rw [t1i]; omega) (by rw [t1i]; omega), t1i]
        refine ⟨?_, ?_⟩
        · rw [q64.1.2.2.1, inb_iff]; omega  -- b21
        intro κ_67 hκ_67
        have h9 : κ_67 = ua κ_63 (zR κ_63 maWorked a0) x55_3.toNatClampNeg r62 := by rw [hκ_67, q64.1.2.1]
        replace hE := rb_i5 hE (am_ua6 (m := a0) (f := maWorked) W65 tκ_63 h9 (by decide))
        have tκ_67 : zT κ_67 a0 = 7 := by rw [h9]; exact tκ_63
        intro W68
        intro x69 hx69
        replace hE := rb_p5 hE hx69
        refine lp_b5 ?_ (fun d9 => ⟨rfl, ?_⟩)
        · rw [hn55, hx69, e1]; omega  -- d22
        · refine and_5 ?_ (fun o9 => ⟨m55, by omega, hE⟩)  -- i23
          rw [← q64.1.2.1] at hκ_67
          have f := mF_ua W65 (q64.1.1.t T55_0 (by decide)) (show zr maWorked = some 20 by decide +kernel) (by decide) hκ_67
          exact ⟨rfl, (i55.1.tr q64.1).tr f.1, (i55.2.1.tr q64.2.1).tr f.2.1.1, by rw [hx69, e1]; omega, by rw [f.2.2, (q64.2.2 maWants (by decide)).1]; exact i55.2.2.2⟩

end
section
set_option maxHeartbeats 1600000
/-! the reference: its run comes to what its pure program says -/
theorem fail_g5 {C : rCx} (hC : cOK C)  {σ : rS} {a1 : Int32} {Q : Int32 → rS → Prop} (h : ∀ (v : Int32) (σ' : rS), ((((∀ k, k ≠ 61 → σ'.1 k = σ.1 k) ∧ σ'.2 = σ.2) ∧ v = 2) ∧ g5_fail a1 σ = (σ', v)) → Q v σ') : cI C 0 m_fail [.ref (co C), .int a1] σ Q := by
  refine m_fail_run hC ?_
  unfold w_fail_0
  have hE : g5_fail a1 σ = g5_fail a1 σ := rfl
  intro σ_1 hσ_1
  replace hE := rb_p5 hE hσ_1
  refine h _ _ ?_
  · refine and_5 ?_ (fun o9 => hE)  -- q1
    clear h hE; grind [si1, si2, ri1, ri2, ri3, ri34, ri5, nb]

theorem store_g5 {C : rCx} (hC : cOK C)  {σ : rS} {a1 : Int32} {a2 : Int32} {Q : rS → Prop} (hp : (400 ≤ a1 ∧ a1 < 434) ∨ (100 ≤ a1 ∧ a1 < 108 ∧ 1 ≤ σ.1 58 ∧ σ.1 58 ≤ 12) ∨ (0 ≤ a1 ∧ a1 < 34)) (h : ∀ (σ' : rS), ((((∀ k,  σ'.1 k = σ.1 k) ∧ (∀ k,  σ'.2.1 k = σ.2.1 k) ∧ (∀ k, k ≠ 57 → k ≠ 60 → σ'.2.2.1 k = σ.2.2.1 k) ∧ (∀ k j, k ≠ 57 → k ≠ 60 → σ'.2.2.1 k j = σ.2.2.1 k j) ∧ (∀ k j,  σ'.2.2.2 k j = σ.2.2.2 k j))) ∧ g5_store a1 a2 σ = σ') → Q σ') : cV C 0 m_store [.ref (co C), .int a1, .int a2] σ Q := by
  refine m_store_run hC ?_
  unfold w_store_0
  have hE : g5_store a1 a2 σ = g5_store a1 a2 σ := rfl
  refine ⟨fun c1 => ?_, fun c1 => ?_⟩
  · skip
    replace hE := rb_t5 hE c1
    refine ⟨fun c2 => ?_, fun c2 => ?_⟩
    · skip
      replace hE := rb_t5 hE c2
      refine ⟨ib_34.mpr ?_, ?_⟩
      · clear h hE; grind [si1, si2, ri1, ri2, ri3, ri34, ri5, nb]  -- b1
      intro σ_3 hσ_3
      replace hE := rb_p5 hE hσ_3
      refine h _ ?_
      · refine and_5 ?_ (fun o9 => hE)  -- q2
        clear h hE; grind [si1, si2, ri1, ri2, ri3, ri34, ri5, nb]
    · skip
      replace hE := rb_f5 hE c2
      refine ⟨ib_96.mpr ?_, ?_⟩
      · clear h hE; grind [si1, si2, ri1, ri2, ri3, ri34, ri5, nb]  -- b3
      intro σ_4 hσ_4
      replace hE := rb_p5 hE hσ_4
      refine h _ ?_
      · refine and_5 ?_ (fun o9 => hE)  -- q4
        clear h hE; grind [si1, si2, ri1, ri2, ri3, ri34, ri5, nb]
  · skip
    replace hE := rb_f5 hE c1
    refine ⟨ib_34.mpr ?_, ?_⟩
    · clear h hE; grind [si1, si2, ri1, ri2, ri3, ri34, ri5, nb]  -- b5
    intro σ_5 hσ_5
    replace hE := rb_p5 hE hσ_5
    refine h _ ?_
    · refine and_5 ?_ (fun o9 => hE)  -- q6
      clear h hE; grind [si1, si2, ri1, ri2, ri3, ri34, ri5, nb]

theorem workAt_g5 {C : rCx} (hC : cOK C) (B T : Int32) {σ : rS} {a1 : Int32} {Q : Int32 → rS → Prop} (hp : tR σ B T ∧ tF σ ∧ tN σ ∧ tA σ ∧ σ.1 46 = 1 ∧ 1 ≤ σ.1 58 ∧ σ.1 58 ≤ 12 ∧ σ.1 11 = 0 ∧ σ.1 47 = 0 ∧ σ.1 13 = 0 ∧ B ≤ a1 ∧ a1 ≤ T ∧ ∃ e, ePa (σ.2.2.1 5) (σ.2.2.1 7) (σ.2.2.1 39) a1 e) (h : ∀ (v : Int32) (σ' : rS), ((0 ≤ σ'.1 47 ∧ (∀ k, k ≠ 10 → k ≠ 11 → k ≠ 12 → k ≠ 13 → k ≠ 47 → k ≠ 48 → k ≠ 49 → σ'.1 k = σ.1 k) ∧ (∀ k, σ'.2.1 k = σ.2.1 k) ∧ (∀ k, k ≠ 50 → k ≠ 51 → k ≠ 52 → σ'.2.2.1 k = σ.2.2.1 k) ∧ (∀ k j, σ'.2.2.2 k j = σ.2.2.2 k j) ∧ B ≤ σ'.1 10 ∧ σ'.1 10 ≤ T ∧ (σ'.1 47 = 0 → σ'.1 11 = 0 ∧ σ'.1 13 = 0 ∧ ∀ e, ePa (σ.2.2.1 5) (σ.2.2.1 7) (σ.2.2.1 39) a1 e → σ'.1 10 = e)) ∧ g5_workAt a1 σ = (σ', v)) → Q v σ') : cI C 7 m_workAt [.ref (co C), .int a1] σ Q := by
  refine m_workAt_run hC ?_
  unfold w_workAt_0
  obtain ⟨⟨t1, t2, t3, t4, t5⟩, hF, hN, hA, h46, h58, h58', h11, h47, h13, hB, hT, hE⟩ := hp
  have hE : g5_workAt a1 σ = g5_workAt a1 σ := rfl
  intro σ_1 hσ_1
  replace hE := rb_p5 hE hσ_1
  have e1 : ∀ k, k ≠ 10 → σ_1.1 k = σ.1 k := fun k hk => by rw [hσ_1, si1, if_neg hk]
  have e10 : σ_1.1 10 = a1 := by rw [hσ_1, si1, if_pos rfl]
  have s1 : σ_1.2 = σ.2 := by rw [hσ_1, si2]
  have e46 : σ_1.1 46 = 1 := (e1 46 (by decide)).trans h46
  refine expression_g5 hC B T 0 ?_ (fun r2 σ_3 q4 => ?_)
  · clear h hE; refine ⟨⟨t1, t2, t3, ⟨by rw [rd, s1]; exact t5, by rw [e1 11 (by decide), h11]; decide, by rw [e1 47 (by decide), h47]; decide⟩, by rw [e10]; exact hB, by rw [e10]; exact hT⟩, ⟨t1, by rw [e10]; exact hB, Int32.le_refl _, by rw [e10]; exact hT, t3, t4⟩, Or.inr ⟨e46, by rw [e1 58 (by decide)]; exact h58, by rw [e1 58 (by decide)]; exact h58', rfl⟩, ?_, ?_, ?_, ⟨by rw [e1 13 (by decide), h13]; decide, by rw [e1 13 (by decide), h13]; decide, by rw [e1 13 (by decide), h13]; rfl⟩, fun z => by rw [e46] at z; exact absurd z (by decide), fun _ => ⟨(e1 11 (by decide)).trans h11, (e1 47 (by decide)).trans h47, by rw [s1, e10]; exact hE⟩⟩
    · show tyF _ _ _ _ _ _ _ _
      rw [e1 15 (by decide), e1 16 (by decide), e1 17 (by decide), e1 18 (by decide), e1 19 (by decide), e1 40 (by decide), e1 41 (by decide), e1 42 (by decide)]
      exact hF
    · show tyN _ _ _ _ _ _
      rw [s1]; exact hN
    · show tyA _ _
      rw [s1]; exact hA
  obtain ⟨q4, z9⟩ := q4
  replace hE := rb_m5 hE z9
  clear z9
  refine h _ _ ?_
  · refine and_5 ?_ (fun o9 => hE)  -- q2
    clear h hE; obtain ⟨w1, w2, w3, w4, w5, w6, w7⟩ := q4
    have nz : σ_1.1 46 ≠ 0 := by rw [e46]; decide
    have r39 : σ_3.2.2.1 39 = σ.2.2.1 39 := by rw [(w4 nz).1, s1]
    refine ⟨w2.2.2.2.1.2.2, fun k z1 z2 z3 z4 z5 z6 z7 => (w1.1 k z1 z2 z3 z4 z5 z6 z7).trans (e1 k z1), fun k => by rw [w1.2.1 k, s1], fun k z1 z2 z3 => ?_, fun k j => by rw [w1.2.2.2.2 k j, s1], w2.2.2.2.2.1, w2.2.2.2.2.2, fun f => ?_⟩
    · by_cases e : k = 39
      · rw [e]; exact r39
      · rw [w1.2.2.1 k e z1 z2 z3, s1]
    · obtain ⟨f1, f2⟩ := (w4 nz).2 f
      have w := w6 f1 f
      refine ⟨f1, cn_inj w.2.2.2.1 (by decide) (by rw [w.2.2.2.2.2]; rfl), fun e he => ?_⟩
      have := f2 e
      rw [s1, e10] at this
      exact this he

theorem outcome_g5 {C : rCx} (hC : cOK C)  {σ : rS} {a1 : Int32} {a2 : Int32} {Q : rS → Prop} (hp : 0 ≤ σ.1 63 ∧ σ.1 63 < 64) (h : ∀ (σ' : rS), ((((∀ k, k ≠ 63 → σ'.1 k = σ.1 k) ∧ (∀ k,  σ'.2.1 k = σ.2.1 k) ∧ (∀ k, k ≠ 64 → k ≠ 65 → σ'.2.2.1 k = σ.2.2.1 k) ∧ (∀ k j, k ≠ 64 → k ≠ 65 → σ'.2.2.1 k j = σ.2.2.1 k j) ∧ (∀ k j,  σ'.2.2.2 k j = σ.2.2.2 k j)) ∧ σ'.1 63 = σ.1 63 + 1 ∧ rd σ' 65 (σ.1 63) = a2 ∧ (∀ j, j ≠ (σ.1 63).toNatClampNeg → σ'.2.2.1 65 j = σ.2.2.1 65 j)) ∧ g5_outcome a1 a2 σ = σ') → Q σ') : cV C 0 m_outcome [.ref (co C), .int a1, .int a2] σ Q := by
  refine m_outcome_run hC ?_
  unfold w_outcome_0
  have hE : g5_outcome a1 a2 σ = g5_outcome a1 a2 σ := rfl
  refine ⟨ib_64.mpr ?_, ?_⟩
  · clear h hE; grind [si1, si2, ri1, ri2, ri3, ri34, ri5, nb]  -- b1
  intro σ_1 hσ_1
  replace hE := rb_p5 hE hσ_1
  refine ⟨ib_64.mpr ?_, ?_⟩
  · clear h hE; grind [si1, si2, ri1, ri2, ri3, ri34, ri5, nb]  -- b2
  intro σ_2 hσ_2
  replace hE := rb_p5 hE hσ_2
  intro σ_3 hσ_3
  replace hE := rb_p5 hE hσ_3
  refine h _ ?_
  · refine and_5 ?_ (fun o9 => hE)  -- q3
    clear h hE; grind [si1, si2, ri1, ri2, ri3, ri34, ri5, nb]

theorem leave_g5 {C : rCx} (hC : cOK C) (B T : Int32) {σ : rS} {a1 : Int32} {Q : Int32 → rS → Prop} (hp : rI σ B T ∧ 1 ≤ σ.1 58 ∧ σ.1 58 ≤ 12 ∧ csL σ (σ.1 58 - 1)) (h : ∀ (v : Int32) (σ' : rS), ((frG [58, 61] [57, 59, 60] σ σ' ∧ ((v = 0 ∧ csF σ') ∨ v = 1)) ∧ g5_leave a1 σ = (σ', v)) → Q v σ') : cI C 1 m_leave [.ref (co C), .int a1] σ Q := by
  refine m_leave_run hC ?_
  unfold w_leave_0
  obtain ⟨hI, h1, h12, hL⟩ := hp
  have hE : g5_leave a1 σ = g5_leave a1 σ := rfl
  unfold w_leave_2
  refine ⟨fun n l2 τ => n = (τ.1 58).toNatClampNeg ∧ ((frG [58] [57, 60] σ τ ∧ 1 ≤ τ.1 58 ∧ τ.1 58 ≤ σ.1 58) ∧ ∃ m5, n < m5 ∧ g5_leave a1 σ = g5_leave_2 m5 l2 τ), ⟨_, rfl, ?_⟩, ?_⟩
  · refine and_5 ?_ (fun o9 => ⟨fu5, cnb5, hE⟩)  -- j1
    clear h hE; exact ⟨frG_refl, h1, Int32.le_refl _⟩
  rintro n2 x2_2 σ2 ⟨hn2, i2, mF2, hmF2, hE⟩
  obtain ⟨mF2, rfl⟩ : ∃ m9, mF2 = m9 + 1 := ⟨mF2 - 1, by clear h hE; omega⟩
  have hj69 : ∀ (l3 : Int32) (τ : rS), ((frG [58] [57, 60] σ τ ∧ σ2.1 58 = τ.1 58 + 1 ∧ 1 ≤ τ.1 58 ∧ τ.1 58 ≤ σ.1 58 ∧ 0 ≤ l3 ∧ l3 < σ.1 19) ∧ g5_leave a1 σ = g5_leave_69 (g5_leave_2 mF2) l3 τ) → w_leave_69 C Q (fun l2' τ => ∃ k < n2, (fun n l2 τ => n = (τ.1 58).toNatClampNeg ∧ ((frG [58] [57, 60] σ τ ∧ 1 ≤ τ.1 58 ∧ τ.1 58 ≤ σ.1 58) ∧ ∃ m5, n < m5 ∧ g5_leave a1 σ = g5_leave_2 m5 l2 τ)) k l2' τ) l3 τ := by
    clear hE
    rintro y69_3 τ69 ⟨j69, hE⟩
    unfold w_leave_69
    obtain ⟨jf, je, k1, k2, k4, k5⟩ := j69
    have k12 := Int32.le_trans k2 h12
    refine ⟨ib_150.mpr ?_, ?_⟩
    · clear h hE; exact ⟨k4, s150 hI k5⟩  -- b2
    refine ⟨fun c1 => ?_, fun c1 => ?_⟩
    · skip
      replace hE := rb_t5 hE c1
      refine lp_b5 (cn_lt2 hn2 ?_ ?_) (fun d9 => ⟨rfl, ?_⟩)
      · clear h hE; exact (up12 k1 k12).2  -- d3
      · clear h hE; rw [je]; exact (up12 k1 k12).1  -- d4
      · refine and_5 ?_ (fun o9 => ⟨mF2, Nat.lt_of_lt_of_le d9 (Nat.le_of_lt_succ hmF2), hE⟩)  -- i5
        clear h hE d9 hmF2; exact ⟨jf, k1, k2⟩
    · skip
      replace hE := rb_f5 hE c1
      refine ⟨ib_150.mpr ?_, ?_⟩
      · clear h hE; exact ⟨k4, s150 hI k5⟩  -- b6
      refine ⟨ib_12.mpr ?_, ?_⟩
      · clear h hE; exact c_m1 k1 k12  -- b7
      intro σ_2 hσ_2
      replace hE := rb_p5 hE hσ_2
      refine h _ _ ?_
      · refine and_5 ?_ (fun o9 => hE)  -- q8
        clear h hE; have fl := fl_b hI k4 k5 (by rw [rd, ← jf.2.2.1 37 (by decide)]; exact c1)
        rw [rd, ← jf.2.2.1 37 (by decide), ← jf.1 19 (by decide)] at fl
        refine ⟨frG_tr (frG_mono jf (by decide) (by decide)) (by rw [hσ_2]; exact frG_1 (by decide)), Or.inl ⟨rfl, ?_⟩⟩
        rw [hσ_2]
        exact csF_set k1 k12 (csL_o hL (jf.2.2.1 59 (by decide)) (jf.2.2.1 30 (by decide)) (jf.1 19 (by decide)) (fun c hc => le_pr k1 h12 k2 hc)) fl.1 fl.2
  intro σ_3 hσ_3
  replace hE := rb_p5 hE hσ_3
  refine ⟨fun c4 => ?_, fun c4 => ?_⟩
  · skip
    replace hE := rb_f5 hE c4
    refine ⟨ib_12.mpr ?_, ?_⟩
    · clear h hE; have e58 : σ_3.1 58 = σ2.1 58 - 1 := by rw [hσ_3, si1, if_pos rfl]
      have cd := c_dn i2.2.1 (Int32.le_trans i2.2.2 h12) (by rw [← e58]; exact c4)
      rw [e58]; exact ⟨cd.2.2.1, cd.2.2.2.1⟩
    intro x5 hx5
    replace hE := rb_p5 hE hx5
    have e58 : σ_3.1 58 = σ2.1 58 - 1 := by rw [hσ_3, si1, if_pos rfl]
    have cd := c_dn i2.2.1 (Int32.le_trans i2.2.2 h12) (by rw [← e58]; exact c4)
    have f3 : frG [58] [57, 60] σ σ_3 := frG_tr i2.1 (by rw [hσ_3]; exact frG_0 (by decide))
    have ex : x5 = rd σ 59 (σ_3.1 58 - 1) := by rw [hx5, f3.2.2.1 59 (by decide)]
    have lp := le_pr2 i2.2.1 h12 i2.2.2 (by rw [← e58]; exact c4)
    obtain ⟨g1, g2, g3⟩ := hL (σ_3.1 58 - 1) (by rw [e58]; exact cd.2.2.1) (by rw [e58]; exact lp.1)
    rw [← ex] at g1 g2 g3
    refine ⟨ib_150.mpr ?_, ?_⟩
    · clear h hE; exact ⟨g1, s150 hI g2⟩  -- b10
    refine ⟨ib_150.mpr ?_, ?_⟩
    · clear h hE; exact ⟨g1, s150 hI g2⟩  -- b11
    refine ⟨fun c6 => ?_, fun c6 => ?_⟩
    · skip
      replace hE := rb_t5 hE c6
      refine hj69 _ _ ?_
      · refine and_5 ?_ (fun o9 => hE)  -- k12
        clear h hE; exact ⟨f3, by rw [e58]; exact dn_up, by rw [e58]; exact cd.1, by rw [e58]; exact lp.2, g1, g2⟩
    · skip
      replace hE := rb_f5 hE c6
      refine ⟨ib_150.mpr ?_, ?_⟩
      · clear h hE; exact ⟨g1, s150 hI g2⟩  -- b13
      have k := st_kind5 hI g1 g2 g3 (by rw [rd, rd, ← f3.2.2.1 31 (by decide), ← f3.2.2.1 32 (by decide)]; exact c6)
      refine ⟨ib_131074.mpr ?_, ?_⟩
      · clear h hE; rw [f3.2.2.1 31 (by decide)]; exact ⟨k.1, k.2.1⟩  -- b14
      refine store_g5 hC  ?_ (fun σ_7 q8 => ?_)
      · clear h hE; rw [f3.2.2.1 31 (by decide), f3.2.2.1 39 (by decide), e58]
        exact vV_st k.2.2 cd.1 cd.2.1
      obtain ⟨q8, z9⟩ := q8
      replace hE := rb_p5 hE z9.symm
      clear z9
      refine hj69 _ _ ?_
      · refine and_5 ?_ (fun o9 => hE)  -- k16
        clear h hE; exact ⟨frG_tr f3 (frG_S q8 (by decide) (by decide)), by rw [q8.1 58, e58]; exact dn_up, by rw [q8.1 58, e58]; exact cd.1, by rw [q8.1 58, e58]; exact lp.2, g1, g2⟩
  · skip
    replace hE := rb_t5 hE c4
    intro σ_9 hσ_9
    replace hE := rb_p5 hE hσ_9
    refine h _ _ ?_
    · refine and_5 ?_ (fun o9 => hE)  -- q17
      clear h hE; exact ⟨frG_tr (frG_mono i2.1 (by decide) (by decide)) (frG_tr (by rw [hσ_3]; exact frG_0 (by decide) : frG [58, 61] [57, 59, 60] σ2 σ_3) (by rw [hσ_9]; exact frG_0 (by decide))), Or.inr rfl⟩

theorem moveTo_g5 {C : rCx} (hC : cOK C) (B T : Int32) {σ : rS} {a1 : Int32} {Q : Int32 → rS → Prop} (hp : rI σ B T ∧ 1 ≤ σ.1 58 ∧ σ.1 58 ≤ 12 ∧ csL σ (σ.1 58 - 1) ∧ (a1 ≠ -1 → 0 ≤ a1 ∧ a1 < σ.1 19)) (h : ∀ (v : Int32) (σ' : rS), ((frG [58, 61] [57, 59, 60] σ σ' ∧ ((v = 0 ∧ csF σ') ∨ v = 1)) ∧ g5_moveTo a1 σ = (σ', v)) → Q v σ') : cI C 2 m_moveTo [.ref (co C), .int a1] σ Q := by
  refine m_moveTo_run hC ?_
  unfold w_moveTo_0
  obtain ⟨hI, h1, h12, hL, ha⟩ := hp
  have hE : g5_moveTo a1 σ = g5_moveTo a1 σ := rfl
  refine ⟨fun c1 => ?_, fun c1 => ?_⟩
  · skip
    replace hE := rb_f5 hE c1
    refine ⟨ib_12.mpr ?_, ?_⟩
    · clear h hE; exact c_m1 h1 h12  -- b1
    intro σ_2 hσ_2
    replace hE := rb_p5 hE hσ_2
    refine h _ _ ?_
    · refine and_5 ?_ (fun o9 => hE)  -- q2
      clear h hE; exact ⟨by rw [hσ_2]; exact frG_1 (by decide), Or.inl ⟨rfl, by rw [hσ_2]; exact csF_set h1 h12 hL (ha c1).1 (ha c1).2⟩⟩
  · skip
    replace hE := rb_t5 hE c1
    refine leave_g5 hC B T ?_ (fun r3 σ_4 q5 => ?_)
    · clear h hE; exact ⟨hI, h1, h12, hL⟩  -- p3
    obtain ⟨q5, z9⟩ := q5
    replace hE := rb_m5 hE z9
    clear z9
    refine h _ _ ?_
    · refine and_5 ?_ (fun o9 => hE)  -- q4
      clear h hE; exact q5

theorem begin_g5 {C : rCx} (hC : cOK C) (B T : Int32) {σ : rS}  {Q : Int32 → rS → Prop} (hp : rI σ B T) (h : ∀ (v : Int32) (σ' : rS), ((frG [58, 61] [57, 59, 60] σ σ' ∧ ((v = 0 ∧ csF σ') ∨ v = 1)) ∧ g5_begin σ = (σ', v)) → Q v σ') : cI C 3 m_begin [.ref (co C)] σ Q := by
  refine m_begin_run hC ?_
  unfold w_begin_0
  have hE : g5_begin σ = g5_begin σ := rfl
  unfold w_begin_2
  refine ⟨fun n l1 τ => n = (34 - l1).toNatClampNeg ∧ ((frG [] [57] σ τ ∧ 0 ≤ l1 ∧ l1 ≤ 34) ∧ ∃ m5, n < m5 ∧ g5_begin σ = g5_begin_2 m5 l1 τ), ⟨_, rfl, ?_⟩, ?_⟩
  · refine and_5 ?_ (fun o9 => ⟨fu5, cnb5, hE⟩)  -- j1
    clear h hE; exact ⟨frG_refl, by decide, by decide⟩
  rintro n2 x2_1 σ2 ⟨hn2, i2, mF2, hmF2, hE⟩
  obtain ⟨mF2, rfl⟩ : ∃ m9, mF2 = m9 + 1 := ⟨mF2 - 1, by clear h hE; omega⟩
  have hj31 : ∀ (l1 : Int32) (s1 : Int32) (s2 : Int32) (τ : rS), ((τ = σ2 ∧ l1 = x2_1 ∧ s1 = x2_1 ∧ ¬ 34 ≤ x2_1) ∧ g5_begin σ = g5_begin_31 (g5_begin_2 mF2) l1 s1 s2 τ) → w_begin_31 C Q (fun l1' τ => ∃ k < n2, (fun n l1 τ => n = (34 - l1).toNatClampNeg ∧ ((frG [] [57] σ τ ∧ 0 ≤ l1 ∧ l1 ≤ 34) ∧ ∃ m5, n < m5 ∧ g5_begin σ = g5_begin_2 m5 l1 τ)) k l1' τ) l1 s1 s2 τ := by
    clear hE
    rintro y31_1 y31_s1 y31_s2 τ31 ⟨j31, hE⟩
    unfold w_begin_31
    obtain ⟨je, j1, j2, j3⟩ := j31
    have u := up34 i2.2.1 j3
    refine ⟨ib_34.mpr ?_, ?_⟩
    · clear h hE; rw [j2]; exact ⟨i2.2.1, u.2.2.2.2⟩  -- b2
    intro σ_1 hσ_1
    replace hE := rb_p5 hE hσ_1
    intro x2 hx2
    replace hE := rb_p5 hE hx2
    refine lp_b5 (cn_lt2 hn2 ?_ ?_) (fun d9 => ⟨rfl, ?_⟩)
    · clear h hE; rw [hx2, j1]; exact u.1  -- d3
    · clear h hE; rw [hx2, j1]; exact u.2.1  -- d4
    · refine and_5 ?_ (fun o9 => ⟨mF2, Nat.lt_of_lt_of_le d9 (Nat.le_of_lt_succ hmF2), hE⟩)  -- i5
      clear h hE d9 hmF2; rw [hx2, j1]; exact ⟨frG_tr i2.1 (by rw [hσ_1, je]; exact frG_1 (by decide)), u.2.2.1, u.2.2.2.1⟩
  refine ⟨fun c3 => ?_, fun c3 => ?_⟩
  · skip
    replace hE := rb_t5 hE c3
    intro σ_4 hσ_4
    replace hE := rb_p5 hE hσ_4
    unfold w_begin_45
    refine ⟨fun n l1 τ => n = (8 - l1).toNatClampNeg ∧ ((frG [58] [57, 60] σ τ ∧ τ.1 58 = 1 ∧ 0 ≤ l1 ∧ l1 ≤ 8) ∧ ∃ m5, n < m5 ∧ g5_begin σ = g5_begin_45 m5 l1 τ), ⟨_, rfl, ?_⟩, ?_⟩
    · refine and_5 ?_ (fun o9 => ⟨fu5, cnb5, hE⟩)  -- j6
      clear h hE; exact ⟨frG_tr (frG_mono i2.1 (by decide) (by decide)) (by rw [hσ_4]; exact frG_0 (by decide)), by rw [hσ_4, si1, if_pos rfl], by decide, by decide⟩
    rintro n45 x45_1 σ45 ⟨hn45, i45, mF45, hmF45, hE⟩
    obtain ⟨mF45, rfl⟩ : ∃ m9, mF45 = m9 + 1 := ⟨mF45 - 1, by clear h hE; omega⟩
    have m40 : σ45.1 40 = σ.1 40 := i45.1.1 40 (by decide)
    have pk := hp.2.2.2.2.2.2.2
    refine ⟨fun c5 => ?_, fun c5 => ?_⟩
    · skip
      replace hE := rb_t5 hE c5
      refine ⟨ib_10.mpr ?_, ?_⟩
      · clear h hE; rw [m40]; exact ⟨pk.1, fn_10 hp pk.2.1⟩  -- b7
      refine moveTo_g5 hC B T ?_ (fun r6 σ_7 q8 => ?_)
      · clear h hE; refine ⟨rI_fr hp (frG_mono i45.1 (by decide) (by decide)), by rw [i45.2.1]; decide, by rw [i45.2.1]; decide, fun c c0 c1 => ?_, fun z => ?_⟩
        · rw [i45.2.1, show (1 : Int32) - 1 = 0 from by decide] at c1
          exact absurd c1 (Int32.not_lt.mpr c0)
        · rw [m40, i45.1.2.2.1 29 (by decide)] at z ⊢
          rw [i45.1.1 19 (by decide)]
          exact fo_b hp pk.1 pk.2.1 z
      obtain ⟨q8, z9⟩ := q8
      replace hE := rb_m5 hE z9
      clear z9
      refine h _ _ ?_
      · refine and_5 ?_ (fun o9 => hE)  -- q9
        clear h hE; exact ⟨frG_tr (frG_mono i45.1 (by decide) (by decide)) q8.1, q8.2⟩
    · skip
      replace hE := rb_f5 hE c5
      have u := up8 i45.2.2.1 c5
      refine ⟨ib_96.mpr ?_, ?_⟩
      · clear h hE; exact ⟨i45.2.2.1, u.2.2.2.2.2⟩  -- b10
      intro σ_9 hσ_9
      replace hE := rb_p5 hE hσ_9
      intro x10 hx10
      replace hE := rb_p5 hE hx10
      refine lp_b5 (cn_lt2 hn45 ?_ ?_) (fun d9 => ⟨rfl, ?_⟩)
      · clear h hE; rw [hx10]; exact u.1  -- d11
      · clear h hE; rw [hx10]; exact u.2.1  -- d12
      · refine and_5 ?_ (fun o9 => ⟨mF45, Nat.lt_of_lt_of_le d9 (Nat.le_of_lt_succ hmF45), hE⟩)  -- i13
        clear h hE d9 hmF45; rw [hx10]; exact ⟨frG_tr i45.1 (by rw [hσ_9]; exact frG_1 (by decide)), by rw [hσ_9, ri1]; exact i45.2.1, u.2.2.1, u.2.2.2.1⟩
  · skip
    replace hE := rb_f5 hE c3
    refine ⟨fun c11 => ?_, fun c11 => ?_⟩
    · skip
      replace hE := rb_t5 hE c11
      refine hj31 _ _ _ _ ?_
      · refine and_5 ?_ (fun o9 => hE)  -- k14
        clear h hE; exact ⟨rfl, rfl, rfl, c3⟩
    · skip
      replace hE := rb_f5 hE c11
      refine ⟨ib_10.mpr ?_, ?_⟩
      · clear h hE; exact ⟨i2.2.1, va_b hp (by rw [← i2.1.1 15 (by decide)]; exact c11)⟩  -- b15
      refine hj31 _ _ _ _ ?_
      · refine and_5 ?_ (fun o9 => hE)  -- k16
        clear h hE; exact ⟨rfl, rfl, rfl, c3⟩

end
section
set_option maxHeartbeats 1600000
/-! the reference: expressions in a run -/
theorem work_g5 {C : rCx} (hC : cOK C) (B T : Int32) {σ : rS} {a1 : Int32} {Q : Int32 → rS → Prop} (hp : m1 σ B T ∧ B ≤ a1 ∧ a1 ≤ T ∧ ∃ e, ePa (σ.2.2.1 5) (σ.2.2.1 7) (σ.2.2.1 39) a1 e) (h : ∀ (v : Int32) (σ' : rS), (xQ σ σ' B T a1 ∧ g5_workAt a1 σ = (σ', v)) → Q v σ') : cI C 7 m_workAt [.ref (co C), .int a1] σ Q := by
  obtain ⟨hm, hB, hT, he⟩ := hp
  have hm' := hm
  obtain ⟨⟨⟨g1, g2, g3, g4, g5⟩, k1, k2, k3, k4, k5, -⟩, p2, p3, p4, p5, p6⟩ := hm
  refine workAt_g5 hC B T ⟨⟨k1, k2, k3, k4, k5⟩, g1, g2, g3, p2, p3.1, p3.2, p4, p5, p6, hB, hT, he⟩ (fun v σ' q => h v σ' (and_5 ?_ (fun _ => q.2)))
  replace q := q.1
  obtain ⟨q0, q1, q2, q3, q4, q5, q6, q7⟩ := q
  refine xQ_of hm' ⟨fun k z => q1 k (fun e => z (by rw [e]; decide)) (fun e => z (by rw [e]; decide)) (fun e => z (by rw [e]; decide)) (fun e => z (by rw [e]; decide)) (fun e => z (by rw [e]; decide)) (fun e => z (by rw [e]; decide)) (fun e => z (by rw [e]; decide)), q2, fun k z => q3 k (fun e => z (by rw [e]; decide)) (fun e => z (by rw [e]; decide)) (fun e => z (by rw [e]; decide)), q4⟩ q0 ⟨q5, q6⟩ q7
theorem expr1_g5 {C : rCx} (hC : cOK C) (B T : Int32) {σ : rS} {Q : Int32 → rS → Prop} (hp : m1 σ B T ∧ B ≤ σ.1 10 ∧ σ.1 10 ≤ T ∧ ∃ e, ePa (σ.2.2.1 5) (σ.2.2.1 7) (σ.2.2.1 39) (σ.1 10) e) (h : ∀ (v : Int32) (σ' : rS), (xQ σ σ' B T (σ.1 10) ∧ g5_expression σ = (σ', v)) → Q v σ') : cI C 6 m_expression [.ref (co C)] σ Q := by
  obtain ⟨hm, hB, hT, he⟩ := hp
  have hm' := hm
  obtain ⟨⟨⟨g1, g2, g3, g4, g5⟩, k1, k2, k3, k4, k5, -⟩, p2, p3, p4, p5, p6⟩ := hm
  have nz : σ.1 46 ≠ 0 := by rw [p2]; decide
  refine expression_g5 hC B T 0 ⟨⟨k1, k2, k3, ⟨k5, by rw [p4]; decide, by rw [p5]; decide⟩, hB, hT⟩, ⟨k1, hB, Int32.le_refl _, hT, k3, k4⟩, Or.inr ⟨p2, p3.1, p3.2, rfl⟩, g1, g2, g3, ⟨by rw [p6]; decide, by rw [p6]; decide, by rw [p6]; rfl⟩, fun z => absurd z nz, fun _ => ⟨p4, p5, he⟩⟩ (fun v σ' q => h v σ' (and_5 ?_ (fun _ => q.2)))
  replace q := q.1
  obtain ⟨w1, w2, w3, w4, w5, w6, w7⟩ := q
  have r39 : σ'.2.2.1 39 = σ.2.2.1 39 := (w4 nz).1
  refine xQ_of hm' ⟨fun k z => w1.1 k (fun e => z (by rw [e]; decide)) (fun e => z (by rw [e]; decide)) (fun e => z (by rw [e]; decide)) (fun e => z (by rw [e]; decide)) (fun e => z (by rw [e]; decide)) (fun e => z (by rw [e]; decide)) (fun e => z (by rw [e]; decide)), w1.2.1, fun k z => ?_, w1.2.2.2.2⟩ w2.2.2.2.1.2.2 ⟨w2.2.2.2.2.1, w2.2.2.2.2.2⟩ (fun f => ?_)
  · by_cases e : k = 39
    · rw [e]; exact r39
    · exact w1.2.2.1 k e (fun e => z (by rw [e]; decide)) (fun e => z (by rw [e]; decide)) (fun e => z (by rw [e]; decide))
  · obtain ⟨f1, f2⟩ := (w4 nz).2 f
    have w := w6 f1 f
    exact ⟨f1, cn_inj w.2.2.2.1 (by decide) (by rw [w.2.2.2.2.2]; rfl), f2⟩

end
