set_option maxHeartbeats 1600000
/-! the class: Machine's aim, proceed, settle -/
/-- a machine that runs: its latest call lies in the memory -/
def mO (κ : zS) (m : Nat) : Prop := (0 ≤ (zI κ maShared m).toInt ∧ (zI κ maShared m).toInt ≤ 34) ∧ (1 ≤ (zI κ maOpen m).toInt ∧ (zI κ maShared m).toInt + 9 * (zI κ maOpen m).toInt ≤ 142) ∧ (zI κ maFrame m).toInt = (zI κ maShared m).toInt + 9 * ((zI κ maOpen m).toInt - 1)
theorem mO_0 {κ τ : zS} {m : Nat} (h : mS0 κ τ m) (H : mO κ m) : mO τ m := by
  unfold mO
  rw [h maShared (by decide), h maOpen (by decide), h maFrame (by decide)]
  exact H
theorem mO_s {κ τ : zS} {m : Nat} (h : mS κ τ m) (H : mO κ m) : mO τ m := mO_0 h.1 H
theorem mO_i {κ τ : zS} {m : Nat} (h : zI τ = zI κ) (H : mO κ m) : mO τ m := by
  unfold mO
  rw [h]
  exact H
theorem mF_put {κ τ : zS} {m : Nat} (q : zF (oneF maMemory m) κ τ ∧ zI τ = zI κ ∧ zR τ = zR κ ∧ zN τ = zN κ ∧ (∀ x, x ≠ zR κ maMemory m → zA τ x = zA κ x) ∧ zR κ maWeights m ≠ zR κ maMemory m) : mF κ τ m ∧ mS κ τ m ∧ zI τ = zI κ :=
  ⟨⟨q.1.mono (fun _ _ z => z.2), q.2.2.1, q.2.2.2.1, fun z => by rw [q.2.1]; exact z⟩, ⟨fun f _ => by rw [q.2.1], fun f _ => ⟨by rw [q.2.1], fun e => by rw [q.2.2.1, e]; exact ⟨rfl, q.2.2.2.2.1 _ q.2.2.2.2.2⟩⟩⟩, q.2.1⟩
theorem mO_pop {κ κ3 κ6 : zS} {m : Nat} (H : mO κ m) (h3 : κ3 = ui κ maOpen m (zI κ maOpen m - 1)) (c : (0 : Int32) < zI κ3 maOpen m) (h6 : κ6 = ui κ3 maFrame m (zI κ3 maFrame m - 9)) : mO κ6 m ∧ zI κ6 maShared m = zI κ maShared m := by
  have o3 : zI κ3 maOpen m = zI κ maOpen m - 1 := by rw [h3]; exact if_pos ⟨rfl, rfl⟩
  have o6 : zI κ6 maOpen m = zI κ3 maOpen m := by rw [h6]; rfl
  have f3 : zI κ3 maFrame m = zI κ maFrame m := by rw [h3]; rfl
  have f6 : zI κ6 maFrame m = zI κ maFrame m - 9 := by
    rw [h6]
    refine (if_pos ⟨rfl, rfl⟩).trans ?_
    rw [f3]
  have s6 : zI κ6 maShared m = zI κ maShared m := by rw [h6, h3]; rfl
  obtain ⟨s, o, f⟩ := H
  have eo := dec_i (x := zI κ maOpen m) (by omega)
  have e9 : (9 : Int32).toInt = 9 := rfl
  rw [o3, lti, t0i, eo] at c
  have ef : (zI κ maFrame m - 9).toInt = (zI κ maFrame m).toInt - 9 := by rw [sub_i (by rw [e9]; omega) (by rw [e9]; omega), e9]
  refine ⟨?_, s6⟩
  unfold mO
  rw [o6, o3, f6, s6, eo, ef]
  exact ⟨s, ⟨by omega, by omega⟩, by omega⟩
theorem Ma_aim_c {C : zC} {n0 : Nat} {a0 : Nat} {a1 : Int32} {κ : zS} {Q : zS → Prop} (W : zW C n0 κ) (Ta0 : zT κ a0 = 7)  (hp : mkI κ a0) (h : ∀ (κ' : zS), (mF κ κ' a0 ∧ mS κ κ' a0) → Q κ') : zRun C 2 mMa_aim [.ref a0, .int a1] κ (oV Q noX) := by
  refine Ma_aim_run W Ta0 ?_
  replace W := W.lo (Nat.le_trans W.1.2.1 W.1.2.2) (Nat.le_refl (zn κ))
  unfold w_Ma_aim_0
  have hj61 : ∀ (l0 : Nat) (s0 : Nat) (s1 : Int32) (τ : zS), zW C (zn κ) τ → zT τ l0 = 7 → zT τ s0 = 7 → (a0 = l0 ∧ mF κ τ a0 ∧ mS κ τ a0 ∧ s0 = a0) → w_Ma_aim_61 C (zn κ) Q  l0 s0 s1 τ := by
    rintro _ y61_s0 y61_s1 τ61 W61 T61_0 T61_1 ⟨rfl, j61⟩
    unfold w_Ma_aim_61
    intro κ_1 hκ_1
    intro W2
    refine ⟨fun c3 => ?_, fun c3 => ?_⟩
    · skip
      refine h _ ?_
      · obtain ⟨F, S, e⟩ := j61
        rw [e] at hκ_1
        exact ⟨F.tr (mF_ui hκ_1 (by decide)), S.tr (mS_ui hκ_1 (by decide))⟩
    · skip
      intro κ_4 hκ_4
      intro W5
      refine h _ ?_
      · obtain ⟨F, S, e⟩ := j61
        rw [e] at hκ_1
        exact ⟨(F.tr (mF_ui hκ_1 (by decide))).tr (mF_ui hκ_4 (by decide)), (S.tr (mS_ui hκ_1 (by decide))).tr (mS_ui hκ_4 (by decide))⟩
  intro T6
  refine Co_column_c W T6  ?_ (fun r7 q9 => ?_)
  · exact ⟨hp.2, by decide, by decide⟩  -- p3
  intro W10
  intro M11
  intro T12
  refine Co_column_c W10 T12  ?_ (fun r13 q15 => ?_)
  · exact ⟨hp.2, by decide, by decide⟩  -- p4
  intro W16
  intro M17
  refine ⟨fun c18 => ?_, fun c18 => ?_⟩
  · skip
    intro T19
    refine Ma_work_c W16 T19  ?_ (fun r20 κ_21 q22 => ?_)
    · exact hp  -- p5
    intro W23
    intro M24
    refine ⟨fun c25 => ?_, fun c25 => ?_⟩
    · skip
      refine hj61 _ _ _ _ W23 ?_ ?_ ?_
      · exact q22.1.1.t Ta0 (by decide)  -- t6
      · exact q22.1.1.t Ta0 (by decide)  -- t7
      · exact ⟨rfl, q22.1, q22.2, rfl⟩  -- k8
    · skip
      intro T26
      refine Ma_cellAt_c W23 T26  ?_ (fun r27 q29 => ?_)
      · exact (mkI_f q22.1 W Ta0 hp).1.2  -- p9
      intro W30
      intro M31
      refine hj61 _ _ _ _ W30 ?_ ?_ ?_
      · exact q22.1.1.t Ta0 (by decide)  -- t10
      · exact q22.1.1.t Ta0 (by decide)  -- t11
      · exact ⟨rfl, q22.1, q22.2, rfl⟩  -- k12
  · skip
    intro T32
    refine Ma_slot_c W16 T32  (fun r33 q35 => ?_)
    intro W36
    intro M37
    intro κ_38 hκ_38
    intro W39
    refine h _ ?_
    · exact ⟨mF_ui hκ_38 (by decide), mS_ui hκ_38 (by decide)⟩  -- q13

theorem Ma_proceed_c {C : zC} {n0 : Nat} {a0 : Nat} {κ : zS} {Q : zS → Prop} (W : zW C n0 κ) (Ta0 : zT κ a0 = 7)  (hp : mkI κ a0 ∧ mO κ a0) (h : ∀ (κ' : zS), (mF κ κ' a0 ∧ zI κ' maShared a0 = zI κ maShared a0 ∧ (mO κ' a0 ∨ zI κ' maOutcome a0 = 1) ∧ mG κ κ' a0) → Q κ') : zRun C 1 mMa_proceed [.ref a0] κ (oV Q noX) := by
  refine Ma_proceed_run W Ta0 ?_
  replace W := W.lo (Nat.le_trans W.1.2.1 W.1.2.2) (Nat.le_refl (zn κ))
  unfold w_Ma_proceed_0
  unfold w_Ma_proceed_2
  refine ⟨fun n l0 l1 τ => n = (13 - l1.toInt).toNat ∧ (a0 = l0 ∧ mF κ τ a0 ∧ zI τ maShared a0 = zI κ maShared a0 ∧ mO τ a0 ∧ 0 ≤ l1.toInt ∧ mG κ τ a0), ⟨_, rfl, ?_⟩, ?_⟩
  · exact ⟨rfl, mF.rf, rfl, hp.2, by decide, mG.rf⟩  -- j1
  rintro n2 _ x2_1 κ2 W2 T2_0 ⟨hn2, rfl, i2⟩
  refine ⟨fun c1 => ?_, fun c1 => ?_⟩
  · skip
    refine h _ ?_
    · exact ⟨i2.1, i2.2.1, Or.inl i2.2.2.1, i2.2.2.2.2⟩  -- q2
  · skip
    obtain ⟨F, eS, O, l0, G⟩ := i2
    have I := (mkI_f F W Ta0 hp.1).1
    have LM := I.1.1
    refine ⟨fun c2 => ?_, fun c2 => ?_⟩
    · skip
      intro κ_3 hκ_3
      intro W4
      refine ⟨fun c5 => ?_, fun c5 => ?_⟩
      · skip
        intro κ_6 hκ_6
        intro W7
        refine ⟨?_, ?_⟩
        · have P := mO_pop O hκ_3 c5 hκ_6
          have L := (mkI_f (F.tr ((mF_ui hκ_3 (by decide)).tr (mF_ui hκ_6 (by decide)))) W Ta0 hp.1).1.1.1
          obtain ⟨⟨s, o, f⟩, -⟩ := P
          rw [inb_iff]; omega
        intro x8 hx8
        intro T9
        refine Co_column_c W7 T9  ?_ (fun r10 q12 => ?_)
        · exact ⟨(mkI_f (F.tr ((mF_ui hκ_3 (by decide)).tr (mF_ui hκ_6 (by decide)))) W Ta0 hp.1).1.2, by decide, by decide⟩  -- p4
        intro W13
        intro M14
        intro T15
        refine Co_column_c W13 T15  ?_ (fun r16 q18 => ?_)
        · exact ⟨(mkI_f (F.tr ((mF_ui hκ_3 (by decide)).tr (mF_ui hκ_6 (by decide)))) W Ta0 hp.1).1.2, by decide, by decide⟩  -- p5
        intro W19
        intro M20
        intro T21
        refine Ma_slot_c W19 T21  (fun r22 q24 => ?_)
        intro W25
        intro M26
        intro T27
        refine Ma_put_c W25 T27  ?_ (fun κ_28 q29 => ?_)
        · exact (mkI_f (F.tr ((mF_ui hκ_3 (by decide)).tr (mF_ui hκ_6 (by decide)))) W Ta0 hp.1).1.1  -- p6
        intro W30
        intro M31
        intro T32
        refine Co_column_c W30 T32  ?_ (fun r33 q35 => ?_)
        · exact ⟨(mkI_f ((F.tr ((mF_ui hκ_3 (by decide)).tr (mF_ui hκ_6 (by decide)))).tr (mF_put q29).1) W Ta0 hp.1).1.2, by decide, by decide⟩  -- p7
        intro W36
        intro M37
        intro κ_38 hκ_38
        intro W39
        intro κ_40 hκ_40
        intro W41
        intro x42 hx42
        refine ⟨_, ?_, rfl, ?_⟩
        · have e12 : (12 : Int32).toInt = 12 := rfl
          rw [lti, e12] at c1
          have e1 : (x2_1 + 1).toInt = x2_1.toInt + 1 := by rw [add_i (by rw [t1i]; omega) (by rw [t1i]; omega), t1i]
          rw [hn2, hx42, e1]; omega
        · have e12 : (12 : Int32).toInt = 12 := rfl
          rw [lti, e12] at c1
          have e1 : (x2_1 + 1).toInt = x2_1.toInt + 1 := by rw [add_i (by rw [t1i]; omega) (by rw [t1i]; omega), t1i]
          have P := mO_pop O hκ_3 c5 hκ_6
          have F4 := (((F.tr ((mF_ui hκ_3 (by decide)).tr (mF_ui hκ_6 (by decide)))).tr (mF_put q29).1).tr (mF_ui hκ_38 (by decide))).tr (mF_ui hκ_40 (by decide))
          have S := ((mF_put q29).2.1.tr (mS_ui hκ_38 (by decide))).tr (mS_ui hκ_40 (by decide))
          exact ⟨rfl, F4, (S.1 maShared (by decide)).trans (P.2.trans eS), mO_s S P.1, by rw [hx42, e1]; omega, (G.tr ((mG_ui hκ_3 (by decide)).tr (mG_ui hκ_6 (by decide)))).tr S.2⟩
      · skip
        intro κ_43 hκ_43
        intro W44
        intro κ_45 hκ_45
        intro W46
        refine h _ ?_
        · have e : zI κ_45 maOutcome a0 = zI κ_43 maOutcome a0 := by rw [hκ_45]; rfl
          refine ⟨((F.tr (mF_ui hκ_3 (by decide))).tr (mF_ui hκ_43 (by decide))).tr (mF_ui hκ_45 (by decide)), by rw [hκ_45, hκ_43, hκ_3]; exact eS, Or.inr ?_, ((G.tr (mG_ui hκ_3 (by decide))).tr (mG_ui hκ_43 (by decide))).tr (mG_ui hκ_45 (by decide))⟩
          rw [e, hκ_43]
          exact if_pos ⟨rfl, rfl⟩
    · skip
      refine ⟨?_, ?_⟩
      · obtain ⟨s, o, f⟩ := O
        rw [inb_iff]; omega
      intro κ_47 hκ_47
      intro W48
      refine h _ ?_
      · obtain ⟨f1, f2, f3⟩ := mF_ua W2 T2_0 (show zr maMemory = some 20 by decide +kernel) (by decide) hκ_47
        exact ⟨F.tr f1, by rw [f3]; exact eS, Or.inl (mO_i f3 O), G.tr f2.2⟩

theorem Ma_settle_c {C : zC} {n0 : Nat} {a0 : Nat} {a1 : Int32} {κ : zS} {Q : zS → Prop} (W : zW C n0 κ) (Ta0 : zT κ a0 = 7)  (hp : mkI κ a0 ∧ mO κ a0 ∧ (zI κ maWays a0).toInt ≤ 64) (h : ∀ (κ' : zS), (mF κ κ' a0 ∧ zI κ' maShared a0 = zI κ maShared a0 ∧ (mO κ' a0 ∨ zI κ' maOutcome a0 = 1) ∧ mG κ κ' a0) → Q κ') : zRun C 2 mMa_settle [.ref a0, .int a1] κ (oV Q noX) := by
  refine Ma_settle_run W Ta0 ?_
  replace W := W.lo (Nat.le_trans W.1.2.1 W.1.2.2) (Nat.le_refl (zn κ))
  unfold w_Ma_settle_0
  have hj26 : ∀ (l0 : Nat) (τ : zS), zW C (zn κ) τ → zT τ l0 = 7 → (a0 = l0 ∧ mF κ τ a0 ∧ mS κ τ a0) → w_Ma_settle_26 C (zn κ) Q  l0 τ := by
    rintro _ τ26 W26 T26_0 ⟨rfl, j26⟩
    unfold w_Ma_settle_26
    obtain ⟨F, S⟩ := j26
    have I := (mkI_f F W Ta0 hp.1).1
    have O := mO_s S hp.2.1
    have LM := I.1.1
    refine ⟨?_, ?_⟩
    · obtain ⟨s, o, f⟩ := O
      rw [inb_iff]; omega
    intro T1
    refine Co_column_c W26 T1  ?_ (fun r2 q4 => ?_)
    · exact ⟨I.2, by decide, by decide⟩  -- p2
    intro W5
    intro M6
    intro κ_7 hκ_7
    intro W8
    intro κ_9 hκ_9
    intro W10
    intro T11
    refine Ma_proceed_c W10 T11  ?_ (fun κ_12 q13 => ?_)
    · exact ⟨(mkI_f ((F.tr (mF_ui hκ_7 (by decide))).tr (mF_ui hκ_9 (by decide))) W Ta0 hp.1).1, mO_s ((mS_ui hκ_7 (by decide)).tr (mS_ui hκ_9 (by decide))) O⟩  -- p3
    intro W14
    intro M15
    refine h _ ?_
    · exact ⟨((F.tr (mF_ui hκ_7 (by decide))).tr (mF_ui hκ_9 (by decide))).tr q13.1, q13.2.1.trans (((S.tr (mS_ui hκ_7 (by decide))).tr (mS_ui hκ_9 (by decide))).1 maShared (by decide)), q13.2.2.1, ((S.tr (mS_ui hκ_7 (by decide))).tr (mS_ui hκ_9 (by decide))).2.tr q13.2.2.2⟩  -- q4
  refine ⟨fun c16 => ?_, fun c16 => ?_⟩
  · skip
    refine hj26 _ _ W ?_ ?_
    · exact Ta0  -- t5
    · exact ⟨rfl, mF.rf, mS.rf⟩  -- k6
  · skip
    refine ⟨fun c17 => ?_, fun c17 => ?_⟩
    · skip
      refine hj26 _ _ W ?_ ?_
      · exact Ta0  -- t7
      · exact ⟨rfl, mF.rf, mS.rf⟩  -- k8
    · skip
      refine ⟨?_, ?_⟩
      · rw [lti, t0i] at c16
        rw [lei] at c17
        have L := hp.1.1.2.2.2.1
        have w := hp.2.2
        rw [inb_iff]; omega
      intro T18
      refine Ma_put_c W T18  ?_ (fun κ_19 q20 => ?_)
      · exact hp.1.1  -- p10
      intro W21
      intro M22
      refine hj26 _ _ W21 ?_ ?_
      · exact (mF_put q20).1.1.t Ta0 (by decide)  -- t11
      · exact ⟨rfl, (mF_put q20).1, (mF_put q20).2.1⟩  -- k12
