set_option maxHeartbeats 1600000
/-! the class: Machine's obey, act -/
theorem ob_s {κ τ : zS} {m : Nat} (F : mF κ τ m) (S : mS κ τ m) (O : mO κ m) (D : zI κ maWants m = -1) : mF κ τ m ∧ zI τ maShared m = zI κ maShared m ∧ mO τ m ∧ mDw τ m := ⟨F, S.1 maShared (by decide), mO_s S O, mDw_g S.2 (Or.inl D)⟩
theorem ob_u {κ τ : zS} {m f : Nat} {x : Int32} (e : τ = ui κ f m x) (h : f ≠ maWays) (g : maFrame < f ∧ f < maWants) (O : mO κ m) (D : zI κ maWants m = -1) : mF κ τ m ∧ zI τ maShared m = zI κ maShared m ∧ mO τ m ∧ mDw τ m := ob_s (mF_ui e h) (mS_ui e g) O D
theorem Ma_obey_c {C : zC} {n0 : Nat} {a0 : Nat} {a1 : Int32} {a2 : Int32} {κ : zS} {Q : zS → Prop} (W : zW C n0 κ) (Ta0 : zT κ a0 = 7)  (hp : (mkI κ a0 ∧ mO κ a0) ∧ zI κ maWants a0 = -1) (h : ∀ (κ' : zS), (mF κ κ' a0 ∧ zI κ' maShared a0 = zI κ maShared a0 ∧ mO κ' a0 ∧ mDw κ' a0) → Q κ') : zRun C 3 mMa_obey [.ref a0, .int a1, .int a2] κ (oV Q noX) := by
  refine Ma_obey_run W Ta0 ?_
  replace W := W.lo (Nat.le_trans W.1.2.1 W.1.2.2) (Nat.le_refl (zn κ))
  unfold w_Ma_obey_0
  have hj134 : ∀ (l0 : Nat) (s0 : Nat) (s1 : Int32) (s2 : Int32) (τ : zS), zW C (zn κ) τ → zT τ l0 = 7 → zT τ s0 = 5 → (κ = τ ∧ a0 = l0 ∧ s0 = zR κ maCode a0 ∧ 0 ≤ s2.toInt ∧ s2.toInt < 11) → w_Ma_obey_134 C (zn κ) Q  l0 s0 s1 s2 τ := by
    rintro _ y134_s0 y134_s1 y134_s2 _ W134 T134_0 T134_1 ⟨rfl, rfl, j134⟩
    unfold w_Ma_obey_134
    intro T1
    refine Co_column_c W134 T1  ?_ (fun r2 q4 => ?_)
    · obtain ⟨e, b⟩ := j134
      rw [e]
      exact ⟨hp.1.1.2, b⟩
    intro W5
    intro M6
    refine ⟨fun c7 => ?_, fun c7 => ?_⟩
    · skip
      intro κ_8 hκ_8
      intro W9
      refine h _ ?_
      · exact ob_u hκ_8 (by decide) (by decide) hp.1.2 hp.2  -- q2
    · skip
      intro κ_10 hκ_10
      intro W11
      refine h _ ?_
      · exact ob_u hκ_10 (by decide) (by decide) hp.1.2 hp.2  -- q3
  refine ⟨?_, ?_⟩
  · have L := hp.1.1.1.2.2.1
    rw [inb_iff, t0i]; omega
  intro x12 hx12
  refine ⟨fun c13 => ?_, fun c13 => ?_, fun c13 => ?_, fun c13 => ?_, fun c13 => ?_, fun c13 => ?_, fun c13 => ?_, fun c13 => ?_, fun c13 => ?_, fun c13 => ?_, fun c13 => ?_⟩
  · skip
    intro κ_14 hκ_14
    intro W15
    refine h _ ?_
    · exact ob_u hκ_14 (by decide) (by decide) hp.1.2 hp.2  -- q5
  · skip
    intro T16
    refine Ma_put_c W T16  ?_ (fun κ_17 q18 => ?_)
    · exact hp.1.1.1  -- p6
    intro W19
    intro M20
    refine h _ ?_
    · have f := mF_put q18
      exact ob_s f.1 f.2.1 hp.1.2 hp.2
  · skip
    intro T21
    refine Ma_spreadOut_c W T21  ?_ (fun κ_22 q23 => ?_)
    · exact ⟨hp.1.1, hp.2⟩  -- p8
    intro W24
    intro M25
    refine h _ ?_
    · exact ⟨q23.1, q23.2.1 maShared (by decide), mO_0 q23.2.1 hp.1.2, q23.2.2⟩  -- q9
  · skip
    intro T26
    refine Ma_spreadOut_c W T26  ?_ (fun κ_27 q28 => ?_)
    · exact ⟨hp.1.1, hp.2⟩  -- p10
    intro W29
    intro M30
    refine h _ ?_
    · exact ⟨q28.1, q28.2.1 maShared (by decide), mO_0 q28.2.1 hp.1.2, q28.2.2⟩  -- q11
  · skip
    intro T31
    refine Ma_spreadOut_c W T31  ?_ (fun κ_32 q33 => ?_)
    · exact ⟨hp.1.1, hp.2⟩  -- p12
    intro W34
    intro M35
    refine h _ ?_
    · exact ⟨q33.1, q33.2.1 maShared (by decide), mO_0 q33.2.1 hp.1.2, q33.2.2⟩  -- q13
  · skip
    intro T36
    refine Ma_offer_c W T36  ?_ (fun κ_37 q38 => ?_)
    · exact ⟨hp.1.1.1, hp.2⟩  -- p14
    intro W39
    intro M40
    refine h _ ?_
    · exact ⟨q38.1, q38.2.1 maShared (by decide), mO_0 q38.2.1 hp.1.2, q38.2.2⟩  -- q15
  · skip
    intro T41
    refine Co_column_c W T41  ?_ (fun r42 q44 => ?_)
    · exact ⟨hp.1.1.2, by decide, by decide⟩  -- p16
    intro W45
    intro M46
    intro T47
    refine Co_column_c W45 T47  ?_ (fun r48 q50 => ?_)
    · exact ⟨hp.1.1.2, by decide, by decide⟩  -- p17
    intro W51
    intro M52
    intro T53
    refine Ma_openCall_c W51 T53  ?_ (fun κ_54 q55 => ?_)
    · exact hp.1  -- p18
    intro W56
    intro M57
    refine h _ ?_
    · exact ⟨q55.1, q55.2.1, q55.2.2.1, mDw_g q55.2.2.2 (Or.inl hp.2)⟩  -- q19
  · skip
    refine ⟨fun c58 => ?_, fun c58 => ?_⟩
    · skip
      refine hj134 _ _ _ _ _ W ?_ ?_ ?_
      · exact Ta0  -- t20
      · exact ty_maCode W Ta0  -- t21
      · exact ⟨rfl, rfl, rfl, by decide, by decide⟩  -- k22
    · skip
      refine hj134 _ _ _ _ _ W ?_ ?_ ?_
      · exact Ta0  -- t23
      · exact ty_maCode W Ta0  -- t24
      · exact ⟨rfl, rfl, rfl, by decide, by decide⟩  -- k25
  · skip
    intro T59
    refine Co_column_c W T59  ?_ (fun r60 q62 => ?_)
    · exact ⟨hp.1.1.2, by decide, by decide⟩  -- p26
    intro W63
    intro M64
    refine ⟨fun c65 => ?_, fun c65 => ?_⟩
    · skip
      refine ⟨fun c66 => ?_, fun c66 => ?_⟩
      · skip
        intro κ_67 hκ_67
        intro W68
        refine h _ ?_
        · exact ob_u hκ_67 (by decide) (by decide) hp.1.2 hp.2  -- q27
      · skip
        intro κ_69 hκ_69
        intro W70
        refine h _ ?_
        · exact ob_u hκ_69 (by decide) (by decide) hp.1.2 hp.2  -- q28
    · skip
      intro κ_71 hκ_71
      intro W72
      refine h _ ?_
      · exact ob_u hκ_71 (by decide) (by decide) hp.1.2 hp.2  -- q29
  · skip
    intro κ_73 hκ_73
    intro W74
    intro κ_75 hκ_75
    intro W76
    refine h _ ?_
    · exact ob_s ((mF_ui hκ_73 (by decide)).tr (mF_ui hκ_75 (by decide))) ((mS_ui hκ_73 (by decide)).tr (mS_ui hκ_75 (by decide))) hp.1.2 hp.2  -- q30
  · skip
    refine ⟨fun c77 => ?_, fun c77 => ?_⟩
    · skip
      intro κ_78 hκ_78
      intro W79
      refine h _ ?_
      · exact ob_u hκ_78 (by decide) (by decide) hp.1.2 hp.2  -- q31
    · skip
      intro κ_80 hκ_80
      intro W81
      refine h _ ?_
      · exact ob_u hκ_80 (by decide) (by decide) hp.1.2 hp.2  -- q32

theorem Ma_act_c {C : zC} {n0 : Nat} {a0 : Nat} {κ : zS} {Q : zS → Prop} (W : zW C n0 κ) (Ta0 : zT κ a0 = 7)  (hp : mkI κ a0 ∧ mO κ a0) (h : ∀ (κ' : zS), (mF κ κ' a0 ∧ zI κ' maShared a0 = zI κ maShared a0 ∧ (mO κ' a0 ∨ zI κ' maOutcome a0 = 1) ∧ mDw κ' a0) → Q κ') : zRun C 4 mMa_act [.ref a0] κ (oV Q noX) := by
  refine Ma_act_run W Ta0 ?_
  replace W := W.lo (Nat.le_trans W.1.2.1 W.1.2.2) (Nat.le_refl (zn κ))
  unfold w_Ma_act_0
  have hj92 : ∀ (l0 : Nat) (l1 : Int32) (τ : zS), zW C (zn κ) τ → zT τ l0 = 7 → (a0 = l0 ∧ mF κ τ a0 ∧ mS0 κ τ a0 ∧ zI τ maWants a0 = -1) → w_Ma_act_92 C (zn κ) Q  l0 l1 τ := by
    rintro _ y92_1 τ92 W92 T92_0 ⟨rfl, j92⟩
    unfold w_Ma_act_92
    refine ⟨fun c1 => ?_, fun c1 => ?_⟩
    · skip
      intro T2
      refine Co_column_c W92 T2  ?_ (fun r3 q5 => ?_)
      · exact ⟨(mkI_f j92.1 W Ta0 hp.1).1.2, by decide, by decide⟩  -- p1
      intro W6
      intro M7
      intro κ_8 hκ_8
      intro W9
      intro κ_10 hκ_10
      intro W11
      intro T12
      refine Co_column_c W11 T12  ?_ (fun r13 q15 => ?_)
      · have F := (j92.1.tr (mF_ui hκ_8 (by decide))).tr (mF_ui hκ_10 (by decide))
        exact ⟨(mkI_f F W Ta0 hp.1).1.2, by decide, by decide⟩
      intro W16
      intro M17
      intro T18
      refine Ma_obey_c W16 T18  ?_ (fun κ_19 q20 => ?_)
      · have F := (j92.1.tr (mF_ui hκ_8 (by decide))).tr (mF_ui hκ_10 (by decide))
        have S := (j92.2.1.tr (mS_ui hκ_8 (by decide)).1).tr (mS_ui hκ_10 (by decide)).1
        have w1 : zI κ_10 maWants a0 = zI τ92 maWants a0 := by rw [hκ_10, hκ_8]; rfl
        exact ⟨⟨(mkI_f F W Ta0 hp.1).1, mO_0 S hp.2⟩, w1.trans j92.2.2⟩
      intro W21
      intro M22
      refine ⟨fun c23 => ?_, fun c23 => ?_⟩
      · skip
        refine h _ ?_
        · have F := (j92.1.tr (mF_ui hκ_8 (by decide))).tr (mF_ui hκ_10 (by decide))
          have S := (j92.2.1.tr (mS_ui hκ_8 (by decide)).1).tr (mS_ui hκ_10 (by decide)).1
          exact ⟨F.tr q20.1, q20.2.1.trans (S maShared (by decide)), Or.inl q20.2.2.1, q20.2.2.2⟩
      · skip
        refine ⟨fun c24 => ?_, fun c24 => ?_⟩
        · skip
          refine h _ ?_
          · have F := (j92.1.tr (mF_ui hκ_8 (by decide))).tr (mF_ui hκ_10 (by decide))
            have S := (j92.2.1.tr (mS_ui hκ_8 (by decide)).1).tr (mS_ui hκ_10 (by decide)).1
            exact ⟨F.tr q20.1, q20.2.1.trans (S maShared (by decide)), Or.inl q20.2.2.1, q20.2.2.2⟩
        · skip
          intro T25
          refine Ma_proceed_c W21 T25  ?_ (fun κ_26 q27 => ?_)
          · have F := (j92.1.tr (mF_ui hκ_8 (by decide))).tr (mF_ui hκ_10 (by decide))
            exact ⟨(mkI_f (F.tr q20.1) W Ta0 hp.1).1, q20.2.2.1⟩
          intro W28
          intro M29
          refine h _ ?_
          · have F := (j92.1.tr (mF_ui hκ_8 (by decide))).tr (mF_ui hκ_10 (by decide))
            have S := (j92.2.1.tr (mS_ui hκ_8 (by decide)).1).tr (mS_ui hκ_10 (by decide)).1
            exact ⟨(F.tr q20.1).tr q27.1, q27.2.1.trans (q20.2.1.trans (S maShared (by decide))), q27.2.2.1, mDw_g q27.2.2.2 q20.2.2.2⟩
    · skip
      intro κ_30 hκ_30
      intro W31
      refine h _ ?_
      · have S := j92.2.1.tr (mS_ui hκ_30 (by decide)).1
        exact ⟨j92.1.tr (mF_ui hκ_30 (by decide)), S maShared (by decide), Or.inl (mO_0 S hp.2), mDw_g (mS_ui hκ_30 (by decide)).2 (Or.inl j92.2.2)⟩
  refine ⟨?_, ?_⟩
  · have L := hp.1.1.1
    obtain ⟨s, o, f⟩ := hp.2
    rw [inb_iff]; omega
  intro x32 hx32
  intro κ_33 hκ_33
  intro W34
  intro κ_35 hκ_35
  intro W36
  intro κ_37 hκ_37
  intro W38
  intro T39
  refine Co_column_c W38 T39  ?_ (fun r40 q42 => ?_)
  · have F := ((mF_ui hκ_33 (by decide)).tr (mF_ui hκ_35 (by decide))).tr (mF_ui hκ_37 (by decide))
    exact ⟨(mkI_f F W Ta0 hp.1).1.2, by decide, by decide⟩
  intro W43
  intro M44
  intro κ_45 hκ_45
  intro W46
  intro T47
  refine Ma_aim_c W46 T47  ?_ (fun κ_48 q49 => ?_)
  · have F := ((mF_ui hκ_33 (by decide)).tr (mF_ui hκ_35 (by decide))).tr (mF_ui hκ_37 (by decide))
    exact (mkI_f (F.tr (mF_ui hκ_45 (by decide))) W Ta0 hp.1).1
  intro W50
  intro M51
  intro T52
  refine Co_column_c W50 T52  ?_ (fun r53 q55 => ?_)
  · have F := ((mF_ui hκ_33 (by decide)).tr (mF_ui hκ_35 (by decide))).tr (mF_ui hκ_37 (by decide))
    exact ⟨(mkI_f ((F.tr (mF_ui hκ_45 (by decide))).tr q49.1) W Ta0 hp.1).1.2, by decide, by decide⟩
  intro W56
  intro M57
  unfold w_Ma_act_55
  refine ⟨fun n l0 l1 l2 l3 τ => n = (16 - l3.toInt).toNat ∧ (a0 = l0 ∧ mF κ τ a0 ∧ mS0 κ τ a0 ∧ 0 ≤ l3.toInt ∧ zI τ maWants a0 = -1), ⟨_, rfl, ?_⟩, ?_⟩
  · have F := ((mF_ui hκ_33 (by decide)).tr (mF_ui hκ_35 (by decide))).tr (mF_ui hκ_37 (by decide))
    have S := ((mS0_ui hκ_33 (by decide)).tr (mS0_ui hκ_35 (by decide))).tr (mS0_ui hκ_37 (by decide))
    have w0 : zI κ_33 maWants a0 = -1 := by rw [hκ_33]; exact if_pos ⟨rfl, rfl⟩
    have w1 : zI κ_45 maWants a0 = zI κ_33 maWants a0 := by rw [hκ_45, hκ_37, hκ_35]; rfl
    have w2 := (q49.2.2 maWants (by decide)).1
    exact ⟨rfl, (F.tr (mF_ui hκ_45 (by decide))).tr q49.1, (S.tr (mS0_ui hκ_45 (by decide))).tr q49.2.1, by decide, w2.trans (w1.trans w0)⟩
  rintro n55 _ x55_1 x55_2 x55_3 κ55 W55 T55_0 ⟨hn55, rfl, i55⟩
  refine ⟨fun c58 => ?_, fun c58 => ?_⟩
  · skip
    refine hj92 _ _ _ W55 ?_ ?_
    · exact T55_0  -- t14
    · exact ⟨rfl, i55.1, i55.2.1, i55.2.2.2⟩  -- k15
  · skip
    refine ⟨fun c59 => ?_, fun c59 => ?_⟩
    · skip
      refine hj92 _ _ _ W55 ?_ ?_
      · exact T55_0  -- t16
      · exact ⟨rfl, i55.1, i55.2.1, i55.2.2.2⟩  -- k17
    · skip
      refine ⟨fun c60 => ?_, fun c60 => ?_⟩
      · skip
        refine hj92 _ _ _ W55 ?_ ?_
        · exact T55_0  -- t18
        · exact ⟨rfl, i55.1, i55.2.1, i55.2.2.2⟩  -- k19
      · skip
        intro T61
        refine Ma_work_c W55 T61  ?_ (fun r62 κ_63 q64 => ?_)
        · exact (mkI_f i55.1 W Ta0 hp.1).1  -- p20
        intro W65
        intro M66
        have LK := (maL_f i55.1 hp.1.1).2.2.1
        have bN := W55.n (ty_maWorked W55 T55_0)
        have l := i55.2.2.1
        rw [lei, ofn_i bN] at c59
        have e1 : (x55_3 + 1).toInt = x55_3.toInt + 1 := by rw [add_i (by rw [t1i]; omega) (by rw [t1i]; omega), t1i]
        refine ⟨?_, ?_⟩
        · rw [q64.1.2.2.1, inb_iff]; omega  -- b21
        intro κ_67 hκ_67
        intro W68
        intro x69 hx69
        refine ⟨_, ?_, rfl, ?_⟩
        · rw [hn55, hx69, e1]; omega  -- d22
        · rw [← q64.1.2.1] at hκ_67
          have f := mF_ua W65 (q64.1.1.t T55_0 (by decide)) (show zr maWorked = some 20 by decide +kernel) (by decide) hκ_67
          exact ⟨rfl, (i55.1.tr q64.1).tr f.1, (i55.2.1.tr q64.2.1).tr f.2.1.1, by rw [hx69, e1]; omega, by rw [f.2.2, (q64.2.2 maWants (by decide)).1]; exact i55.2.2.2⟩
