section
set_option maxHeartbeats 1600000
/-! the class: plays -/
theorem Ma_act_q21 {C : zC} {n0 : Nat} {a0 : Nat} {κ : zS} {Q : zS → Prop} (W : zW C n0 κ) (Ta0 : zT κ a0 = 7)  (hp : mkI κ a0 ∧ mO κ a0) (h : ∀ (κ' : zS), ((mF κ κ' a0 ∧ zI κ' maShared a0 = zI κ maShared a0 ∧ (mO κ' a0 ∨ zI κ' maOutcome a0 = 1) ∧ mDw κ' a0 ∧ (zI κ' maWants a0 ≠ -1 → mO κ' a0)) ∧ f5_Ma_act (am6 κ a0) = .inl (am6 κ' a0, ())) → Q κ') : zRun C 4 mMa_act [.ref a0] κ (oV Q noX) := by
  refine Ma_act_run W Ta0 ?_
  replace W := W.lo (Nat.le_trans W.1.2.1 W.1.2.2) (Nat.le_refl (zn κ))
  unfold w_Ma_act_0
  have hj92 : ∀ (l0 : Nat) (l1 : Int32) (τ : zS), zW C (zn κ) τ → zT τ l0 = 7 → ((a0 = l0 ∧ mF κ τ a0 ∧ mS0 κ τ a0 ∧ zI τ maWants a0 = -1) ∧ f5_Ma_act (am6 κ a0) = f5_Ma_act_92 l1 (am6 τ a0)) → w_Ma_act_92 C (zn κ) Q  l0 l1 τ := by
    rintro _ y92_1 τ92 W92 T92_0 ⟨⟨rfl, j92⟩, hE⟩
    unfold w_Ma_act_92
    refine ⟨fun c1 => ?_, fun c1 => ?_⟩
    · skip
      replace hE := rb_t5 hE c1
      intro T2
      refine Co_column_q6 W92 T2  ?_ (fun r3 q5 => ?_)
      · exact ⟨(mkI_f j92.1 W Ta0 hp.1).1.2, by decide, by decide⟩  -- p1
      obtain ⟨q5, z9⟩ := q5
      replace hE := rb_p5 hE (z9 a0 T92_0 (by first | rfl | assumption))
      intro W6
      intro M7
      intro κ_8 hκ_8
      replace hE := rb_i5 hE (am_ui6 (m := a0) (f := maGoing) (by first | exact hκ_8 | (rw [hκ_8]; congr 1; assumption)) (by decide))
      have tκ_8 : zT κ_8 a0 = 7 := by rw [hκ_8]; exact T92_0
      intro W9
      intro κ_10 hκ_10
      replace hE := rb_i5 hE (am_ui6 (m := a0) (f := maAnswer) (by first | exact hκ_10 | (rw [hκ_10]; congr 1; assumption)) (by decide))
      have tκ_10 : zT κ_10 a0 = 7 := by rw [hκ_10]; exact tκ_8
      intro W11
      intro T12
      refine Co_column_q6 W11 T12  ?_ (fun r13 q15 => ?_)
      · have F := (j92.1.tr (mF_ui hκ_8 (by decide))).tr (mF_ui hκ_10 (by decide))
        exact ⟨(mkI_f F W Ta0 hp.1).1.2, by decide, by decide⟩
      obtain ⟨q15, z9⟩ := q15
      replace hE := rb_p5 hE (z9 a0 tκ_10 (by first | rfl | assumption))
      intro W16
      intro M17
      intro T18
      refine Ma_obey_q6 W16 T18  ?_ (fun κ_19 q20 => ?_)
      · have F := (j92.1.tr (mF_ui hκ_8 (by decide))).tr (mF_ui hκ_10 (by decide))
        have S := (j92.2.1.tr (mS_ui hκ_8 (by decide)).1).tr (mS_ui hκ_10 (by decide)).1
        have w1 : zI κ_10 maWants a0 = zI τ92 maWants a0 := by rw [hκ_10, hκ_8]; rfl
        exact ⟨⟨(mkI_f F W Ta0 hp.1).1, mO_0 S hp.2⟩, w1.trans j92.2.2⟩
      obtain ⟨q20, z9⟩ := q20
      replace hE := rb_i5 hE z9
      have tκ_19 : zT κ_19 a0 = 7 := by first | exact q20.1.t tκ_10 (by decide) | exact q20.1.1.t tκ_10 (by decide) | (rw [q20]; exact tκ_10)
      intro W21
      intro M22
      refine ⟨fun c23 => ?_, fun c23 => ?_⟩
      · skip
        replace hE := rb_f5 hE c23
        refine h _ ?_
        · refine and_5 ?_ (fun o9 => hE)  -- q4
          have F := (j92.1.tr (mF_ui hκ_8 (by decide))).tr (mF_ui hκ_10 (by decide))
          have S := (j92.2.1.tr (mS_ui hκ_8 (by decide)).1).tr (mS_ui hκ_10 (by decide)).1
          exact ⟨F.tr q20.1, q20.2.1.trans (S maShared (by decide)), Or.inl q20.2.2.1, q20.2.2.2, fun _ => q20.2.2.1⟩
      · skip
        replace hE := rb_t5 hE c23
        refine ⟨fun c24 => ?_, fun c24 => ?_⟩
        · skip
          replace hE := rb_f5 hE c24
          refine h _ ?_
          · refine and_5 ?_ (fun o9 => hE)  -- q5
            have F := (j92.1.tr (mF_ui hκ_8 (by decide))).tr (mF_ui hκ_10 (by decide))
            have S := (j92.2.1.tr (mS_ui hκ_8 (by decide)).1).tr (mS_ui hκ_10 (by decide)).1
            exact ⟨F.tr q20.1, q20.2.1.trans (S maShared (by decide)), Or.inl q20.2.2.1, q20.2.2.2, fun _ => q20.2.2.1⟩
        · skip
          replace hE := rb_t5 hE c24
          intro T25
          refine Ma_proceed_q6 W21 T25  ?_ (fun κ_26 q27 => ?_)
          · have F := (j92.1.tr (mF_ui hκ_8 (by decide))).tr (mF_ui hκ_10 (by decide))
            exact ⟨(mkI_f (F.tr q20.1) W Ta0 hp.1).1, q20.2.2.1⟩
          obtain ⟨q27, z9⟩ := q27
          replace hE := rb_i5 hE z9
          have tκ_26 : zT κ_26 a0 = 7 := by first | exact q27.1.t tκ_19 (by decide) | exact q27.1.1.t tκ_19 (by decide) | (rw [q27]; exact tκ_19)
          intro W28
          intro M29
          refine h _ ?_
          · refine and_5 ?_ (fun o9 => hE)  -- q7
            have F := (j92.1.tr (mF_ui hκ_8 (by decide))).tr (mF_ui hκ_10 (by decide))
            have S := (j92.2.1.tr (mS_ui hκ_8 (by decide)).1).tr (mS_ui hκ_10 (by decide)).1
            exact ⟨(F.tr q20.1).tr q27.1, q27.2.1.trans (q20.2.1.trans (S maShared (by decide))), q27.2.2.1, mDw_g q27.2.2.2 q20.2.2.2, fun z => absurd ((q27.2.2.2 maWants (by decide)).1.trans c23) z⟩
    · skip
      replace hE := rb_f5 hE c1
      intro κ_30 hκ_30
      replace hE := rb_i5 hE (am_ui6 (m := a0) (f := maOutcome) (by first | exact hκ_30 | (rw [hκ_30]; congr 1; assumption)) (by decide))
      have tκ_30 : zT κ_30 a0 = 7 := by rw [hκ_30]; exact T92_0
      intro W31
      refine h _ ?_
      · refine and_5 ?_ (fun o9 => hE)  -- q8
        have S := j92.2.1.tr (mS_ui hκ_30 (by decide)).1
        exact ⟨j92.1.tr (mF_ui hκ_30 (by decide)), S maShared (by decide), Or.inl (mO_0 S hp.2), mDw_g (mS_ui hκ_30 (by decide)).2 (Or.inl j92.2.2), fun _ => mO_0 S hp.2⟩
  have hE : f5_Ma_act (am6 κ a0) = f5_Ma_act (am6 κ a0) := rfl
  refine ⟨?_, ?_⟩
  · have L := hp.1.1.1
    obtain ⟨s, o, f⟩ := hp.2
    rw [inb_iff]; omega
  intro x32 hx32
  replace hE := rb_p5 hE hx32
  intro κ_33 hκ_33
  replace hE := rb_i5 hE (am_ui6 (m := a0) (f := maWants) (by first | exact hκ_33 | (rw [hκ_33]; congr 1; assumption)) (by decide))
  have tκ_33 : zT κ_33 a0 = 7 := by rw [hκ_33]; exact Ta0
  intro W34
  intro κ_35 hκ_35
  replace hE := rb_i5 hE (am_ui6 (m := a0) (f := maGained) (by first | exact hκ_35 | (rw [hκ_35]; congr 1; assumption)) (by decide))
  have tκ_35 : zT κ_35 a0 = 7 := by rw [hκ_35]; exact tκ_33
  intro W36
  intro κ_37 hκ_37
  replace hE := rb_i5 hE (am_ui6 (m := a0) (f := maFailure) (by first | exact hκ_37 | (rw [hκ_37]; congr 1; assumption)) (by decide))
  have tκ_37 : zT κ_37 a0 = 7 := by rw [hκ_37]; exact tκ_35
  intro W38
  intro T39
  refine Co_column_q6 W38 T39  ?_ (fun r40 q42 => ?_)
  · have F := ((mF_ui hκ_33 (by decide)).tr (mF_ui hκ_35 (by decide))).tr (mF_ui hκ_37 (by decide))
    exact ⟨(mkI_f F W Ta0 hp.1).1.2, by decide, by decide⟩
  obtain ⟨q42, z9⟩ := q42
  replace hE := rb_p5 hE (z9 a0 tκ_37 (by first | rfl | assumption))
  intro W43
  intro M44
  intro κ_45 hκ_45
  replace hE := rb_i5 hE (am_ui6 (m := a0) (f := maPc) (by first | exact hκ_45 | (rw [hκ_45]; congr 1; assumption)) (by decide))
  have tκ_45 : zT κ_45 a0 = 7 := by rw [hκ_45]; exact tκ_37
  intro W46
  intro T47
  refine Ma_aim_q6 W46 T47  ?_ (fun κ_48 q49 => ?_)
  · have F := ((mF_ui hκ_33 (by decide)).tr (mF_ui hκ_35 (by decide))).tr (mF_ui hκ_37 (by decide))
    exact (mkI_f (F.tr (mF_ui hκ_45 (by decide))) W Ta0 hp.1).1
  obtain ⟨q49, z9⟩ := q49
  replace hE := rb_i5 hE z9
  have tκ_48 : zT κ_48 a0 = 7 := by first | exact q49.1.t tκ_45 (by decide) | exact q49.1.1.t tκ_45 (by decide) | (rw [q49]; exact tκ_45)
  intro W50
  intro M51
  intro T52
  refine Co_column_q6 W50 T52  ?_ (fun r53 q55 => ?_)
  · have F := ((mF_ui hκ_33 (by decide)).tr (mF_ui hκ_35 (by decide))).tr (mF_ui hκ_37 (by decide))
    exact ⟨(mkI_f ((F.tr (mF_ui hκ_45 (by decide))).tr q49.1) W Ta0 hp.1).1.2, by decide, by decide⟩
  obtain ⟨q55, z9⟩ := q55
  replace hE := rb_p5 hE (z9 a0 tκ_48 (by first | rfl | assumption))
  intro W56
  intro M57
  unfold w_Ma_act_55
  refine ⟨fun n l0 l1 l2 l3 τ => n = (16 - l3.toInt).toNat ∧ ((a0 = l0 ∧ mF κ τ a0 ∧ mS0 κ τ a0 ∧ 0 ≤ l3.toInt ∧ zI τ maWants a0 = -1) ∧ ∃ m5, n < m5 ∧ f5_Ma_act (am6 κ a0) = f5_Ma_act_55 m5 l1 l2 l3 (am6 τ a0)), ⟨_, rfl, ?_⟩, ?_⟩
  · refine and_5 ?_ (fun o9 => ⟨fu5, by first | exact fb5 | (unfold fu5; omega) | decide, hE⟩)  -- j13
    have F := ((mF_ui hκ_33 (by decide)).tr (mF_ui hκ_35 (by decide))).tr (mF_ui hκ_37 (by decide))
    have S := ((mS0_ui hκ_33 (by decide)).tr (mS0_ui hκ_35 (by decide))).tr (mS0_ui hκ_37 (by decide))
    have w0 : zI κ_33 maWants a0 = -1 := by rw [hκ_33]; exact if_pos ⟨rfl, rfl⟩
    have w1 : zI κ_45 maWants a0 = zI κ_33 maWants a0 := by rw [hκ_45, hκ_37, hκ_35]; rfl
    have w2 := (q49.2.2 maWants (by decide)).1
    exact ⟨rfl, (F.tr (mF_ui hκ_45 (by decide))).tr q49.1, (S.tr (mS0_ui hκ_45 (by decide))).tr q49.2.1, by decide, w2.trans (w1.trans w0)⟩
  rintro n55 _ x55_1 x55_2 x55_3 κ55 W55 T55_0 ⟨hn55, ⟨rfl, i55⟩, m55, hm55, hE⟩
  obtain ⟨m55, rfl⟩ : ∃ m9, m55 = m9 + 1 := ⟨m55 - 1, by omega⟩
  refine ⟨fun c58 => ?_, fun c58 => ?_⟩
  · skip
    replace hE := rb_t5 hE c58
    refine hj92 _ _ _ W55 ?_ ?_
    · exact T55_0  -- t14
    · refine and_5 ?_ (fun o9 => hE)  -- k15
      exact ⟨rfl, i55.1, i55.2.1, i55.2.2.2⟩
  · skip
    replace hE := rb_f5 hE c58
    refine ⟨fun c59 => ?_, fun c59 => ?_⟩
    · skip
      replace hE := rb_t5 hE c59
      refine hj92 _ _ _ W55 ?_ ?_
      · exact T55_0  -- t16
      · refine and_5 ?_ (fun o9 => hE)  -- k17
        exact ⟨rfl, i55.1, i55.2.1, i55.2.2.2⟩
    · skip
      replace hE := rb_f5 hE c59
      refine ⟨fun c60 => ?_, fun c60 => ?_⟩
      · skip
        replace hE := rb_f5 hE c60
        refine hj92 _ _ _ W55 ?_ ?_
        · exact T55_0  -- t18
        · refine and_5 ?_ (fun o9 => hE)  -- k19
          exact ⟨rfl, i55.1, i55.2.1, i55.2.2.2⟩
      · skip
        replace hE := rb_t5 hE c60
        intro T61
        refine Ma_work_q6 W55 T61  ?_ (fun r62 κ_63 q64 => ?_)
        · exact (mkI_f i55.1 W Ta0 hp.1).1  -- p20
        obtain ⟨q64, z9⟩ := q64
        replace hE := rb_i5 hE z9
        have tκ_63 : zT κ_63 a0 = 7 := by first | exact q64.1.t T55_0 (by decide) | exact q64.1.1.t T55_0 (by decide) | (rw [q64]; exact T55_0)
        intro W65
        intro M66
        have LK := (maL_f i55.1 hp.1.1).2.2.1
        have bN := W55.n (ty_maWorked W55 T55_0)
        have l := i55.2.2.1
        rw [lei, ofn_i bN] at c59
        have e1 : (x55_3 + 1).toInt = x55_3.toInt + 1 := by rw [add_i (by rw [t1i]; omega) (by rw [t1i]; omega), t1i]
        refine ⟨?_, ?_⟩
        · rw [q64.1.2.2.1, inb_iff]; omega  -- b21
        intro κ_67 hκ_67
        have h9 : κ_67 = ua κ_63 (zR κ_63 maWorked a0) x55_3.toNatClampNeg r62 := by rw [hκ_67, q64.1.2.1]
        replace hE := rb_i5 hE (am_ua6 (m := a0) (f := maWorked) W65 tκ_63 h9 (by decide))
        have tκ_67 : zT κ_67 a0 = 7 := by rw [h9]; exact tκ_63
        intro W68
        intro x69 hx69
        replace hE := rb_p5 hE hx69
        refine lp_b5 ?_ (fun d9 => ⟨rfl, ?_⟩)
        · rw [hn55, hx69, e1]; omega  -- d22
        · refine and_5 ?_ (fun o9 => ⟨m55, by omega, hE⟩)  -- i23
          rw [← q64.1.2.1] at hκ_67
          have f := mF_ua W65 (q64.1.1.t T55_0 (by decide)) (show zr maWorked = some 20 by decide +kernel) (by decide) hκ_67
          exact ⟨rfl, (i55.1.tr q64.1).tr f.1, (i55.2.1.tr q64.2.1).tr f.2.1.1, by rw [hx69, e1]; omega, by rw [f.2.2, (q64.2.2 maWants (by decide)).1]; exact i55.2.2.2⟩

/-- a draw taken, or none -/
def DC21 (m : Nat) (y : Int32) (κ κ' : zS) (v : Int32) : Prop := ((0 ≤ y.toInt ∧ y.toInt < (zI κ maWays m).toInt) → v = 1 ∧ f5_Ma_settle y (am6 κ m) = .inl (am6 κ' m, ())) ∧ (¬ (0 ≤ y.toInt ∧ y.toInt < (zI κ maWays m).toInt) → v = 0 ∧ am6 κ' m = fl6 711 2 (fl6 713 6 (am6 κ m)))
theorem Ch_drawn_q6 {C : zC} {n0 : Nat} {a0 : Nat} {a1 : Int32} {a2 : Int32} {κ : zS} {Q : Int32 → zS → Prop} (W : zW C n0 κ) (Ta0 : zT κ a0 = 15)  (hp : mkI κ (zR κ chMachine a0) ∧ (mO κ (zR κ chMachine a0) ∧ (zI κ maWays (zR κ chMachine a0)).toInt ≤ 64) ∧ dwI9 κ a0 ∧ 0 ≤ a2.toInt ∧ a2.toInt < 2000) (h : ∀ (v : Int32) (κ' : zS), ((zF (dwF9 (zR κ chMachine a0) a0) κ κ' ∧ (∀ f, f ≠ chDrawnWeights → f ≠ chDrawnTotals → zR κ' f a0 = zR κ f a0) ∧ mkI κ' (zR κ chMachine a0) ∧ (zI κ' maOutcome (zR κ chMachine a0) = 0 → mO κ' (zR κ chMachine a0)) ∧ dwI9 κ' a0 ∧ (v = 0 ∨ v = 1)) ∧ (DC21 (zR κ chMachine a0) a1 κ κ' v)) → Q v κ') : zRun C 3 mCh_drawn [.ref a0, .int a1, .int a2] κ (oI Q noX) := by
  refine Ch_drawn_run W Ta0 ?_
  replace W := W.lo (Nat.le_trans W.1.2.1 W.1.2.2) (Nat.le_refl (zn κ))
  unfold w_Ch_drawn_0
  have am := ch_m9 W Ta0
  have tm := ty_chMachine W Ta0
  obtain ⟨K0, ⟨O0, w0⟩, D0, l0, l1⟩ := hp
  have bn := W.n (ty_chDrawnWeights W Ta0)
  have e2 : (2 : Int32).toInt = 2 := rfl
  have m2 : (a2 * 2).toInt = 2 * a2.toInt := by
    have q := mul_i (x := a2) (y := 2) (by rw [e2]; omega) (by rw [e2]; omega)
    rw [e2] at q
    omega
  have k2 := cnk (x := a2 * 2) (by omega)
  have hj63 : ∀ (l0 : Nat) (l1 : Int32) (l2 : Int32) (τ : zS), zW C (zn κ) τ → zT τ l0 = 15 → ((a0 = l0 ∧ a1 = l1 ∧ a2 = l2 ∧ djI9 κ τ a0 a1 a2) ∧ am6 τ (zR κ chMachine a0) = am6 κ (zR κ chMachine a0) ∧ 0 ≤ a1.toInt ∧ a1.toInt < (zI κ maWays (zR κ chMachine a0)).toInt) → w_Ch_drawn_63 C (zn κ) Q  l0 l1 l2 τ := by
    rintro _ _ _ τ63 W63 T63_0 ⟨⟨rfl, rfl, rfl, j63⟩, hE⟩
    unfold w_Ch_drawn_63
    obtain ⟨Z6, R6, K6, ⟨O6, w6⟩, D6, ⟨y0, y1⟩, x0, x1⟩ := j63
    have rm : zR τ63 chMachine a0 = zR κ chMachine a0 := R6 _ (by decide) (by decide)
    refine ⟨?_, ?_⟩
    · rw [rm, inb_iff, K6.1.2.2.2.2]; omega  -- b1
    refine ⟨?_, ?_⟩
    · rw [inb_iff]; omega  -- b2
    intro κ_1 hκ_1
    intro W2
    have o1 := W63.o (show zr chDrawnWeights = some 20 by decide +kernel) (by decide) (T63_0.trans (by decide))
    have Z1 : zF (fun f b => b = a0 ∧ (f = chDrawnWeights ∨ f = chDrawnTotals)) τ63 κ_1 := by
      rw [hκ_1]
      exact zF_ua (by rw [o1]; exact ⟨rfl, Or.inl rfl⟩)
    have R1 : zR κ_1 = zR τ63 := by rw [hκ_1]; rfl
    have N1 : zN κ_1 = zN τ63 := by rw [hκ_1]; rfl
    refine ⟨?_, ?_⟩
    · rw [inb_iff, R1, N1, D6.1]; omega  -- b3
    intro κ_3 hκ_3
    intro W4
    intro T5
    have o2 := W2.o (show zr chDrawnTotals = some 20 by decide +kernel) (by decide) ((Z1.t T63_0 (by decide)).trans (by decide))
    have Z3 : zF (fun f b => b = a0 ∧ (f = chDrawnWeights ∨ f = chDrawnTotals)) τ63 κ_3 := Z1.tr (by
      rw [hκ_3]
      exact zF_ua (by rw [o2]; exact ⟨rfl, Or.inr rfl⟩))
    have R3 : zR κ_3 = zR τ63 := by rw [hκ_3]; exact R1
    have N3 : zN κ_3 = zN τ63 := by rw [hκ_3]; exact N1
    have am6 := ch_m9 W63 T63_0
    rw [rm] at am6
    have tm6 : zT τ63 (zR κ chMachine a0) = 7 := Z6.t tm (by decide)
    have K3 : mkI κ_3 (zR κ chMachine a0) := mkI_zF Z3 W63 tm6 (fun f z => am6.1 z.1.symm) (fun f z => am6.2.1 z.1.symm) K6
    have O3 : mO κ_3 (zR κ chMachine a0) := mO_z9 Z3 (fun f z => am6.1 z.1.symm) O6
    have w3 : zI κ_3 maWays (zR κ chMachine a0) = zI τ63 maWays (zR κ chMachine a0) := Z3.i (fun z => am6.1 z.1.symm)
    refine Ma_settle_q6 W4 T5  ?_ (fun κ_6 q7 => ?_)
    · rw [R3, rm]
      exact ⟨K3, O3, by rw [w3]; exact w6⟩
    obtain ⟨q7, z9⟩ := q7
    intro W8
    intro M9
    refine h _ _ ?_
    · refine and_5 ?_ (fun o9 => ?_)  -- q5
      · rw [R3, rm] at q7 T5
        refine ⟨(Z6.tr (Z3.mono (fun f b z => Or.inr z))).tr (q7.1.1.mono (fun f b z => Or.inl z)), fun f h1 h2 => ?_, (mkI_f q7.1 W4 T5 K3).1, fun z => ?_, ?_, Or.inr rfl⟩
        · rw [q7.1.2.1, R3]
          exact R6 f h1 h2
        · rcases q7.2.2.1 with y | y
          · exact y
          · rw [y] at z
            exact absurd z (by decide)
        · unfold dwI9
          rw [q7.1.2.1, q7.1.2.2.1, R3, N3]
          exact D6
      · rw [R3, rm] at z9
        have ez := am_z6 W63 tm6 Z3 (fun f z => am6.1 z.1.symm) (fun f z => am6.2.1 z.1.symm)
        rw [ez, hE.1] at z9
        exact ⟨fun _ => ⟨rfl, z9⟩, fun n => absurd hE.2 n⟩
  have hj15 : ∀ (l0 : Nat) (τ : zS), zW C (zn κ) τ → zT τ l0 = 15 → ((κ = τ ∧ a0 = l0 ∧ True) ∧ ¬ (0 ≤ a1.toInt ∧ a1.toInt < (zI κ maWays (zR κ chMachine a0)).toInt)) → w_Ch_drawn_15 C (zn κ) Q  l0 τ := by
    rintro _ _ W15 T15_0 ⟨⟨rfl, rfl, j15⟩, hE⟩
    unfold w_Ch_drawn_15
    intro T10
    refine Ma_fail_q6 W15 T10  (fun κ_11 q12 => ?_)
    obtain ⟨q12, z9⟩ := q12
    intro W13
    intro M14
    refine h _ _ ?_
    · refine and_5 ?_ (fun o9 => ?_)  -- q6
      · have f := mF_fail q12
        refine ⟨q12.1.mono (fun f b z => Or.inl z), fun f _ _ => by rw [q12.2.1], (mkI_f f.1 W tm K0).1, fun z => ?_, ?_, Or.inl rfl⟩
        · rw [q12.2.2.2.2.2.2] at z
          exact absurd z (by decide)
        · unfold dwI9
          rw [q12.2.1, q12.2.2.1]
          exact D0
      · refine ⟨fun n => absurd n hE, fun _ => ⟨rfl, ?_⟩⟩
        have ff : f5_Ma_fail 6 (am6 κ (zR κ chMachine a0)) = .inl (fl6 711 2 (fl6 713 6 (am6 κ (zR κ chMachine a0))), ()) := rfl
        exact (congrArg Prod.fst (Sum.inl.inj (ff.symm.trans z9))).symm
  refine ⟨fun c15 => ?_, fun c15 => ?_⟩
  · skip
    refine hj15 _ _ W ?_ ?_
    · exact Ta0  -- t7
    · refine and_5 ?_ (fun o9 => ?_)  -- k8
      · exact ⟨rfl, rfl, trivial⟩
      · intro z
        rw [lti, t0i] at c15
        omega
  · skip
    refine ⟨fun c16 => ?_, fun c16 => ?_⟩
    · skip
      refine ⟨fun c17 => ?_, fun c17 => ?_⟩
      · skip
        refine hj63 _ _ _ _ W ?_ ?_
        · exact Ta0  -- t9
        · refine and_5 ?_ (fun o9 => ?_)  -- k10
          · rw [lti, t0i] at c15
            rw [lti] at c16
            rw [lti, ofn_i bn] at c17
            exact ⟨rfl, rfl, rfl, zF.rf, fun _ _ _ => rfl, K0, ⟨O0, w0⟩, D0, ⟨l0, by omega⟩, by omega, by omega⟩
          · have x15 := c15
            have x16 := c16
            rw [lti, t0i] at x15
            rw [lti] at x16
            exact ⟨rfl, by omega, x16⟩
      · skip
        intro T18
        refine Ar_copyOf_c W T18  ?_ (fun r19 κ_20 q21 => ?_)
        · rw [lti, ofn_i bn] at c17
          refine ⟨⟨by rw [lei, t0i]; omega, by omega⟩, fun e => ?_⟩
          have g := congrArg Int32.toInt e
          rw [ofn_i bn, m2] at g
          have := D0.2.1
          omega
        intro W22
        intro M23
        intro T24
        refine ⟨?_, ?_⟩
        · rw [q21.1]; exact q21.2.2.1  -- b12
        intro κ_25 hκ_25
        intro W26
        intro T27
        rw [lti, t0i] at c15
        rw [lti] at c16
        rw [lti, ofn_i bn] at c17
        obtain ⟨e19, Q1⟩ := q21
        rw [e19] at hκ_25
        have G1 := gr_f W (show zr chDrawnWeights = some 20 by decide +kernel) (by decide) (Ta0.trans (by decide)) ⟨by decide, by decide, by decide, by decide +kernel⟩ Q1 hκ_25 (by omega) (by have := D0.2.1; omega)
        have T25 : zT κ_25 a0 = 15 := G1.1.t Ta0 (by decide)
        have rt : zR κ_25 chDrawnTotals a0 = zR κ chDrawnTotals a0 := G1.2.2.1 _ _ (fun z => absurd z.1 (by decide))
        have nt : zN κ_25 (zR κ chDrawnTotals a0) = zN κ (zR κ chDrawnTotals a0) := G1.1.l (ty_chDrawnTotals W Ta0)
        have e0 := D0.1
        refine Ar_copyOf_c W26 T27  ?_ (fun r28 κ_29 q30 => ?_)
        · rw [rt, nt, e0]
          refine ⟨⟨by rw [lei, t0i]; omega, by omega⟩, fun e => ?_⟩
          have g := congrArg Int32.toInt e
          rw [ofn_i bn, m2] at g
          have := D0.2.1
          omega
        intro W31
        intro M32
        intro T33
        refine ⟨?_, ?_⟩
        · rw [q30.1]; exact q30.2.2.1  -- b14
        intro κ_34 hκ_34
        intro W35
        refine hj63 _ _ _ _ W35 ?_ ?_
        · rw [hκ_34]; obtain ⟨e28, Q2⟩ := q30
          rw [e28] at hκ_34
          have G2 := gr_f W26 (show zr chDrawnTotals = some 20 by decide +kernel) (by decide) (T25.trans (by decide)) ⟨by decide, by decide, by decide, by decide +kernel⟩ Q2 hκ_34 (by rw [rt, nt, e0]; omega) (by rw [rt, nt, e0]; have := D0.2.1; omega)
          have y := G2.1.t T25 (by decide)
          rw [hκ_34, ← e28] at y
          exact y
        · refine and_5 ?_ (fun o9 => ?_)  -- k16
          · obtain ⟨e28, Q2⟩ := q30
            rw [e28] at hκ_34
            have G2 := gr_f W26 (show zr chDrawnTotals = some 20 by decide +kernel) (by decide) (T25.trans (by decide)) ⟨by decide, by decide, by decide, by decide +kernel⟩ Q2 hκ_34 (by rw [rt, nt, e0]; omega) (by rw [rt, nt, e0]; have := D0.2.1; omega)
            have Z0 : zF (fun f b => b = a0 ∧ (f = chDrawnWeights ∨ f = chDrawnTotals)) κ κ_34 := (G1.1.mono (fun f b z => ⟨z.2, Or.inl z.1⟩)).tr (G2.1.mono (fun f b z => ⟨z.2, Or.inr z.1⟩))
            have rw1 : zR κ_34 chDrawnWeights a0 = zn κ := (G2.2.2.1 _ _ (fun z => absurd z.1 (by decide))).trans G1.2.2.2.1
            have tw := ty_chDrawnWeights W26 T25
            rw [G1.2.2.2.1] at tw
            have nw1 : zN κ_34 (zn κ) = (a2 * 2).toNatClampNeg := (G2.1.l tw).trans G1.2.2.2.2.1
            refine ⟨rfl, rfl, rfl, Z0.mono (fun f b z => Or.inr z), fun f h1 h2 => (G2.2.2.1 f a0 (fun z => h2 z.1)).trans (G1.2.2.1 f a0 (fun z => h1 z.1)), mkI_zF Z0 W tm (fun f z => am.1 z.1.symm) (fun f z => am.2.1 z.1.symm) K0, ⟨mO_z9 Z0 (fun f z => am.1 z.1.symm) O0, by rw [Z0.i (fun z => am.1 z.1.symm)]; exact w0⟩, ⟨?_, ?_⟩, ⟨l0, ?_⟩, by omega, by omega⟩
            · rw [rw1, nw1, G2.2.2.2.1, G2.2.2.2.2.1]
            · rw [rw1, nw1]
              have := D0.2.1
              omega
            · rw [rw1, nw1]
              have := D0.2.1
              omega
          · obtain ⟨e28, Q2⟩ := q30
            rw [e28] at hκ_34
            have G2 := gr_f W26 (show zr chDrawnTotals = some 20 by decide +kernel) (by decide) (T25.trans (by decide)) ⟨by decide, by decide, by decide, by decide +kernel⟩ Q2 hκ_34 (by rw [rt, nt, e0]; omega) (by rw [rt, nt, e0]; have := D0.2.1; omega)
            have Z0 : zF (fun f b => b = a0 ∧ (f = chDrawnWeights ∨ f = chDrawnTotals)) κ κ_34 := (G1.1.mono (fun f b z => ⟨z.2, Or.inl z.1⟩)).tr (G2.1.mono (fun f b z => ⟨z.2, Or.inr z.1⟩))
            exact ⟨am_z6 W tm Z0 (fun f z => am.1 z.1.symm) (fun f z => am.2.1 z.1.symm), by omega, c16⟩
    · skip
      refine hj15 _ _ W ?_ ?_
      · exact Ta0  -- t17
      · refine and_5 ?_ (fun o9 => ?_)  -- k18
        · exact ⟨rfl, rfl, trivial⟩
        · intro z
          rw [lti] at c16
          omega

theorem Ch_perform_q6 {C : zC} {n0 : Nat} {a0 : Nat} {a1 : Int32} {a2 : Int64} {a4 : Int32} {κ : zS} {Q : Int32 → zS → Prop} (W : zW C n0 κ) (Ta0 : zT κ a0 = 15) (nv s w : Nat) (σ9 : rS) (hG : GP21 nv s w κ a0 a1 a2 a4 σ9) (hp : maL κ (zR κ chMachine a0) ∧ coI κ (zR κ chCode a0) ∧ dwI9 κ a0 ∧ ((zN κ (zR κ chRecord a0)) = 5 ∧ (zN κ (zR κ chLastShared a0)) = 34 ∧ (zN κ (zR κ chTold a0)) = 200 ∧ (zI κ chTolds a0).toInt ≤ 200) ∧ atH κ (zR κ chAtlas a0) ∧ (zI κ atExplored (zR κ chAtlas a0) ≠ 0 → atM κ (zR κ chAtlas a0)) ∧ a4.toInt ≤ 2000) (h : ∀ (v : Int32) (κ' : zS), ((zF (pfF9 (zR κ chMachine a0) a0) κ κ' ∧ (∀ f, f ≠ chDrawnWeights → f ≠ chDrawnTotals → zR κ' f a0 = zR κ f a0) ∧ mkI κ' (zR κ chMachine a0) ∧ dwI9 κ' a0) ∧ (∀ N tr v', TRF21 a4 σ9 N tr v' → v = v' ∧ RN23 κ' a0 (tr N).1 v' w)) → Q v κ') : zRun C 5 mCh_perform [.ref a0, .int a1, .long a2, .int a4] κ (oI Q noX) := by
  refine Ch_perform_run W Ta0 ?_
  replace W := W.lo (Nat.le_trans W.1.2.1 W.1.2.2) (Nat.le_refl (zn κ))
  unfold w_Ch_perform_0
  have am := ch_m9 W Ta0
  have tm := ty_chMachine W Ta0
  obtain ⟨L0, C0, D0, ⟨n5, n34, n200, t20⟩, H0, M0, l4⟩ := hp
  have F7 : ∀ f x, dwF9 (zR κ chMachine a0) a0 f x → zT κ x = 7 ∨ zT κ x = 15 := by
    rintro f x (z | z)
    · left; rw [z]; exact tm
    · right; rw [z.1]; exact Ta0
  have e1 : (1 : Int32).toInt = 1 := rfl
  have hj180 : ∀ (l0 : Nat) (l7 : Int32) (l8 : Int32) (l9 : Int64) (τ : zS), zW C (zn κ) τ → zT τ l0 = 15 → ((a0 = l0 ∧ pfJ9 κ τ a0) ∧ ∀ N tr v', TRF21 a4 σ9 N tr v' → FZ23 w (am6 τ (zR κ chMachine a0)) l7 l8 l9 (tr N).1 v') → w_Ch_perform_180 C (zn κ) Q  l0 l7 l8 l9 τ := by
    rintro _ y180_7 y180_8 y180_9 τ180 W180 T180_0 ⟨⟨rfl, j180⟩, hE⟩
    unfold w_Ch_perform_180
    intro T1
    refine Ch_note_q6 W180 T1  ?_ (fun κ_2 q3 => ?_)
    · obtain ⟨Z1, R1, K1, D1⟩ := j180
      rw [R1 chMachine (by decide) (by decide), R1 chCode (by decide) (by decide), R1 chRecord (by decide) (by decide), R1 chLastShared (by decide) (by decide)]
      refine ⟨K1, coI_zF Z1 W (ty_chCode W Ta0) (fun f z => ?_) C0, (Z1.l (ty_chRecord W Ta0)).trans n5, (Z1.l (ty_chLastShared W Ta0)).trans n34⟩
      have t5 := ty_chCode W Ta0
      rcases F7 _ _ z with y | y <;> rw [y] at t5 <;> exact absurd t5 (by decide)
    obtain ⟨q3, z9⟩ := q3
    intro W4
    intro M5
    refine h _ _ ?_
    · refine and_5 ?_ (fun o9 => ?_)  -- q2
      · obtain ⟨Z1, R1, K1, D1⟩ := j180
        have am1 := ch_m9 W180 T180_0
        rw [R1 chMachine (by decide) (by decide)] at am1
        refine ⟨(Z1.mono (fun f b z => ?_)).tr (q3.1.mono (fun f b z => ?_)), fun f h1 h2 => ?_, mkI_zF q3.1 W180 (Z1.t tm (by decide)) (fun f z => am1.1 z.1.symm) (fun f z => am1.2.1 z.1.symm) K1, ?_⟩
        · rcases z with z | ⟨z, y | y⟩
          · exact Or.inl z
          · exact Or.inr ⟨z, Or.inl y⟩
          · exact Or.inr ⟨z, Or.inr (Or.inl y)⟩
        · exact Or.inr ⟨z.1, Or.inr (Or.inr z.2)⟩
        · rw [q3.2]; exact R1 f h1 h2
        · unfold dwI9
          rw [q3.2, q3.1.l (ty_chDrawnWeights W180 T180_0), q3.1.l (ty_chDrawnTotals W180 T180_0)]
          exact D1
      · intro N tr v' F
        obtain ⟨⟨f1, f2, f3, ⟨f4, f5, f6⟩, f7⟩, f8⟩ := hE N tr v' F
        obtain ⟨Z1, R1, K1, D1⟩ := j180
        have am1 := ch_m9 W180 T180_0
        have rM := R1 chMachine (by decide) (by decide)
        have rC := R1 chCode (by decide) (by decide)
        have m1 : zI τ180 maOutcome (zR κ chMachine a0) = v' := (am_i6 (f := 711) (by decide)).symm.trans f1
        have m2 : v' = 1 → zI τ180 maNumber (zR κ chMachine a0) = (tr N).1.1 61 := fun q => (am_i6 (f := 712) (by decide)).symm.trans (f2 q)
        have m3 : v' = 2 → zI τ180 maFailure (zR κ chMachine a0) = (tr N).1.1 61 := fun q => (am_i6 (f := 713) (by decide)).symm.trans (f3 q)
        obtain ⟨n1, ⟨n2, n3, n4, n5', n6⟩, n7⟩ := z9
        rw [rM] at n2 n3 n7 am1
        rw [rC] at n7
        rw [rn_v23 m1 m2 m3] at n3
        have tC := ty_chCode W Ta0
        have nC : ∀ f, ¬ dwF9 (zR κ chMachine a0) a0 f (zR κ chCode a0) := fun f z => by
          have t5 := tC
          rcases F7 _ _ z with y | y <;> rw [y] at t5 <;> exact absurd t5 (by decide)
        obtain ⟨wI, _⟩ := rn_w23 hG.1
        rw [Z1.i (nC coVars), Z1.i (nC coCells)] at n7
        refine ⟨?_, f8, n1, ?_, fun i hi => ?_⟩
        · rw [q3.2, rM, ← m1, q3.1.i (fun y => am1.1 y.1.symm)]
        · rw [q3.2]
          exact ⟨by rw [n2, m1], n3, by rw [n4, f4], by rw [n5', f5], by rw [n6, f6]⟩
        · rw [q3.2, n7 i (by omega)]
          exact (congrFun (am_rw6 (f := 701) (by decide)).1 i).symm.trans (f7 i hi)
  intro T6
  intro T7
  refine Ma_begin_q6 W T6 T7  ?_ (fun κ_8 q9 => ?_)
  · exact ⟨L0, C0⟩  -- p3
  obtain ⟨q9, z9⟩ := q9
  intro W10
  intro M11
  unfold w_Ch_perform_26
  refine ⟨fun n l0 l1 l4 l5 l7 l8 l9 l11 τ => n = (a4.toInt - l11.toInt).toNat ∧ ((a0 = l0 ∧ a1 = l1 ∧ a4 = l4 ∧ pfJ9 κ τ a0 ∧ (zI τ maOutcome (zR κ chMachine a0) = 0 → mO τ (zR κ chMachine a0)) ∧ (0 ≤ l8.toInt ∧ l8.toInt ≤ l11.toInt)) ∧ HD21 nv s w (cu7 κ (zR κ chCode a0)) a4 σ9 (am6 τ (zR κ chMachine a0)) l5 l7 l8 l9 l11 ∧ (¬ a1 = 0 → l8.toInt ≤ (zI κ chTolds a0).toInt)), ⟨_, rfl, ?_⟩, ?_⟩
  · refine and_5 ?_ (fun o9 => ?_)  -- j4
    · refine ⟨rfl, rfl, rfl, ⟨q9.1.mono (fun f b z => Or.inl z), fun f _ _ => q9.1.r (fun z => am.1 z), q9.2.2.1, ?_⟩, fun z => ?_, by decide, by decide⟩
      · unfold dwI9
        rw [q9.1.r (fun z => am.1 z), q9.1.r (fun z => am.1 z), q9.1.l (ty_chDrawnWeights W Ta0), q9.1.l (ty_chDrawnTotals W Ta0)]
        exact D0
      · rcases q9.2.2.2.2.1 with y | y
        · exact y
        · rw [y] at z
          exact absurd z (by decide)
    · obtain ⟨e9, B9, hz⟩ := z9
      have R := CR_76 (e' := am6 (ur κ maCode (zR κ chMachine a0) (zR κ chCode a0)) (zR κ chMachine a0)) hG.1 cu_a7.1 cu_a7.2 (by
        have ro : ∀ f b, f ≠ maCode → zR (ur κ maCode (zR κ chMachine a0) (zR κ chCode a0)) f b = zR κ f b := fun f b q => if_neg (fun y => q y.1)
        refine ⟨?_, ?_, ?_⟩
        · rw [(am_rw6 (f := 705) (by decide)).2, ro _ _ (by decide)]; exact L0.2.1
        · rw [(am_rw6 (f := 707) (by decide)).2, ro _ _ (by decide)]; exact L0.2.2.1
        · rw [(am_rw6 (f := 701) (by decide)).2, ro _ _ (by decide)]; exact L0.1)
      refine ⟨⟨⟨rfl, by decide, hG.2.2.2.2.2.2.2⟩, fun N tr v' F => ⟨Nat.zero_le _, ?_⟩⟩, fun z => ?_⟩
      rotate_left
      · exact (hG.2.2.2.1 (Decidable.byContradiction (fun q => z (hG.2.1.mpr q)))).1.2
      exact ib_21 R ⟨cu_a7.1, cu_a7.2⟩ B9 hz hG.2.2.1 F
  rintro n26 _ _ _ x26_5 x26_7 x26_8 x26_9 x26_11 κ26 W26 T26_0 ⟨hn26, ⟨rfl, rfl, rfl, i26⟩, hE⟩
  have hj158 : ∀ (l0 : Nat) (l1 : Int32) (l4 : Int32) (l5 : Int64) (l7 : Int32) (l8 : Int32) (l9 : Int64) (l11 : Int32) (τ : zS), zW C (zn κ) τ → zT τ l0 = 15 → ((a0 = l0 ∧ a1 = l1 ∧ a4 = l4 ∧ pfJ9 κ τ a0 ∧ (zI τ maOutcome (zR κ chMachine a0) = 0 → mO τ (zR κ chMachine a0)) ∧ (0 ≤ l8.toInt ∧ l8.toInt ≤ l11.toInt + 1) ∧ l11 = x26_11 ∧ (0 ≤ l11.toInt ∧ l11.toInt < a4.toInt)) ∧ JA21 nv s w (cu7 κ (zR κ chCode a0)) a4 σ9 (am6 τ (zR κ chMachine a0)) l5 l7 l8 l9 l11 ∧ (¬ a1 = 0 → l8.toInt ≤ (zI κ chTolds a0).toInt)) → w_Ch_perform_158 C (zn κ) Q (fun (l0' : Nat) (l1' : Int32) (l4' : Int32) (l5' : Int64) (l7' : Int32) (l8' : Int32) (l9' : Int64) (l11' : Int32) (τ : zS) => ∃ k < n26, (fun (n : Nat) (l0 : Nat) (l1 : Int32) (l4 : Int32) (l5 : Int64) (l7 : Int32) (l8 : Int32) (l9 : Int64) (l11 : Int32) (τ : zS) => n = (a4.toInt - l11.toInt).toNat ∧ ((a0 = l0 ∧ a1 = l1 ∧ a4 = l4 ∧ pfJ9 κ τ a0 ∧ (zI τ maOutcome (zR κ chMachine a0) = 0 → mO τ (zR κ chMachine a0)) ∧ (0 ≤ l8.toInt ∧ l8.toInt ≤ l11.toInt)) ∧ HD21 nv s w (cu7 κ (zR κ chCode a0)) a4 σ9 (am6 τ (zR κ chMachine a0)) l5 l7 l8 l9 l11 ∧ (¬ a1 = 0 → l8.toInt ≤ (zI κ chTolds a0).toInt))) k l0' l1' l4' l5' l7' l8' l9' l11' τ) l0 l1 l4 l5 l7 l8 l9 l11 τ := by
    rintro _ _ _ y158_5 y158_7 y158_8 y158_9 y158_11 τ158 W158 T158_0 ⟨⟨rfl, rfl, rfl, j158⟩, hE⟩
    unfold w_Ch_perform_158
    intro x12 hx12
    intro x13 hx13
    intro x14 hx14
    obtain ⟨J6, O6, ⟨b0, b1⟩, ex, x0, x1⟩ := j158
    have ix := cn1 (x := y158_11) x0 (by omega)
    refine lp_b5 ?_ (fun d9 => ⟨rfl, ?_⟩)
    · rw [hn26, hx14, ix.2, ← ex]; omega  -- d5
    · refine and_5 ?_ (fun o9 => ?_)  -- i6
      · exact ⟨rfl, rfl, rfl, J6, O6, b0, by rw [hx14, ix.2]; omega⟩
      · obtain ⟨⟨⟨z1, z2, z3⟩, hA⟩, zt⟩ := hE
        have eg : (am6 τ158 (zR κ chMachine a0)).1 714 = zI τ158 maGained (zR κ chMachine a0) := am_i6 (f := 714) (by decide)
        refine ⟨⟨⟨by rw [hx12, hx14, z1], by rw [hx14, ix.2]; omega, by rw [hx14, ix.2]; omega⟩, fun N tr v' F => ?_⟩, zt⟩
        rw [hx14, ix.1, hx13, J6.2.1 chMachine (by decide) (by decide), ← eg]
        exact hA N tr v' F
  have hj150 : ∀ (l0 : Nat) (l1 : Int32) (l4 : Int32) (l5 : Int64) (l7 : Int32) (l8 : Int32) (l9 : Int64) (l11 : Int32) (s0 : Int32) (s1 : Nat) (s2 : Int32) (τ : zS), zW C (zn κ) τ → zT τ l0 = 15 → zT τ s1 = 15 → ((a0 = l0 ∧ a1 = l1 ∧ a4 = l4 ∧ pfJ9 κ τ a0 ∧ (mO τ (zR κ chMachine a0) ∧ (zI τ maWays (zR κ chMachine a0)).toInt ≤ 64) ∧ (0 ≤ l8.toInt ∧ l8.toInt ≤ l11.toInt) ∧ (l11 = x26_11 ∧ l11.toInt < a4.toInt) ∧ s0 = l8 ∧ s1 = a0) ∧ JW21 nv s w (cu7 κ (zR κ chCode a0)) a4 σ9 (am6 τ (zR κ chMachine a0)) l5 l7 l8 l9 l11 s2 ∧ (¬ a1 = 0 → l8.toInt < (zI κ chTolds a0).toInt)) → w_Ch_perform_150 C (zn κ) Q (fun (l0' : Nat) (l1' : Int32) (l4' : Int32) (l5' : Int64) (l7' : Int32) (l8' : Int32) (l9' : Int64) (l11' : Int32) (τ : zS) => ∃ k < n26, (fun (n : Nat) (l0 : Nat) (l1 : Int32) (l4 : Int32) (l5 : Int64) (l7 : Int32) (l8 : Int32) (l9 : Int64) (l11 : Int32) (τ : zS) => n = (a4.toInt - l11.toInt).toNat ∧ ((a0 = l0 ∧ a1 = l1 ∧ a4 = l4 ∧ pfJ9 κ τ a0 ∧ (zI τ maOutcome (zR κ chMachine a0) = 0 → mO τ (zR κ chMachine a0)) ∧ (0 ≤ l8.toInt ∧ l8.toInt ≤ l11.toInt)) ∧ HD21 nv s w (cu7 κ (zR κ chCode a0)) a4 σ9 (am6 τ (zR κ chMachine a0)) l5 l7 l8 l9 l11 ∧ (¬ a1 = 0 → l8.toInt ≤ (zI κ chTolds a0).toInt))) k l0' l1' l4' l5' l7' l8' l9' l11' τ) l0 l1 l4 l5 l7 l8 l9 l11 s0 s1 s2 τ := by
    rintro _ _ _ y150_5 y150_7 y150_8 y150_9 y150_11 y150_s0 y150_s1 y150_s2 τ150 W150 T150_0 T150_1 ⟨⟨rfl, rfl, rfl, j150⟩, hE⟩
    unfold w_Ch_perform_150
    intro T15
    obtain ⟨J5, ⟨O5, w5⟩, ⟨b0, b1⟩, ⟨ex, x1⟩, es0, es1⟩ := j150
    have rm := J5.2.1 chMachine (by decide) (by decide)
    rw [es1]
    rw [es1] at T15
    refine Ch_drawn_q6 W150 T15  ?_ (fun r16 κ_17 q18 => ?_)
    · rw [rm]
      exact ⟨J5.2.2.1, ⟨O5, w5⟩, J5.2.2.2, b0, by omega⟩
    obtain ⟨q18, z9⟩ := q18
    intro W19
    intro M20
    intro x21 hx21
    refine hj158 _ _ _ _ _ _ _ _ _ W19 ?_ ?_
    · exact q18.1.t T15 (by decide)  -- t8
    · refine and_5 ?_ (fun o9 => ?_)  -- k9
      · rw [rm] at q18
        have xb : x21.toInt = y150_8.toInt + r16.toInt ∧ 0 ≤ r16.toInt ∧ r16.toInt ≤ 1 := by
          have t0 : (0 : Int32).toInt = 0 := rfl
          rw [hx21, es0]
          rcases q18.2.2.2.2.2 with y | y <;> rw [y]
          · rw [add_i (by rw [t0]; omega) (by rw [t0]; omega), t0]
            omega
          · rw [add_i (by rw [e1]; omega) (by rw [e1]; omega), e1]
            omega
        refine ⟨rfl, rfl, rfl, ⟨J5.1.tr q18.1, fun f h1 h2 => (q18.2.1 f h1 h2).trans (J5.2.1 f h1 h2), q18.2.2.1, q18.2.2.2.2.1⟩, q18.2.2.2.1, ⟨by omega, by omega⟩, ex, by omega, x1⟩
      · rw [rm] at z9
        obtain ⟨⟨z0, x9, ex9, hW⟩, zt⟩ := hE
        refine ⟨⟨z0, fun N tr v' F => ?_⟩, fun y => ?_⟩
        rotate_left
        · have y1 := zt y
          have u0 : (0 : Int32).toInt = 0 := rfl
          rw [hx21, es0]
          rcases q18.2.2.2.2.2 with q | q <;> rw [q]
          · rw [add_i (by rw [u0]; omega) (by rw [u0]; omega), u0]
            omega
          · rw [add_i (by rw [e1]; omega) (by rw [e1]; omega), e1]
            omega
        obtain ⟨k1, M, HW⟩ := hW N tr v' F
        obtain ⟨d1, d2⟩ := id_21 M HW
        have mw : (am6 τ150 (zR κ chMachine a0)).1 716 = zI τ150 maWays (zR κ chMachine a0) := am_i6 (f := 716) (by decide)
        rw [mw] at d1 d2
        refine ⟨k1, ?_⟩
        by_cases c : 0 ≤ y150_s2.toInt ∧ y150_s2.toInt < (zI τ150 maWays (zR κ chMachine a0)).toInt
        · obtain ⟨v1, z1⟩ := z9.1 c
          rw [hx21, es0, v1, ex9]
          exact d1 c _ z1
        · obtain ⟨v1, z1⟩ := z9.2 c
          have d3 := d2 c
          rw [← z1] at d3
          rw [hx21, es0, v1, ex9, Int32.add_zero]
          exact d3
  have hj109 : ∀ (l0 : Nat) (l1 : Int32) (l4 : Int32) (l5 : Int64) (l7 : Int32) (l8 : Int32) (l9 : Int64) (l11 : Int32) (τ : zS), zW C (zn κ) τ → zT τ l0 = 15 → ((a0 = l0 ∧ a1 = l1 ∧ a4 = l4 ∧ pfJ9 κ τ a0 ∧ (mO τ (zR κ chMachine a0) ∧ (zI τ maWays (zR κ chMachine a0)).toInt ≤ 64) ∧ (0 ≤ l8.toInt ∧ l8.toInt ≤ l11.toInt) ∧ (l11 = x26_11 ∧ l11.toInt < a4.toInt) ∧ (¬ a1 = 0 → l8.toInt < 200)) ∧ JM21 nv s w (cu7 κ (zR κ chCode a0)) a4 σ9 (am6 τ (zR κ chMachine a0)) l5 l7 l8 l9 l11 4 ∧ (¬ a1 = 0 → l8 ≠ zI κ chTolds a0 ∧ 0 ≤ l8.toInt ∧ l8.toInt < (zI κ chTolds a0).toInt)) → w_Ch_perform_109 C (zn κ) Q (fun (l0' : Nat) (l1' : Int32) (l4' : Int32) (l5' : Int64) (l7' : Int32) (l8' : Int32) (l9' : Int64) (l11' : Int32) (τ : zS) => ∃ k < n26, (fun (n : Nat) (l0 : Nat) (l1 : Int32) (l4 : Int32) (l5 : Int64) (l7 : Int32) (l8 : Int32) (l9 : Int64) (l11 : Int32) (τ : zS) => n = (a4.toInt - l11.toInt).toNat ∧ ((a0 = l0 ∧ a1 = l1 ∧ a4 = l4 ∧ pfJ9 κ τ a0 ∧ (zI τ maOutcome (zR κ chMachine a0) = 0 → mO τ (zR κ chMachine a0)) ∧ (0 ≤ l8.toInt ∧ l8.toInt ≤ l11.toInt)) ∧ HD21 nv s w (cu7 κ (zR κ chCode a0)) a4 σ9 (am6 τ (zR κ chMachine a0)) l5 l7 l8 l9 l11 ∧ (¬ a1 = 0 → l8.toInt ≤ (zI κ chTolds a0).toInt))) k l0' l1' l4' l5' l7' l8' l9' l11' τ) l0 l1 l4 l5 l7 l8 l9 l11 τ := by
    rintro _ _ _ y109_5 y109_7 y109_8 y109_9 y109_11 τ109 W109 T109_0 ⟨⟨rfl, rfl, rfl, j109⟩, hE⟩
    unfold w_Ch_perform_109
    intro x22 hx22
    obtain ⟨J9, ⟨O9, w9⟩, b9, ex, h20⟩ := j109
    have rm := J9.2.1 chMachine (by decide) (by decide)
    refine ⟨fun c23 => ?_, fun c23 => ?_⟩
    · skip
      intro T24
      refine Ma_wayAt_c3 W109 T24  ?_ (fun r25 q27 => ?_)
      · rw [rm]
        exact ⟨J9.2.2.1.1, w9⟩
      intro W28
      intro M29
      refine hj150 _ _ _ _ _ _ _ _ _ _ _ _ W28 ?_ ?_ ?_
      · exact T109_0  -- t11
      · exact T109_0  -- t12
      · refine and_5 ?_ (fun o9 => ?_)  -- k13
        · exact ⟨rfl, rfl, rfl, J9, ⟨O9, w9⟩, b9, ex, rfl, rfl⟩
        · obtain ⟨⟨z0, hM⟩, _⟩ := hE
          refine ⟨⟨z0, y109_5, hx22, fun N tr v' F => ?_⟩, fun y => absurd c23 y⟩
          obtain ⟨k1, M⟩ := hM N tr v' F
          refine ⟨k1, M, fun h3 => ?_, fun h3 => absurd h3 (hG.2.1.mp c23)⟩
          rw [rm] at q27
          have e6 : (am6 τ109 (zR κ chMachine a0)).1 716 = zI τ109 maWays (zR κ chMachine a0) := am_i6 (f := 716) (by decide)
          have e7 : (am6 τ109 (zR κ chMachine a0)).1 717 = zI τ109 maTotal (zR κ chMachine a0) := am_i6 (f := 717) (by decide)
          have e9 : (am6 τ109 (zR κ chMachine a0)).2.1 719 = zA τ109 (zR τ109 maWeights (zR κ chMachine a0)) := (am_rw6 (f := 719) (by decide)).1
          have pw := wp_21 M
          rw [e6, e7, e9] at pw
          have sh := shr33 (x := x22)
          have q28 := q27.2 ⟨pw.1, sh, pw.2⟩
          have es : sh21 (sd21 y109_5) = ((Int64.toUInt64 x22 >>> (Int64.toUInt64 (Int32.toInt64 (33 : Int32)) &&& Int64.toUInt64 63)).toInt64).toInt := by rw [hx22]; rfl
          rw [e6, e7, e9, lei, t0i, es]
          exact q28
    · skip
      refine ⟨?_, ?_⟩
      · rw [inb_iff, J9.2.1 chTold (by decide) (by decide), J9.1.l (ty_chTold W Ta0), n200]
        have := h20 c23
        omega
      refine hj150 _ _ _ _ _ _ _ _ _ _ _ _ W109 ?_ ?_ ?_
      · exact T109_0  -- t15
      · exact T109_0  -- t16
      · refine and_5 ?_ (fun o9 => ?_)  -- k17
        · exact ⟨rfl, rfl, rfl, J9, ⟨O9, w9⟩, b9, ex, rfl, rfl⟩
        · obtain ⟨⟨z0, hM⟩, ht⟩ := hE
          obtain ⟨t1, t2, t3⟩ := ht c23
          refine ⟨⟨z0, y109_5, hx22, fun N tr v' F => ?_⟩, fun _ => t3⟩
          obtain ⟨k1, M⟩ := hM N tr v' F
          have h3 : σ9.1 113 = 0 := Decidable.byContradiction (fun q => c23 (hG.2.1.mpr q))
          obtain ⟨⟨g1, _⟩, g2⟩ := hG.2.2.2.1 h3
          refine ⟨k1, M, fun q => absurd h3 q, fun _ => ⟨by rw [g1]; exact t1, ?_⟩⟩
          have k8 := cnk t2
          have kt := cnk (x := zI κ chTolds a0) (by omega)
          have nT : ¬ dwF9 (zR κ chMachine a0) a0 chTold a0 := fun y => by
            rcases y with y | ⟨_, y | y⟩
            · exact am.1 y
            · exact absurd y (by decide)
            · exact absurd y (by decide)
          rw [(J9.1.row W (show zr chTold = some 20 by decide +kernel) (by decide) (Ta0.trans (by decide)) nT).1]
          exact g2 _ (by omega)
  obtain ⟨J2, O2, b20, b21⟩ := i26
  have rm := J2.2.1 chMachine (by decide) (by decide)
  have tm2 : zT κ26 (zR κ chMachine a0) = 7 := J2.1.t tm (by decide)
  refine ⟨fun c30 => ?_, fun c30 => ?_⟩
  · skip
    refine hj180 _ _ _ _ _ W26 ?_ ?_
    · exact T26_0  -- t18
    · refine and_5 ?_ (fun o9 => ?_)  -- k19
      · exact ⟨rfl, J2⟩
      · intro N tr v' F
        obtain ⟨⟨⟨z1, z2, z3⟩, hA⟩, _⟩ := hE
        obtain ⟨k1, A⟩ := hA N tr v' F
        have en : x26_11 = a4 := Int32.toInt_inj.mp (by rw [lei] at c30; omega)
        rw [z1]
        exact iz_23 F k1 A (Or.inr en)
  · skip
    refine ⟨fun c31 => ?_, fun c31 => ?_⟩
    · skip
      refine hj180 _ _ _ _ _ W26 ?_ ?_
      · exact T26_0  -- t20
      · refine and_5 ?_ (fun o9 => ?_)  -- k21
        · exact ⟨rfl, J2⟩
        · intro N tr v' F
          obtain ⟨⟨⟨z1, z2, z3⟩, hA⟩, _⟩ := hE
          obtain ⟨k1, A⟩ := hA N tr v' F
          rw [rm] at c31
          rw [z1]
          exact iz_23 F k1 A (Or.inl (fun q => c31 ((am_i6 (f := 711) (by decide)).symm.trans q)))
    · skip
      intro T32
      refine Ma_act_q21 W26 T32  ?_ (fun κ_33 q34 => ?_)
      · rw [rm] at c31 ⊢
        exact ⟨J2.2.2.1, O2 c31⟩
      obtain ⟨q34, z9⟩ := q34
      have zA := z9
      intro W35
      intro M36
      rw [rm] at q34
      rw [lei] at c30
      have J3 := pf_m9 W26 tm2 J2 q34.1
      have T33 : zT κ_33 a0 = 15 := J3.1.t Ta0 (by decide)
      have rm3 := J3.2.1 chMachine (by decide) (by decide)
      rw [rm3]
      have O3 : zI κ_33 maOutcome (zR κ chMachine a0) = 0 → mO κ_33 (zR κ chMachine a0) := fun z => by
        rcases q34.2.2.1 with y | y
        · exact y
        · rw [y] at z
          exact absurd z (by decide)
      have D3 : zI κ_33 maWants (zR κ chMachine a0) = 3 ∨ zI κ_33 maWants (zR κ chMachine a0) = 4 → mO κ_33 (zR κ chMachine a0) ∧ (zI κ_33 maWays (zR κ chMachine a0)).toInt ≤ 64 := fun z => by
        have ne : zI κ_33 maWants (zR κ chMachine a0) ≠ -1 := fun y => by
          rw [y] at z
          rcases z with z | z <;> exact absurd z (by decide)
        refine ⟨q34.2.2.2.2 ne, ?_⟩
        rcases q34.2.2.2.1 with y | y | y
        · exact absurd y ne
        · exact y.2.1.2
        · have := y.2.1.2
          omega
      rw [rm] at zA
      have c32 : (am6 κ26 (zR κ chMachine a0)).1 711 = 0 := (am_i6 (f := 711) (by decide)).trans (by rw [← rm]; exact c31)
      have JJ := ja_21 hE.1 c32 c30 zA hG.2.2.2.2.2.2.1 hG.2.2.2.2.2.1
      have w3 : (am6 κ_33 (zR κ chMachine a0)).1 715 = zI κ_33 maWants (zR κ chMachine a0) := am_i6 (f := 715) (by decide)
      rw [w3] at JJ
      have JM3 : zI κ_33 maWants (zR κ chMachine a0) = 3 → JM21 nv s w (cu7 κ (zR κ chCode a0)) a4 σ9 (am6 κ_33 (zR κ chMachine a0)) x26_5 x26_7 x26_8 x26_9 x26_11 4 := fun c => ⟨JJ.1, fun N tr v' F => by
        obtain ⟨k1, y⟩ := JJ.2 N tr v' F
        rw [c] at y
        rcases y with ⟨y, _⟩ | ⟨_, y⟩ | ⟨y, _⟩
        · exact absurd y (by decide)
        · exact ⟨k1, y⟩
        · exact absurd y (by decide)⟩
      refine ⟨fun c37 => ?_, fun c37 => ?_⟩
      · skip
        refine ⟨fun c38 => ?_, fun c38 => ?_⟩
        · skip
          refine hj158 _ _ _ _ _ _ _ _ _ W35 ?_ ?_
          · exact T33  -- t23
          · refine and_5 ?_ (fun o9 => ?_)  -- k24
            · exact ⟨rfl, rfl, rfl, J3, O3, ⟨b20, by omega⟩, rfl, by omega, by omega⟩
            · refine ⟨⟨JJ.1, fun N tr v' F => ?_⟩, hE.2⟩
              obtain ⟨k1, y⟩ := JJ.2 N tr v' F
              rcases y with ⟨_, y⟩ | ⟨y, _⟩ | ⟨y, _⟩
              · exact ⟨k1, y⟩
              · exact absurd y c38
              · exact absurd y c37
        · skip
          refine ⟨fun c39 => ?_, fun c39 => ?_⟩
          · skip
            refine hj109 _ _ _ _ _ _ _ _ _ W35 ?_ ?_
            · exact T33  -- t25
            · refine and_5 ?_ (fun o9 => ?_)  -- k26
              · exact ⟨rfl, rfl, rfl, J3, D3 (Or.inl c38), ⟨b20, b21⟩, ⟨rfl, by omega⟩, fun z => absurd c39 z⟩
              · exact ⟨JM3 c38, fun z => absurd c39 z⟩
          · skip
            refine ⟨fun c40 => ?_, fun c40 => ?_⟩
            · skip
              refine hj109 _ _ _ _ _ _ _ _ _ W35 ?_ ?_
              · exact T33  -- t27
              · refine and_5 ?_ (fun o9 => ?_)  -- k28
                · refine ⟨rfl, rfl, rfl, J3, D3 (Or.inl c38), ⟨b20, b21⟩, ⟨rfl, by omega⟩, fun z => ?_⟩
                  have it : zI κ_33 chTolds a0 = zI κ chTolds a0 := J3.1.i (fun y => by
                    rcases y with y | ⟨_, y | y⟩
                    · exact am.1 y
                    · exact absurd y (by decide)
                    · exact absurd y (by decide))
                  rw [lti, it] at c40
                  omega
                · have it : zI κ_33 chTolds a0 = zI κ chTolds a0 := J3.1.i (fun y => by
                    rcases y with y | ⟨_, y | y⟩
                    · exact am.1 y
                    · exact absurd y (by decide)
                    · exact absurd y (by decide))
                  have c41 := c40
                  rw [lti, it] at c41
                  exact ⟨JM3 c38, fun _ => ⟨fun y => by rw [y] at c41; omega, b20, c41⟩⟩
            · skip
              refine hj180 _ _ _ _ _ W35 ?_ ?_
              · exact T33  -- t29
              · refine and_5 ?_ (fun o9 => ?_)  -- k30
                · exact ⟨rfl, J3⟩
                · intro N tr v' F
                  have it : zI κ_33 chTolds a0 = zI κ chTolds a0 := J3.1.i (fun y => by
                    rcases y with y | ⟨_, y | y⟩
                    · exact am.1 y
                    · exact absurd y (by decide)
                    · exact absurd y (by decide))
                  obtain ⟨z0, hM⟩ := JM3 c38
                  obtain ⟨k1, M⟩ := hM N tr v' F
                  have h3 : σ9.1 113 = 0 := Decidable.byContradiction (fun q => c39 (hG.2.1.mpr q))
                  obtain ⟨⟨g1, _⟩, g2⟩ := hG.2.2.2.1 h3
                  rw [z0.1]
                  refine ie_23 F k1 M h3 ?_
                  have dl := hE.2 c39
                  rw [lti, it] at c40
                  rw [g1]
                  exact Int32.toInt_inj.mp (by omega)
      · skip
        intro T41
        intro T42
        have A3 := ch_a9 W (ty_chAtlas W Ta0) J3.1 (fun f x z => by rcases F7 f x z with y | y <;> rw [y] <;> decide) H0
        refine At_chosen_c2 W35 T41 T42  ?_ (fun r43 q45 => ?_)
        · rw [J3.2.1 chAtlas (by decide) (by decide)]
          have ns : ∀ f x, dwF9 (zR κ chMachine a0) a0 f x → zT κ x ≠ 6 := fun f x z => by rcases F7 f x z with y | y <;> rw [y] <;> decide
          have rS3 : zR κ_33 atStates (zR κ chAtlas a0) = zR κ atStates (zR κ chAtlas a0) := J3.1.r (fun z => by
            have t3 := ty_chAtlas W Ta0
            rcases F7 _ _ z with y | y <;> rw [y] at t3 <;> exact absurd t3 (by decide))
          refine ⟨A3.1, fun z => A3.2.1 (M0 (by rw [← A3.2.2]; exact z)), fun z => ⟨?_, ?_⟩⟩
          · rw [A3.2.2] at z
            obtain ⟨n9, S9, _⟩ := hG.2.2.2.2.1.2 (fun y => z (hG.2.2.2.2.1.1.mpr y))
            rw [rS3]
            exact hoU_h6 (HS_z6 W (ty_atStates W (ty_chAtlas W Ta0)) J3.1 (fun f y => ns f _ y (ty_atStates W (ty_chAtlas W Ta0)))) S9.1
          · have yl := mO_m9 (D3 (Or.inr c37)).1
            rw [yl.1, J3.2.2.1.1.1]
            exact ⟨yl.2.2, yl.2.1⟩
        intro W46
        intro M47
        intro T48
        refine Ma_settle_q6 W46 T48  ?_ (fun κ_49 q50 => ?_)
        · exact ⟨J3.2.2.1, D3 (Or.inr c37)⟩  -- p32
        obtain ⟨q50, z9⟩ := q50
        intro W51
        intro M52
        refine hj158 _ _ _ _ _ _ _ _ _ W51 ?_ ?_
        · exact q50.1.1.t T33 (by decide)  -- t33
        · refine and_5 ?_ (fun o9 => ?_)  -- k34
          · refine ⟨rfl, rfl, rfl, pf_m9 W46 (J3.1.t tm (by decide)) J3 q50.1, fun z => ?_, ⟨b20, by omega⟩, rfl, by omega, by omega⟩
            rcases q50.2.2.1 with y | y
            · exact y
            · rw [y] at z
              exact absurd z (by decide)
          · refine ⟨⟨JJ.1, fun N tr v' F => ?_⟩, hE.2⟩
            obtain ⟨k1, y⟩ := JJ.2 N tr v' F
            rcases y with ⟨y, _⟩ | ⟨y, _⟩ | ⟨_, y⟩
            · rw [c37] at y; exact absurd y (by decide)
            · rw [c37] at y; exact absurd y (by decide)
            · refine ⟨k1, ?_⟩
              have rA3 := J3.2.1 chAtlas (by decide) (by decide)
              have tA := ty_chAtlas W Ta0
              have nA : ∀ f, ¬ dwF9 (zR κ chMachine a0) a0 f (zR κ chAtlas a0) := fun f z => by
                have t3 := tA
                rcases F7 _ _ z with q | q <;> rw [q] at t3 <;> exact absurd t3 (by decide)
              have nS : ∀ f, ¬ dwF9 (zR κ chMachine a0) a0 f (zR κ atStates (zR κ chAtlas a0)) := fun f z => by
                have t3 := ty_atStates W tA
                rcases F7 _ _ z with q | q <;> rw [q] at t3 <;> exact absurd t3 (by decide)
              have EX3 : EX21 κ_33 (zR κ chAtlas a0) w s σ9 := by
                obtain ⟨h1, h2⟩ := hG.2.2.2.2.1
                refine ⟨by rw [J3.1.i (nA atExplored)]; exact h1, fun q => ?_⟩
                obtain ⟨n9, S9, y1, y2, y3, y4⟩ := h2 q
                refine ⟨n9, ?_, y1, y2, ?_, y4⟩
                · rw [J3.1.r (nA atStates)]
                  exact SH_h6 (HS_z6 W (ty_atStates W tA) J3.1 nS) S9 rfl rfl
                · rw [(J3.1.row W (show zr atPlan = some 20 by decide +kernel) (by decide) (tA.trans (by decide)) (nA atPlan)).1]
                  exact y3
              rw [rA3] at q45
              exact ic_21 y EX3 q45 z9

end
section
set_option maxHeartbeats 1600000
/-! the class: ChanceWorks between calls; what is not touched stays -/
/-- no field of an object of this class is in the frame -/
def un9 (F : Nat → Nat → Prop) (x K : Nat) : Prop := ∀ f, f / 100 = K → ¬ F f x
theorem ta_u9 {C : zC} {n0 t : Nat} {F : Nat → Nat → Prop} {κ τ : zS} (Z : zF F κ τ) (W : zW C n0 κ) (T : zT κ t = 13) (h : un9 F t 13) (H : taI κ t ∧ tokI κ t) : (taI τ t ∧ tokI τ t) ∧ zI τ taLength t = zI κ taLength t := by
  have i : ∀ f, f / 100 = 13 → zI τ f t = zI κ f t := fun f hf => Z.i (h f hf)
  have r : ∀ f, f / 100 = 13 → zR τ f t = zR κ f t := fun f hf => Z.r (h f hf)
  have p := (Z.row W (show zr taPlaces = some 20 by decide +kernel) (by decide) T (h taPlaces (by decide))).1
  have l := (Z.row W (show zr taLengths = some 20 by decide +kernel) (by decide) T (h taLengths (by decide))).1
  refine ⟨⟨?_, ?_⟩, i _ (by decide)⟩
  · unfold taI
    rw [i taLength (by decide), i taTotal (by decide), r taBytes (by decide), r taKinds (by decide), r taPlaces (by decide), r taLengths (by decide), Z.l (ty_taBytes W T), Z.l (ty_taKinds W T), Z.l (ty_taPlaces W T), Z.l (ty_taLengths W T)]
    exact H.1
  · unfold tokI
    rw [p, l, r taBytes (by decide), r taKinds (by decide), Z.l (ty_taBytes W T), Z.l (ty_taKinds W T)]
    exact H.2
theorem co_u9 {C : zC} {n0 c : Nat} {F : Nat → Nat → Prop} {κ τ : zS} (Z : zF F κ τ) (W : zW C n0 κ) (T : zT κ c = 5) (n : un9 F c 5) : (coI κ c → coI τ c) ∧ zI τ coVars c = zI κ coVars c ∧ zI τ coCells c = zI κ coCells c := by
  have i5 : ∀ f, f ∈ coIf → f / 100 = 5 := by decide
  refine ⟨fun I => coI_g I (fun f hf => Z.i (n f (i5 f hf))) (fun f hf => Z.r (n f (coRf_r f hf).2)) (fun f hf => Z.l (coRf_t W T hf)) (fun f hf => ?_), Z.i (n _ (by decide)), Z.i (n _ (by decide))⟩
  have m : f ∈ coRf := by rcases hf with rfl | rfl <;> decide
  have r := (Z.row W (coRf_r f m).1 (by decide) (T.trans (coRf_r f m).2.symm) (n f (coRf_r f m).2)).1
  rw [Z.r (n f (coRf_r f m).2)] at r
  exact r
theorem pa_u9 {C : zC} {n0 p : Nat} {F : Nat → Nat → Prop} {κ τ : zS} (Z : zF F κ τ) (W : zW C n0 κ) (T : zT κ p = 10) (n : un9 F p 10) (H : paL κ p ∧ paC κ p) : (paL τ p ∧ paC τ p) ∧ zR τ paTape p = zR κ paTape p := by
  have i : ∀ f, f / 100 = 10 → zI τ f p = zI κ f p := fun f hf => Z.i (n f hf)
  have r : ∀ f, f / 100 = 10 → zR τ f p = zR κ f p := fun f hf => Z.r (n f hf)
  refine ⟨⟨?_, ?_⟩, r _ (by decide)⟩
  · unfold paL
    rw [r paVarNames (by decide), r paArrayNames (by decide), r paFunctionNames (by decide), r paOwnNames (by decide), r paOwners (by decide), r paLasts (by decide), r paElses (by decide), Z.l (ty_paVarNames W T), Z.l (ty_paArrayNames W T), Z.l (ty_paFunctionNames W T), Z.l (ty_paOwnNames W T), Z.l (ty_paOwners W T), Z.l (ty_paLasts W T), Z.l (ty_paElses W T)]
    exact H.1
  · unfold paC
    rw [i paOwns (by decide), i paBlocks (by decide), i paWaits (by decide), r paWaiting (by decide), Z.l (ty_paWaiting W T)]
    exact H.2
theorem ma_u9 {C : zC} {n0 m : Nat} {F : Nat → Nat → Prop} {κ τ : zS} (Z : zF F κ τ) (W : zW C n0 κ) (T : zT κ m = 7) (n : un9 F m 7) (H : maL κ m) : maL τ m := by
  have r : ∀ f, f / 100 = 7 → zR τ f m = zR κ f m := fun f hf => Z.r (n f hf)
  unfold maL
  rw [r maMemory (by decide), r maStack (by decide), r maWorked (by decide), r maValues (by decide), r maWeights (by decide), Z.l (ty_maMemory W T), Z.l (ty_maStack W T), Z.l (ty_maWorked W T), Z.l (ty_maValues W T), Z.l (ty_maWeights W T)]
  exact H
theorem ho_u9 {C : zC} {n0 h M D S : Nat} {F : Nat → Nat → Prop} {κ τ : zS} (Z : zF F κ τ) (W : zW C n0 κ) (T : zT κ h = 6) (n : un9 F h 6) : (hoI κ h M D S → hoI τ h M D S) ∧ pV9 τ h = pV9 κ h ∧ zI τ hoTotal h = zI κ hoTotal h := by
  have q : ∀ f, f = hoStarts ∨ f = hoTable ∨ f = hoPool → zR τ f h = zR κ f h ∧ zA τ (zR κ f h) = zA κ (zR κ f h) ∧ zN τ (zR κ f h) = zN κ (zR κ f h) := fun f hf => by
    have q : zr f = some 20 ∧ f / 100 = 6 := by rcases hf with rfl | rfl | rfl <;> decide +kernel
    have w := (Z.row W q.1 (by decide) (T.trans q.2.symm) (n f q.2)).1
    have e := Z.r (n f q.2)
    rw [e] at w
    exact ⟨e, w, Z.l (W.r q.1 (T.trans q.2.symm))⟩
  have t : zI τ hoTotal h = zI κ hoTotal h := Z.i (n hoTotal (by decide))
  refine ⟨fun I => hoI_f I (fun f hf => Z.i (n f hf)) q, ?_, t⟩
  funext k i
  have s := q hoStarts (Or.inl rfl)
  have p := q hoPool (Or.inr (Or.inr rfl))
  unfold pV9
  rw [t, s.1, p.1, s.2.1, p.2.1]
theorem we_u9 {C : zC} {n0 w : Nat} {F : Nat → Nat → Prop} {κ τ : zS} (Z : zF F κ τ) (W : zW C n0 κ) (T : zT κ w = 14) (n : un9 F w 14) : (weM κ w → weM τ w) ∧ (weU κ w → weU τ w) ∧ (weL κ w → weL τ w) := by
  have h : ∀ f, f ∈ weRf → zN τ (zR τ f w) = zN κ (zR κ f w) := fun f hf => by
    obtain ⟨⟨t, h1, h2⟩, h3⟩ := weRf_r f hf
    have ty := W.r h1 (T.trans h3.symm)
    have t1 : zT κ (zR κ f w) = (t - 1) + 1 := by omega
    rw [Z.r (n f h3)]
    exact Z.l t1
  refine ⟨fun M => ?_, fun M => ?_, fun M => ?_⟩
  · unfold weM
    rw [h weFirsts (by decide), h weBackFirsts (by decide), h weOpen (by decide), h weKnotFirsts (by decide), h weKnotOf (by decide), h weOrder (by decide), h weSeen (by decide), h weLow (by decide), h weCursor (by decide), h wePath (by decide), h weHeap (by decide)]
    exact M
  · unfold weU
    rw [h weFirsts (by decide), h weBackFirsts (by decide), h weOpen (by decide), h weKnotFirsts (by decide), h weKnotOf (by decide), h weOrder (by decide), h weSeen (by decide), h weLow (by decide), h weCursor (by decide), h wePath (by decide), h weHeap (by decide)]
    exact M
  · unfold weL
    rw [h weTargets (by decide), h weSources (by decide), h weEdges (by decide)]
    exact M
/-- an atlas's rows and numbers: the plan may be touched -/
theorem at_u9 {C : zC} {n0 a : Nat} {F : Nat → Nat → Prop} {κ τ : zS} (Z : zF F κ τ) (W : zW C n0 κ) (T : zT κ a = 3) (n : ∀ f, f / 100 = 3 → f ≠ atPlan → ¬ F f a) (hp : zR τ atPlan a = zR κ atPlan a) : (∀ f, f / 100 = 3 → zR τ f a = zR κ f a) ∧ (∀ f, f ∈ atRf → zN τ (zR κ f a) = zN κ (zR κ f a) ∧ (f ≠ atPlan → zA τ (zR κ f a) = zA κ (zR κ f a))) := by
  have r : ∀ f, f / 100 = 3 → zR τ f a = zR κ f a := fun f hf => by
    by_cases e : f = atPlan
    · rw [e]; exact hp
    · exact Z.r (n f hf e)
  refine ⟨r, fun f hf => ?_⟩
  obtain ⟨⟨t, h1, h2⟩, h3⟩ := atRf_r f hf
  have ty := W.r h1 (T.trans h3.symm)
  have t1 : zT κ (zR κ f a) = (t - 1) + 1 := by omega
  refine ⟨Z.l t1, fun e => ?_⟩
  have q := (Z.row W h1 h2 (T.trans h3.symm) (n f h3 e)).1
  rw [r f h3] at q
  exact q
theorem atM_u9 {a : Nat} {κ τ : zS} (g : (∀ f, f / 100 = 3 → zR τ f a = zR κ f a) ∧ (∀ f, f ∈ atRf → zN τ (zR κ f a) = zN κ (zR κ f a) ∧ (f ≠ atPlan → zA τ (zR κ f a) = zA κ (zR κ f a)))) : (atM κ a → atM τ a) ∧ (atU κ a → atU τ a) ∧ (atL κ a → atL τ a) := by
  obtain ⟨r, g⟩ := g
  refine ⟨fun A1 => ?_, fun A1 => ?_, fun A2 => ?_⟩
  · unfold atM
    rw [r atFirsts (by decide), r atTotals (by decide), r atGains (by decide), r atPlan (by decide), r atChooses (by decide), r atHopeless (by decide), (g atFirsts (by decide)).1, (g atTotals (by decide)).1, (g atGains (by decide)).1, (g atPlan (by decide)).1, (g atChooses (by decide)).1, (g atHopeless (by decide)).1]
    exact A1
  · unfold atU
    rw [r atFirsts (by decide), r atTotals (by decide), r atGains (by decide), r atPlan (by decide), r atChooses (by decide), r atHopeless (by decide), (g atFirsts (by decide)).1, (g atTotals (by decide)).1, (g atGains (by decide)).1, (g atPlan (by decide)).1, (g atChooses (by decide)).1, (g atHopeless (by decide)).1]
    exact A1
  · unfold atL
    rw [r atSorts (by decide), r atNumbers (by decide), r atWeights (by decide), (g atSorts (by decide)).1, (g atNumbers (by decide)).1, (g atWeights (by decide)).1]
    exact A2
/-- atW stays, both ways -/
theorem atW_u9 {a n : Nat} {κ τ : zS} (g : (∀ f, f / 100 = 3 → zR τ f a = zR κ f a) ∧ (∀ f, f ∈ atRf → zN τ (zR κ f a) = zN κ (zR κ f a) ∧ (f ≠ atPlan → zA τ (zR κ f a) = zA κ (zR κ f a)))) (ix : zI τ atNexts a = zI κ atNexts a) (is : zI τ hoTotal (zR κ atStates a) = zI κ hoTotal (zR κ atStates a)) (ie : zI τ hoTotal (zR κ atEndings a) = zI κ hoTotal (zR κ atEndings a)) : atW τ a n ↔ atW κ a n := by
  obtain ⟨r, g⟩ := g
  unfold atW atM atL exK
  rw [r atFirsts (by decide), r atTotals (by decide), r atGains (by decide), r atPlan (by decide), r atChooses (by decide), r atHopeless (by decide), r atSorts (by decide), r atNumbers (by decide), r atWeights (by decide), r atStates (by decide), r atEndings (by decide), is, ie, ix, (g atFirsts (by decide)).1, (g atTotals (by decide)).1, (g atGains (by decide)).1, (g atPlan (by decide)).1, (g atChooses (by decide)).1, (g atHopeless (by decide)).1, (g atSorts (by decide)).1, (g atNumbers (by decide)).1, (g atWeights (by decide)).1, (g atFirsts (by decide)).2 (by decide), (g atTotals (by decide)).2 (by decide), (g atChooses (by decide)).2 (by decide), (g atSorts (by decide)).2 (by decide), (g atNumbers (by decide)).2 (by decide), (g atWeights (by decide)).2 (by decide)]

end
section
set_option maxHeartbeats 1600000
/-! what is seen of the class's tape and fault -/
def oC9 (κ : zS) (a : Nat) : Ob9 := mkO9 (zA κ (zR κ taBytes (zR κ chTape a))) (zI κ taLength (zR κ chTape a)) (zI κ chFaultCode a)
theorem oC_u9 {C : zC} {n0 a : Nat} {F : Nat → Nat → Prop} {κ τ : zS} (W : zW C n0 κ) (T : zT κ a = 15) (Z : zF F κ τ) (n1 : ¬ F chTape a) (n2 : ¬ F chFaultCode a) (n3 : ¬ F taLength (zR κ chTape a)) (n4 : ¬ F taBytes (zR κ chTape a)) : oC9 τ a = oC9 κ a := by
  have A := (Z.row W (show zr taBytes = some 21 by decide +kernel) (by decide) (ty_chTape W T) n4).1
  unfold oC9
  rw [Z.r n1, A, Z.i n3, Z.i n2]
theorem oC_v9 {C : zC} {n0 a : Nat} {F : Nat → Nat → Prop} {κ τ : zS} (W : zW C n0 κ) (T : zT κ a = 15) (Z : zF F κ τ) (h1 : un9 F a 15) (h2 : un9 F (zR κ chTape a) 13) : oC9 τ a = oC9 κ a := oC_u9 W T Z (h1 _ (by decide)) (h1 _ (by decide)) (h2 _ (by decide)) (h2 _ (by decide))
/-- the class's code stays -/
def tC21 (κ : zS) (a : Nat) : Int32 × (Nat → Int32) := (zI κ chTolds a, zA κ (zR κ chTold a))
theorem tC_z21 {C : zC} {n0 a : Nat} {F : Nat → Nat → Prop} {κ τ : zS} (W : zW C n0 κ) (T : zT κ a = 15) (Z : zF F κ τ) (n4 : ¬ F chTolds a) (n5 : ¬ F chTold a) : tC21 τ a = tC21 κ a := by
  unfold tC21
  rw [Z.i n4, (Z.row W (show zr chTold = some 20 by decide +kernel) (by decide) (T.trans (by decide)) n5).1]
def kD7 (κ κ' : zS) (a : Nat) : Prop := zI κ' chReady a = zI κ chReady a ∧ cu7 κ' (zR κ' chCode a) = cu7 κ (zR κ chCode a)
def pq23 (κ : zS) (a : Nat) : Int32 × (Nat → Int64) × (Nat → Int32) := (zI κ chPlayMade a, zJ κ (zR κ chRecord a), zA κ (zR κ chLastShared a))
theorem pq_z23 {C : zC} {n0 a : Nat} {F : Nat → Nat → Prop} {κ τ : zS} (W : zW C n0 κ) (T : zT κ a = 15) (Z : zF F κ τ) (n1 : ¬ F chPlayMade a) (n2 : ¬ F chRecord a) (n3 : ¬ F chLastShared a) : pq23 τ a = pq23 κ a := by
  unfold pq23
  rw [Z.i n1, (Z.row W (show zr chRecord = some 22 by decide +kernel) (by decide) (T.trans (by decide)) n2).2.1, (Z.row W (show zr chLastShared = some 20 by decide +kernel) (by decide) (T.trans (by decide)) n3).1]
def kC6 (κ κ' : zS) (a : Nat) : Prop := zI κ' chReady a = zI κ chReady a ∧ cu7 κ' (zR κ' chCode a) = cu7 κ (zR κ chCode a) ∧ tC21 κ' a = tC21 κ a
def kC7 (κ κ' : zS) (a : Nat) : Prop := zI κ' chReady a = zI κ chReady a ∧ cu7 κ' (zR κ' chCode a) = cu7 κ (zR κ chCode a) ∧ tC21 κ' a = tC21 κ a ∧ pq23 κ' a = pq23 κ a
theorem kC_d7 {κ κ' : zS} {a : Nat} (h : kC7 κ κ' a) : kD7 κ κ' a := ⟨h.1, h.2.1⟩
def pC7 (κ κ' : zS) (a : Nat) : Prop := oC9 κ' a = oC9 κ a ∧ kC7 κ κ' a
theorem kD_z7 {C : zC} {n0 a : Nat} {F : Nat → Nat → Prop} {κ τ : zS} (W : zW C n0 κ) (T : zT κ a = 15) (Z : zF F κ τ) (n1 : ¬ F chReady a) (n2 : ¬ F chCode a) (h3 : un9 F (zR κ chCode a) 5) : kD7 κ τ a := ⟨Z.i n1, by rw [Z.r n2]; exact cu_f7 W (ty_chCode W T) Z h3⟩
theorem kC_z6 {C : zC} {n0 a : Nat} {F : Nat → Nat → Prop} {κ τ : zS} (W : zW C n0 κ) (T : zT κ a = 15) (Z : zF F κ τ) (n1 : ¬ F chReady a) (n2 : ¬ F chCode a) (n4 : ¬ F chTolds a) (n5 : ¬ F chTold a) (h3 : un9 F (zR κ chCode a) 5) : kC6 κ τ a := ⟨(kD_z7 W T Z n1 n2 h3).1, (kD_z7 W T Z n1 n2 h3).2, tC_z21 W T Z n4 n5⟩
theorem kC_z7 {C : zC} {n0 a : Nat} {F : Nat → Nat → Prop} {κ τ : zS} (W : zW C n0 κ) (T : zT κ a = 15) (Z : zF F κ τ) (n1 : ¬ F chReady a) (n2 : ¬ F chCode a) (n4 : ¬ F chTolds a) (n5 : ¬ F chTold a) (n6 : ¬ F chPlayMade a) (n7 : ¬ F chRecord a) (n8 : ¬ F chLastShared a) (h3 : un9 F (zR κ chCode a) 5) : kC7 κ τ a := ⟨(kD_z7 W T Z n1 n2 h3).1, (kD_z7 W T Z n1 n2 h3).2, tC_z21 W T Z n4 n5, pq_z23 W T Z n6 n7 n8⟩
theorem pC_v7 {C : zC} {n0 a : Nat} {F : Nat → Nat → Prop} {κ τ : zS} (W : zW C n0 κ) (T : zT κ a = 15) (Z : zF F κ τ) (h1 : un9 F a 15) (h2 : un9 F (zR κ chTape a) 13) (h3 : un9 F (zR κ chCode a) 5) : pC7 κ τ a := ⟨oC_v9 W T Z h1 h2, kC_z7 W T Z (h1 _ (by decide)) (h1 _ (by decide)) (h1 _ (by decide)) (h1 _ (by decide)) (h1 _ (by decide)) (h1 _ (by decide)) (h1 _ (by decide)) h3⟩
theorem kC_t7 {κ τ υ : zS} {a : Nat} (h : kC7 κ τ a) (g : kC7 τ υ a) : kC7 κ υ a := ⟨g.1.trans h.1, g.2.1.trans h.2.1, g.2.2.1.trans h.2.2.1, g.2.2.2.trans h.2.2.2⟩
theorem pC_t7 {κ τ υ : zS} {a : Nat} (h : pC7 κ τ a) (g : pC7 τ υ a) : pC7 κ υ a := ⟨g.1.trans h.1, kC_t7 h.2 g.2⟩
/-- what holds of both sides between calls -/
def RC7 (κ : zS) (a : Nat) (σ : rS) : Prop := oR9 σ = oC9 κ a ∧ (σ.1 14 = 0 ↔ zI κ chReady a = 0) ∧ (σ.1 14 ≠ 0 → ∃ nv s w, CR7 nv s w (cu7 κ (zR κ chCode a)) σ)
theorem rk_d7 {κ κ' : zS} {a : Nat} {σ σ' : rS} (k : kR7 σ σ') (h : RC7 κ a σ) (c : kD7 κ κ' a) (o : oR9 σ' = oC9 κ' a) : RC7 κ' a σ' := by
  have e14 : σ'.1 14 = σ.1 14 := k.1 14 (by decide)
  refine ⟨o, by rw [e14, c.1]; exact h.2.1, fun z => ?_⟩
  rw [e14] at z
  obtain ⟨nv, s, w, g⟩ := h.2.2 z
  refine ⟨nv, s, w, ?_⟩
  rw [c.2]
  exact CR_k7 g k
theorem rk_7 {κ κ' : zS} {a : Nat} {σ σ' : rS} (k : kR7 σ σ') (h : RC7 κ a σ) (c : kC7 κ κ' a) (o : oR9 σ' = oC9 κ' a) : RC7 κ' a σ' := rk_d7 k h (kC_d7 c) o
theorem re_7 {κ κ' : zS} {a : Nat} {σ σ' : rS} (k : pR7 σ σ') (h : RC7 κ a σ) (c : pC7 κ κ' a) : RC7 κ' a σ' := rk_7 k.2 h c.2 (k.1.trans (h.1.trans c.1.symm))
/-- what the class has explored stays -/
def plC8 (κ : zS) (a : Nat) : Nat → Int32 := zA κ (zR κ atPlan (zR κ chAtlas a))
/-- the same, the plan aside -/
def hs21 (κ : zS) (a : Nat) : Nat × (Nat → Int32) := (zR κ atStates (zR κ chAtlas a), zA κ (zR κ hoTable (zR κ atStates (zR κ chAtlas a))))
def kB8 (κ κ' : zS) (a : Nat) : Prop := zI κ' atExplored (zR κ' chAtlas a) = zI κ atExplored (zR κ chAtlas a) ∧ av8 κ' (zR κ' chAtlas a) = av8 κ (zR κ chAtlas a) ∧ zR κ' chAtlas a = zR κ chAtlas a ∧ hs21 κ' a = hs21 κ a
def kA8 (κ κ' : zS) (a : Nat) : Prop := zI κ' atExplored (zR κ' chAtlas a) = zI κ atExplored (zR κ chAtlas a) ∧ (av8 κ' (zR κ' chAtlas a), plC8 κ' a, zR κ' chAtlas a, hs21 κ' a) = (av8 κ (zR κ chAtlas a), plC8 κ a, zR κ chAtlas a, hs21 κ a)
theorem kA_b8 {κ κ' : zS} {a : Nat} (h : kA8 κ κ' a) : kB8 κ κ' a := ⟨h.1, (Prod.mk.inj h.2).1, (Prod.mk.inj (Prod.mk.inj (Prod.mk.inj h.2).2).2).1, (Prod.mk.inj (Prod.mk.inj (Prod.mk.inj h.2).2).2).2⟩
def pB8 (κ κ' : zS) (a : Nat) : Prop := pC7 κ κ' a ∧ kB8 κ κ' a
def pC8 (κ κ' : zS) (a : Nat) : Prop := pC7 κ κ' a ∧ kA8 κ κ' a
theorem kB_z8 {C : zC} {n0 a : Nat} {F : Nat → Nat → Prop} {κ τ : zS} (W : zW C n0 κ) (T : zT κ a = 15) (Z : zF F κ τ) (n1 : ¬ F chAtlas a) (h : ∀ f, f / 100 = 3 → f ≠ atPlan → ¬ F f (zR κ chAtlas a)) (h1 : un9 F (zR κ atStates (zR κ chAtlas a)) 6) (h2 : un9 F (zR κ atEndings (zR κ chAtlas a)) 6) : kB8 κ τ a := by
  have tA := ty_chAtlas W T
  have r1 : zR τ chAtlas a = zR κ chAtlas a := Z.r n1
  have r2 : zR τ atStates (zR κ chAtlas a) = zR κ atStates (zR κ chAtlas a) := Z.r (h _ (by decide) (by decide))
  have h5 := (Z.row W (show zr hoTable = some 20 by decide +kernel) (by decide) (ty_atStates W tA) (h1 hoTable (by decide))).1
  unfold kB8 hs21
  rw [r1, r2, h5]
  exact ⟨Z.i (h _ (by decide) (by decide)), av_f8 W tA Z h h1 h2, rfl, rfl⟩
theorem kA_z8 {C : zC} {n0 a : Nat} {F : Nat → Nat → Prop} {κ τ : zS} (W : zW C n0 κ) (T : zT κ a = 15) (Z : zF F κ τ) (n1 : ¬ F chAtlas a) (h : ∀ f, f / 100 = 3 → True → ¬ F f (zR κ chAtlas a)) (h1 : un9 F (zR κ atStates (zR κ chAtlas a)) 6) (h2 : un9 F (zR κ atEndings (zR κ chAtlas a)) 6) : kA8 κ τ a := by
  have b := kB_z8 W T Z n1 (fun f hf _ => h f hf trivial) h1 h2
  refine ⟨b.1, ?_⟩
  have p : plC8 τ a = plC8 κ a := by
    unfold plC8
    rw [Z.r n1]
    exact (Z.row W (show zr atPlan = some 20 by decide +kernel) (by decide) (ty_chAtlas W T) (h atPlan (by decide) trivial)).1
  rw [b.2.1, p, b.2.2.1, b.2.2.2]
theorem kA_t8 {κ τ υ : zS} {a : Nat} (h : kA8 κ τ a) (g : kA8 τ υ a) : kA8 κ υ a := ⟨g.1.trans h.1, g.2.trans h.2⟩
theorem pC_t8 {κ τ υ : zS} {a : Nat} (h : pC8 κ τ a) (g : pC8 τ υ a) : pC8 κ υ a := ⟨pC_t7 h.1 g.1, kA_t8 h.2 g.2⟩
/-- draws told, of both sides -/
def RT21 (κ : zS) (a : Nat) (σ : rS) : Prop := σ.1 104 = zI κ chTolds a ∧ ∀ j, j < (zI κ chTolds a).toNatClampNeg → zA κ (zR κ chTold a) j = σ.2.2.1 105 j

theorem RT_k21 {κ κ' : zS} {a : Nat} {σ σ' : rS} (h : RT21 κ a σ) (c : tC21 κ' a = tC21 κ a) (k : kD20 σ σ') : RT21 κ' a σ' := by
  have c1 : zI κ' chTolds a = zI κ chTolds a := (Prod.mk.inj c).1
  have c2 : zA κ' (zR κ' chTold a) = zA κ (zR κ chTold a) := (Prod.mk.inj c).2
  unfold RT21
  rw [c1, c2, k.1, k.2]
  exact h
/-- the last play's record, of both sides -/
def RP23 (κ : zS) (a : Nat) (σ : rS) : Prop := (zI κ chPlayMade a = 0 ↔ σ.1 106 = -1) ∧ (σ.1 106 ≠ -1 → (zJ κ (zR κ chRecord a) 0 = (σ.1 106).toInt64 ∧ zJ κ (zR κ chRecord a) 1 = (σ.1 107).toInt64 ∧ zJ κ (zR κ chRecord a) 2 = (σ.1 108).toInt64 ∧ zJ κ (zR κ chRecord a) 3 = (σ.1 109).toInt64 ∧ zJ κ (zR κ chRecord a) 4 = σ.2.1 110) ∧ ∀ i : Nat, (i : Int) < ((cu7 κ (zR κ chCode a)).1 coVars).toInt + ((cu7 κ (zR κ chCode a)).1 coCells).toInt → zA κ (zR κ chLastShared a) i = σ.2.2.1 111 i)
theorem RP_k23 {κ κ' : zS} {a : Nat} {σ σ' : rS} (h : RP23 κ a σ) (c : cu7 κ' (zR κ' chCode a) = cu7 κ (zR κ chCode a)) (p : pq23 κ' a = pq23 κ a) (k : kP23 σ σ') : RP23 κ' a σ' := by
  have c1 : zI κ' chPlayMade a = zI κ chPlayMade a := (Prod.mk.inj p).1
  have c2 : zJ κ' (zR κ' chRecord a) = zJ κ (zR κ chRecord a) := (Prod.mk.inj (Prod.mk.inj p).2).1
  have c3 : zA κ' (zR κ' chLastShared a) = zA κ (zR κ chLastShared a) := (Prod.mk.inj (Prod.mk.inj p).2).2
  unfold RP23
  rw [c1, c2, c3, c, k.1 106 (by decide), k.1 107 (by decide), k.1 108 (by decide), k.1 109 (by decide), k.2.1, k.2.2]
  exact h
/-- the states' store, of both sides; states that choose have as many nexts as ways -/
def TX21 (κ : zS) (a : Nat) (σ : rS) : Prop := ∃ nv s w, CR7 nv s w (cu7 κ (zR κ chCode a)) σ ∧ (∃ n, SH6 κ (zR κ atStates (zR κ chAtlas a)) w s n σ ∧ σ.1 70 = Int32.ofNat n ∧ HT6 n σ) ∧ TW21 nv s w (cu7 κ (zR κ chCode a)) σ
theorem s150_21 {nv s w : Nat} {e : E5} {σ : rS} (c : CR7 nv s w e σ) : s ≤ 150 := by
  obtain ⟨T, X, Bk, N, Z, na, f, _, F, _⟩ := c
  exact F.1.2.2.2.1.2
theorem SH_w21 {κ τ : zS} {h w s n : Nat} {σ σ' : rS} (H : HS6 κ τ h) (k : SH6 κ h w s n σ) (hs : s ≤ 150) (h30 : ∀ i, i < 150 → σ'.2.2.1 30 i = σ.2.2.1 30 i) (h73 : σ'.2.2.1 73 = σ.2.2.1 73) : SH6 τ h w s n σ' := by
  obtain ⟨k1, k2, k3, k4⟩ := k
  refine ⟨hoU_h6 H k1, H.2.2.2.trans k2, k3, fun g hg => ?_⟩
  obtain ⟨d, K, ⟨a1, a2, a3, a4, a5, a6, a7, a8⟩, b⟩ := k4 g hg
  rw [h73]
  refine ⟨d, K, ⟨a1, a2, a3, a4, a5, a6, fun c hc => ?_, a8⟩, hkS_h6 H b⟩
  obtain ⟨j, j1, j2, j3⟩ := a7 c hc
  exact ⟨j, j1, j2, by rw [h30 j (by omega)]; exact j3⟩
theorem TW_k21 {nv s w : Nat} {cu : E5} {σ σ' : rS} (h : TW21 nv s w cu σ) (k : kT7 σ σ') : TW21 nv s w cu σ' := by
  unfold TW21
  rw [k.1 70 (by decide), k.2 81 (by decide), k.2 73 (by decide), k.2 76 (by decide)]
  exact h
theorem TX_k21 {κ κ' : zS} {a : Nat} {σ σ' : rS} (h : TX21 κ a σ) (k : kR7 σ σ') (k2 : kT7 σ σ') (c : cu7 κ' (zR κ' chCode a) = cu7 κ (zR κ chCode a)) (c2 : kB8 κ κ' a) : TX21 κ' a σ' := by
  obtain ⟨nv, s, w, g1, ⟨n, g2, g3, g4⟩, g5⟩ := h
  obtain ⟨_, b1, b2, b3⟩ := c2
  have r3 : zR κ' atStates (zR κ' chAtlas a) = zR κ atStates (zR κ chAtlas a) := (Prod.mk.inj b3).1
  have t3 : zA κ' (zR κ' hoTable (zR κ' atStates (zR κ' chAtlas a))) = zA κ (zR κ hoTable (zR κ atStates (zR κ chAtlas a))) := (Prod.mk.inj b3).2
  have u0 : zI κ' hoTotal (zR κ' atStates (zR κ' chAtlas a)) = zI κ hoTotal (zR κ atStates (zR κ chAtlas a)) := congrArg (fun v : Av8 => v.1 0) b1
  have u1 : zA κ' (zR κ' hoStarts (zR κ' atStates (zR κ' chAtlas a))) = zA κ (zR κ hoStarts (zR κ atStates (zR κ chAtlas a))) := congrArg (fun v : Av8 => v.2 0) b1
  have u2 : zA κ' (zR κ' hoPool (zR κ' atStates (zR κ' chAtlas a))) = zA κ (zR κ hoPool (zR κ atStates (zR κ chAtlas a))) := congrArg (fun v : Av8 => v.2 1) b1
  rw [r3] at t3 u0 u1 u2
  have H : HS6 κ κ' (zR κ atStates (zR κ chAtlas a)) := ⟨u1, u2, t3, u0⟩
  refine ⟨nv, s, w, by rw [c]; exact CR_k7 g1 k, ⟨n, ?_, by rw [k2.1 70 (by decide)]; exact g3, fun j hj => ?_⟩, by rw [c]; exact TW_k21 g5 k2⟩
  · rw [r3]
    exact SH_w21 H g2 (s150_21 g1) (fun i hi => k.2.1 (30, 157, 150) (by decide) i hi) (k2.2 73 (by decide))
  · rw [k2.2 74 (by decide), k2.2 73 (by decide)]
    exact g4 j hj
def RA8 (κ : zS) (a : Nat) (σ : rS) : Prop := (σ.1 69 = 0 ↔ zI κ atExplored (zR κ chAtlas a) = 0) ∧ (σ.1 69 ≠ 0 → (∃ nv s w, CR7 nv s w (cu7 κ (zR κ chCode a)) σ ∧ AT8 w s (av8 κ (zR κ chAtlas a)) σ) ∧ HQ8 (av8 κ (zR κ chAtlas a)) σ ∧ RQ8 (av8 κ (zR κ chAtlas a)) σ ∧ ZQ8 σ ∧ PL8 (plC8 κ a) σ ∧ TX21 κ a σ) ∧ (σ.1 69 = 0 → no8 σ) ∧ RT21 κ a σ ∧ RP23 κ a σ
def RC8 (κ : zS) (a : Nat) (σ : rS) : Prop := RC7 κ a σ ∧ RA8 κ a σ
theorem rc_21 {κ κ' : zS} {a : Nat} {σ σ' : rS} (k : kR7 σ σ') (k2 : kT7 σ σ') (h : RA8 κ a σ) (c : kD7 κ κ' a) (c2 : kB8 κ κ' a) (p : σ.1 69 ≠ 0 → PL8 (plC8 κ a) σ → PL8 (plC8 κ' a) σ') (t : RT21 κ' a σ' ∧ RP23 κ' a σ') : RA8 κ' a σ' := by
  have e69 : σ'.1 69 = σ.1 69 := k2.1 69 (by decide)
  refine ⟨by rw [e69, c2.1]; exact h.1, fun z => ?_, fun z => no_k8 (h.2.2.1 (by rw [← e69]; exact z)) k2, t⟩
  rw [e69] at z
  obtain ⟨⟨nv, s, w, g1, g2⟩, g3, g4, g5, g6, g7⟩ := h.2.1 z
  refine ⟨⟨nv, s, w, ?_, ?_⟩, by rw [c2.2.1]; exact ⟨HQ_k8 g3 k2, RQ_k8 g4 k2, ZQ_k8 g5 k2, p z g6, TX_k21 g7 k k2 c.2 c2⟩⟩
  · rw [c.2]
    exact CR_k7 g1 k
  · rw [c2.2.1]
    exact AT_k8 g2 (fun g q => k2.1 g (by rcases q with q | q | q <;> rw [q] <;> decide)) (fun g q => k2.2 g ((by decide : ∀ g, g ∈ kt8 → g ∈ ky7) g q))
theorem rc_8 {κ κ' : zS} {a : Nat} {σ σ' : rS} (k : kR7 σ σ') (k2 : kT8 σ σ') (h : RA8 κ a σ) (c : kC7 κ κ' a) (c2 : kB8 κ κ' a) (p : σ.1 69 ≠ 0 → PL8 (plC8 κ a) σ → PL8 (plC8 κ' a) σ') : RA8 κ' a σ' := rc_21 k (kT_7 k2) h (kC_d7 c) c2 p ⟨RT_k21 h.2.2.2.1 c.2.2.1 ⟨k2.1 104 (by decide), k2.2.1 105 (by decide)⟩, RP_k23 h.2.2.2.2 c.2.1 c.2.2.2 (kP_t23 k2)⟩
theorem pl_21 {κ κ' : zS} {a : Nat} {σ σ' : rS} (k2 : kX7 σ σ') (c2 : kA8 κ κ' a) : σ.1 69 ≠ 0 → PL8 (plC8 κ a) σ → PL8 (plC8 κ' a) σ' := fun _ g j hj => by
  rw [k2.1 70 (by decide)] at hj
  rw [show plC8 κ' a = plC8 κ a from (Prod.mk.inj (Prod.mk.inj c2.2).2).1, k2.2 83 (by decide)]
  exact g j hj
theorem ra_8 {κ κ' : zS} {a : Nat} {σ σ' : rS} (k : kR7 σ σ') (k2 : kS8 σ σ') (h : RA8 κ a σ) (c : kC7 κ κ' a) (c2 : kA8 κ κ' a) : RA8 κ' a σ' := rc_8 k (kS_t8 k2) h c (kA_b8 c2) (fun _ g j hj => by
  rw [k2.1 70 (by decide)] at hj
  rw [show plC8 κ' a = plC8 κ a from (Prod.mk.inj (Prod.mk.inj c2.2).2).1, k2.2.1 83 (by decide)]
  exact g j hj)
theorem re_8 {κ κ' : zS} {a : Nat} {σ σ' : rS} (k : pR8 σ σ') (h : RC8 κ a σ) (c : pC8 κ κ' a) : RC8 κ' a σ' := ⟨re_7 k.1 h.1 c.1, ra_8 k.1.2 k.2 h.2 c.1.2 c.2⟩
theorem pC_w8 {κ τ : zS} {a : Nat} {P Q : Prop} (h : kA8 κ τ a) (g : P ∧ Q ∧ pC7 κ τ a) : P ∧ Q ∧ pC8 κ τ a := ⟨g.1, g.2.1, g.2.2, h⟩
theorem pB_w8 {κ τ : zS} {a : Nat} {P Q : Prop} (h : kB8 κ τ a) (g : P ∧ Q ∧ pC7 κ τ a) : P ∧ Q ∧ pB8 κ τ a := ⟨g.1, g.2.1, g.2.2, h⟩
theorem pC_b8 {κ τ : zS} {a : Nat} {P Q : Prop} (h : kA8 κ τ a) (g : P ∧ Q ∧ pB8 κ τ a) : P ∧ Q ∧ pC8 κ τ a := ⟨g.1, g.2.1, g.2.2.1, h⟩
/-- decide, best: what they leave -/
def pDc8 (κ κ' : zS) (a : Nat) (σ : rS) (k c : Int32) : Prop := pB8 κ κ' a ∧ (dc8 σ k c → plC8 κ' a = upd (plC8 κ a) k.toNatClampNeg c) ∧ (¬ dc8 σ k c → plC8 κ' a = plC8 κ a)
theorem rd_8 {κ κ' : zS} {a : Nat} {σ σ' : rS} {x y : Int32} (k : pD8 x y σ σ') (ht : RC8 κ a σ) (c : pDc8 κ κ' a σ x y) : RC8 κ' a σ' := ⟨re_7 k.1.1 ht.1 c.1.1, rc_8 k.1.1.2 k.1.2 ht.2 c.1.1.2 c.1.2 (fun _ g j hj => by
  rw [k.1.2.1 70 (by decide)] at hj
  by_cases z : dc8 σ x y
  · rw [c.2.1 z, k.2.1 z]
    by_cases e : j = x.toNatClampNeg
    · rw [e, upd_eq, upd_eq]
    · rw [upd_ne e, upd_ne e]
      exact g j hj
  · rw [c.2.2 z, k.2.2 z]
    exact g j hj)⟩
def bp9 (κ κ' : zS) (t : Nat) (σ : rS) : Prop := (bv8 σ = 0 → ∀ k, k < (σ.1 70).toNatClampNeg → zA κ' (zR κ' atPlan t) k = pbW8 σ k) ∧ (bv8 σ ≠ 0 → zA κ' (zR κ' atPlan t) = zA κ (zR κ atPlan t))
def BB9 (κ κ' : zS) (a : Nat) (σ : rS) : Prop := pB8 κ κ' a ∧ (bc8 σ → bp9 κ κ' (zR κ chAtlas a) σ)
theorem rb_8 {κ κ' : zS} {a : Nat} {σ σ' : rS} {v : Int32} (ht : RC8 κ a σ) (k : pR7 σ σ' ∧ kT8 σ σ') (X : XB8 σ σ' v) (c : BB9 κ κ' a σ) : RC8 κ' a σ' := by
  refine ⟨re_7 k.1 ht.1 c.1.1, rc_8 k.1.2 k.2 ht.2 c.1.1.2 c.1.2 (fun ex g j hj => ?_)⟩
  obtain ⟨b0, b1⟩ := c.2 ex
  rw [k.2.1 70 (by decide)] at hj
  have gj : zA κ (zR κ atPlan (zR κ chAtlas a)) j = σ.2.2.1 83 j := g j hj
  show zA κ' (zR κ' atPlan (zR κ' chAtlas a)) j = _
  rw [c.1.2.2.2.1]
  rcases X with ⟨z, _⟩ | ⟨_, _, X⟩
  · exact absurd z ex
  · rcases X with ⟨h1, h2, bk⟩ | ⟨h1, ⟨h2, h3, bk⟩ | ⟨h2, h3, _⟩⟩
    · rw [b1 (by rw [bv_28 h1]; decide), bk.1 83 (Or.inl rfl)]; exact gj
    · rw [b1 (by rw [bv_38 h1 h3]; decide), bk.1 83 (Or.inl rfl)]; exact gj
    · rw [b0 (bv_08 h1 (fun k hk => (h3 k hk).2.1)) j hj]; exact (h3 j hj).2.2.symm
/-- tell, forget: what they leave -/
def TL21 (κ κ' : zS) (a : Nat) (p : Int32) : Prop := (oC9 κ' a = oC9 κ a ∧ kD7 κ κ' a ∧ pq23 κ' a = pq23 κ a) ∧ kA8 κ κ' a ∧ ((zI κ chTolds a < 200 ∧ zI κ' chTolds a = zI κ chTolds a + 1 ∧ zA κ' (zR κ' chTold a) = upd (zA κ (zR κ chTold a)) (zI κ chTolds a).toNatClampNeg p) ∨ (¬ zI κ chTolds a < 200 ∧ tC21 κ' a = tC21 κ a))
def FG21 (κ κ' : zS) (a : Nat) : Prop := (oC9 κ' a = oC9 κ a ∧ kD7 κ κ' a ∧ pq23 κ' a = pq23 κ a) ∧ kA8 κ κ' a ∧ zI κ' chTolds a = 0
theorem tlk_21 {κ κ' : zS} {a : Nat} {σ σ' : rS} {p : Int32} (ht : RC8 κ a σ) (b : 0 ≤ (zI κ chTolds a).toInt ∧ (zI κ chTolds a).toInt ≤ 200) (k : pL21 p σ σ' ∧ kP23 σ σ') (c : TL21 κ κ' a p) : RC8 κ' a σ' := by
  obtain ⟨⟨⟨k1, k2⟩, k3, k4, k5⟩, kp⟩ := k
  obtain ⟨⟨c1, c2, c5⟩, c3, c4⟩ := c
  refine ⟨rk_d7 k2 ht.1 c2 (k1.trans (ht.1.1.trans c1.symm)), rc_21 k2 (kX_7 k3) ht.2 c2 (kA_b8 c3) (pl_21 k3 c3) ⟨?_, RP_k23 ht.2.2.2.2.2 c2.2 c5 kp⟩⟩
  obtain ⟨r1, r2⟩ := ht.2.2.2.2.1
  have l200 : (200 : Int32).toInt = 200 := rfl
  rcases c4 with ⟨z1, z2, z3⟩ | ⟨z1, z2⟩
  · have n200 : σ.1 104 ≠ 200 := fun e => by rw [← r1, e] at z1; exact absurd z1 (by decide)
    obtain ⟨q1, q2⟩ := k5 n200
    rw [lti, l200] at z1
    have cn := cnk b.1
    refine ⟨by rw [q1, z2, r1], fun j hj => ?_⟩
    rw [z2, (cn1 b.1 (by omega)).1] at hj
    rw [z3, q2, r1]
    by_cases e : j = (zI κ chTolds a).toNatClampNeg
    · rw [e, upd_eq, upd_eq]
    · rw [upd_ne e, upd_ne e]
      exact r2 j (by omega)
  · have e : σ.1 104 = 200 := by
      rw [lti, l200] at z1
      rw [r1]
      exact Int32.toInt_inj.mp (by rw [l200]; omega)
    obtain ⟨q1, q2⟩ := k4 e
    exact RT_k21 ⟨r1, r2⟩ z2 ⟨by rw [q1, e], q2⟩
theorem fgk_21 {κ κ' : zS} {a : Nat} {σ σ' : rS} (ht : RC8 κ a σ) (k : pO21 σ σ' ∧ kP23 σ σ') (c : FG21 κ κ' a) : RC8 κ' a σ' := by
  obtain ⟨⟨⟨k1, k2⟩, k3, k4⟩, kp⟩ := k
  obtain ⟨⟨c1, c2, c5⟩, c3, c4⟩ := c
  refine ⟨rk_d7 k2 ht.1 c2 (k1.trans (ht.1.1.trans c1.symm)), rc_21 k2 (kX_7 k3) ht.2 c2 (kA_b8 c3) (pl_21 k3 c3) ⟨⟨k4.trans c4.symm, fun j hj => ?_⟩, RP_k23 ht.2.2.2.2.2 c2.2 c5 kp⟩⟩
  rw [c4] at hj
  exact absurd hj (Nat.not_lt_zero _)
/-- explored states' store out of what exploring leaves -/
theorem SX_21 {u s w l t : Nat} {κ : zS} {σ : rS} (h : DX6 u s w l κ t σ) : ∃ n, SH6 κ (zR κ atStates t) w s n σ ∧ σ.1 70 = Int32.ofNat n ∧ HT6 n σ := by
  obtain ⟨_, _, ⟨n2, m, x, SH, EH, ⟨f1, _⟩, _, HT, _⟩, _⟩ := h
  exact ⟨n2, SH, f1, HT⟩
/-- play, walk: what they leave -/
def PY23 (κ κ' : zS) (a : Nat) (m : Int32) (σ σ9 : rS) : Prop := (oC9 κ' a = oC9 κ a ∧ kC6 κ κ' a) ∧ kA8 κ κ' a ∧ (cy21 σ m = 0 → ∃ w : Nat, ((w : Int) = ((cu7 κ (zR κ chCode a)).1 coVars).toInt + ((cu7 κ (zR κ chCode a)).1 coCells).toInt ∧ w ≤ 34) ∧ ∀ N tr v', TRF21 m σ9 N tr v' → RN23 κ' a (tr N).1 v' w) ∧ (cy21 σ m ≠ 0 → pq23 κ' a = pq23 κ a)
theorem py_23 {κ κ' : zS} {a : Nat} {σ σ9 σ' : rS} {m v : Int32} (ht : RC8 κ a σ) (k : pY23 m σ σ9 σ' v) (c : PY23 κ κ' a m σ σ9) : RC8 κ' a σ' := by
  obtain ⟨⟨k1, k2⟩, ⟨k3, k4⟩, cy, k5, k6, G⟩ := k
  obtain ⟨⟨c1, c2⟩, c3, c4, c5⟩ := c
  have cd : kD7 κ κ' a := ⟨c2.1, c2.2.1⟩
  refine ⟨rk_d7 k2 ht.1 cd (k1.trans (ht.1.1.trans c1.symm)), rc_21 k2 (kX_7 k3) ht.2 cd (kA_b8 c3) (pl_21 k3 c3) ⟨RT_k21 ht.2.2.2.2.1 c2.2.2 k4, ?_⟩⟩
  rcases G with ⟨g1, g2, _⟩ | ⟨g1, _, τ0, h0, ⟨σ0, r0, N, tr, b1, b2, b3⟩, fi, d1, d2, d3, d4, d5, d6, _⟩
  · refine RP_k23 ht.2.2.2.2.2 c2.2.1 (c5 (by rw [← cy]; exact g1)) ⟨fun g q => ?_, ?_, ?_⟩
    · rw [g2, si1, if_neg ((by decide : ∀ g, g ∈ kp23 → g ≠ 0) g q), k5 g ((by decide : ∀ g, g ∈ kp23 → g ≠ 113) g q)]
    · rw [g2, si2]; exact k6.1
    · rw [g2, si2, k6.2]
  · obtain ⟨w, ⟨w1, w2⟩, cw⟩ := c4 (by rw [← cy]; exact g1)
    obtain ⟨v4, n1, ⟨n2, n3, n4, n5, n6⟩, n7⟩ := cw N tr v ⟨⟨σ0, r0, b1, b2⟩, by rw [b3]; exact fi⟩
    rw [b3] at n3 n4 n5 n6 n7
    have vm : v ≠ -1 := by rcases v4 with q | q | q | q <;> rw [q] <;> decide
    refine ⟨⟨fun z => absurd (n1.symm.trans z) (by decide), fun z => absurd (d2.symm.trans z) vm⟩, fun _ => ⟨⟨by rw [n2, d2], by rw [n3, d3], by rw [n4, d1 108 (by decide) (by decide)], by rw [n5, d1 109 (by decide) (by decide)], by rw [n6, d4]⟩, fun i hi => ?_⟩⟩
    rw [c2.2.1] at hi
    rw [n7 i (by omega), d6 i (by omega)]

end
section
set_option maxHeartbeats 1600000
/-! the class: ChanceWorks between calls -/
/-- tape, codes, parser -/
def chA9 (κ : zS) (a : Nat) : Prop := (taI κ (zR κ chTape a) ∧ tokI κ (zR κ chTape a)) ∧ ((coI κ (zR κ chCode a) ∧ coI κ (zR κ chSpare a)) ∧ zR κ chCode a ≠ zR κ chSpare a) ∧ ((paL κ (zR κ chParser a) ∧ paC κ (zR κ chParser a)) ∧ zR κ paTape (zR κ chParser a) = zR κ chTape a)
/-- atlas and machine -/
def chB9 (κ : zS) (a : Nat) : Prop := atI κ (zR κ chAtlas a) ∧ zR κ atMachine (zR κ chAtlas a) = zR κ chMachine a ∧ (zI κ atExplored (zR κ chAtlas a) ≠ 0 → (zR κ atCode (zR κ chAtlas a) = zR κ chCode a ∧ 0 ≤ (zI κ atNexts (zR κ chAtlas a)).toInt) ∧ ((zI κ hoTotal (zR κ atStates (zR κ chAtlas a))).toInt = 0 → enZ9 κ (zR κ chAtlas a)))
/-- solver -/
def chC9 (ρ : Nat → Nat) (κ : zS) (a : Nat) : Prop := soR9 ρ κ (zR κ chSolver a) ∧ ((zN κ (zR κ soTaken (zR κ chSolver a))) = 0 ∨ (zN κ (zR κ soTaken (zR κ chSolver a))) = 1000) ∧ (zR κ soAtlas (zR κ chSolver a) = zR κ chAtlas a ∧ zR κ soWeb (zR κ chSolver a) = zR κ atWeb (zR κ chAtlas a)) ∧ ρ (zR κ chShown a) = 30
/-- what is solved, what is planned -/
def chS9 (ρ : Nat → Nat) (κ : zS) (a : Nat) : Prop := (zI κ soSolved (zR κ chSolver a) ≠ 0 → zI κ atExplored (zR κ chAtlas a) ≠ 0 ∧ ∃ P, (0 < P ∧ P < pB9 1490) ∧ ∀ n, atW κ (zR κ chAtlas a) n → vsI9 ρ κ (zR κ chSolver a) n P ∧ n ≤ (zN κ (zR κ soVisits (zR κ chSolver a)))) ∧ (zI κ soPlanned (zR κ chSolver a) ≠ 0 → zI κ atExplored (zR κ chAtlas a) ≠ 0 ∧ ∀ n, atW κ (zR κ chAtlas a) n → n ≤ (zN κ (zR κ soWorths (zR κ chSolver a))) ∧ ∀ k, k < n → ∃ u, zQ κ (zR κ soWorths (zR κ chSolver a)) k = some u)
/-- odds -/
def chD9 (ρ : Nat → Nat) (κ : zS) (a : Nat) : Prop := (zR κ odAtlas (zR κ chOdds a) = zR κ chAtlas a ∧ zR κ odSolver (zR κ chOdds a) = zR κ chSolver a ∧ zR κ odCalc (zR κ chOdds a) = zR κ soCalc (zR κ chSolver a)) ∧ ρ (zR κ odHeld (zR κ chOdds a)) = 15 ∧ ((odU9 κ (zR κ chOdds a) ∨ tbL9 κ (zR κ chOdds a)) ∧ (zN κ (zR κ odLinks (zR κ chOdds a))) ≤ 20000) ∧ (hoI κ (zR κ odGroups (zR κ chOdds a)) 3000 3 8192 ∧ (zN κ (zR κ odKey (zR κ chOdds a))) = 3) ∧ (∀ j u, j < 31 → zQ κ (zR κ odEdges (zR κ chOdds a)) j = some u → ρ u = 2000000 + j) ∧ (zR κ atStates (zR κ chAtlas a) ≠ zR κ odGroups (zR κ chOdds a) ∧ zR κ atEndings (zR κ chAtlas a) ≠ zR κ odGroups (zR κ chOdds a))
/-- its own rows -/
def chE9 (κ : zS) (a : Nat) : Prop := ((zN κ (zR κ chTold a)) = 200 ∧ 0 ≤ (zI κ chTolds a).toInt ∧ (zI κ chTolds a).toInt ≤ 200) ∧ ((zN κ (zR κ chRecord a)) = 5 ∧ (zN κ (zR κ chLastShared a)) = 34) ∧ dwI9 κ a
/-- how many numbers and fractions there are: those of the constructors, and those in places of rows -/
def cK9 (κ : zS) (a : Nat) : Prop := nT9 8 κ ≤ 17 + (nn9 κ (zR κ soCells (zR κ chSolver a)) + nn9 κ (zR κ odEdges (zR κ chOdds a)) + 2 * zV9 κ (zR κ chSolver a)) ∧ nT9 11 κ ≤ 2 + zV9 κ (zR κ chSolver a)
theorem cK_z9 {C : zC} {n0 a : Nat} {F : Nat → Nat → Prop} {κ τ : zS} (W : zW C n0 κ) (T : zT κ a = 15) (Z : zF F κ τ) (hs : zR τ chSolver a = zR κ chSolver a) (ho : zR τ chOdds a = zR κ chOdds a) (h : ∀ b, zn κ ≤ b → ¬ F 0 b) (nS : ∀ f, f = soCells ∨ f = soVisits ∨ f = soWorths → ¬ F f (zR κ chSolver a)) (he : nn9 κ (zR κ odEdges (zR κ chOdds a)) ≤ nn9 τ (zR τ odEdges (zR κ chOdds a))) (K : cK9 κ a) : cK9 τ a := by
  have tS := ty_chSolver W T
  have v := zV_z9 W tS Z (nS _ (Or.inr (Or.inl rfl))) (nS _ (Or.inr (Or.inr rfl)))
  have c := nC_z9 W tS Z (nS _ (Or.inl rfl))
  have n8 := nT_z9 W Z h (t := 8) (by decide)
  have n11 := nT_z9 W Z h (t := 11) (by decide)
  obtain ⟨k1, k2⟩ := K
  unfold cK9
  rw [hs, ho, v, c]
  exact ⟨by omega, by omega⟩
theorem cK_k9 {C : zC} {n0 a : Nat} {F : Nat → Nat → Prop} {κ τ : zS} (W : zW C n0 κ) (T : zT κ a = 15) (Z : zF F κ τ) (hs : zR τ chSolver a = zR κ chSolver a) (ho : zR τ chOdds a = zR κ chOdds a) (ne : ¬ F odEdges (zR κ chOdds a)) (kz : zK9 κ τ (zR κ chSolver a)) (K : cK9 κ a) : cK9 τ a := by
  have e := nE_z9 W (ty_chOdds W T) Z ne
  obtain ⟨k1, k2⟩ := K
  obtain ⟨z1, z2⟩ := kz
  unfold cK9
  rw [hs, ho, e]
  exact ⟨by omega, by omega⟩
theorem cK_e9 {C : zC} {n0 a : Nat} {F : Nat → Nat → Prop} {κ τ : zS} (W : zW C n0 κ) (T : zT κ a = 15) (Z : zF F κ τ) (hs : zR τ chSolver a = zR κ chSolver a) (ho : zR τ chOdds a = zR κ chOdds a) (nS : ∀ f, f = soCells ∨ f = soVisits ∨ f = soWorths → ¬ F f (zR κ chSolver a)) (ke : zE9 κ τ (zR κ chOdds a)) (K : cK9 κ a) : cK9 τ a := by
  have tS := ty_chSolver W T
  have v := zV_z9 W tS Z (nS _ (Or.inr (Or.inl rfl))) (nS _ (Or.inr (Or.inr rfl)))
  have c := nC_z9 W tS Z (nS _ (Or.inl rfl))
  obtain ⟨k1, k2⟩ := K
  obtain ⟨z1, z2⟩ := ke
  unfold cK9
  rw [hs, ho, v, c]
  exact ⟨by omega, by omega⟩
theorem zT_o9 {C : zC} {n0 x : Nat} {κ : zS} (W : zW C n0 κ) (h : zn κ ≤ x) : zT κ x = 0 := by
  by_cases z : zT κ x = 0
  · exact z
  · have y := (W.2.1 x z).2
    omega
def chI9 (ρ : Nat → Nat) (κ : zS) (a : Nat) (L : Int) : Prop := chA9 κ a ∧ chB9 κ a ∧ chC9 ρ κ a ∧ chS9 ρ κ a ∧ chD9 ρ κ a ∧ chE9 κ a ∧ (zI κ taLength (zR κ chTape a)).toInt ≤ L ∧ cK9 κ a
theorem un_t9 {F : Nat → Nat → Prop} {κ : zS} {x K : Nat} (h : ∀ f x, F f x → zT κ x = 7 ∨ zT κ x = 13 ∨ zT κ x = 15) (T : zT κ x = K) (hK : K ≠ 7 ∧ K ≠ 13 ∧ K ≠ 15) : ∀ f, ¬ F f x := fun f z => by
  have y := h f x z
  rw [T] at y
  rcases y with y | y | y
  · exact hK.1 y
  · exact hK.2.1 y
  · exact hK.2.2 y
theorem odd_u9 {C : zC} {n0 b : Nat} {F : Nat → Nat → Prop} {κ τ : zS} (Z : zF F κ τ) (W : zW C n0 κ) (T : zT κ b = 9) (n : un9 F b 9) : (∀ f, f / 100 = 9 → zR τ f b = zR κ f b) ∧ (odU9 κ b ∨ tbL9 κ b → odU9 τ b ∨ tbL9 τ b) ∧ (zN τ (zR τ odLinks b)) = (zN κ (zR κ odLinks b)) ∧ (zN τ (zR τ odKey b)) = (zN κ (zR κ odKey b)) ∧ zQ τ (zR τ odEdges b) = zQ κ (zR κ odEdges b) := by
  have r : ∀ f, f / 100 = 9 → zR τ f b = zR κ f b := fun f hf => Z.r (n f hf)
  have e1 : zN τ (zR τ odLefts b) = zN κ (zR κ odLefts b) := by rw [r _ (by decide)]; exact Z.l (ty_odLefts W T)
  have e2 : zN τ (zR τ odRights b) = zN κ (zR κ odRights b) := by rw [r _ (by decide)]; exact Z.l (ty_odRights W T)
  have e3 : zN τ (zR τ odBases b) = zN κ (zR κ odBases b) := by rw [r _ (by decide)]; exact Z.l (ty_odBases W T)
  have e4 : zN τ (zR τ odRanks b) = zN κ (zR κ odRanks b) := by rw [r _ (by decide)]; exact Z.l (ty_odRanks W T)
  have e5 : zN τ (zR τ odCellOf b) = zN κ (zR κ odCellOf b) := by rw [r _ (by decide)]; exact Z.l (ty_odCellOf W T)
  have e6 : zN τ (zR τ odHeads b) = zN κ (zR κ odHeads b) := by rw [r _ (by decide)]; exact Z.l (ty_odHeads W T)
  have e7 : zN τ (zR τ odEdges b) = zN κ (zR κ odEdges b) := by rw [r _ (by decide)]; exact Z.l (ty_odEdges W T)
  refine ⟨r, fun h => ?_, by rw [r _ (by decide)]; exact Z.l (ty_odLinks W T), by rw [r _ (by decide)]; exact Z.l (ty_odKey W T), (Z.row W (show zr odEdges = some 24 by decide +kernel) (by decide) (T.trans (by decide)) (n _ (by decide))).2.2⟩
  unfold odU9 tbL9
  rw [e1, e2, e3, e4, e5, e6, e7]
  exact h
/-- the atlas, where neither it nor its hoards nor its web nor the code are touched -/
theorem chB_u9 {C : zC} {n0 a : Nat} {F : Nat → Nat → Prop} {κ τ : zS} (W : zW C n0 κ) (T : zT κ a = 15) (Z : zF F κ τ) (hO : ∀ f, f / 100 = 15 → f ≠ chDrawnWeights → f ≠ chDrawnTotals → zR τ f a = zR κ f a) (n3 : un9 F (zR κ chAtlas a) 3) (ns : un9 F (zR κ atStates (zR κ chAtlas a)) 6) (ne : un9 F (zR κ atEndings (zR κ chAtlas a)) 6) (nw : un9 F (zR κ atWeb (zR κ chAtlas a)) 14) (nc : zI κ atExplored (zR κ chAtlas a) ≠ 0 → un9 F (zR κ atCode (zR κ chAtlas a)) 5) (hm : maL τ (zR κ chMachine a)) (B : chB9 κ a) : chB9 τ a ∧ (∀ n, atW τ (zR κ chAtlas a) n ↔ atW κ (zR κ chAtlas a) n) ∧ (zI τ atExplored (zR κ chAtlas a) = zI κ atExplored (zR κ chAtlas a)) ∧ (∀ f, f / 100 = 3 → zR τ f (zR κ chAtlas a) = zR κ f (zR κ chAtlas a)) := by
  have tA := ty_chAtlas W T
  have g := at_u9 Z W tA (fun f hf _ => n3 f hf) (Z.r (n3 atPlan (by decide)))
  obtain ⟨⟨⟨b1, b2, b3, b4⟩, b5, ⟨b6, b7⟩, b8, b9⟩, c1, c2⟩ := B
  have M := atM_u9 g
  have S := ho_u9 (M := 1000) (D := 142) (S := 2048) Z W (ty_atStates W tA) ns
  have E := ho_u9 (M := 1000) (D := 35) (S := 2048) Z W (ty_atEndings W tA) ne
  have V := we_u9 Z W (ty_atWeb W tA) nw
  have ex : zI τ atExplored (zR κ chAtlas a) = zI κ atExplored (zR κ chAtlas a) := Z.i (n3 _ (by decide))
  have Wn : ∀ n, atW τ (zR κ chAtlas a) n ↔ atW κ (zR κ chAtlas a) n := fun n => atW_u9 g (Z.i (n3 _ (by decide))) S.2.2 E.2.2
  have r := g.1
  refine ⟨?_, Wn, ex, r⟩
  unfold chB9 atI
  rw [hO chAtlas (by decide) (by decide) (by decide), hO chMachine (by decide) (by decide) (by decide), hO chCode (by decide) (by decide) (by decide), r atMachine (by decide), r atWeb (by decide), r atStates (by decide), r atEndings (by decide), r atCode (by decide), ex, S.2.2]
  refine ⟨⟨⟨b1.elim (fun z => Or.inl (M.2.1 z)) (fun z => Or.inr (M.1 z)), M.2.2 b2, ⟨?_, ?_⟩, b4⟩, by rw [c1]; exact hm, ⟨b6.elim (fun z => Or.inl (V.2.1 z)) (fun z => Or.inr (V.1 z)), V.2.2 b7⟩, b8, fun z => ?_⟩, c1, fun z => ⟨⟨(c2 z).1.1, by rw [Z.i (n3 atNexts (by decide))]; exact (c2 z).1.2⟩, fun y => ?_⟩⟩
  · rw [r atStates (by decide)]; exact S.1 b3.1
  · rw [r atEndings (by decide)]; exact E.1 b3.2
  · obtain ⟨n, hn⟩ := b9 z
    exact ⟨n, (Wn n).mpr hn⟩
  · have K := co_u9 Z W (ty_atCode W tA) (nc z)
    intro i hi
    rw [r atCode (by decide), K.2.1, K.2.2] at hi
    rw [r atEndings (by decide), E.2.1]
    exact (c2 z).2 y i hi
/-- a call that touches the tape, the machine and own fields alone -/
theorem chI_s9 {C : zC} {n0 a : Nat} {L L' : Int} {ρ : Nat → Nat} {F : Nat → Nat → Prop} {κ τ : zS} (W : zW C n0 κ) (T : zT κ a = 15) (Z : zF F κ τ) (hT : ∀ f x, F f x → zT κ x = 7 ∨ zT κ x = 13 ∨ zT κ x = 15) (hO : ∀ f, f / 100 = 15 → f ≠ chDrawnWeights → f ≠ chDrawnTotals → zR τ f a = zR κ f a) (hta : taI τ (zR κ chTape a) ∧ tokI τ (zR κ chTape a)) (hma : maL τ (zR κ chMachine a)) (hE : chE9 τ a) (hL : (zI τ taLength (zR κ chTape a)).toInt ≤ L') (I : chI9 ρ κ a L) : chI9 ρ τ a L' := by
  obtain ⟨⟨A1, ⟨⟨A2, A3⟩, A4⟩, A5, A6⟩, B, ⟨C1, C2, C3, C4⟩, ⟨S1, S2⟩, ⟨D1, D2, D3, ⟨D4, D5⟩, D6, D7⟩, _, _, K0⟩ := I
  have tA := ty_chAtlas W T
  have tS := ty_chSolver W T
  have tO := ty_chOdds W T
  have o := fun f h1 h2 h3 => hO f h1 h2 h3
  have hB := chB_u9 W T Z hO (fun f _ => un_t9 hT tA (by decide) f) (fun f _ => un_t9 hT (ty_atStates W tA) (by decide) f) (fun f _ => un_t9 hT (ty_atEndings W tA) (by decide) f) (fun f _ => un_t9 hT (ty_atWeb W tA) (by decide) f) (fun _ f _ => un_t9 hT (ty_atCode W tA) (by decide) f) hma B
  have hS := rs_h9 W tS C1 Z (fun f w y => un_t9 hT y (by decide) f) (fun f w y => un_t9 hT y (by decide) f) (fun f w y => un_t9 hT y (by decide) f) (fun f _ _ => un_t9 hT tS (by decide) f)
  have nS : ∀ f, ¬ F f (zR κ chSolver a) := un_t9 hT tS (by decide)
  have nO : ∀ f, ¬ F f (zR κ chOdds a) := un_t9 hT tO (by decide)
  have P := pa_u9 Z W (ty_chParser W T) (fun f _ => un_t9 hT (ty_chParser W T) (by decide) f) A5
  have K1 := co_u9 Z W (ty_chCode W T) (fun f _ => un_t9 hT (ty_chCode W T) (by decide) f)
  have K2 := co_u9 Z W (ty_chSpare W T) (fun f _ => un_t9 hT (ty_chSpare W T) (by decide) f)
  have G := odd_u9 Z W tO (fun f _ => nO f)
  have H := ho_u9 (M := 3000) (D := 3) (S := 8192) Z W (ty_odGroups W tO) (fun f _ => un_t9 hT (ty_odGroups W tO) (by decide) f)
  have sv : zQ τ (zR κ soVisits (zR κ chSolver a)) = zQ κ (zR κ soVisits (zR κ chSolver a)) ∧ zN τ (zR κ soVisits (zR κ chSolver a)) = zN κ (zR κ soVisits (zR κ chSolver a)) := by
    have q := (Z.row W (show zr soVisits = some 25 by decide +kernel) (by decide) (tS.trans (by decide)) (nS _)).2.2
    rw [Z.r (nS _)] at q
    exact ⟨q, Z.l (ty_soVisits W tS)⟩
  have sw : zQ τ (zR κ soWorths (zR κ chSolver a)) = zQ κ (zR κ soWorths (zR κ chSolver a)) ∧ zN τ (zR κ soWorths (zR κ chSolver a)) = zN κ (zR κ soWorths (zR κ chSolver a)) := by
    have q := (Z.row W (show zr soWorths = some 25 by decide +kernel) (by decide) (tS.trans (by decide)) (nS _)).2.2
    rw [Z.r (nS _)] at q
    exact ⟨q, Z.l (ty_soWorths W tS)⟩
  have rS : ∀ f, zR τ f (zR κ chSolver a) = zR κ f (zR κ chSolver a) := fun f => Z.r (nS f)
  have iS : ∀ f, zI τ f (zR κ chSolver a) = zI κ f (zR κ chSolver a) := fun f => Z.i (nS f)
  refine ⟨⟨?_, ?_, ?_⟩, hB.1, ?_, ?_, ?_, hE, ?_, ?_⟩
  · rw [o chTape (by decide) (by decide) (by decide)]; exact hta
  · rw [o chCode (by decide) (by decide) (by decide), o chSpare (by decide) (by decide) (by decide)]
    exact ⟨⟨K1.1 A2, K2.1 A3⟩, A4⟩
  · rw [o chParser (by decide) (by decide) (by decide), o chTape (by decide) (by decide) (by decide)]
    exact ⟨P.1, P.2.trans A6⟩
  · unfold chC9
    rw [o chSolver (by decide) (by decide) (by decide), o chAtlas (by decide) (by decide) (by decide), o chShown (by decide) (by decide) (by decide), rS, rS, rS, Z.l (ty_soTaken W tS), hB.2.2.2 atWeb (by decide)]
    exact ⟨hS.1, C2, C3, C4⟩
  · unfold chS9
    rw [o chSolver (by decide) (by decide) (by decide), o chAtlas (by decide) (by decide) (by decide), iS, iS, rS, rS, sv.2, sw.1, sw.2, hB.2.2.1]
    refine ⟨fun z => ?_, fun z => ?_⟩
    · obtain ⟨x1, P9, x2, x3⟩ := S1 z
      refine ⟨x1, P9, x2, fun n hn => ?_⟩
      have y := x3 n ((hB.2.1 n).mp hn)
      exact ⟨vs_h9 W tS Z (fun f w y => un_t9 hT y (by decide) f) (fun f w y => un_t9 hT y (by decide) f) (fun f w y => un_t9 hT y (by decide) f) nS y.1, y.2⟩
    · obtain ⟨x1, x3⟩ := S2 z
      exact ⟨x1, fun n hn => x3 n ((hB.2.1 n).mp hn)⟩
  · unfold chD9
    rw [o chSolver (by decide) (by decide) (by decide), o chAtlas (by decide) (by decide) (by decide), o chOdds (by decide) (by decide) (by decide), G.2.2.2.2, G.2.2.1, G.2.2.2.1, G.1 odAtlas (by decide), G.1 odSolver (by decide), G.1 odCalc (by decide), G.1 odHeld (by decide), G.1 odGroups (by decide), rS, hB.2.2.2 atStates (by decide), hB.2.2.2 atEndings (by decide)]
    exact ⟨D1, D2, ⟨G.2.1 D3.1, D3.2⟩, ⟨H.1 D4, D5⟩, D6, D7⟩
  · rw [o chTape (by decide) (by decide) (by decide)]; exact hL
  · exact cK_z9 W T Z (o chSolver (by decide) (by decide) (by decide)) (o chOdds (by decide) (by decide) (by decide)) (fun b hb => un_t9 hT (zT_o9 W hb) (by decide) 0) (fun f _ => nS f) (Nat.le_of_eq (nE_z9 W tO Z (nO _)).symm) K0

end
