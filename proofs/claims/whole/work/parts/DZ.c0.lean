section
set_option maxHeartbeats 1600000
/-! the class: ChanceWorks' own methods: a play -/
theorem Ma_act_c2 {C : zC} {n0 : Nat} {a0 : Nat} {κ : zS} {Q : zS → Prop} (W : zW C n0 κ) (Ta0 : zT κ a0 = 7)  (hp : mkI κ a0 ∧ mO κ a0) (h : ∀ (κ' : zS), (mF κ κ' a0 ∧ zI κ' maShared a0 = zI κ maShared a0 ∧ (mO κ' a0 ∨ zI κ' maOutcome a0 = 1) ∧ mDw κ' a0 ∧ (zI κ' maWants a0 ≠ -1 → mO κ' a0)) → Q κ') : zRun C 4 mMa_act [.ref a0] κ (oV Q noX) := by
  refine Ma_act_run W Ta0 ?_
  replace W := W.lo (Nat.le_trans W.1.2.1 W.1.2.2) (Nat.le_refl (zn κ))
  unfold w_Ma_act_0
  have hj92 : ∀ (l0 : Nat) (l1 : Int32) (τ : zS), zW C (zn κ) τ → zT τ l0 = 7 → (a0 = l0 ∧ mF κ τ a0 ∧ mS0 κ τ a0 ∧ zI τ maWants a0 = -1) → w_Ma_act_92 C (zn κ) Q  l0 l1 τ := by
    rintro _ y92_1 τ92 W92 T92_0 ⟨rfl, j92⟩
    unfold w_Ma_act_92
    refine ⟨fun c1 => ?_, fun c1 => ?_⟩
    · skip
      intro T2
      refine Co_column_c W92 T2  ?_ (fun r3 q5 => ?_)
      · exact ⟨(mkI_f j92.1 W Ta0 hp.1).1.2, by decide, by decide⟩  -- p1
      intro W6
      intro M7
      intro κ_8 hκ_8
      intro W9
      intro κ_10 hκ_10
      intro W11
      intro T12
      refine Co_column_c W11 T12  ?_ (fun r13 q15 => ?_)
      · have F := (j92.1.tr (mF_ui hκ_8 (by decide))).tr (mF_ui hκ_10 (by decide))
        exact ⟨(mkI_f F W Ta0 hp.1).1.2, by decide, by decide⟩
      intro W16
      intro M17
      intro T18
      refine Ma_obey_c W16 T18  ?_ (fun κ_19 q20 => ?_)
      · have F := (j92.1.tr (mF_ui hκ_8 (by decide))).tr (mF_ui hκ_10 (by decide))
        have S := (j92.2.1.tr (mS_ui hκ_8 (by decide)).1).tr (mS_ui hκ_10 (by decide)).1
        have w1 : zI κ_10 maWants a0 = zI τ92 maWants a0 := by rw [hκ_10, hκ_8]; rfl
        exact ⟨⟨(mkI_f F W Ta0 hp.1).1, mO_0 S hp.2⟩, w1.trans j92.2.2⟩
      intro W21
      intro M22
      refine ⟨fun c23 => ?_, fun c23 => ?_⟩
      · skip
        refine h _ ?_
        · have F := (j92.1.tr (mF_ui hκ_8 (by decide))).tr (mF_ui hκ_10 (by decide))
          have S := (j92.2.1.tr (mS_ui hκ_8 (by decide)).1).tr (mS_ui hκ_10 (by decide)).1
          exact ⟨F.tr q20.1, q20.2.1.trans (S maShared (by decide)), Or.inl q20.2.2.1, q20.2.2.2, fun _ => q20.2.2.1⟩
      · skip
        refine ⟨fun c24 => ?_, fun c24 => ?_⟩
        · skip
          refine h _ ?_
          · have F := (j92.1.tr (mF_ui hκ_8 (by decide))).tr (mF_ui hκ_10 (by decide))
            have S := (j92.2.1.tr (mS_ui hκ_8 (by decide)).1).tr (mS_ui hκ_10 (by decide)).1
            exact ⟨F.tr q20.1, q20.2.1.trans (S maShared (by decide)), Or.inl q20.2.2.1, q20.2.2.2, fun _ => q20.2.2.1⟩
        · skip
          intro T25
          refine Ma_proceed_c W21 T25  ?_ (fun κ_26 q27 => ?_)
          · have F := (j92.1.tr (mF_ui hκ_8 (by decide))).tr (mF_ui hκ_10 (by decide))
            exact ⟨(mkI_f (F.tr q20.1) W Ta0 hp.1).1, q20.2.2.1⟩
          intro W28
          intro M29
          refine h _ ?_
          · have F := (j92.1.tr (mF_ui hκ_8 (by decide))).tr (mF_ui hκ_10 (by decide))
            have S := (j92.2.1.tr (mS_ui hκ_8 (by decide)).1).tr (mS_ui hκ_10 (by decide)).1
            exact ⟨(F.tr q20.1).tr q27.1, q27.2.1.trans (q20.2.1.trans (S maShared (by decide))), q27.2.2.1, mDw_g q27.2.2.2 q20.2.2.2, fun z => absurd ((q27.2.2.2 maWants (by decide)).1.trans c23) z⟩
    · skip
      intro κ_30 hκ_30
      intro W31
      refine h _ ?_
      · have S := j92.2.1.tr (mS_ui hκ_30 (by decide)).1
        exact ⟨j92.1.tr (mF_ui hκ_30 (by decide)), S maShared (by decide), Or.inl (mO_0 S hp.2), mDw_g (mS_ui hκ_30 (by decide)).2 (Or.inl j92.2.2), fun _ => mO_0 S hp.2⟩
  refine ⟨?_, ?_⟩
  · have L := hp.1.1.1
    obtain ⟨s, o, f⟩ := hp.2
    rw [inb_iff]; omega
  intro x32 hx32
  intro κ_33 hκ_33
  intro W34
  intro κ_35 hκ_35
  intro W36
  intro κ_37 hκ_37
  intro W38
  intro T39
  refine Co_column_c W38 T39  ?_ (fun r40 q42 => ?_)
  · have F := ((mF_ui hκ_33 (by decide)).tr (mF_ui hκ_35 (by decide))).tr (mF_ui hκ_37 (by decide))
    exact ⟨(mkI_f F W Ta0 hp.1).1.2, by decide, by decide⟩
  intro W43
  intro M44
  intro κ_45 hκ_45
  intro W46
  intro T47
  refine Ma_aim_c W46 T47  ?_ (fun κ_48 q49 => ?_)
  · have F := ((mF_ui hκ_33 (by decide)).tr (mF_ui hκ_35 (by decide))).tr (mF_ui hκ_37 (by decide))
    exact (mkI_f (F.tr (mF_ui hκ_45 (by decide))) W Ta0 hp.1).1
  intro W50
  intro M51
  intro T52
  refine Co_column_c W50 T52  ?_ (fun r53 q55 => ?_)
  · have F := ((mF_ui hκ_33 (by decide)).tr (mF_ui hκ_35 (by decide))).tr (mF_ui hκ_37 (by decide))
    exact ⟨(mkI_f ((F.tr (mF_ui hκ_45 (by decide))).tr q49.1) W Ta0 hp.1).1.2, by decide, by decide⟩
  intro W56
  intro M57
  unfold w_Ma_act_55
  refine ⟨fun n l0 l1 l2 l3 τ => n = (16 - l3.toInt).toNat ∧ (a0 = l0 ∧ mF κ τ a0 ∧ mS0 κ τ a0 ∧ 0 ≤ l3.toInt ∧ zI τ maWants a0 = -1), ⟨_, rfl, ?_⟩, ?_⟩
  · have F := ((mF_ui hκ_33 (by decide)).tr (mF_ui hκ_35 (by decide))).tr (mF_ui hκ_37 (by decide))
    have S := ((mS0_ui hκ_33 (by decide)).tr (mS0_ui hκ_35 (by decide))).tr (mS0_ui hκ_37 (by decide))
    have w0 : zI κ_33 maWants a0 = -1 := by rw [hκ_33]; exact if_pos ⟨rfl, rfl⟩
    have w1 : zI κ_45 maWants a0 = zI κ_33 maWants a0 := by rw [hκ_45, hκ_37, hκ_35]; rfl
    have w2 := (q49.2.2 maWants (by decide)).1
    exact ⟨rfl, (F.tr (mF_ui hκ_45 (by decide))).tr q49.1, (S.tr (mS0_ui hκ_45 (by decide))).tr q49.2.1, by decide, w2.trans (w1.trans w0)⟩
  rintro n55 _ x55_1 x55_2 x55_3 κ55 W55 T55_0 ⟨hn55, rfl, i55⟩
  refine ⟨fun c58 => ?_, fun c58 => ?_⟩
  · skip
    refine hj92 _ _ _ W55 ?_ ?_
    · exact T55_0  -- t14
    · exact ⟨rfl, i55.1, i55.2.1, i55.2.2.2⟩  -- k15
  · skip
    refine ⟨fun c59 => ?_, fun c59 => ?_⟩
    · skip
      refine hj92 _ _ _ W55 ?_ ?_
      · exact T55_0  -- t16
      · exact ⟨rfl, i55.1, i55.2.1, i55.2.2.2⟩  -- k17
    · skip
      refine ⟨fun c60 => ?_, fun c60 => ?_⟩
      · skip
        refine hj92 _ _ _ W55 ?_ ?_
        · exact T55_0  -- t18
        · exact ⟨rfl, i55.1, i55.2.1, i55.2.2.2⟩  -- k19
      · skip
        intro T61
        refine Ma_work_c W55 T61  ?_ (fun r62 κ_63 q64 => ?_)
        · exact (mkI_f i55.1 W Ta0 hp.1).1  -- p20
        intro W65
        intro M66
        have LK := (maL_f i55.1 hp.1.1).2.2.1
        have bN := W55.n (ty_maWorked W55 T55_0)
        have l := i55.2.2.1
        rw [lei, ofn_i bN] at c59
        have e1 : (x55_3 + 1).toInt = x55_3.toInt + 1 := by rw [add_i (by rw [t1i]; omega) (by rw [t1i]; omega), t1i]
        refine ⟨?_, ?_⟩
        · rw [q64.1.2.2.1, inb_iff]; omega  -- b21
        intro κ_67 hκ_67
        intro W68
        intro x69 hx69
        refine ⟨_, ?_, rfl, ?_⟩
        · rw [hn55, hx69, e1]; omega  -- d22
        · rw [← q64.1.2.1] at hκ_67
          have f := mF_ua W65 (q64.1.1.t T55_0 (by decide)) (show zr maWorked = some 20 by decide +kernel) (by decide) hκ_67
          exact ⟨rfl, (i55.1.tr q64.1).tr f.1, (i55.2.1.tr q64.2.1).tr f.2.1.1, by rw [hx69, e1]; omega, by rw [f.2.2, (q64.2.2 maWants (by decide)).1]; exact i55.2.2.2⟩


theorem mO_z9 {m : Nat} {F : Nat → Nat → Prop} {κ τ : zS} (Z : zF F κ τ) (hF : ∀ f, ¬ F f m) (O : mO κ m) : mO τ m := by
  unfold mO
  rw [Z.i (hF maShared), Z.i (hF maOpen), Z.i (hF maFrame)]
  exact O
/-- the rows of what was drawn -/
def dwI9 (κ : zS) (a : Nat) : Prop := (zN κ (zR κ chDrawnTotals a)) = (zN κ (zR κ chDrawnWeights a)) ∧ 16 ≤ (zN κ (zR κ chDrawnWeights a)) ∧ (zN κ (zR κ chDrawnWeights a)) ≤ 4000
def dwF9 (m a : Nat) : Nat → Nat → Prop := fun f b => b = m ∨ (b = a ∧ (f = chDrawnWeights ∨ f = chDrawnTotals))
theorem ch_m9 {C : zC} {n0 a : Nat} {κ : zS} (W : zW C n0 κ) (T : zT κ a = 15) : a ≠ zR κ chMachine a ∧ a ≠ zR κ maCode (zR κ chMachine a) ∧ a ≠ zR κ chCode a := by
  have t1 := ty_chMachine W T
  have t2 := ty_maCode W t1
  have t3 := ty_chCode W T
  refine ⟨fun e => ?_, fun e => ?_, fun e => ?_⟩
  · rw [← e, T] at t1; exact absurd t1 (by decide)
  · rw [← e, T] at t2; exact absurd t2 (by decide)
  · rw [← e, T] at t3; exact absurd t3 (by decide)
/-- before a draw is kept -/
def djI9 (κ τ : zS) (a : Nat) (x y : Int32) : Prop := zF (dwF9 (zR κ chMachine a) a) κ τ ∧ (∀ f, f ≠ chDrawnWeights → f ≠ chDrawnTotals → zR τ f a = zR κ f a) ∧ mkI τ (zR κ chMachine a) ∧ (mO τ (zR κ chMachine a) ∧ (zI τ maWays (zR κ chMachine a)).toInt ≤ 64) ∧ dwI9 τ a ∧ (0 ≤ y.toInt ∧ y.toInt < ((zN τ (zR τ chDrawnWeights a)))) ∧ 0 ≤ x.toInt ∧ x.toInt < 64
theorem Ch_drawn_c {C : zC} {n0 : Nat} {a0 : Nat} {a1 : Int32} {a2 : Int32} {κ : zS} {Q : Int32 → zS → Prop} (W : zW C n0 κ) (Ta0 : zT κ a0 = 15)  (hp : mkI κ (zR κ chMachine a0) ∧ (mO κ (zR κ chMachine a0) ∧ (zI κ maWays (zR κ chMachine a0)).toInt ≤ 64) ∧ dwI9 κ a0 ∧ 0 ≤ a2.toInt ∧ a2.toInt < 2000) (h : ∀ (v : Int32) (κ' : zS), (zF (dwF9 (zR κ chMachine a0) a0) κ κ' ∧ (∀ f, f ≠ chDrawnWeights → f ≠ chDrawnTotals → zR κ' f a0 = zR κ f a0) ∧ mkI κ' (zR κ chMachine a0) ∧ (zI κ' maOutcome (zR κ chMachine a0) = 0 → mO κ' (zR κ chMachine a0)) ∧ dwI9 κ' a0 ∧ (v = 0 ∨ v = 1)) → Q v κ') : zRun C 3 mCh_drawn [.ref a0, .int a1, .int a2] κ (oI Q noX) := by
  refine Ch_drawn_run W Ta0 ?_
  replace W := W.lo (Nat.le_trans W.1.2.1 W.1.2.2) (Nat.le_refl (zn κ))
  unfold w_Ch_drawn_0
  have am := ch_m9 W Ta0
  have tm := ty_chMachine W Ta0
  obtain ⟨K0, ⟨O0, w0⟩, D0, l0, l1⟩ := hp
  have bn := W.n (ty_chDrawnWeights W Ta0)
  have e2 : (2 : Int32).toInt = 2 := rfl
  have m2 : (a2 * 2).toInt = 2 * a2.toInt := by
    have q := mul_i (x := a2) (y := 2) (by rw [e2]; omega) (by rw [e2]; omega)
    rw [e2] at q
    omega
  have k2 := cnk (x := a2 * 2) (by omega)
  have hj63 : ∀ (l0 : Nat) (l1 : Int32) (l2 : Int32) (τ : zS), zW C (zn κ) τ → zT τ l0 = 15 → (a0 = l0 ∧ a1 = l1 ∧ a2 = l2 ∧ djI9 κ τ a0 a1 a2) → w_Ch_drawn_63 C (zn κ) Q  l0 l1 l2 τ := by
    rintro _ _ _ τ63 W63 T63_0 ⟨rfl, rfl, rfl, j63⟩
    unfold w_Ch_drawn_63
    obtain ⟨Z6, R6, K6, ⟨O6, w6⟩, D6, ⟨y0, y1⟩, x0, x1⟩ := j63
    have rm : zR τ63 chMachine a0 = zR κ chMachine a0 := R6 _ (by decide) (by decide)
    refine ⟨?_, ?_⟩
    · rw [rm, inb_iff, K6.1.2.2.2.2]; omega  -- b1
    refine ⟨?_, ?_⟩
    · rw [inb_iff]; omega  -- b2
    intro κ_1 hκ_1
    intro W2
    have o1 := W63.o (show zr chDrawnWeights = some 20 by decide +kernel) (by decide) (T63_0.trans (by decide))
    have Z1 : zF (fun f b => b = a0 ∧ (f = chDrawnWeights ∨ f = chDrawnTotals)) τ63 κ_1 := by
      rw [hκ_1]
      exact zF_ua (by rw [o1]; exact ⟨rfl, Or.inl rfl⟩)
    have R1 : zR κ_1 = zR τ63 := by rw [hκ_1]; rfl
    have N1 : zN κ_1 = zN τ63 := by rw [hκ_1]; rfl
    refine ⟨?_, ?_⟩
    · rw [inb_iff, R1, N1, D6.1]; omega  -- b3
    intro κ_3 hκ_3
    intro W4
    intro T5
    have o2 := W2.o (show zr chDrawnTotals = some 20 by decide +kernel) (by decide) ((Z1.t T63_0 (by decide)).trans (by decide))
    have Z3 : zF (fun f b => b = a0 ∧ (f = chDrawnWeights ∨ f = chDrawnTotals)) τ63 κ_3 := Z1.tr (by
      rw [hκ_3]
      exact zF_ua (by rw [o2]; exact ⟨rfl, Or.inr rfl⟩))
    have R3 : zR κ_3 = zR τ63 := by rw [hκ_3]; exact R1
    have N3 : zN κ_3 = zN τ63 := by rw [hκ_3]; exact N1
    have am6 := ch_m9 W63 T63_0
    rw [rm] at am6
    have tm6 : zT τ63 (zR κ chMachine a0) = 7 := Z6.t tm (by decide)
    have K3 : mkI κ_3 (zR κ chMachine a0) := mkI_zF Z3 W63 tm6 (fun f z => am6.1 z.1.symm) (fun f z => am6.2.1 z.1.symm) K6
    have O3 : mO κ_3 (zR κ chMachine a0) := mO_z9 Z3 (fun f z => am6.1 z.1.symm) O6
    have w3 : zI κ_3 maWays (zR κ chMachine a0) = zI τ63 maWays (zR κ chMachine a0) := Z3.i (fun z => am6.1 z.1.symm)
    refine Ma_settle_c W4 T5  ?_ (fun κ_6 q7 => ?_)
    · rw [R3, rm]
      exact ⟨K3, O3, by rw [w3]; exact w6⟩
    intro W8
    intro M9
    refine h _ _ ?_
    · rw [R3, rm] at q7 T5
      refine ⟨(Z6.tr (Z3.mono (fun f b z => Or.inr z))).tr (q7.1.1.mono (fun f b z => Or.inl z)), fun f h1 h2 => ?_, (mkI_f q7.1 W4 T5 K3).1, fun z => ?_, ?_, Or.inr rfl⟩
      · rw [q7.1.2.1, R3]
        exact R6 f h1 h2
      · rcases q7.2.2.1 with y | y
        · exact y
        · rw [y] at z
          exact absurd z (by decide)
      · unfold dwI9
        rw [q7.1.2.1, q7.1.2.2.1, R3, N3]
        exact D6
  have hj15 : ∀ (l0 : Nat) (τ : zS), zW C (zn κ) τ → zT τ l0 = 15 → (κ = τ ∧ a0 = l0 ∧ True) → w_Ch_drawn_15 C (zn κ) Q  l0 τ := by
    rintro _ _ W15 T15_0 ⟨rfl, rfl, j15⟩
    unfold w_Ch_drawn_15
    intro T10
    refine Ma_fail_c W15 T10  (fun κ_11 q12 => ?_)
    intro W13
    intro M14
    refine h _ _ ?_
    · have f := mF_fail q12
      refine ⟨q12.1.mono (fun f b z => Or.inl z), fun f _ _ => by rw [q12.2.1], (mkI_f f.1 W tm K0).1, fun z => ?_, ?_, Or.inl rfl⟩
      · rw [q12.2.2.2.2.2.2] at z
        exact absurd z (by decide)
      · unfold dwI9
        rw [q12.2.1, q12.2.2.1]
        exact D0
  refine ⟨fun c15 => ?_, fun c15 => ?_⟩
  · skip
    refine hj15 _ _ W ?_ ?_
    · exact Ta0  -- t7
    · exact ⟨rfl, rfl, trivial⟩  -- k8
  · skip
    refine ⟨fun c16 => ?_, fun c16 => ?_⟩
    · skip
      refine ⟨fun c17 => ?_, fun c17 => ?_⟩
      · skip
        refine hj63 _ _ _ _ W ?_ ?_
        · exact Ta0  -- t9
        · rw [lti, t0i] at c15
          rw [lti] at c16
          rw [lti, ofn_i bn] at c17
          exact ⟨rfl, rfl, rfl, zF.rf, fun _ _ _ => rfl, K0, ⟨O0, w0⟩, D0, ⟨l0, by omega⟩, by omega, by omega⟩
      · skip
        intro T18
        refine Ar_copyOf_c W T18  ?_ (fun r19 κ_20 q21 => ?_)
        · rw [lti, ofn_i bn] at c17
          refine ⟨⟨by rw [lei, t0i]; omega, by omega⟩, fun e => ?_⟩
          have g := congrArg Int32.toInt e
          rw [ofn_i bn, m2] at g
          have := D0.2.1
          omega
        intro W22
        intro M23
        intro T24
        refine ⟨?_, ?_⟩
        · rw [q21.1]; exact q21.2.2.1  -- b12
        intro κ_25 hκ_25
        intro W26
        intro T27
        rw [lti, t0i] at c15
        rw [lti] at c16
        rw [lti, ofn_i bn] at c17
        obtain ⟨e19, Q1⟩ := q21
        rw [e19] at hκ_25
        have G1 := gr_f W (show zr chDrawnWeights = some 20 by decide +kernel) (by decide) (Ta0.trans (by decide)) ⟨by decide, by decide, by decide, by decide +kernel⟩ Q1 hκ_25 (by omega) (by have := D0.2.1; omega)
        have T25 : zT κ_25 a0 = 15 := G1.1.t Ta0 (by decide)
        have rt : zR κ_25 chDrawnTotals a0 = zR κ chDrawnTotals a0 := G1.2.2.1 _ _ (fun z => absurd z.1 (by decide))
        have nt : zN κ_25 (zR κ chDrawnTotals a0) = zN κ (zR κ chDrawnTotals a0) := G1.1.l (ty_chDrawnTotals W Ta0)
        have e0 := D0.1
        refine Ar_copyOf_c W26 T27  ?_ (fun r28 κ_29 q30 => ?_)
        · rw [rt, nt, e0]
          refine ⟨⟨by rw [lei, t0i]; omega, by omega⟩, fun e => ?_⟩
          have g := congrArg Int32.toInt e
          rw [ofn_i bn, m2] at g
          have := D0.2.1
          omega
        intro W31
        intro M32
        intro T33
        refine ⟨?_, ?_⟩
        · rw [q30.1]; exact q30.2.2.1  -- b14
        intro κ_34 hκ_34
        intro W35
        refine hj63 _ _ _ _ W35 ?_ ?_
        · rw [hκ_34]; obtain ⟨e28, Q2⟩ := q30
          rw [e28] at hκ_34
          have G2 := gr_f W26 (show zr chDrawnTotals = some 20 by decide +kernel) (by decide) (T25.trans (by decide)) ⟨by decide, by decide, by decide, by decide +kernel⟩ Q2 hκ_34 (by rw [rt, nt, e0]; omega) (by rw [rt, nt, e0]; have := D0.2.1; omega)
          have y := G2.1.t T25 (by decide)
          rw [hκ_34, ← e28] at y
          exact y
        · obtain ⟨e28, Q2⟩ := q30
          rw [e28] at hκ_34
          have G2 := gr_f W26 (show zr chDrawnTotals = some 20 by decide +kernel) (by decide) (T25.trans (by decide)) ⟨by decide, by decide, by decide, by decide +kernel⟩ Q2 hκ_34 (by rw [rt, nt, e0]; omega) (by rw [rt, nt, e0]; have := D0.2.1; omega)
          have Z0 : zF (fun f b => b = a0 ∧ (f = chDrawnWeights ∨ f = chDrawnTotals)) κ κ_34 := (G1.1.mono (fun f b z => ⟨z.2, Or.inl z.1⟩)).tr (G2.1.mono (fun f b z => ⟨z.2, Or.inr z.1⟩))
          have rw1 : zR κ_34 chDrawnWeights a0 = zn κ := (G2.2.2.1 _ _ (fun z => absurd z.1 (by decide))).trans G1.2.2.2.1
          have tw := ty_chDrawnWeights W26 T25
          rw [G1.2.2.2.1] at tw
          have nw1 : zN κ_34 (zn κ) = (a2 * 2).toNatClampNeg := (G2.1.l tw).trans G1.2.2.2.2.1
          refine ⟨rfl, rfl, rfl, Z0.mono (fun f b z => Or.inr z), fun f h1 h2 => (G2.2.2.1 f a0 (fun z => h2 z.1)).trans (G1.2.2.1 f a0 (fun z => h1 z.1)), mkI_zF Z0 W tm (fun f z => am.1 z.1.symm) (fun f z => am.2.1 z.1.symm) K0, ⟨mO_z9 Z0 (fun f z => am.1 z.1.symm) O0, by rw [Z0.i (fun z => am.1 z.1.symm)]; exact w0⟩, ⟨?_, ?_⟩, ⟨l0, ?_⟩, by omega, by omega⟩
          · rw [rw1, nw1, G2.2.2.2.1, G2.2.2.2.2.1]
          · rw [rw1, nw1]
            have := D0.2.1
            omega
          · rw [rw1, nw1]
            have := D0.2.1
            omega
    · skip
      refine hj15 _ _ W ?_ ?_
      · exact Ta0  -- t17
      · exact ⟨rfl, rfl, trivial⟩  -- k18

def ntF9 (a : Nat) : Nat → Nat → Prop := fun f b => b = a ∧ (f = chRecord ∨ f = chLastShared ∨ f = chPlayMade)
theorem nt_j9 {C : zC} {n0 a i : Nat} {κ τ : zS} {x : Int64} (W : zW C n0 κ) (T : zT κ a = 15) (e : τ = uj κ (zR κ chRecord a) i x) : zF (ntF9 a) κ τ ∧ zR τ = zR κ := by
  have o := W.o (show zr chRecord = some 22 by decide +kernel) (by decide) (T.trans (by decide))
  refine ⟨?_, by rw [e]; rfl⟩
  rw [e]
  exact zF_uj (by rw [o]; exact ⟨rfl, Or.inl rfl⟩)
theorem Ch_note_c {C : zC} {n0 : Nat} {a0 : Nat} {a1 : Int32} {a2 : Int32} {a3 : Int64} {κ : zS} {Q : zS → Prop} (W : zW C n0 κ) (Ta0 : zT κ a0 = 15)  (hp : mkI κ (zR κ chMachine a0) ∧ coI κ (zR κ chCode a0) ∧ (zN κ (zR κ chRecord a0)) = 5 ∧ (zN κ (zR κ chLastShared a0)) = 34) (h : ∀ (κ' : zS), (zF (ntF9 a0) κ κ' ∧ zR κ' = zR κ) → Q κ') : zRun C 1 mCh_note [.ref a0, .int a1, .int a2, .long a3] κ (oV Q noX) := by
  refine Ch_note_run W Ta0 ?_
  replace W := W.lo (Nat.le_trans W.1.2.1 W.1.2.2) (Nat.le_refl (zn κ))
  unfold w_Ch_note_0
  have am := ch_m9 W Ta0
  have nr : ∀ τ, zF (ntF9 a0) κ τ → zN τ (zR κ chRecord a0) = 5 := fun τ Z => (Z.l (ty_chRecord W Ta0)).trans hp.2.2.1
  have e1 : (1 : Int32).toInt = 1 := rfl
  have e2 : (2 : Int32).toInt = 2 := rfl
  have e3 : (3 : Int32).toInt = 3 := rfl
  have e4 : (4 : Int32).toInt = 4 := rfl
  have hj58 : ∀ (l0 : Nat) (l1 : Int32) (l2 : Int32) (l3 : Int64) (s0 : Nat) (s1 : Int32) (s2 : Int64) (τ : zS), zW C (zn κ) τ → zT τ l0 = 15 → zT τ s0 = 22 → (a0 = l0 ∧ a1 = l1 ∧ a2 = l2 ∧ a3 = l3 ∧ (zF (ntF9 a0) κ τ ∧ zR τ = zR κ) ∧ s0 = zR κ chRecord a0 ∧ s1 = 1) → w_Ch_note_58 C (zn κ) Q  l0 l1 l2 l3 s0 s1 s2 τ := by
    rintro _ _ _ _ y58_s0 y58_s1 y58_s2 τ58 W58 T58_0 T58_1 ⟨rfl, rfl, rfl, rfl, j58⟩
    unfold w_Ch_note_58
    obtain ⟨⟨Z6, R6⟩, es, e6⟩ := j58
    refine ⟨?_, ?_⟩
    · rw [inb_iff, es, e6, nr _ Z6, e1]; omega  -- b1
    intro κ_1 hκ_1
    intro W2
    rw [es, ← R6] at hκ_1
    obtain ⟨Z1, R1⟩ := nt_j9 W58 T58_0 hκ_1
    have R1' := R1.trans R6
    have Y1 := Z6.tr Z1
    refine ⟨?_, ?_⟩
    · rw [inb_iff, R1', nr _ Y1, e2]; omega  -- b2
    intro κ_3 hκ_3
    intro W4
    obtain ⟨Z3, R3⟩ := nt_j9 W2 (Z1.t T58_0 (by decide)) hκ_3
    have R3' := R3.trans R1'
    have Y3 := Y1.tr Z3
    refine ⟨?_, ?_⟩
    · rw [inb_iff, R3', nr _ Y3, e3]; omega  -- b3
    intro κ_5 hκ_5
    intro W6
    obtain ⟨Z5, R5⟩ := nt_j9 W4 (Y3.t Ta0 (by decide)) hκ_5
    have R5' := R5.trans R3'
    have Y5 := Y3.tr Z5
    refine ⟨?_, ?_⟩
    · rw [inb_iff, R5', nr _ Y5, e4]; omega  -- b4
    intro κ_7 hκ_7
    intro W8
    intro T9
    obtain ⟨Z7, R7⟩ := nt_j9 W6 (Y5.t Ta0 (by decide)) hκ_7
    have R7' := R7.trans R5'
    have Y7 := Y5.tr Z7
    have C7 : coI κ_7 (zR κ chCode a0) := coI_zF Y7 W (ty_chCode W Ta0) (fun f z => am.2.2 z.1.symm) hp.2.1
    refine Co_shared_c W8 T9  ?_ (fun r10 q12 => ?_)
    · rw [R7']; exact C7  -- p5
    intro W13
    intro M14
    rw [R7'] at q12
    have rb : 0 ≤ r10.toInt ∧ r10.toInt ≤ 34 := by
      obtain ⟨-, hv, ha, hc, -⟩ := C7
      omega
    have kr := cnk rb.1
    have cd : (if (34 : Int32) < r10 then (34 : Int32) else r10) = r10 := if_neg (by
      have e34 : (34 : Int32).toInt = 34 := rfl
      rw [lti, e34]
      omega)
    have n1 : zN κ_7 (zR κ maMemory (zR κ chMachine a0)) = 142 := (Y7.l (ty_maMemory W (ty_chMachine W Ta0))).trans hp.1.1.1
    have n2 : zN κ_7 (zR κ chLastShared a0) = 34 := (Y7.l (ty_chLastShared W Ta0)).trans hp.2.2.2
    have z0 : (0 : Int32).toNatClampNeg = 0 := rfl
    rw [cd]
    refine ⟨?_, ?_⟩
    · rw [R7']
      refine ⟨by decide, by decide, by rw [lei, t0i]; omega, by rw [n1, z0]; omega, by rw [n2, z0]; omega⟩
    intro κ_15 hκ_15
    intro W16
    intro κ_17 hκ_17
    intro W18
    refine h _ ?_
    · have T7 := Y7.t Ta0 (by decide)
      have o := W8.o (show zr chLastShared = some 20 by decide +kernel) (by decide) (T7.trans (by decide))
      have Z15 : zF (ntF9 a0) κ_7 κ_15 := by
        rw [hκ_15]
        exact zF_uc (by rw [o]; exact ⟨rfl, Or.inr (Or.inl rfl)⟩)
      have Z17 : zF (ntF9 a0) κ_15 κ_17 := by
        rw [hκ_17]
        exact zF_ui ⟨rfl, Or.inr (Or.inr rfl)⟩
      refine ⟨(Y7.tr Z15).tr Z17, ?_⟩
      rw [hκ_17, hκ_15]
      exact R7'
  intro x19 hx19
  refine ⟨?_, ?_⟩
  · rw [inb_iff, hp.2.2.1, t0i]; omega  -- b8
  intro κ_20 hκ_20
  intro W21
  obtain ⟨Z20, R20⟩ := nt_j9 W Ta0 hκ_20
  have T20 := Z20.t Ta0 (by decide)
  refine ⟨fun c22 => ?_, fun c22 => ?_⟩
  · skip
    refine ⟨fun c23 => ?_, fun c23 => ?_⟩
    · skip
      refine hj58 _ _ _ _ _ _ _ _ W21 ?_ ?_ ?_
      · exact T20  -- t9
      · exact ty_chRecord W21 T20  -- t10
      · exact ⟨rfl, rfl, rfl, rfl, ⟨Z20, R20⟩, by rw [R20], rfl⟩  -- k11
    · skip
      refine hj58 _ _ _ _ _ _ _ _ W21 ?_ ?_ ?_
      · exact T20  -- t12
      · exact ty_chRecord W21 T20  -- t13
      · exact ⟨rfl, rfl, rfl, rfl, ⟨Z20, R20⟩, by rw [R20], rfl⟩  -- k14
  · skip
    refine hj58 _ _ _ _ _ _ _ _ W21 ?_ ?_ ?_
    · exact T20  -- t15
    · exact ty_chRecord W21 T20  -- t16
    · exact ⟨rfl, rfl, rfl, rfl, ⟨Z20, R20⟩, by rw [R20], rfl⟩  -- k17

theorem pm_9 {x y a m : Nat} (h : x < pB9 m) (hy : y ≤ x * a) (ha : a < 2147483648) : y < pB9 (m + 1) := by
  have e : pB9 (m + 1) = pB9 m * 2147483648 := Nat.pow_succ _ _
  rw [e]
  have h1 : x * a ≤ x * 2147483648 := Nat.mul_le_mul_left _ (Nat.le_of_lt ha)
  have h2 : x * 2147483648 < pB9 m * 2147483648 := Nat.mul_lt_mul_of_pos_right h (by decide)
  omega
theorem Ch_showPlay_c {C : zC} {n0 : Nat} {a0 : Nat} {κ : zS} {Q : zS → Prop} (W : zW C n0 κ) (Ta0 : zT κ a0 = 15)  (hp : raC κ (zR κ chShown a0) 6500 ∧ ((zN κ (zR κ chDrawnWeights a0)) ≤ 4000 ∧ (zN κ (zR κ chRecord a0)) = 5)) (h : ∀ (κ' : zS), (zF (raF (zR κ raTop (zR κ chShown a0)) (zR κ raBottom (zR κ chShown a0)) (zR κ chShown a0)) κ κ' ∧ raJ κ' (zR κ chShown a0) 6500) → Q κ') : zRun C 5 mCh_showPlay [.ref a0] κ (oV Q noX) := by
  refine Ch_showPlay_run W Ta0 ?_
  replace W := W.lo (Nat.le_trans W.1.2.1 W.1.2.2) (Nat.le_refl (zn κ))
  unfold w_Ch_showPlay_0
  intro T1
  refine Ra_putOne_c W T1 6500 ?_ (fun κ_2 q3 => ?_)
  · exact hp.1  -- p1
  intro W4
  intro M5
  have r2 : ∀ f b, f ≠ nuLimbs → f ≠ nuLength → f ≠ raSign → zR κ_2 f b = zR κ f b := fun f b h1 h2 h3 => raF_r q3.1 h1 h2 h3
  refine ⟨?_, ?_⟩
  · have e3 : (3 : Int32).toInt = 3 := rfl
    rw [inb_iff, r2 chRecord _ (by decide) (by decide) (by decide), q3.1.l (ty_chRecord W Ta0), hp.2.2, e3]
    omega
  intro x6 hx6
  unfold w_Ch_showPlay_16
  refine ⟨fun n l0 l1 l3 τ => n = (4000 - l3.toInt).toNat ∧ (a0 = l0 ∧ zF (raF (zR κ raTop (zR κ chShown a0)) (zR κ raBottom (zR κ chShown a0)) (zR κ chShown a0)) κ τ ∧ raJ τ (zR κ chShown a0) 6500 ∧ 0 ≤ l3.toInt ∧ nuN τ (zR κ raTop (zR κ chShown a0)) < pB9 (l3.toInt.toNat + 1) ∧ nuN τ (zR κ raBottom (zR κ chShown a0)) < pB9 (l3.toInt.toNat + 1)), ⟨_, rfl, ?_⟩, ?_⟩
  · obtain ⟨v1, v2, v3⟩ := q3.2.2
    rw [r2 raTop _ (by decide) (by decide) (by decide)] at v2
    rw [r2 raBottom _ (by decide) (by decide) (by decide)] at v3
    have e : (0 : Int32).toInt.toNat + 1 = 1 := rfl
    have p1 : 1 < pB9 1 := by unfold pB9; decide
    exact ⟨rfl, q3.1, q3.2.1, by decide, by rw [e, v2]; exact p1, by rw [e, v3]; exact p1⟩
  rintro n16 _ x16_1 x16_3 κ16 W16 T16_0 ⟨hn16, rfl, i16⟩
  refine ⟨fun c7 => ?_, fun c7 => ?_⟩
  · skip
    refine h _ ?_
    · exact ⟨i16.1, i16.2.1⟩  -- q4
  · skip
    refine ⟨fun c8 => ?_, fun c8 => ?_⟩
    · skip
      refine h _ ?_
      · exact ⟨i16.1, i16.2.1⟩  -- q5
    · skip
      refine ⟨fun c9 => ?_, fun c9 => ?_⟩
      · skip
        refine h _ ?_
        · exact ⟨i16.1, i16.2.1⟩  -- q6
      · skip
        obtain ⟨Z6, J6, l0, t6, b6⟩ := i16
        have r6 : ∀ f b, f ≠ nuLimbs → f ≠ nuLength → f ≠ raSign → zR κ16 f b = zR κ f b := fun f b h1 h2 h3 => raF_r Z6 h1 h2 h3
        have rs := r6 chShown a0 (by decide) (by decide) (by decide)
        have rt := r6 raTop (zR κ chShown a0) (by decide) (by decide) (by decide)
        have rb := r6 raBottom (zR κ chShown a0) (by decide) (by decide) (by decide)
        have nw : zN κ16 (zR κ16 chDrawnWeights a0) = zN κ (zR κ chDrawnWeights a0) := by
          rw [r6 chDrawnWeights a0 (by decide) (by decide) (by decide)]
          exact Z6.l (ty_chDrawnWeights W Ta0)
        have h40 := hp.2.1
        rw [lei, ofn_i (W16.n (ty_chDrawnWeights W16 T16_0)), nw] at c8
        rw [lei, ofn_i (W16.n (ty_chDrawnTotals W16 T16_0))] at c9
        have ix := cn1 (x := x16_3) l0 (by omega)
        refine ⟨?_, ?_⟩
        · rw [inb_iff, nw]; omega  -- b7
        refine ⟨?_, ?_⟩
        · rw [inb_iff]; omega  -- b8
        intro T10
        refine Ra_scale_c2 W16 T10 6500 ?_ (fun κ_11 q12 => ?_)
        · rw [rs, rt, rb]
          have I1 := J6.1
          have I2 := J6.2.1
          rw [rt] at I1
          rw [rb] at I2
          have k1 := nuK_lt I1 t6
          have k2 := nuK_lt I2 b6
          exact ⟨J6, ⟨by omega, by omega⟩, by decide⟩
        intro W13
        intro M14
        intro x15 hx15
        rw [rs, rt, rb] at q12
        have r11 : ∀ f b, f ≠ nuLimbs → f ≠ nuLength → f ≠ raSign → zR κ_11 f b = zR κ16 f b := fun f b h1 h2 h3 => raF_r q12.1 h1 h2 h3
        refine ⟨_, ?_, rfl, ?_⟩
        · rw [hn16, hx15, ix.2]; omega  -- d10
        · have ek : x15.toInt.toNat + 1 = (x16_3.toInt.toNat + 1) + 1 := by rw [hx15, ix.2]; omega
          have l31 : ∀ z : Int32, z.toInt.toNat < 2147483648 := fun z => by
            have := z.toInt_lt
            omega
          refine ⟨rfl, Z6.tr q12.1, q12.2.1, by rw [hx15, ix.2]; omega, ?_, ?_⟩
          · rw [ek]
            rcases q12.2.2 with ⟨_, y, _⟩ | y
            · rw [r11 raTop _ (by decide) (by decide) (by decide), rt] at y
              rw [y]
              exact pB9_p
            · exact pm_9 t6 y.2.2.1 (l31 _)
          · rw [ek]
            rcases q12.2.2 with ⟨_, _, y⟩ | y
            · rw [r11 raBottom _ (by decide) (by decide) (by decide), rb] at y
              rw [y]
              exact Nat.lt_of_lt_of_le (by unfold pB9; decide : 1 < pB9 1) (pB9_l (by omega))
            · exact pm_9 b6 y.2.2.2.2 (l31 _)

end
section
set_option maxHeartbeats 1600000
/-! the class's reading as a pure program: its memory (parser, code, tape) as a record: numbers by field, rows by field, lengths of rows that stay -/
abbrev E5 : Type := (Nat → Int32) × (Nat → Nat → Int32) × (Nat → Nat)
abbrev T5 : Type := (Nat → Int32) × (Nat → Int32) × (Nat → Int32) × (Nat → Int32) × Int32 × Int32 × Nat
/-- what a piece of it comes to: the record and an answer, or a fault and its place -/
abbrev R5 (α : Type) : Type := (E5 × α) ⊕ (Int32 × Int32)
def fu5 : Nat := 4294967296
theorem fb5 {a b : Int32} : (a.toInt - b.toInt).toNat < fu5 := by
  have h1 := a.toInt_lt
  have h2 := b.le_toInt
  unfold fu5
  omega
def pb5 {α β : Type} (a : α) (k : α → β) : β := k a
def rdB5 {α β : Type} (m : R5 α) (k : E5 → α → R5 β) : R5 β := match m with
  | .inl x => k x.1 x.2
  | .inr x => .inr x
theorem rb_i5 {α β : Type} {m : R5 α} {k : E5 → α → R5 β} {r : R5 β} {e : E5} {a : α} (H : r = rdB5 m k) (z : m = .inl (e, a)) : r = k e a := by subst z; exact H
theorem rb_x5 {α β : Type} {m : R5 α} {k : E5 → α → R5 β} {r : R5 β} {x : Int32 × Int32} (H : r = rdB5 m k) (z : m = .inr x) : r = .inr x := by subst z; exact H
theorem rb_t5 {α : Type} {c : Prop} [Decidable c] {a b r : α} (H : r = if c then a else b) (h : c) : r = a := H.trans (if_pos h)
theorem rb_f5 {α : Type} {c : Prop} [Decidable c] {a b r : α} (H : r = if c then a else b) (h : ¬ c) : r = b := H.trans (if_neg h)
theorem rb_p5 {α β : Type} {a v : α} {k : α → β} {r : β} (H : r = pb5 a k) (z : v = a) : r = k v := by subst z; exact H
theorem rb_r5 {α : Type} {r : R5 α} {x y : Int32 × Int32} (H : r = .inr x) (z : x = y) : r = .inr y := by subst z; exact H
theorem lp_b5 {P : Nat → Prop} {n k : Nat} (hd : k < n) (h : k < n → P k) : ∃ k < n, P k := ⟨k, hd, h hd⟩
/-- rows that grow: as far as they are counted -/
def gr5 (f : Nat) : Prop := f = 1015 ∨ f = 506 ∨ f = 507 ∨ f = 508
def bd5 (i : Nat → Int32) (f : Nat) : Nat := if f = 1015 then (i 1016).toNatClampNeg else if f = 506 then 11 * (i 513).toNatClampNeg else (i 515).toNatClampNeg
def fx5 : List Nat := [500, 501, 502, 503, 504, 505, 1006, 1007, 1008, 1009, 1011, 1012, 1013, 1300, 1302, 1303, 1304]
def al5 : List Nat := [500, 501, 502, 503, 504, 505, 506, 507, 508, 1006, 1007, 1008, 1009, 1011, 1012, 1013, 1015, 1300, 1302, 1303, 1304]
def in5 : List Nat := [509, 510, 511, 512, 513, 514, 515, 1002, 1003, 1004, 1005, 1010, 1014, 1016, 1017, 1018, 1301, 1305]
def ow5 (κ : zS) (p f : Nat) : Nat := if f < 600 then zR κ paCode p else if f < 1100 then p else zR κ paTape p
def ai5 (κ : zS) (p f : Nat) : Int32 := if f ∈ in5 then zI κ f (ow5 κ p f) else 0
def ab5 (κ : zS) (p : Nat) : E5 := (ai5 κ p, fun f => if f = 1015 ∨ f = 506 ∨ f = 507 ∨ f = 508 then (fun j => if j < bd5 (ai5 κ p) f then zA κ (zR κ f (ow5 κ p f)) j else 0) else if f ∈ fx5 then zA κ (zR κ f (ow5 κ p f)) else fun _ => 0, fun f => if f ∈ fx5 then zN κ (zR κ f (ow5 κ p f)) else 0)
def tpT5 (κ : zS) (t : Nat) : T5 := (zA κ (zR κ taBytes t), zA κ (zR κ taKinds t), zA κ (zR κ taPlaces t), zA κ (zR κ taLengths t), zI κ taLength t, zI κ taTotal t, zN κ (zR κ taBytes t))
abbrev U5 : Type := (Nat → Int32) × Int32 × Nat
def up5 (κ : zS) (t : Nat) : U5 := (zA κ (zR κ taBytes t), zI κ taLength t, zN κ (zR κ taBytes t))
def ut5 (T : T5) : U5 := (T.1, T.2.2.2.2.1, T.2.2.2.2.2.2)
theorem ut_5 {κ : zS} {t : Nat} : ut5 (tpT5 κ t) = up5 κ t := rfl
def tq5 (e : E5) : T5 := (e.2.1 taBytes, e.2.1 taKinds, e.2.1 taPlaces, e.2.1 taLengths, e.1 taLength, e.1 taTotal, e.2.2 taBytes)
theorem tq_ab5 {κ : zS} {p : Nat} : tq5 (ab5 κ p) = tpT5 κ (zR κ paTape p) := rfl
/-- stores -/
def stI5 (f : Nat) (x : Int32) (e : E5) : R5 Unit := .inl ((fun g => if g = f then x else e.1 g, e.2), ())
def sw5 (x : Int32) (e : E5) : R5 Unit := .inl ((fun g => if g = 1016 then x else e.1 g, fun g j => if g = 1015 ∧ ¬ j < x.toNatClampNeg then 0 else e.2.1 g j, e.2.2), ())
def sa5 (f i : Nat) (x : Int32) (e : E5) : R5 Unit := .inl ((e.1, fun g j => if g = f ∧ j = i then x else e.2.1 g j, e.2.2), ())
/-- a fault's code and place -/
def pl5 (t : Int32) (e : E5) : Int32 := if t < 0 then e.1 taLength else if e.1 taTotal ≤ t then e.1 taLength else e.2.1 taPlaces t.toNatClampNeg
def rv5 (f t : Int32) (e : E5) : Int32 × Int32 := (if e.1 paKind = 143 then 1 else f, pl5 (if e.1 paKind = 143 then e.1 paAt else t) e)
/-- the code's rows -/
def cl5 (s c : Int32) (e : E5) : Int32 := if s < 0 then -1 else if e.1 coStatements ≤ s then -1 else e.2.1 coRows (s * 11 + c).toNatClampNeg
def f5_Co_setColumn (s c x : Int32) (e : E5) : R5 Unit := if s < 0 then .inl (e, ()) else if e.1 coStatements ≤ s then .inl (e, ()) else sa5 coRows (s * 11 + c).toNatClampNeg x e
def f5_Co_emit (o a : Int32) (e : E5) : R5 Unit := .inl ((fun g => if g = 515 then e.1 515 + 1 else e.1 g, fun g j => if g = 507 ∧ j = (e.1 515).toNatClampNeg then o else if g = 508 ∧ j = (e.1 515).toNatClampNeg then a else e.2.1 g j, e.2.2), ())
def nr5 (len : Int32) (c : Nat) : Int32 := if c = 1 then 0 else if c = 3 then len else if c = 4 then 0 else -1
def f5_Co_addStatement (e : E5) : R5 Int32 := .inl ((fun g => if g = 513 then e.1 513 + 1 else e.1 g, fun g j => if g = 506 ∧ 11 * (e.1 513).toNatClampNeg ≤ j ∧ j < 11 * (e.1 513).toNatClampNeg + 11 then nr5 (e.1 515) (j - 11 * (e.1 513).toNatClampNeg) else e.2.1 g j, e.2.2), e.1 513)
def f5_Pa_hold (o : Int32) (e : E5) : R5 Unit := .inl ((fun g => if g = 1016 then e.1 1016 + 1 else e.1 g, fun g j => if g = 1015 ∧ j = (e.1 1016).toNatClampNeg then o else e.2.1 g j, e.2.2), ())
theorem al_r5 : ∀ g, g ∈ al5 → ∃ t, zr g = some t ∧ 20 ≤ t := by
  intro g hg
  have h : al5.all (fun g => match zr g with | some t => decide (20 ≤ t) | none => false) = true := by decide +kernel
  have z := List.all_eq_true.mp h g hg
  cases e : zr g with
  | none => rw [e] at z; cases z
  | some t => rw [e] at z; exact ⟨t, rfl, of_decide_eq_true z⟩
theorem al_d5 : ∀ g, g ∈ al5 → (g < 600 ∧ g / 100 = 5) ∨ (¬ g < 600 ∧ g < 1100 ∧ g / 100 = 10) ∨ (¬ g < 600 ∧ ¬ g < 1100 ∧ g / 100 = 13) := by decide
theorem al_t5 {C : zC} {n0 p g : Nat} {κ : zS} (W : zW C n0 κ) (T : zT κ p = 10) (hg : g ∈ al5) : zT κ (ow5 κ p g) = g / 100 := by
  unfold ow5
  rcases al_d5 g hg with ⟨a, b⟩ | ⟨a, b, c⟩ | ⟨a, b, c⟩
  · rw [if_pos a, b]; exact ty_paCode W T
  · rw [if_neg a, if_pos b, c]; exact T
  · rw [if_neg a, if_neg b, c]; exact ty_paTape W T
/-- rows of different fields are different -/
theorem al_n5 {C : zC} {n0 p f g : Nat} {κ : zS} (W : zW C n0 κ) (T : zT κ p = 10) (hf : f ∈ al5) (hg : g ∈ al5) (h : f ≠ g) : zR κ f (ow5 κ p f) ≠ zR κ g (ow5 κ p g) := by
  obtain ⟨t, a, b⟩ := al_r5 f hf
  obtain ⟨u, c, d⟩ := al_r5 g hg
  exact ow_ne W a b (al_t5 W T hf) c d (al_t5 W T hg) h
theorem fx_al5 : ∀ g, g ∈ fx5 → g ∈ al5 := by decide
theorem gr_al5 : ∀ g, g = 1015 ∨ g = 506 ∨ g = 507 ∨ g = 508 → g ∈ al5 := by
  intro g h
  rcases h with rfl | rfl | rfl | rfl <;> decide
theorem fx_gr5 : ∀ g, g ∈ fx5 → ¬ (g = 1015 ∨ g = 506 ∨ g = 507 ∨ g = 508) := by decide
/-- a record told by its members -/
theorem ab_mk5 {τ : zS} {p : Nat} {I : Nat → Int32} {A : Nat → Nat → Int32} {N : Nat → Nat} (hI : ∀ g, ai5 τ p g = I g) (hG : ∀ g, (g = 1015 ∨ g = 506 ∨ g = 507 ∨ g = 508) → ∀ j, (j < bd5 I g → zA τ (zR τ g (ow5 τ p g)) j = A g j) ∧ (¬ j < bd5 I g → A g j = 0)) (hF : ∀ g, g ∈ fx5 → zA τ (zR τ g (ow5 τ p g)) = A g ∧ zN τ (zR τ g (ow5 τ p g)) = N g) (hO : ∀ g, ¬ (g = 1015 ∨ g = 506 ∨ g = 507 ∨ g = 508) → g ∉ fx5 → A g = fun _ => 0) (hN : ∀ g, g ∉ fx5 → N g = 0) : ab5 τ p = (I, A, N) := by
  have e1 : ai5 τ p = I := funext hI
  unfold ab5
  rw [e1]
  refine Prod.ext rfl (Prod.ext (funext fun g => ?_) (funext fun g => ?_))
  · show (if _ then _ else _) = A g
    by_cases h : g = 1015 ∨ g = 506 ∨ g = 507 ∨ g = 508
    · rw [if_pos h]
      funext j
      by_cases hj : j < bd5 I g
      · rw [if_pos hj]; exact (hG g h j).1 hj
      · rw [if_neg hj]; exact ((hG g h j).2 hj).symm
    · rw [if_neg h]
      by_cases hf : g ∈ fx5
      · rw [if_pos hf]; exact (hF g hf).1
      · rw [if_neg hf]; exact (hO g h hf).symm
  · show (if _ then _ else _) = N g
    by_cases hf : g ∈ fx5
    · rw [if_pos hf]; exact (hF g hf).2
    · rw [if_neg hf]; exact (hN g hf).symm
theorem ab_G5 {κ : zS} {p g j : Nat} (h : g = 1015 ∨ g = 506 ∨ g = 507 ∨ g = 508) (hj : j < bd5 (ai5 κ p) g) : (ab5 κ p).2.1 g j = zA κ (zR κ g (ow5 κ p g)) j := by
  have e : (ab5 κ p).2.1 g = fun j => if j < bd5 (ai5 κ p) g then zA κ (zR κ g (ow5 κ p g)) j else 0 := if_pos h
  rw [e]
  exact if_pos hj
theorem ab_Z5 {κ : zS} {p g j : Nat} (h : g = 1015 ∨ g = 506 ∨ g = 507 ∨ g = 508) (hj : ¬ j < bd5 (ai5 κ p) g) : (ab5 κ p).2.1 g j = 0 := by
  have e : (ab5 κ p).2.1 g = fun j => if j < bd5 (ai5 κ p) g then zA κ (zR κ g (ow5 κ p g)) j else 0 := if_pos h
  rw [e]
  exact if_neg hj
theorem ab_F5 {κ : zS} {p g : Nat} (h : g ∈ fx5) : (ab5 κ p).2.1 g = zA κ (zR κ g (ow5 κ p g)) ∧ (ab5 κ p).2.2 g = zN κ (zR κ g (ow5 κ p g)) := by
  refine ⟨?_, if_pos h⟩
  show (if _ then _ else _) = _
  rw [if_neg (fx_gr5 g h)]
  exact if_pos h
theorem ab_O5 {κ : zS} {p g : Nat} (h : ¬ (g = 1015 ∨ g = 506 ∨ g = 507 ∨ g = 508)) (hf : g ∉ fx5) : (ab5 κ p).2.1 g = fun _ => 0 := by
  show (if _ then _ else _) = _
  rw [if_neg h]
  exact if_neg hf
theorem ab_N5 {κ : zS} {p g : Nat} (hf : g ∉ fx5) : (ab5 κ p).2.2 g = 0 := if_neg hf
theorem bd_c5 {I J : Nat → Int32} (h1 : I 1016 = J 1016) (h2 : I 513 = J 513) (h3 : I 515 = J 515) (g : Nat) : bd5 I g = bd5 J g := by unfold bd5; rw [h1, h2, h3]
theorem ua_t5 {κ : zS} {r i a : Nat} {x : Int32} : zT (ua κ r i x) a = zT κ a := rfl
theorem ui_t5 {κ : zS} {f b a : Nat} {x : Int32} : zT (ui κ f b x) a = zT κ a := rfl
/-- a number stored -/
theorem ab_ui5 {κ τ : zS} {p f : Nat} {x : Int32} (h : τ = ui κ f (ow5 κ p f) x) (hf : f ∈ in5) (h1 : f ≠ 1016 ∧ f ≠ 513 ∧ f ≠ 515) : stI5 f x (ab5 κ p) = .inl (ab5 τ p, ()) := by
  have e : ab5 τ p = (fun g => if g = f then x else (ab5 κ p).1 g, (ab5 κ p).2.1, (ab5 κ p).2.2) := by
    have hb : ∀ g, bd5 (fun g => if g = f then x else (ab5 κ p).1 g) g = bd5 (ai5 κ p) g := bd_c5 (if_neg (fun z => h1.1 z.symm)) (if_neg (fun z => h1.2.1 z.symm)) (if_neg (fun z => h1.2.2 z.symm))
    refine ab_mk5 (fun g => ?_) (fun g hg j => ⟨fun hj => ?_, fun hj => ?_⟩) (fun g hg => ?_) (fun g a b => ab_O5 a b) (fun g a => ab_N5 a)
    · subst h
      show (if g ∈ in5 then (if g = f ∧ ow5 κ p g = ow5 κ p f then x else zI κ g (ow5 κ p g)) else 0) = if g = f then x else (if g ∈ in5 then zI κ g (ow5 κ p g) else 0)
      by_cases z : g = f
      · subst z
        rw [if_pos hf, if_pos ⟨rfl, rfl⟩, if_pos rfl]
      · rw [if_neg z]
        by_cases y : g ∈ in5
        · rw [if_pos y, if_pos y, if_neg (fun q => z q.1)]
        · rw [if_neg y, if_neg y]
    · rw [hb] at hj
      rw [ab_G5 hg hj, h]
      rfl
    · rw [hb] at hj
      exact ab_Z5 hg hj
    · rw [(ab_F5 hg).1, (ab_F5 hg).2, h]
      exact ⟨rfl, rfl⟩
  rw [e]
  rfl
/-- fewer wait -/
theorem ab_uw5 {κ τ : zS} {p : Nat} {x : Int32} (h : τ = ui κ paWaits p x) (hx : x.toNatClampNeg ≤ (zI κ paWaits p).toNatClampNeg) : sw5 x (ab5 κ p) = .inl (ab5 τ p, ()) := by
  have e : ab5 τ p = (fun g => if g = 1016 then x else (ab5 κ p).1 g, fun g j => if g = 1015 ∧ ¬ j < x.toNatClampNeg then 0 else (ab5 κ p).2.1 g j, (ab5 κ p).2.2) := by
    have a16 : (ab5 κ p).1 1016 = zI κ paWaits p := rfl
    have hle : ∀ g j, j < bd5 (fun g => if g = 1016 then x else (ab5 κ p).1 g) g → j < bd5 (ai5 κ p) g := fun g j hj => by
      unfold bd5 at hj ⊢
      by_cases z : g = 1015
      · rw [if_pos z] at hj ⊢
        exact Nat.lt_of_lt_of_le hj hx
      · rw [if_neg z] at hj ⊢
        exact hj
    refine ab_mk5 (fun g => ?_) (fun g hg j => ⟨fun hj => ?_, fun hj => ?_⟩) (fun g hg => ?_) (fun g a b => ?_) (fun g a => ab_N5 a)
    · subst h
      show (if g ∈ in5 then (if g = paWaits ∧ ow5 κ p g = p then x else zI κ g (ow5 κ p g)) else 0) = if g = 1016 then x else (if g ∈ in5 then zI κ g (ow5 κ p g) else 0)
      by_cases z : g = 1016
      · subst z
        rw [if_pos (show 1016 ∈ in5 by decide), if_pos ⟨rfl, rfl⟩, if_pos rfl]
      · rw [if_neg z]
        by_cases y : g ∈ in5
        · rw [if_pos y, if_pos y, if_neg (fun q => z q.1)]
        · rw [if_neg y, if_neg y]
    · have z : ¬ (g = 1015 ∧ ¬ j < x.toNatClampNeg) := fun q => by
        unfold bd5 at hj
        rw [if_pos q.1] at hj
        exact q.2 hj
      rw [if_neg z, ab_G5 hg (hle g j hj), h]
      rfl
    · by_cases z : g = 1015 ∧ ¬ j < x.toNatClampNeg
      · exact if_pos z
      · rw [if_neg z]
        refine ab_Z5 hg (fun y => hj ?_)
        unfold bd5 at y ⊢
        by_cases w : g = 1015
        · rw [if_pos w]
          exact Classical.byContradiction (fun q => z ⟨w, q⟩)
        · rw [if_neg w] at y ⊢
          exact y
    · rw [(ab_F5 hg).2, h]
      refine ⟨?_, rfl⟩
      funext j
      rw [if_neg (fun q => fx_gr5 g hg (Or.inl q.1)), (ab_F5 hg).1]
      rfl
    · funext j
      rw [if_neg (fun q => a (Or.inl q.1)), ab_O5 a b]
  rw [e]
  rfl
/-- a row stored to -/
theorem ab_ua5 {C : zC} {n0 : Nat} {κ τ : zS} {p f i : Nat} {x : Int32} (W : zW C n0 κ) (T : zT κ p = 10) (h : τ = ua κ (zR κ f (ow5 κ p f)) i x) (hf : f ∈ fx5) : sa5 f i x (ab5 κ p) = .inl (ab5 τ p, ()) := by
  have e : ab5 τ p = ((ab5 κ p).1, fun g j => if g = f ∧ j = i then x else (ab5 κ p).2.1 g j, (ab5 κ p).2.2) := by
    have ne : ∀ g, g ∈ al5 → g ≠ f → zA τ (zR τ g (ow5 τ p g)) = zA κ (zR κ g (ow5 κ p g)) := fun g hg z => by
      subst h
      exact if_neg (al_n5 W T hg (fx_al5 f hf) z)
    refine ab_mk5 (fun g => by rw [h]; rfl) (fun g hg j => ?_) (fun g hg => ?_) (fun g a b => ?_) (fun g a => ab_N5 a)
    · have z : g ≠ f := fun q => fx_gr5 f hf (q ▸ hg)
      rw [if_neg (fun q => z q.1), ne g (gr_al5 g hg) z]
      exact ⟨fun hj => (ab_G5 hg hj).symm, fun hj => ab_Z5 hg hj⟩
    · refine ⟨?_, by rw [(ab_F5 hg).2, h]; rfl⟩
      by_cases z : g = f
      · subst z
        funext j
        rw [(ab_F5 hg).1]
        subst h
        show (if zR κ g (ow5 κ p g) = zR κ g (ow5 κ p g) then upd (zA κ (zR κ g (ow5 κ p g))) i x else _) j = _
        rw [if_pos rfl]
        by_cases y : j = i
        · rw [if_pos ⟨rfl, y⟩, y]
          exact upd_eq
        · rw [if_neg (fun q => y q.2)]
          exact upd_ne y
      · funext j
        rw [if_neg (fun q => z q.1), ne g (fx_al5 g hg) z, (ab_F5 hg).1]
    · funext j
      show (if g = f ∧ j = i then x else (ab5 κ p).2.1 g j) = 0
      rw [if_neg (fun (q : g = f ∧ j = i) => b (q.1 ▸ hf)), ab_O5 a b]
  rw [e]
  rfl

end
section
set_option maxHeartbeats 1600000
/-! the tape's bytes, names and numbers as pure functions -/
theorem and_5 {a b : Prop} (x : a) (f : a → b) : a ∧ b := ⟨x, f x⟩
def f5_Ta_byteAt (U : U5) (a1 : Int32) : Int32 := (if a1 < (0 : Int32) then (-1 : Int32) else (if (U.2.1) ≤ a1 then (-1 : Int32) else (if (Int32.ofNat (U.2.2)) ≤ a1 then (-1 : Int32) else ((U.1 (a1).toNatClampNeg) &&& (255 : Int32)))))

def f5_Ta_isDigit (a0 : Int32) : Int32 := (if a0 < (48 : Int32) then (0 : Int32) else (if (57 : Int32) < a0 then (0 : Int32) else (1 : Int32)))

def f5_Ta_isLetter_24 (a0 : Int32) : Int32 := (if a0 = (95 : Int32) then (1 : Int32) else (0 : Int32))
def f5_Ta_isLetter_12 (a0 : Int32) : Int32 := (if a0 < (65 : Int32) then (f5_Ta_isLetter_24 (a0)) else (if a0 ≤ (90 : Int32) then (1 : Int32) else (f5_Ta_isLetter_24 (a0))))
def f5_Ta_isLetter (a0 : Int32) : Int32 := (if a0 < (97 : Int32) then (f5_Ta_isLetter_12 (a0)) else (if a0 ≤ (122 : Int32) then (1 : Int32) else (f5_Ta_isLetter_12 (a0))))

def f5_Ta_skipBlanks_4 (U : U5) : Nat → Int32 → Int32 → Int32
  | 0, _, _ => 0
  | m5 + 1, a2, a3 => (if (U.2.1) ≤ a3 then (U.2.1) else pb5 (f5_Ta_byteAt U (a3)) (fun r2 => (if r2 = (10 : Int32) then pb5 (a3 + (1 : Int32)) (fun v3_14 => (f5_Ta_skipBlanks_4 U m5 ((0 : Int32)) (v3_14))) else (if r2 = (35 : Int32) then pb5 (a3 + (1 : Int32)) (fun v3_12 => (f5_Ta_skipBlanks_4 U m5 ((1 : Int32)) (v3_12))) else (if a2 = (0 : Int32) then (if r2 = (9 : Int32) then pb5 (a3 + (1 : Int32)) (fun v3_6 => (f5_Ta_skipBlanks_4 U m5 (a2) (v3_6))) else (if r2 = (13 : Int32) then pb5 (a3 + (1 : Int32)) (fun v3_8 => (f5_Ta_skipBlanks_4 U m5 (a2) (v3_8))) else (if r2 = (32 : Int32) then pb5 (a3 + (1 : Int32)) (fun v3_10 => (f5_Ta_skipBlanks_4 U m5 (a2) (v3_10))) else a3))) else pb5 (a3 + (1 : Int32)) (fun v3_4 => (f5_Ta_skipBlanks_4 U m5 (a2) (v3_4))))))))
def f5_Ta_skipBlanks (U : U5) (a1 : Int32) : Int32 := (f5_Ta_skipBlanks_4 U fu5 ((0 : Int32)) (a1))

def f5_Ta_sizeAt_51 (U : U5) (a1 s0 : Int32) : Int32 := (if s0 = (0 : Int32) then (1 : Int32) else pb5 (f5_Ta_byteAt U ((a1 + (1 : Int32)))) (fun r2 => (if r2 = (61 : Int32) then (2 : Int32) else (1 : Int32))))
def f5_Ta_sizeAt_81 (U : U5) : Nat → Int32 → Int32 → Int32 → Int32
  | 0, _, _, _ => 0
  | m5 + 1, a1, a3, a4 => (if (U.2.1) ≤ a4 then (a4 - a1) else pb5 (f5_Ta_byteAt U (a4)) (fun r2 => pb5 (f5_Ta_isDigit (r2)) (fun r5 => (if r5 = (0 : Int32) then (if a3 = (0 : Int32) then (a4 - a1) else pb5 (f5_Ta_byteAt U (a4)) (fun r10 => pb5 (f5_Ta_isLetter (r10)) (fun r14 => (if r14 = (0 : Int32) then (a4 - a1) else pb5 (a4 + (1 : Int32)) (fun v4_16 => (f5_Ta_sizeAt_81 U m5 (a1) (a3) (v4_16))))))) else pb5 (a4 + (1 : Int32)) (fun v4_7 => (f5_Ta_sizeAt_81 U m5 (a1) (a3) (v4_7)))))))
def f5_Ta_sizeAt_76 (U : U5) (a1 a3 : Int32) : Int32 := pb5 ((a1 + (1 : Int32))) (fun v4_1 => (f5_Ta_sizeAt_81 U fu5 (a1) (a3) (v4_1)))
def f5_Ta_sizeAt (U : U5) (a1 : Int32) : Int32 := pb5 (f5_Ta_byteAt U (a1)) (fun r2 => pb5 (f5_Ta_isLetter (r2)) (fun r5 => (if r5 = (0 : Int32) then pb5 (f5_Ta_isDigit (r2)) (fun r9 => (if r9 = (0 : Int32) then (if r2 = (61 : Int32) then (f5_Ta_sizeAt_51 U (a1) ((1 : Int32))) else (if r2 = (33 : Int32) then (f5_Ta_sizeAt_51 U (a1) ((1 : Int32))) else (if r2 = (60 : Int32) then (f5_Ta_sizeAt_51 U (a1) ((1 : Int32))) else (if r2 = (62 : Int32) then (f5_Ta_sizeAt_51 U (a1) ((1 : Int32))) else (f5_Ta_sizeAt_51 U (a1) ((0 : Int32))))))) else (f5_Ta_sizeAt_76 U (a1) (r5)))) else (f5_Ta_sizeAt_76 U (a1) (r5)))))

def f5_Ta_numberAt_4 (T : T5) : Nat → Int32 → Int32 → Int32 → Int32
  | 0, _, _, _ => 0
  | m5 + 1, a1, a2, a3 => (if a1 < (0 : Int32) then a2 else (if (T.2.2.2.2.2.1) ≤ a1 then a2 else (if (T.2.2.2.1 (a1).toNatClampNeg) ≤ a3 then a2 else pb5 (f5_Ta_byteAt (ut5 T) (((T.2.2.1 (a1).toNatClampNeg) + a3))) (fun r2 => pb5 ((((a2 * (10 : Int32)) + r2) - (48 : Int32))) (fun v2_4 => pb5 (a3 + (1 : Int32)) (fun v3_5 => (f5_Ta_numberAt_4 T m5 (a1) (v2_4) (v3_5))))))))
def f5_Ta_numberAt (T : T5) (a1 : Int32) : Int32 := (f5_Ta_numberAt_4 T fu5 (a1) ((0 : Int32)) ((0 : Int32)))

def f5_Ta_findName_145 (T : T5) (B44 : Int32 → Int32 → Int32 → Int32 → Int32) (n1 : Nat → Int32) (l1 : Nat) (a2 a4 a5 a6 a9 : Int32) : Int32 := (if a4 ≤ (0 : Int32) then pb5 (a6 + (1 : Int32)) (fun v6_1 => (B44 (a2) (a4) (a5) (v6_1))) else (if a9 = a4 then a6 else pb5 (a6 + (1 : Int32)) (fun v6_2 => (B44 (a2) (a4) (a5) (v6_2)))))
def f5_Ta_findName_97 (T : T5) (B44 : Int32 → Int32 → Int32 → Int32 → Int32) (n1 : Nat → Int32) (l1 : Nat) : Nat → Int32 → Int32 → Int32 → Int32 → Int32 → Int32 → Int32 → Int32
  | 0, _, _, _, _, _, _, _ => 0
  | m5 + 1, a2, a4, a5, a6, a7, a8, a9 => (if a4 ≤ a9 then (f5_Ta_findName_145 T B44 n1 l1 (a2) (a4) (a5) (a6) (a9)) else (if (T.2.2.2.1 (a7).toNatClampNeg) = a4 then (if (T.1 ((a5 + a9)).toNatClampNeg) = (T.1 ((a8 + a9)).toNatClampNeg) then pb5 (a9 + (1 : Int32)) (fun v9_1 => (f5_Ta_findName_97 T B44 n1 l1 m5 (a2) (a4) (a5) (a6) (a7) (a8) (v9_1))) else (f5_Ta_findName_145 T B44 n1 l1 (a2) (a4) (a5) (a6) (a9))) else (f5_Ta_findName_145 T B44 n1 l1 (a2) (a4) (a5) (a6) (a9))))
def f5_Ta_findName_83 (T : T5) (B44 : Int32 → Int32 → Int32 → Int32 → Int32) (n1 : Nat → Int32) (l1 : Nat) (a2 a4 a5 a6 s0 : Int32) : Int32 := pb5 ((T.2.2.1 (s0).toNatClampNeg)) (fun v8_1 => (f5_Ta_findName_97 T B44 n1 l1 fu5 (a2) (a4) (a5) (a6) (s0) (v8_1) ((0 : Int32))))
def f5_Ta_findName_44 (T : T5) (n1 : Nat → Int32) (l1 : Nat) : Nat → Int32 → Int32 → Int32 → Int32 → Int32
  | 0, _, _, _, _ => 0
  | m5 + 1, a2, a4, a5, a6 => (if a2 ≤ a6 then (-1 : Int32) else (if (Int32.ofNat (l1)) ≤ a6 then (-1 : Int32) else (if (n1 (a6).toNatClampNeg) < (0 : Int32) then (f5_Ta_findName_83 T (f5_Ta_findName_44 T n1 l1 m5) n1 l1 (a2) (a4) (a5) (a6) ((0 : Int32))) else (if (T.2.2.2.2.2.1) ≤ (n1 (a6).toNatClampNeg) then (f5_Ta_findName_83 T (f5_Ta_findName_44 T n1 l1 m5) n1 l1 (a2) (a4) (a5) (a6) ((0 : Int32))) else (f5_Ta_findName_83 T (f5_Ta_findName_44 T n1 l1 m5) n1 l1 (a2) (a4) (a5) (a6) ((n1 (a6).toNatClampNeg)))))))
def f5_Ta_findName_39 (T : T5) (n1 : Nat → Int32) (l1 : Nat) (a2 a4 s0 : Int32) : Int32 := (f5_Ta_findName_44 T n1 l1 fu5 (a2) (a4) (s0) ((0 : Int32)))
def f5_Ta_findName_22 (T : T5) (n1 : Nat → Int32) (l1 : Nat) (a2 a3 s0 : Int32) : Int32 := (if s0 ≤ (0 : Int32) then (f5_Ta_findName_39 T n1 l1 (a2) (s0) ((0 : Int32))) else (f5_Ta_findName_39 T n1 l1 (a2) (s0) ((T.2.2.1 (a3).toNatClampNeg))))
def f5_Ta_findName (T : T5) (n1 : Nat → Int32) (l1 : Nat) (a2 a3 : Int32) : Int32 := (if a3 < (0 : Int32) then (f5_Ta_findName_22 T n1 l1 (a2) (a3) ((0 : Int32))) else (if (T.2.2.2.2.2.1) ≤ a3 then (f5_Ta_findName_22 T n1 l1 (a2) (a3) ((0 : Int32))) else (f5_Ta_findName_22 T n1 l1 (a2) (a3) ((T.2.2.2.1 (a3).toNatClampNeg)))))

def f5_Pa_rankOf (a0 : Int32) : Int32 := (if a0 < (100 : Int32) then (if a0 < (17 : Int32) then (if a0 < (15 : Int32) then (if a0 < (9 : Int32) then (if a0 = (8 : Int32) then (2 : Int32) else (if a0 = (7 : Int32) then (1 : Int32) else (6 : Int32))) else (3 : Int32)) else (4 : Int32)) else (5 : Int32)) else (0 : Int32))

def f5_Pa_binary (a0 : Int32) : Int32 := (if (a0).toInt = 37 then (19 : Int32) else if (a0).toInt = 38 then (8 : Int32) else if (a0).toInt = 42 then (17 : Int32) else if (a0).toInt = 43 then (15 : Int32) else if (a0).toInt = 45 then (16 : Int32) else if (a0).toInt = 47 then (18 : Int32) else if (a0).toInt = 60 then (11 : Int32) else if (a0).toInt = 62 then (13 : Int32) else if (a0).toInt = 124 then (7 : Int32) else if (a0).toInt = 128 then (9 : Int32) else if (a0).toInt = 129 then (10 : Int32) else if (a0).toInt = 130 then (12 : Int32) else if (a0).toInt = 131 then (14 : Int32) else (-1 : Int32))

theorem Ta_byteAt_q5 {C : zC} {n0 : Nat} {a0 : Nat} {a1 : Int32} {κ : zS} {Q : Int32 → zS → Prop} (W : zW C n0 κ) (Ta0 : zT κ a0 = 13)  (hp : taI κ a0) (h : ∀ (v : Int32), ((v = -1 ∨ (0 ≤ a1.toInt ∧ a1.toInt < (zI κ taLength a0).toInt)) ∧ v = f5_Ta_byteAt (up5 κ a0) a1) → Q v κ) : zRun C 0 mTa_byteAt [.ref a0, .int a1] κ (oI Q noX) := by
  refine Ta_byteAt_run W Ta0 ?_
  replace W := W.lo (Nat.le_trans W.1.2.1 W.1.2.2) (Nat.le_refl (zn κ))
  unfold w_Ta_byteAt_0
  obtain ⟨⟨h0, h1, h2, h3⟩, -⟩ := hp
  have bN := W.n (ty_taBytes W Ta0)
  have hE : f5_Ta_byteAt (up5 κ a0) a1 = f5_Ta_byteAt (up5 κ a0) a1 := rfl
  refine ⟨fun c1 => ?_, fun c1 => ?_⟩
  · skip
    replace hE := rb_t5 hE c1
    refine h _ ?_
    · refine and_5 ?_ (fun o9 => hE.symm)  -- q1
      exact Or.inl rfl
  · skip
    replace hE := rb_f5 hE c1
    refine ⟨fun c2 => ?_, fun c2 => ?_⟩
    · skip
      replace hE := rb_t5 hE c2
      refine h _ ?_
      · refine and_5 ?_ (fun o9 => hE.symm)  -- q2
        exact Or.inl rfl
    · skip
      replace hE := rb_f5 hE c2
      refine ⟨fun c3 => ?_, fun c3 => ?_⟩
      · skip
        replace hE := rb_t5 hE c3
        refine h _ ?_
        · refine and_5 ?_ (fun o9 => hE.symm)  -- q3
          exact Or.inl rfl
      · skip
        replace hE := rb_f5 hE c3
        refine ⟨?_, ?_⟩
        · rw [lti, t0i] at c1
          rw [lei, ofn_i bN] at c3
          rw [inb_iff]; omega
        refine h _ ?_
        · refine and_5 ?_ (fun o9 => hE.symm)  -- q5
          right
          rw [lti, t0i] at c1
          rw [lei] at c2
          omega

theorem Ta_isDigit_q5 {C : zC} {n0 : Nat} {a0 : Int32} {κ : zS} {Q : Int32 → zS → Prop} (W : zW C n0 κ)   (h : ∀ (v : Int32), ((nb v) ∧ v = f5_Ta_isDigit a0) → Q v κ) : zRun C 0 mTa_isDigit [.int a0] κ (oI Q noX) := by
  refine Ta_isDigit_run W  ?_
  replace W := W.lo (Nat.le_trans W.1.2.1 W.1.2.2) (Nat.le_refl (zn κ))
  unfold w_Ta_isDigit_0
  have hE : f5_Ta_isDigit a0 = f5_Ta_isDigit a0 := rfl
  refine ⟨fun c1 => ?_, fun c1 => ?_⟩
  · skip
    replace hE := rb_t5 hE c1
    refine h _ ?_
    · refine and_5 ?_ (fun o9 => hE.symm)  -- q1
      exact nb_0
  · skip
    replace hE := rb_f5 hE c1
    refine ⟨fun c2 => ?_, fun c2 => ?_⟩
    · skip
      replace hE := rb_t5 hE c2
      refine h _ ?_
      · refine and_5 ?_ (fun o9 => hE.symm)  -- q2
        exact nb_0
    · skip
      replace hE := rb_f5 hE c2
      refine h _ ?_
      · refine and_5 ?_ (fun o9 => hE.symm)  -- q3
        exact nb_1

theorem Ta_isLetter_q5 {C : zC} {n0 : Nat} {a0 : Int32} {κ : zS} {Q : Int32 → zS → Prop} (W : zW C n0 κ)   (h : ∀ (v : Int32), ((nb v) ∧ v = f5_Ta_isLetter a0) → Q v κ) : zRun C 0 mTa_isLetter [.int a0] κ (oI Q noX) := by
  refine Ta_isLetter_run W  ?_
  replace W := W.lo (Nat.le_trans W.1.2.1 W.1.2.2) (Nat.le_refl (zn κ))
  unfold w_Ta_isLetter_0
  have hE : f5_Ta_isLetter a0 = f5_Ta_isLetter a0 := rfl
  refine ⟨fun c1 => ?_, fun c1 => ?_⟩
  · skip
    replace hE := rb_t5 hE c1
    unfold w_Ta_isLetter_12
    refine ⟨fun c2 => ?_, fun c2 => ?_⟩
    · skip
      replace hE := rb_t5 hE c2
      unfold w_Ta_isLetter_24
      refine ⟨fun c3 => ?_, fun c3 => ?_⟩
      · skip
        replace hE := rb_f5 hE c3
        refine h _ ?_
        · refine and_5 ?_ (fun o9 => hE.symm)  -- q1
          first | exact nb_0 | exact nb_1
      · skip
        replace hE := rb_t5 hE c3
        refine h _ ?_
        · refine and_5 ?_ (fun o9 => hE.symm)  -- q2
          first | exact nb_0 | exact nb_1
    · skip
      replace hE := rb_f5 hE c2
      refine ⟨fun c4 => ?_, fun c4 => ?_⟩
      · skip
        replace hE := rb_t5 hE c4
        refine h _ ?_
        · refine and_5 ?_ (fun o9 => hE.symm)  -- q3
          first | exact nb_0 | exact nb_1
      · skip
        replace hE := rb_f5 hE c4
        unfold w_Ta_isLetter_24
        refine ⟨fun c5 => ?_, fun c5 => ?_⟩
        · skip
          replace hE := rb_f5 hE c5
          refine h _ ?_
          · refine and_5 ?_ (fun o9 => hE.symm)  -- q4
            first | exact nb_0 | exact nb_1
        · skip
          replace hE := rb_t5 hE c5
          refine h _ ?_
          · refine and_5 ?_ (fun o9 => hE.symm)  -- q5
            first | exact nb_0 | exact nb_1
  · skip
    replace hE := rb_f5 hE c1
    refine ⟨fun c6 => ?_, fun c6 => ?_⟩
    · skip
      replace hE := rb_t5 hE c6
      refine h _ ?_
      · refine and_5 ?_ (fun o9 => hE.symm)  -- q6
        first | exact nb_0 | exact nb_1
    · skip
      replace hE := rb_f5 hE c6
      unfold w_Ta_isLetter_12
      refine ⟨fun c7 => ?_, fun c7 => ?_⟩
      · skip
        replace hE := rb_t5 hE c7
        unfold w_Ta_isLetter_24
        refine ⟨fun c8 => ?_, fun c8 => ?_⟩
        · skip
          replace hE := rb_f5 hE c8
          refine h _ ?_
          · refine and_5 ?_ (fun o9 => hE.symm)  -- q7
            first | exact nb_0 | exact nb_1
        · skip
          replace hE := rb_t5 hE c8
          refine h _ ?_
          · refine and_5 ?_ (fun o9 => hE.symm)  -- q8
            first | exact nb_0 | exact nb_1
      · skip
        replace hE := rb_f5 hE c7
        refine ⟨fun c9 => ?_, fun c9 => ?_⟩
        · skip
          replace hE := rb_t5 hE c9
          refine h _ ?_
          · refine and_5 ?_ (fun o9 => hE.symm)  -- q9
            first | exact nb_0 | exact nb_1
        · skip
          replace hE := rb_f5 hE c9
          unfold w_Ta_isLetter_24
          refine ⟨fun c10 => ?_, fun c10 => ?_⟩
          · skip
            replace hE := rb_f5 hE c10
            refine h _ ?_
            · refine and_5 ?_ (fun o9 => hE.symm)  -- q10
              first | exact nb_0 | exact nb_1
          · skip
            replace hE := rb_t5 hE c10
            refine h _ ?_
            · refine and_5 ?_ (fun o9 => hE.symm)  -- q11
              first | exact nb_0 | exact nb_1

theorem Ta_skipBlanks_q5 {C : zC} {n0 : Nat} {a0 : Nat} {a1 : Int32} {κ : zS} {Q : Int32 → zS → Prop} (W : zW C n0 κ) (Ta0 : zT κ a0 = 13)  (hp : taI κ a0 ∧ 0 ≤ a1.toInt ∧ a1.toInt ≤ (zI κ taLength a0).toInt) (h : ∀ (v : Int32), ((a1.toInt ≤ v.toInt ∧ v.toInt ≤ (zI κ taLength a0).toInt) ∧ v = f5_Ta_skipBlanks (up5 κ a0) a1) → Q v κ) : zRun C 1 mTa_skipBlanks [.ref a0, .int a1] κ (oI Q noX) := by
  refine Ta_skipBlanks_run W Ta0 ?_
  replace W := W.lo (Nat.le_trans W.1.2.1 W.1.2.2) (Nat.le_refl (zn κ))
  unfold w_Ta_skipBlanks_0
  obtain ⟨H, p0, p1⟩ := hp
  have hE : f5_Ta_skipBlanks (up5 κ a0) a1 = f5_Ta_skipBlanks (up5 κ a0) a1 := rfl
  unfold w_Ta_skipBlanks_4
  refine ⟨fun n l0 l2 l3 τ => n = ((zI κ taLength a0).toInt - l3.toInt).toNat ∧ ((κ = τ ∧ a0 = l0 ∧ a1.toInt ≤ l3.toInt ∧ l3.toInt ≤ (zI κ taLength a0).toInt) ∧ ∃ m5, n < m5 ∧ f5_Ta_skipBlanks (up5 κ a0) a1 = f5_Ta_skipBlanks_4 (up5 κ a0) m5 l2 l3), ⟨_, rfl, ?_⟩, ?_⟩
  · refine and_5 ?_ (fun o9 => ⟨fu5, by first | exact fb5 | (unfold fu5; omega) | decide, hE⟩)  -- j1
    exact ⟨rfl, rfl, Int.le_refl _, p1⟩
  rintro n4 _ x4_2 x4_3 _ W4 T4_0 ⟨hn4, ⟨rfl, rfl, i4⟩, m4, hm4, hE⟩
  obtain ⟨m4, rfl⟩ : ∃ m9, m4 = m9 + 1 := ⟨m4 - 1, by omega⟩
  obtain ⟨m0, m1⟩ := i4
  refine ⟨fun c1 => ?_, fun c1 => ?_⟩
  · skip
    replace hE := rb_t5 hE c1
    refine h _ ?_
    · refine and_5 ?_ (fun o9 => hE.symm)  -- q2
      exact ⟨by rw [lei] at c1; omega, Int.le_refl _⟩
  · skip
    replace hE := rb_f5 hE c1
    intro T2
    have d9 : x4_3.toInt < (zI κ taLength a0).toInt := by rw [lei] at c1; omega
    have e1 := inc_i (x := x4_3) (y := zI κ taLength a0) (by omega) d9
    refine Ta_byteAt_q5 W4 T2  ?_ (fun r3 q5 => ?_)
    · exact H  -- p3
    obtain ⟨q5, z9⟩ := q5
    replace hE := rb_p5 hE z9
    intro W6
    intro M7
    refine ⟨fun c8 => ?_, fun c8 => ?_⟩
    · skip
      replace hE := rb_f5 hE c8
      refine ⟨fun c9 => ?_, fun c9 => ?_⟩
      · skip
        replace hE := rb_f5 hE c9
        refine ⟨fun c10 => ?_, fun c10 => ?_⟩
        · skip
          replace hE := rb_f5 hE c10
          intro x11 hx11
          replace hE := rb_p5 hE hx11
          refine lp_b5 ?_ (fun d9 => ⟨rfl, ?_⟩)
          · rw [hn4, hx11, e1]; omega  -- d4
          · refine and_5 ?_ (fun o9 => ⟨m4, by omega, hE⟩)  -- i5
            exact ⟨rfl, rfl, by rw [hx11, e1]; omega, by rw [hx11, e1]; omega⟩
        · skip
          replace hE := rb_t5 hE c10
          refine ⟨fun c12 => ?_, fun c12 => ?_⟩
          · skip
            replace hE := rb_t5 hE c12
            intro x13 hx13
            replace hE := rb_p5 hE hx13
            refine lp_b5 ?_ (fun d9 => ⟨rfl, ?_⟩)
            · rw [hn4, hx13, e1]; omega  -- d6
            · refine and_5 ?_ (fun o9 => ⟨m4, by omega, hE⟩)  -- i7
              exact ⟨rfl, rfl, by rw [hx13, e1]; omega, by rw [hx13, e1]; omega⟩
          · skip
            replace hE := rb_f5 hE c12
            refine ⟨fun c14 => ?_, fun c14 => ?_⟩
            · skip
              replace hE := rb_t5 hE c14
              intro x15 hx15
              replace hE := rb_p5 hE hx15
              refine lp_b5 ?_ (fun d9 => ⟨rfl, ?_⟩)
              · rw [hn4, hx15, e1]; omega  -- d8
              · refine and_5 ?_ (fun o9 => ⟨m4, by omega, hE⟩)  -- i9
                exact ⟨rfl, rfl, by rw [hx15, e1]; omega, by rw [hx15, e1]; omega⟩
            · skip
              replace hE := rb_f5 hE c14
              refine ⟨fun c16 => ?_, fun c16 => ?_⟩
              · skip
                replace hE := rb_t5 hE c16
                intro x17 hx17
                replace hE := rb_p5 hE hx17
                refine lp_b5 ?_ (fun d9 => ⟨rfl, ?_⟩)
                · rw [hn4, hx17, e1]; omega  -- d10
                · refine and_5 ?_ (fun o9 => ⟨m4, by omega, hE⟩)  -- i11
                  exact ⟨rfl, rfl, by rw [hx17, e1]; omega, by rw [hx17, e1]; omega⟩
              · skip
                replace hE := rb_f5 hE c16
                refine h _ ?_
                · refine and_5 ?_ (fun o9 => hE.symm)  -- q12
                  exact ⟨m0, m1⟩
      · skip
        replace hE := rb_t5 hE c9
        intro x18 hx18
        replace hE := rb_p5 hE hx18
        refine lp_b5 ?_ (fun d9 => ⟨rfl, ?_⟩)
        · rw [hn4, hx18, e1]; omega  -- d13
        · refine and_5 ?_ (fun o9 => ⟨m4, by omega, hE⟩)  -- i14
          exact ⟨rfl, rfl, by rw [hx18, e1]; omega, by rw [hx18, e1]; omega⟩
    · skip
      replace hE := rb_t5 hE c8
      intro x19 hx19
      replace hE := rb_p5 hE hx19
      refine lp_b5 ?_ (fun d9 => ⟨rfl, ?_⟩)
      · rw [hn4, hx19, e1]; omega  -- d15
      · refine and_5 ?_ (fun o9 => ⟨m4, by omega, hE⟩)  -- i16
        exact ⟨rfl, rfl, by rw [hx19, e1]; omega, by rw [hx19, e1]; omega⟩

theorem Ta_sizeAt_q5 {C : zC} {n0 : Nat} {a0 : Nat} {a1 : Int32} {κ : zS} {Q : Int32 → zS → Prop} (W : zW C n0 κ) (Ta0 : zT κ a0 = 13)  (hp : taI κ a0 ∧ 0 ≤ a1.toInt ∧ a1.toInt < (zI κ taLength a0).toInt) (h : ∀ (v : Int32), ((1 ≤ v.toInt ∧ a1.toInt + v.toInt ≤ (zI κ taLength a0).toInt) ∧ v = f5_Ta_sizeAt (up5 κ a0) a1) → Q v κ) : zRun C 1 mTa_sizeAt [.ref a0, .int a1] κ (oI Q noX) := by
  refine Ta_sizeAt_run W Ta0 ?_
  replace W := W.lo (Nat.le_trans W.1.2.1 W.1.2.2) (Nat.le_refl (zn κ))
  unfold w_Ta_sizeAt_0
  obtain ⟨H, p0, p1⟩ := hp
  have B := H.1
  have e0 := inc_i (x := a1) (y := zI κ taLength a0) p0 p1
  have hj76 : ∀ (l0 : Nat) (l1 : Int32) (l3 : Int32) (τ : zS), zW C (zn κ) τ → zT τ l0 = 13 → ((κ = τ ∧ a0 = l0 ∧ a1 = l1 ∧ True) ∧ f5_Ta_sizeAt (up5 κ a0) a1 = f5_Ta_sizeAt_76 (up5 κ a0) l1 l3) → w_Ta_sizeAt_76 C (zn κ) Q  l0 l1 l3 τ := by
    rintro _ _ y76_3 _ W76 T76_0 ⟨⟨rfl, rfl, rfl, j76⟩, hE⟩
    unfold w_Ta_sizeAt_76
    intro x1 hx1
    replace hE := rb_p5 hE hx1
    unfold w_Ta_sizeAt_81
    refine ⟨fun n l0 l1 l3 l4 τ => n = ((zI κ taLength a0).toInt - l4.toInt).toNat ∧ ((κ = τ ∧ a0 = l0 ∧ a1 = l1 ∧ a1.toInt < l4.toInt ∧ l4.toInt ≤ (zI κ taLength a0).toInt) ∧ ∃ m5, n < m5 ∧ f5_Ta_sizeAt (up5 κ a0) a1 = f5_Ta_sizeAt_81 (up5 κ a0) m5 l1 l3 l4), ⟨_, rfl, ?_⟩, ?_⟩
    · refine and_5 ?_ (fun o9 => ⟨fu5, by first | exact fb5 | (unfold fu5; omega) | decide, hE⟩)  -- j1
      exact ⟨rfl, rfl, rfl, by rw [hx1, e0]; omega, by rw [hx1, e0]; omega⟩
    rintro n81 _ _ x81_3 x81_4 _ W81 T81_0 ⟨hn81, ⟨rfl, rfl, rfl, i81⟩, m81, hm81, hE⟩
    obtain ⟨m81, rfl⟩ : ∃ m9, m81 = m9 + 1 := ⟨m81 - 1, by omega⟩
    obtain ⟨m0, m1⟩ := i81
    have es : (x81_4 - a1).toInt = x81_4.toInt - a1.toInt := sub_i (by omega) (by omega)
    refine ⟨fun c2 => ?_, fun c2 => ?_⟩
    · skip
      replace hE := rb_t5 hE c2
      refine h _ ?_
      · refine and_5 ?_ (fun o9 => hE.symm)  -- q2
        rw [es]; omega
    · skip
      replace hE := rb_f5 hE c2
      intro T3
      refine Ta_byteAt_q5 W81 T3  ?_ (fun r4 q6 => ?_)
      · exact H  -- p3
      obtain ⟨q6, z9⟩ := q6
      replace hE := rb_p5 hE z9
      intro W7
      intro M8
      refine Ta_isDigit_q5 W7   (fun r9 q11 => ?_)
      obtain ⟨q11, z9⟩ := q11
      replace hE := rb_p5 hE z9
      intro W12
      intro M13
      refine ⟨fun c14 => ?_, fun c14 => ?_⟩
      · skip
        replace hE := rb_f5 hE c14
        intro x15 hx15
        replace hE := rb_p5 hE hx15
        refine lp_b5 ?_ (fun d9 => ⟨rfl, ?_⟩)
        · rw [lei] at c2
          have e1 := inc_i (x := x81_4) (y := zI κ taLength a0) (by omega) (by omega)
          rw [hn81, hx15, e1]; omega
        · refine and_5 ?_ (fun o9 => ⟨m81, by omega, hE⟩)  -- i5
          rw [lei] at c2
          have e1 := inc_i (x := x81_4) (y := zI κ taLength a0) (by omega) (by omega)
          exact ⟨rfl, rfl, rfl, by rw [hx15, e1]; omega, by rw [hx15, e1]; omega⟩
      · skip
        replace hE := rb_t5 hE c14
        refine ⟨fun c16 => ?_, fun c16 => ?_⟩
        · skip
          replace hE := rb_t5 hE c16
          refine h _ ?_
          · refine and_5 ?_ (fun o9 => hE.symm)  -- q6
            rw [es]; omega
        · skip
          replace hE := rb_f5 hE c16
          intro T17
          refine Ta_byteAt_q5 W12 T17  ?_ (fun r18 q20 => ?_)
          · exact H  -- p7
          obtain ⟨q20, z9⟩ := q20
          replace hE := rb_p5 hE z9
          intro W21
          intro M22
          refine Ta_isLetter_q5 W21   (fun r23 q25 => ?_)
          obtain ⟨q25, z9⟩ := q25
          replace hE := rb_p5 hE z9
          intro W26
          intro M27
          refine ⟨fun c28 => ?_, fun c28 => ?_⟩
          · skip
            replace hE := rb_t5 hE c28
            refine h _ ?_
            · refine and_5 ?_ (fun o9 => hE.symm)  -- q8
              rw [es]; omega
          · skip
            replace hE := rb_f5 hE c28
            intro x29 hx29
            replace hE := rb_p5 hE hx29
            refine lp_b5 ?_ (fun d9 => ⟨rfl, ?_⟩)
            · rw [lei] at c2
              have e1 := inc_i (x := x81_4) (y := zI κ taLength a0) (by omega) (by omega)
              rw [hn81, hx29, e1]; omega
            · refine and_5 ?_ (fun o9 => ⟨m81, by omega, hE⟩)  -- i10
              rw [lei] at c2
              have e1 := inc_i (x := x81_4) (y := zI κ taLength a0) (by omega) (by omega)
              exact ⟨rfl, rfl, rfl, by rw [hx29, e1]; omega, by rw [hx29, e1]; omega⟩
  have hj51 : ∀ (l0 : Nat) (l1 : Int32) (s0 : Int32) (τ : zS), zW C (zn κ) τ → zT τ l0 = 13 → ((κ = τ ∧ a0 = l0 ∧ a1 = l1 ∧ True) ∧ f5_Ta_sizeAt (up5 κ a0) a1 = f5_Ta_sizeAt_51 (up5 κ a0) l1 s0) → w_Ta_sizeAt_51 C (zn κ) Q  l0 l1 s0 τ := by
    rintro _ _ y51_s0 _ W51 T51_0 ⟨⟨rfl, rfl, rfl, j51⟩, hE⟩
    unfold w_Ta_sizeAt_51
    refine ⟨fun c30 => ?_, fun c30 => ?_⟩
    · skip
      replace hE := rb_t5 hE c30
      refine h _ ?_
      · refine and_5 ?_ (fun o9 => hE.symm)  -- q11
        rw [t1i]; omega
    · skip
      replace hE := rb_f5 hE c30
      intro T31
      refine Ta_byteAt_q5 W51 T31  ?_ (fun r32 q34 => ?_)
      · exact H  -- p12
      obtain ⟨q34, z9⟩ := q34
      replace hE := rb_p5 hE z9
      intro W35
      intro M36
      refine ⟨fun c37 => ?_, fun c37 => ?_⟩
      · skip
        replace hE := rb_f5 hE c37
        refine h _ ?_
        · refine and_5 ?_ (fun o9 => hE.symm)  -- q13
          rw [t1i]; omega
      · skip
        replace hE := rb_t5 hE c37
        refine h _ ?_
        · refine and_5 ?_ (fun o9 => hE.symm)  -- q14
          rcases q34 with z | z
          · rw [c37] at z; exact absurd z (by decide)
          · rw [e0] at z
            rw [t2i]; omega
  have hE : f5_Ta_sizeAt (up5 κ a0) a1 = f5_Ta_sizeAt (up5 κ a0) a1 := rfl
  intro T38
  refine Ta_byteAt_q5 W T38  ?_ (fun r39 q41 => ?_)
  · exact H  -- p15
  obtain ⟨q41, z9⟩ := q41
  replace hE := rb_p5 hE z9
  intro W42
  intro M43
  refine Ta_isLetter_q5 W42   (fun r44 q46 => ?_)
  obtain ⟨q46, z9⟩ := q46
  replace hE := rb_p5 hE z9
  intro W47
  intro M48
  refine ⟨fun c49 => ?_, fun c49 => ?_⟩
  · skip
    replace hE := rb_f5 hE c49
    refine hj76 _ _ _ _ W47 ?_ ?_
    · exact Ta0  -- t16
    · refine and_5 ?_ (fun o9 => hE)  -- k17
      exact ⟨rfl, rfl, rfl, trivial⟩
  · skip
    replace hE := rb_t5 hE c49
    refine Ta_isDigit_q5 W47   (fun r50 q52 => ?_)
    obtain ⟨q52, z9⟩ := q52
    replace hE := rb_p5 hE z9
    intro W53
    intro M54
    refine ⟨fun c55 => ?_, fun c55 => ?_⟩
    · skip
      replace hE := rb_f5 hE c55
      refine hj76 _ _ _ _ W53 ?_ ?_
      · exact Ta0  -- t18
      · refine and_5 ?_ (fun o9 => hE)  -- k19
        exact ⟨rfl, rfl, rfl, trivial⟩
    · skip
      replace hE := rb_t5 hE c55
      refine ⟨fun c56 => ?_, fun c56 => ?_⟩
      · skip
        replace hE := rb_t5 hE c56
        refine hj51 _ _ _ _ W53 ?_ ?_
        · exact Ta0  -- t20
        · refine and_5 ?_ (fun o9 => hE)  -- k21
          exact ⟨rfl, rfl, rfl, trivial⟩
      · skip
        replace hE := rb_f5 hE c56
        refine ⟨fun c57 => ?_, fun c57 => ?_⟩
        · skip
          replace hE := rb_t5 hE c57
          refine hj51 _ _ _ _ W53 ?_ ?_
          · exact Ta0  -- t22
          · refine and_5 ?_ (fun o9 => hE)  -- k23
            exact ⟨rfl, rfl, rfl, trivial⟩
        · skip
          replace hE := rb_f5 hE c57
          refine ⟨fun c58 => ?_, fun c58 => ?_⟩
          · skip
            replace hE := rb_t5 hE c58
            refine hj51 _ _ _ _ W53 ?_ ?_
            · exact Ta0  -- t24
            · refine and_5 ?_ (fun o9 => hE)  -- k25
              exact ⟨rfl, rfl, rfl, trivial⟩
          · skip
            replace hE := rb_f5 hE c58
            refine ⟨fun c59 => ?_, fun c59 => ?_⟩
            · skip
              replace hE := rb_f5 hE c59
              refine hj51 _ _ _ _ W53 ?_ ?_
              · exact Ta0  -- t26
              · refine and_5 ?_ (fun o9 => hE)  -- k27
                exact ⟨rfl, rfl, rfl, trivial⟩
            · skip
              replace hE := rb_t5 hE c59
              refine hj51 _ _ _ _ W53 ?_ ?_
              · exact Ta0  -- t28
              · refine and_5 ?_ (fun o9 => hE)  -- k29
                exact ⟨rfl, rfl, rfl, trivial⟩

theorem Ta_numberAt_q5 {C : zC} {n0 : Nat} {a0 : Nat} {a1 : Int32} {κ : zS} {Q : Int32 → zS → Prop} (W : zW C n0 κ) (Ta0 : zT κ a0 = 13)  (hp : taI κ a0) (h : ∀ (v : Int32), ((True) ∧ v = f5_Ta_numberAt (tpT5 κ a0) a1) → Q v κ) : zRun C 1 mTa_numberAt [.ref a0, .int a1] κ (oI Q noX) := by
  refine Ta_numberAt_run W Ta0 ?_
  replace W := W.lo (Nat.le_trans W.1.2.1 W.1.2.2) (Nat.le_refl (zn κ))
  unfold w_Ta_numberAt_0
  have B := hp.2
  have hE : f5_Ta_numberAt (tpT5 κ a0) a1 = f5_Ta_numberAt (tpT5 κ a0) a1 := rfl
  unfold w_Ta_numberAt_4
  refine ⟨fun n l0 l1 l2 l3 τ => n = ((zA κ (zR κ taLengths a0) a1.toNatClampNeg).toInt - l3.toInt).toNat ∧ ((κ = τ ∧ a0 = l0 ∧ a1 = l1 ∧ 0 ≤ l3.toInt) ∧ ∃ m5, n < m5 ∧ f5_Ta_numberAt (tpT5 κ a0) a1 = f5_Ta_numberAt_4 (tpT5 κ a0) m5 l1 l2 l3), ⟨_, rfl, ?_⟩, ?_⟩
  · refine and_5 ?_ (fun o9 => ⟨fu5, by have := (zA κ (zR κ taLengths a0) a1.toNatClampNeg).toInt_lt; unfold fu5; omega, hE⟩)  -- j1
    exact ⟨rfl, rfl, rfl, by decide⟩
  rintro n4 _ _ x4_2 x4_3 _ W4 T4_0 ⟨hn4, ⟨rfl, rfl, rfl, i4⟩, m4, hm4, hE⟩
  obtain ⟨m4, rfl⟩ : ∃ m9, m4 = m9 + 1 := ⟨m4 - 1, by omega⟩
  refine ⟨fun c1 => ?_, fun c1 => ?_⟩
  · skip
    replace hE := rb_t5 hE c1
    refine h _ ?_
    · refine and_5 ?_ (fun o9 => hE.symm)  -- q2
      trivial
  · skip
    replace hE := rb_f5 hE c1
    refine ⟨fun c2 => ?_, fun c2 => ?_⟩
    · skip
      replace hE := rb_t5 hE c2
      refine h _ ?_
      · refine and_5 ?_ (fun o9 => hE.symm)  -- q3
        trivial
    · skip
      replace hE := rb_f5 hE c2
      refine ⟨?_, ?_⟩
      · rw [lti, t0i] at c1
        rw [lei] at c2
        rw [inb_iff]; omega
      refine ⟨fun c3 => ?_, fun c3 => ?_⟩
      · skip
        replace hE := rb_t5 hE c3
        refine h _ ?_
        · refine and_5 ?_ (fun o9 => hE.symm)  -- q5
          trivial
      · skip
        replace hE := rb_f5 hE c3
        refine ⟨?_, ?_⟩
        · rw [lti, t0i] at c1
          rw [lei] at c2
          rw [inb_iff]; omega
        intro T4
        refine Ta_byteAt_q5 W4 T4  ?_ (fun r5 q7 => ?_)
        · exact hp  -- p7
        obtain ⟨q7, z9⟩ := q7
        replace hE := rb_p5 hE z9
        intro W8
        intro M9
        intro x10 hx10
        replace hE := rb_p5 hE hx10
        intro x11 hx11
        replace hE := rb_p5 hE hx11
        refine lp_b5 ?_ (fun d9 => ⟨rfl, ?_⟩)
        · rw [lei] at c3
          have e1 := inc_i (x := x4_3) i4 (Int.not_le.mp c3)
          rw [hn4, hx11, e1]; omega
        · refine and_5 ?_ (fun o9 => ⟨m4, by omega, hE⟩)  -- i9
          rw [lei] at c3
          have e1 := inc_i (x := x4_3) i4 (Int.not_le.mp c3)
          exact ⟨rfl, rfl, rfl, by rw [hx11, e1]; omega⟩

theorem Ta_findName_q5 {C : zC} {n0 : Nat} {a0 : Nat} {a1 : Nat} {a2 : Int32} {a3 : Int32} {κ : zS} {Q : Int32 → zS → Prop} (W : zW C n0 κ) (Ta0 : zT κ a0 = 13) (Ta1 : zT κ a1 = 20)  (hp : taI κ a0 ∧ tokI κ a0) (h : ∀ (v : Int32), ((-1 ≤ v.toInt ∧ v.toInt < zN κ a1 ∧ (v.toInt < a2.toInt ∨ v = -1)) ∧ v = f5_Ta_findName (tpT5 κ a0) (zA κ a1) (zN κ a1) a2 a3) → Q v κ) : zRun C 0 mTa_findName [.ref a0, .ref a1, .int a2, .int a3] κ (oI Q noX) := by
  refine Ta_findName_run W Ta0 Ta1 ?_
  replace W := W.lo (Nat.le_trans W.1.2.1 W.1.2.2) (Nat.le_refl (zn κ))
  unfold w_Ta_findName_0
  obtain ⟨H, K⟩ := hp
  have nN := W.n Ta1
  have B := H.1
  have B2 := H.2
  have hj39 : ∀ (l0 : Nat) (l1 : Nat) (l2 : Int32) (l4 : Int32) (s0 : Int32) (τ : zS), zW C (zn κ) τ → zT τ l0 = 13 → zT τ l1 = 20 → ((κ = τ ∧ a0 = l0 ∧ a1 = l1 ∧ a2 = l2 ∧ (0 < l4.toInt → 0 ≤ s0.toInt ∧ s0.toInt + l4.toInt ≤ (zN κ (zR κ taBytes a0)))) ∧ f5_Ta_findName (tpT5 κ a0) (zA κ a1) (zN κ a1) a2 a3 = f5_Ta_findName_39 (tpT5 κ a0) (zA κ a1) (zN κ a1) l2 l4 s0) → w_Ta_findName_39 C (zn κ) Q  l0 l1 l2 l4 s0 τ := by
    rintro _ _ _ y39_4 y39_s0 _ W39 T39_0 T39_1 ⟨⟨rfl, rfl, rfl, rfl, j39⟩, hE⟩
    unfold w_Ta_findName_39
    unfold w_Ta_findName_44
    refine ⟨fun n l0 l1 l2 l4 l5 l6 τ => n = ((zN κ a1 : Int) - l6.toInt).toNat ∧ ((κ = τ ∧ a0 = l0 ∧ a1 = l1 ∧ a2 = l2 ∧ 0 ≤ l6.toInt ∧ (0 < l4.toInt → 0 ≤ l5.toInt ∧ l5.toInt + l4.toInt ≤ (zN κ (zR κ taBytes a0)))) ∧ ∃ m5, n < m5 ∧ f5_Ta_findName (tpT5 κ a0) (zA κ a1) (zN κ a1) a2 a3 = f5_Ta_findName_44 (tpT5 κ a0) (zA κ a1) (zN κ a1) m5 l2 l4 l5 l6), ⟨_, rfl, ?_⟩, ?_⟩
    · refine and_5 ?_ (fun o9 => ⟨fu5, by unfold fu5; omega, hE⟩)  -- j1
      exact ⟨rfl, rfl, rfl, rfl, by decide, j39⟩
    rintro n44 _ _ _ x44_4 x44_5 x44_6 _ W44 T44_0 T44_1 ⟨hn44, ⟨rfl, rfl, rfl, rfl, i44⟩, m44, hm44, hE⟩
    obtain ⟨m44, rfl⟩ : ∃ m9, m44 = m9 + 1 := ⟨m44 - 1, by omega⟩
    obtain ⟨m0, m1⟩ := i44
    have hj145 : ∀ (l0 : Nat) (l1 : Nat) (l2 : Int32) (l4 : Int32) (l5 : Int32) (l6 : Int32) (l9 : Int32) (τ : zS), zW C (zn κ) τ → zT τ l0 = 13 → zT τ l1 = 20 → ((κ = τ ∧ a0 = l0 ∧ a1 = l1 ∧ a2 = l2 ∧ (l6 = x44_6 ∧ 0 ≤ l6.toInt ∧ l6.toInt < zN κ a1 ∧ l6.toInt < a2.toInt) ∧ (0 < l4.toInt → 0 ≤ l5.toInt ∧ l5.toInt + l4.toInt ≤ (zN κ (zR κ taBytes a0)))) ∧ f5_Ta_findName (tpT5 κ a0) (zA κ a1) (zN κ a1) a2 a3 = f5_Ta_findName_145 (tpT5 κ a0) (f5_Ta_findName_44 (tpT5 κ a0) (zA κ a1) (zN κ a1) m44) (zA κ a1) (zN κ a1) l2 l4 l5 l6 l9) → w_Ta_findName_145 C (zn κ) Q (fun (l0' : Nat) (l1' : Nat) (l2' : Int32) (l4' : Int32) (l5' : Int32) (l6' : Int32) (τ : zS) => ∃ k < n44, (fun (n : Nat) (l0 : Nat) (l1 : Nat) (l2 : Int32) (l4 : Int32) (l5 : Int32) (l6 : Int32) (τ : zS) => n = ((zN κ a1 : Int) - l6.toInt).toNat ∧ ((κ = τ ∧ a0 = l0 ∧ a1 = l1 ∧ a2 = l2 ∧ 0 ≤ l6.toInt ∧ (0 < l4.toInt → 0 ≤ l5.toInt ∧ l5.toInt + l4.toInt ≤ (zN κ (zR κ taBytes a0)))) ∧ ∃ m5, n < m5 ∧ f5_Ta_findName (tpT5 κ a0) (zA κ a1) (zN κ a1) a2 a3 = f5_Ta_findName_44 (tpT5 κ a0) (zA κ a1) (zN κ a1) m5 l2 l4 l5 l6)) k l0' l1' l2' l4' l5' l6' τ) l0 l1 l2 l4 l5 l6 l9 τ := by
      clear hE
      rintro _ _ _ y145_4 y145_5 y145_6 y145_9 _ W145 T145_0 T145_1 ⟨⟨rfl, rfl, rfl, rfl, j145⟩, hE⟩
      unfold w_Ta_findName_145
      obtain ⟨⟨u0, u1, u2, u3⟩, us⟩ := j145
      have e1 := inc_i (x := y145_6) (y := a2) u1 u3
      refine ⟨fun c1 => ?_, fun c1 => ?_⟩
      · skip
        replace hE := rb_t5 hE c1
        intro x2 hx2
        replace hE := rb_p5 hE hx2
        refine lp_b5 ?_ (fun d9 => ⟨rfl, ?_⟩)
        · rw [hn44, hx2, e1, ← u0]; omega  -- d2
        · refine and_5 ?_ (fun o9 => ⟨m44, by omega, hE⟩)  -- i3
          exact ⟨rfl, rfl, rfl, rfl, by rw [hx2, e1]; omega, us⟩
      · skip
        replace hE := rb_f5 hE c1
        refine ⟨fun c3 => ?_, fun c3 => ?_⟩
        · skip
          replace hE := rb_f5 hE c3
          intro x4 hx4
          replace hE := rb_p5 hE hx4
          refine lp_b5 ?_ (fun d9 => ⟨rfl, ?_⟩)
          · rw [hn44, hx4, e1, ← u0]; omega  -- d4
          · refine and_5 ?_ (fun o9 => ⟨m44, by omega, hE⟩)  -- i5
            exact ⟨rfl, rfl, rfl, rfl, by rw [hx4, e1]; omega, us⟩
        · skip
          replace hE := rb_t5 hE c3
          refine h _ ?_
          · refine and_5 ?_ (fun o9 => hE.symm)  -- q6
            exact ⟨by omega, u2, Or.inl u3⟩
    have hj83 : ∀ (l0 : Nat) (l1 : Nat) (l2 : Int32) (l4 : Int32) (l5 : Int32) (l6 : Int32) (s0 : Int32) (τ : zS), zW C (zn κ) τ → zT τ l0 = 13 → zT τ l1 = 20 → ((κ = τ ∧ a0 = l0 ∧ a1 = l1 ∧ a2 = l2 ∧ (0 ≤ s0.toInt ∧ s0.toInt < (zN κ (zR κ taKinds a0))) ∧ (l6 = x44_6 ∧ 0 ≤ l6.toInt ∧ l6.toInt < zN κ a1 ∧ l6.toInt < a2.toInt) ∧ (0 < l4.toInt → 0 ≤ l5.toInt ∧ l5.toInt + l4.toInt ≤ (zN κ (zR κ taBytes a0)))) ∧ f5_Ta_findName (tpT5 κ a0) (zA κ a1) (zN κ a1) a2 a3 = f5_Ta_findName_83 (tpT5 κ a0) (f5_Ta_findName_44 (tpT5 κ a0) (zA κ a1) (zN κ a1) m44) (zA κ a1) (zN κ a1) l2 l4 l5 l6 s0) → w_Ta_findName_83 C (zn κ) Q (fun (l0' : Nat) (l1' : Nat) (l2' : Int32) (l4' : Int32) (l5' : Int32) (l6' : Int32) (τ : zS) => ∃ k < n44, (fun (n : Nat) (l0 : Nat) (l1 : Nat) (l2 : Int32) (l4 : Int32) (l5 : Int32) (l6 : Int32) (τ : zS) => n = ((zN κ a1 : Int) - l6.toInt).toNat ∧ ((κ = τ ∧ a0 = l0 ∧ a1 = l1 ∧ a2 = l2 ∧ 0 ≤ l6.toInt ∧ (0 < l4.toInt → 0 ≤ l5.toInt ∧ l5.toInt + l4.toInt ≤ (zN κ (zR κ taBytes a0)))) ∧ ∃ m5, n < m5 ∧ f5_Ta_findName (tpT5 κ a0) (zA κ a1) (zN κ a1) a2 a3 = f5_Ta_findName_44 (tpT5 κ a0) (zA κ a1) (zN κ a1) m5 l2 l4 l5 l6)) k l0' l1' l2' l4' l5' l6' τ) l0 l1 l2 l4 l5 l6 s0 τ := by
      clear hE
      rintro _ _ _ y83_4 y83_5 y83_6 y83_s0 _ W83 T83_0 T83_1 ⟨⟨rfl, rfl, rfl, rfl, j83⟩, hE⟩
      unfold w_Ta_findName_83
      obtain ⟨⟨w0, w1⟩, wu, ws⟩ := j83
      refine ⟨?_, ?_⟩
      · rw [inb_iff]; omega  -- b7
      intro x5 hx5
      replace hE := rb_p5 hE hx5
      unfold w_Ta_findName_97
      refine ⟨fun n l0 l1 l2 l4 l5 l6 l7 l8 l9 τ => n = (l4.toInt - l9.toInt).toNat ∧ ((κ = τ ∧ a0 = l0 ∧ a1 = l1 ∧ a2 = l2 ∧ 0 ≤ l9.toInt ∧ (0 ≤ l7.toInt ∧ l7.toInt < (zN κ (zR κ taKinds a0)) ∧ l8.toInt = (zA κ (zR κ taPlaces a0) l7.toNatClampNeg).toInt) ∧ (l6 = x44_6 ∧ 0 ≤ l6.toInt ∧ l6.toInt < zN κ a1 ∧ l6.toInt < a2.toInt) ∧ (0 < l4.toInt → 0 ≤ l5.toInt ∧ l5.toInt + l4.toInt ≤ (zN κ (zR κ taBytes a0)))) ∧ ∃ m5, n < m5 ∧ f5_Ta_findName (tpT5 κ a0) (zA κ a1) (zN κ a1) a2 a3 = f5_Ta_findName_97 (tpT5 κ a0) (f5_Ta_findName_44 (tpT5 κ a0) (zA κ a1) (zN κ a1) m44) (zA κ a1) (zN κ a1) m5 l2 l4 l5 l6 l7 l8 l9), ⟨_, rfl, ?_⟩, ?_⟩
      · refine and_5 ?_ (fun o9 => ⟨fu5, by first | exact fb5 | (unfold fu5; omega) | decide, hE⟩)  -- j8
        exact ⟨rfl, rfl, rfl, rfl, by decide, ⟨w0, w1, by rw [hx5]⟩, wu, ws⟩
      rintro n97 _ _ _ x97_4 x97_5 x97_6 x97_7 x97_8 x97_9 _ W97 T97_0 T97_1 ⟨hn97, ⟨rfl, rfl, rfl, rfl, i97⟩, m97, hm97, hE⟩
      obtain ⟨m97, rfl⟩ : ∃ m9, m97 = m9 + 1 := ⟨m97 - 1, by omega⟩
      obtain ⟨o0, ⟨o1, o2, o3⟩, ou, os⟩ := i97
      refine ⟨fun c6 => ?_, fun c6 => ?_⟩
      · skip
        replace hE := rb_t5 hE c6
        refine hj145 _ _ _ _ _ _ _ _ W97 ?_ ?_ ?_
        · first | exact Ta0 | exact Ta1  -- t9
        · first | exact Ta0 | exact Ta1  -- t10
        · refine and_5 ?_ (fun o9 => hE)  -- k11
          exact ⟨rfl, rfl, rfl, rfl, ou, os⟩
      · skip
        replace hE := rb_f5 hE c6
        refine ⟨?_, ?_⟩
        · rw [inb_iff]; omega  -- b12
        refine ⟨fun c7 => ?_, fun c7 => ?_⟩
        · skip
          replace hE := rb_f5 hE c7
          refine hj145 _ _ _ _ _ _ _ _ W97 ?_ ?_ ?_
          · first | exact Ta0 | exact Ta1  -- t13
          · first | exact Ta0 | exact Ta1  -- t14
          · refine and_5 ?_ (fun o9 => hE)  -- k15
            exact ⟨rfl, rfl, rfl, rfl, ou, os⟩
        · skip
          replace hE := rb_t5 hE c7
          have d6 : x97_9.toInt < x97_4.toInt := by rw [lei] at c6; omega
          have k7 := cnk o1
          have g := K x97_7.toNatClampNeg (by omega)
          have e7 : (zA κ (zR κ taLengths a0) x97_7.toNatClampNeg).toInt = x97_4.toInt := congrArg Int32.toInt c7
          have s9 := os (by omega)
          refine ⟨?_, ?_⟩
          · have e : (x97_5 + x97_9).toInt = x97_5.toInt + x97_9.toInt := add_i (by omega) (by omega)
            rw [inb_iff, e]; omega
          refine ⟨?_, ?_⟩
          · have e : (x97_8 + x97_9).toInt = x97_8.toInt + x97_9.toInt := add_i (by omega) (by omega)
            rw [inb_iff, e]; omega
          refine ⟨fun c8 => ?_, fun c8 => ?_⟩
          · skip
            replace hE := rb_f5 hE c8
            refine hj145 _ _ _ _ _ _ _ _ W97 ?_ ?_ ?_
            · first | exact Ta0 | exact Ta1  -- t18
            · first | exact Ta0 | exact Ta1  -- t19
            · refine and_5 ?_ (fun o9 => hE)  -- k20
              exact ⟨rfl, rfl, rfl, rfl, ou, os⟩
          · skip
            replace hE := rb_t5 hE c8
            intro x9 hx9
            replace hE := rb_p5 hE hx9
            refine lp_b5 ?_ (fun d9 => ⟨rfl, ?_⟩)
            · have e1 := inc_i (x := x97_9) (y := x97_4) o0 d6
              rw [hn97, hx9, e1]; omega
            · refine and_5 ?_ (fun o9 => ⟨m97, by omega, hE⟩)  -- i22
              have e1 := inc_i (x := x97_9) (y := x97_4) o0 d6
              exact ⟨rfl, rfl, rfl, rfl, by rw [hx9, e1]; omega, ⟨o1, o2, o3⟩, ou, os⟩
    refine ⟨fun c10 => ?_, fun c10 => ?_⟩
    · skip
      replace hE := rb_t5 hE c10
      refine h _ ?_
      · refine and_5 ?_ (fun o9 => hE.symm)  -- q23
        exact ⟨by decide, by rw [tmi]; omega, Or.inr rfl⟩
    · skip
      replace hE := rb_f5 hE c10
      refine ⟨fun c11 => ?_, fun c11 => ?_⟩
      · skip
        replace hE := rb_t5 hE c11
        refine h _ ?_
        · refine and_5 ?_ (fun o9 => hE.symm)  -- q24
          exact ⟨by decide, by rw [tmi]; omega, Or.inr rfl⟩
      · skip
        replace hE := rb_f5 hE c11
        have d10 : x44_6.toInt < a2.toInt := by rw [lei] at c10; omega
        have d11 : x44_6.toInt < zN κ a1 := by rw [lei, ofn_i nN] at c11; omega
        refine ⟨?_, ?_⟩
        · rw [inb_iff]; omega  -- b25
        refine ⟨fun c12 => ?_, fun c12 => ?_⟩
        · skip
          replace hE := rb_t5 hE c12
          refine hj83 _ _ _ _ _ _ _ _ W44 ?_ ?_ ?_
          · first | exact Ta0 | exact Ta1  -- t26
          · first | exact Ta0 | exact Ta1  -- t27
          · refine and_5 ?_ (fun o9 => hE)  -- k28
            exact ⟨rfl, rfl, rfl, rfl, ⟨by decide, by rw [t0i]; omega⟩, ⟨rfl, m0, d11, d10⟩, m1⟩
        · skip
          replace hE := rb_f5 hE c12
          refine ⟨?_, ?_⟩
          · rw [inb_iff]; omega  -- b29
          refine ⟨fun c13 => ?_, fun c13 => ?_⟩
          · skip
            replace hE := rb_t5 hE c13
            refine hj83 _ _ _ _ _ _ _ _ W44 ?_ ?_ ?_
            · first | exact Ta0 | exact Ta1  -- t30
            · first | exact Ta0 | exact Ta1  -- t31
            · refine and_5 ?_ (fun o9 => hE)  -- k32
              exact ⟨rfl, rfl, rfl, rfl, ⟨by decide, by rw [t0i]; omega⟩, ⟨rfl, m0, d11, d10⟩, m1⟩
          · skip
            replace hE := rb_f5 hE c13
            refine ⟨?_, ?_⟩
            · rw [inb_iff]; omega  -- b33
            refine hj83 _ _ _ _ _ _ _ _ W44 ?_ ?_ ?_
            · first | exact Ta0 | exact Ta1  -- t34
            · first | exact Ta0 | exact Ta1  -- t35
            · refine and_5 ?_ (fun o9 => hE)  -- k36
              rw [lti, t0i] at c12
              rw [lei] at c13
              exact ⟨rfl, rfl, rfl, rfl, ⟨by omega, by omega⟩, ⟨rfl, m0, d11, d10⟩, m1⟩
  have hj22 : ∀ (l0 : Nat) (l1 : Nat) (l2 : Int32) (l3 : Int32) (s0 : Int32) (τ : zS), zW C (zn κ) τ → zT τ l0 = 13 → zT τ l1 = 20 → ((κ = τ ∧ a0 = l0 ∧ a1 = l1 ∧ a2 = l2 ∧ a3 = l3 ∧ (0 < s0.toInt → 0 ≤ a3.toInt ∧ a3.toInt < (zI κ taTotal a0).toInt ∧ s0.toInt = (zA κ (zR κ taLengths a0) a3.toNatClampNeg).toInt)) ∧ f5_Ta_findName (tpT5 κ a0) (zA κ a1) (zN κ a1) a2 a3 = f5_Ta_findName_22 (tpT5 κ a0) (zA κ a1) (zN κ a1) l2 l3 s0) → w_Ta_findName_22 C (zn κ) Q  l0 l1 l2 l3 s0 τ := by
    rintro _ _ _ _ y22_s0 _ W22 T22_0 T22_1 ⟨⟨rfl, rfl, rfl, rfl, rfl, j22⟩, hE⟩
    unfold w_Ta_findName_22
    refine ⟨fun c14 => ?_, fun c14 => ?_⟩
    · skip
      replace hE := rb_t5 hE c14
      refine hj39 _ _ _ _ _ _ W22 ?_ ?_ ?_
      · first | exact Ta0 | exact Ta1  -- t37
      · first | exact Ta0 | exact Ta1  -- t38
      · refine and_5 ?_ (fun o9 => hE)  -- k39
        rw [lei, t0i] at c14
        exact ⟨rfl, rfl, rfl, rfl, fun z => by omega⟩
    · skip
      replace hE := rb_f5 hE c14
      have j9 := fun z => j22 z
      refine ⟨?_, ?_⟩
      · rw [lei, t0i] at c14
        have z := j22 (by omega)
        rw [inb_iff]; omega
      refine hj39 _ _ _ _ _ _ W22 ?_ ?_ ?_
      · first | exact Ta0 | exact Ta1  -- t41
      · first | exact Ta0 | exact Ta1  -- t42
      · refine and_5 ?_ (fun o9 => hE)  -- k43
        rw [lei, t0i] at c14
        have z := j22 (by omega)
        have k3 := cnk z.1
        have g := K a3.toNatClampNeg (by omega)
        exact ⟨rfl, rfl, rfl, rfl, fun _ => ⟨g.1, by omega⟩⟩
  have hE : f5_Ta_findName (tpT5 κ a0) (zA κ a1) (zN κ a1) a2 a3 = f5_Ta_findName (tpT5 κ a0) (zA κ a1) (zN κ a1) a2 a3 := rfl
  refine ⟨fun c15 => ?_, fun c15 => ?_⟩
  · skip
    replace hE := rb_t5 hE c15
    refine hj22 _ _ _ _ _ _ W ?_ ?_ ?_
    · first | exact Ta0 | exact Ta1  -- t44
    · first | exact Ta0 | exact Ta1  -- t45
    · refine and_5 ?_ (fun o9 => hE)  -- k46
      exact ⟨rfl, rfl, rfl, rfl, rfl, fun z => absurd z (by decide)⟩
  · skip
    replace hE := rb_f5 hE c15
    refine ⟨fun c16 => ?_, fun c16 => ?_⟩
    · skip
      replace hE := rb_t5 hE c16
      refine hj22 _ _ _ _ _ _ W ?_ ?_ ?_
      · first | exact Ta0 | exact Ta1  -- t47
      · first | exact Ta0 | exact Ta1  -- t48
      · refine and_5 ?_ (fun o9 => hE)  -- k49
        exact ⟨rfl, rfl, rfl, rfl, rfl, fun z => absurd z (by decide)⟩
    · skip
      replace hE := rb_f5 hE c16
      refine ⟨?_, ?_⟩
      · rw [lti, t0i] at c15
        rw [lei] at c16
        rw [inb_iff]; omega
      refine hj22 _ _ _ _ _ _ W ?_ ?_ ?_
      · first | exact Ta0 | exact Ta1  -- t51
      · first | exact Ta0 | exact Ta1  -- t52
      · refine and_5 ?_ (fun o9 => hE)  -- k53
        rw [lti, t0i] at c15
        rw [lei] at c16
        exact ⟨rfl, rfl, rfl, rfl, rfl, fun _ => ⟨by omega, by omega, rfl⟩⟩

theorem Pa_rankOf_q5 {C : zC} {n0 : Nat} {a0 : Int32} {κ : zS} {Q : Int32 → zS → Prop} (W : zW C n0 κ)   (h : ∀ (v : Int32), ((True) ∧ v = f5_Pa_rankOf a0) → Q v κ) : zRun C 0 mPa_rankOf [.int a0] κ (oI Q noX) := by
  refine Pa_rankOf_run W  ?_
  replace W := W.lo (Nat.le_trans W.1.2.1 W.1.2.2) (Nat.le_refl (zn κ))
  unfold w_Pa_rankOf_0
  have hE : f5_Pa_rankOf a0 = f5_Pa_rankOf a0 := rfl
  refine ⟨fun c1 => ?_, fun c1 => ?_⟩
  · skip
    replace hE := rb_t5 hE c1
    refine ⟨fun c2 => ?_, fun c2 => ?_⟩
    · skip
      replace hE := rb_t5 hE c2
      refine ⟨fun c3 => ?_, fun c3 => ?_⟩
      · skip
        replace hE := rb_t5 hE c3
        refine ⟨fun c4 => ?_, fun c4 => ?_⟩
        · skip
          replace hE := rb_t5 hE c4
          refine ⟨fun c5 => ?_, fun c5 => ?_⟩
          · skip
            replace hE := rb_f5 hE c5
            refine ⟨fun c6 => ?_, fun c6 => ?_⟩
            · skip
              replace hE := rb_f5 hE c6
              refine h _ ?_
              · refine and_5 ?_ (fun o9 => hE.symm)  -- q1
                trivial
            · skip
              replace hE := rb_t5 hE c6
              refine h _ ?_
              · refine and_5 ?_ (fun o9 => hE.symm)  -- q2
                trivial
          · skip
            replace hE := rb_t5 hE c5
            refine h _ ?_
            · refine and_5 ?_ (fun o9 => hE.symm)  -- q3
              trivial
        · skip
          replace hE := rb_f5 hE c4
          refine h _ ?_
          · refine and_5 ?_ (fun o9 => hE.symm)  -- q4
            trivial
      · skip
        replace hE := rb_f5 hE c3
        refine h _ ?_
        · refine and_5 ?_ (fun o9 => hE.symm)  -- q5
          trivial
    · skip
      replace hE := rb_f5 hE c2
      refine h _ ?_
      · refine and_5 ?_ (fun o9 => hE.symm)  -- q6
        trivial
  · skip
    replace hE := rb_f5 hE c1
    refine h _ ?_
    · refine and_5 ?_ (fun o9 => hE.symm)  -- q7
      trivial

theorem Pa_binary_q5 {C : zC} {n0 : Nat} {a0 : Int32} {κ : zS} {Q : Int32 → zS → Prop} (W : zW C n0 κ)   (h : ∀ (v : Int32), ((v = -1 ∨ a0 ≠ 142) ∧ v = f5_Pa_binary a0) → Q v κ) : zRun C 0 mPa_binary [.int a0] κ (oI Q noX) := by
  refine Pa_binary_run W  ?_
  replace W := W.lo (Nat.le_trans W.1.2.1 W.1.2.2) (Nat.le_refl (zn κ))
  unfold w_Pa_binary_0
  have hE : f5_Pa_binary a0 = f5_Pa_binary a0 := rfl
  refine ⟨fun c1 => ?_, fun c1 => ?_, fun c1 => ?_, fun c1 => ?_, fun c1 => ?_, fun c1 => ?_, fun c1 => ?_, fun c1 => ?_, fun c1 => ?_, fun c1 => ?_, fun c1 => ?_, fun c1 => ?_, fun c1 => ?_, fun c1 => ?_⟩
  · skip
    replace hE := (rb_f5 (rb_f5 (rb_f5 (rb_f5 (rb_f5 (rb_f5 (rb_f5 (rb_f5 (rb_f5 (rb_f5 (rb_f5 (rb_f5 (rb_f5 hE c1.1) c1.2.1) c1.2.2.1) c1.2.2.2.1) c1.2.2.2.2.1) c1.2.2.2.2.2.1) c1.2.2.2.2.2.2.1) c1.2.2.2.2.2.2.2.1) c1.2.2.2.2.2.2.2.2.1) c1.2.2.2.2.2.2.2.2.2.1) c1.2.2.2.2.2.2.2.2.2.2.1) c1.2.2.2.2.2.2.2.2.2.2.2.1) c1.2.2.2.2.2.2.2.2.2.2.2.2)
    refine h _ ?_
    · refine and_5 ?_ (fun o9 => hE.symm)  -- q1
      exact Or.inl rfl
  · skip
    replace hE := rb_t5 hE c1
    refine h _ ?_
    · refine and_5 ?_ (fun o9 => hE.symm)  -- q2
      exact Or.inr (fun e => by rw [e] at c1; exact absurd c1 (by decide))
  · skip
    replace hE := rb_t5 (rb_f5 hE (by rw [c1]; decide)) c1
    refine h _ ?_
    · refine and_5 ?_ (fun o9 => hE.symm)  -- q3
      exact Or.inr (fun e => by rw [e] at c1; exact absurd c1 (by decide))
  · skip
    replace hE := rb_t5 (rb_f5 (rb_f5 hE (by rw [c1]; decide)) (by rw [c1]; decide)) c1
    refine h _ ?_
    · refine and_5 ?_ (fun o9 => hE.symm)  -- q4
      exact Or.inr (fun e => by rw [e] at c1; exact absurd c1 (by decide))
  · skip
    replace hE := rb_t5 (rb_f5 (rb_f5 (rb_f5 hE (by rw [c1]; decide)) (by rw [c1]; decide)) (by rw [c1]; decide)) c1
    refine h _ ?_
    · refine and_5 ?_ (fun o9 => hE.symm)  -- q5
      exact Or.inr (fun e => by rw [e] at c1; exact absurd c1 (by decide))
  · skip
    replace hE := rb_t5 (rb_f5 (rb_f5 (rb_f5 (rb_f5 hE (by rw [c1]; decide)) (by rw [c1]; decide)) (by rw [c1]; decide)) (by rw [c1]; decide)) c1
    refine h _ ?_
    · refine and_5 ?_ (fun o9 => hE.symm)  -- q6
      exact Or.inr (fun e => by rw [e] at c1; exact absurd c1 (by decide))
  · skip
    replace hE := rb_t5 (rb_f5 (rb_f5 (rb_f5 (rb_f5 (rb_f5 hE (by rw [c1]; decide)) (by rw [c1]; decide)) (by rw [c1]; decide)) (by rw [c1]; decide)) (by rw [c1]; decide)) c1
    refine h _ ?_
    · refine and_5 ?_ (fun o9 => hE.symm)  -- q7
      exact Or.inr (fun e => by rw [e] at c1; exact absurd c1 (by decide))
  · skip
    replace hE := rb_t5 (rb_f5 (rb_f5 (rb_f5 (rb_f5 (rb_f5 (rb_f5 hE (by rw [c1]; decide)) (by rw [c1]; decide)) (by rw [c1]; decide)) (by rw [c1]; decide)) (by rw [c1]; decide)) (by rw [c1]; decide)) c1
    refine h _ ?_
    · refine and_5 ?_ (fun o9 => hE.symm)  -- q8
      exact Or.inr (fun e => by rw [e] at c1; exact absurd c1 (by decide))
  · skip
    replace hE := rb_t5 (rb_f5 (rb_f5 (rb_f5 (rb_f5 (rb_f5 (rb_f5 (rb_f5 hE (by rw [c1]; decide)) (by rw [c1]; decide)) (by rw [c1]; decide)) (by rw [c1]; decide)) (by rw [c1]; decide)) (by rw [c1]; decide)) (by rw [c1]; decide)) c1
    refine h _ ?_
    · refine and_5 ?_ (fun o9 => hE.symm)  -- q9
      exact Or.inr (fun e => by rw [e] at c1; exact absurd c1 (by decide))
  · skip
    replace hE := rb_t5 (rb_f5 (rb_f5 (rb_f5 (rb_f5 (rb_f5 (rb_f5 (rb_f5 (rb_f5 hE (by rw [c1]; decide)) (by rw [c1]; decide)) (by rw [c1]; decide)) (by rw [c1]; decide)) (by rw [c1]; decide)) (by rw [c1]; decide)) (by rw [c1]; decide)) (by rw [c1]; decide)) c1
    refine h _ ?_
    · refine and_5 ?_ (fun o9 => hE.symm)  -- q10
      exact Or.inr (fun e => by rw [e] at c1; exact absurd c1 (by decide))
  · skip
    replace hE := rb_t5 (rb_f5 (rb_f5 (rb_f5 (rb_f5 (rb_f5 (rb_f5 (rb_f5 (rb_f5 (rb_f5 hE (by rw [c1]; decide)) (by rw [c1]; decide)) (by rw [c1]; decide)) (by rw [c1]; decide)) (by rw [c1]; decide)) (by rw [c1]; decide)) (by rw [c1]; decide)) (by rw [c1]; decide)) (by rw [c1]; decide)) c1
    refine h _ ?_
    · refine and_5 ?_ (fun o9 => hE.symm)  -- q11
      exact Or.inr (fun e => by rw [e] at c1; exact absurd c1 (by decide))
  · skip
    replace hE := rb_t5 (rb_f5 (rb_f5 (rb_f5 (rb_f5 (rb_f5 (rb_f5 (rb_f5 (rb_f5 (rb_f5 (rb_f5 hE (by rw [c1]; decide)) (by rw [c1]; decide)) (by rw [c1]; decide)) (by rw [c1]; decide)) (by rw [c1]; decide)) (by rw [c1]; decide)) (by rw [c1]; decide)) (by rw [c1]; decide)) (by rw [c1]; decide)) (by rw [c1]; decide)) c1
    refine h _ ?_
    · refine and_5 ?_ (fun o9 => hE.symm)  -- q12
      exact Or.inr (fun e => by rw [e] at c1; exact absurd c1 (by decide))
  · skip
    replace hE := rb_t5 (rb_f5 (rb_f5 (rb_f5 (rb_f5 (rb_f5 (rb_f5 (rb_f5 (rb_f5 (rb_f5 (rb_f5 (rb_f5 hE (by rw [c1]; decide)) (by rw [c1]; decide)) (by rw [c1]; decide)) (by rw [c1]; decide)) (by rw [c1]; decide)) (by rw [c1]; decide)) (by rw [c1]; decide)) (by rw [c1]; decide)) (by rw [c1]; decide)) (by rw [c1]; decide)) (by rw [c1]; decide)) c1
    refine h _ ?_
    · refine and_5 ?_ (fun o9 => hE.symm)  -- q13
      exact Or.inr (fun e => by rw [e] at c1; exact absurd c1 (by decide))
  · skip
    replace hE := rb_t5 (rb_f5 (rb_f5 (rb_f5 (rb_f5 (rb_f5 (rb_f5 (rb_f5 (rb_f5 (rb_f5 (rb_f5 (rb_f5 (rb_f5 hE (by rw [c1]; decide)) (by rw [c1]; decide)) (by rw [c1]; decide)) (by rw [c1]; decide)) (by rw [c1]; decide)) (by rw [c1]; decide)) (by rw [c1]; decide)) (by rw [c1]; decide)) (by rw [c1]; decide)) (by rw [c1]; decide)) (by rw [c1]; decide)) (by rw [c1]; decide)) c1
    refine h _ ?_
    · refine and_5 ?_ (fun o9 => hE.symm)  -- q14
      exact Or.inr (fun e => by rw [e] at c1; exact absurd c1 (by decide))

end
section
set_option maxHeartbeats 1600000
/-! texts by what they hold -/
/-- what a text holds -/
def txC5 (C : zC) (a : Nat) : List Int32 := match (C.2.1).find? (fun x => x.1 == a) with
  | some x => match (C.2.1).find? (fun z => z.2.1 == x.2.1) with
    | some y => y.2.2
    | none => []
  | none => []
theorem txC_e5 {C : zC} {a : Nat} {x y : Nat × Nat × List Int32} (h : txX C a x y) : txC5 C a = y.2.2 := by
  unfold txC5
  rw [h.1]
  show (match (C.2.1).find? (fun z => z.2.1 == x.2.1) with | some y => y.2.2 | none => []) = _
  rw [h.2.1]
theorem txL_5 {C : zC} {a : Nat} (h : isTx C a) : txL C a = (txC5 C a).length := by
  obtain ⟨x, y, hx⟩ := txX_of h
  rw [txL_e hx, txC_e5 hx]
def ch5 (l : List Int32) (i : Int32) : Int32 := ((l.getD i.toNatClampNeg 0 &&& 255).toUInt32 % 65536).toInt32
theorem jChar1_q5 {C : zC} {n0 a : Nat} {i : Int32} {κ : zS} {x y : Nat × Nat × List Int32} {Q : Int32 → zS → Prop} (W : zW C n0 κ) (hx : txX C a x y) (h0 : 0 ≤ i.toInt) (h1 : i.toInt < y.2.2.length) (h : ∀ v, chOK v ∧ v = ch5 y.2.2 i → Q v κ) : zRun C 2 jChar1 [.ref x.2.1, .int i] κ (oI Q noX) := by
  replace W := W.lo (Nat.le_trans W.1.2.1 W.1.2.2) (Nat.le_refl (zn κ))
  have hL := ofn_i (n := y.2.2.length) (Nat.le_trans hx.2.2.2.2 (by decide))
  refine z_run (m_ent _ 0) ?_
  refine y_iln dq_ch1_0 rfl ?_
  refine y_aln dq_ch1_1 rfl ?_
  refine y_tln W dq_ch1_2 hx ?_
  refine y_cals (As := [.int i, .int (Int32.ofNat y.2.2.length)]) (rest := []) W dq_ch1_3 rfl (j := 414) (by decide +kernel) (by decide +kernel) rfl rfl rfl (Nat.le_of_ble_eq_true rfl) (Nat.le_refl 1) (Nat.le_of_ble_eq_true rfl) (jCk0_c (Q := fun κ' => κ' = κ) W h0 (by rw [hL]; exact h1) rfl) (fun v κ' w9 m9 p9 => ezV (fun κ' w m p => ?_) w9 m9 p9) (fun cls κ' p9 => show False from thrV (X := noX) p9)
  subst p
  refine y_aln dq_ch1_6 rfl ?_
  refine y_iln dq_ch1_7 rfl ?_
  refine y_tld w dq_ch1_8 hx (by rw [inb_iff]; exact ⟨h0, h1⟩) ?_
  refine y_si dq_ch1_9 (x := 255) (by decide) ?_
  refine y_iand dq_ch1_12 ?_
  refine y_i2c dq_ch1_13 ?_
  exact y_ri w dq_ch1_14 rfl ch_and (h _ ⟨ch_and, rfl⟩)

theorem St_charAt_q5 {C : zC} {n0 : Nat} {a0 : Nat} {a1 : Int32} {κ : zS} {Q : Int32 → zS → Prop} (W : zW C n0 κ) (Ta0 : isTx C a0) (hp : 0 ≤ a1.toInt ∧ a1.toInt < txL C a0) (h : ∀ (v : Int32), (v = ch5 (txC5 C a0) a1) → Q v κ) : zRun C 9 mSt_charAt [.ref a0, .int a1] κ (oI Q noX) := by
  obtain ⟨x, y, hx⟩ := txX_of Ta0
  rw [txL_e hx] at hp
  refine zRun.up (d := 3) (by decide) ?_
  replace W := W.lo (Nat.le_trans W.1.2.1 W.1.2.2) (Nat.le_refl (zn κ))
  refine z_run (m_ent _ 0) ?_
  refine y_aln dq_ch0_0 rfl ?_
  refine y_calt (As := []) W dq_ch0_1 rfl (j := 418) (by decide +kernel) rfl ⟨rfl, by decide, rfl⟩ rfl (Nat.le_of_ble_eq_true rfl) (Nat.zero_le 2) (Nat.le_of_ble_eq_true rfl) Ta0 (jLatin_c (Q := fun z κ' => z = 1 ∧ κ' = κ) W Ta0 ⟨rfl, rfl⟩) (fun v κ' w9 m9 p9 => ezI (fun z κ' w m p => ?_) w9 m9 p9) (fun cls κ' p9 => False.elim (show False from thrI (X := noX) p9))
  obtain ⟨rfl, rfl⟩ := p
  refine y_i ((1 : Int32) = 0) dq_ch0_4 (t := 16) rfl rfl (fun c => absurd c (by decide)) (fun _ => ?_)
  refine y_aln dq_ch0_7 rfl ?_
  refine y_tgv w dq_ch0_8 rfl rfl Ta0 hx ?_
  refine y_iln dq_ch0_11 rfl ?_
  refine y_cals (As := [.ref x.2.1, .int a1]) (rest := []) w dq_ch0_12 rfl (j := 421) (by decide +kernel) (by decide +kernel) rfl rfl rfl (Nat.le_of_ble_eq_true rfl) (Nat.le_refl 2) (Nat.le_of_ble_eq_true rfl) (jChar1_q5 (Q := fun z κ2 => (chOK z ∧ z = ch5 y.2.2 a1) ∧ κ2 = κ') w hx hp.1 hp.2 (fun v hv => ⟨hv, rfl⟩)) (fun v κ2 w9 m9 p9 => ezI (fun z κ2 w2 m2 p2 => ?_) w9 m9 p9) (fun cls κ' p9 => show False from thrI (X := noX) p9)
  obtain ⟨⟨hz, hz5⟩, rfl⟩ := p2
  exact y_ri w2 dq_ch0_15 rfl hz (h _ (by rw [txC_e5 hx]; exact hz5))

def ca5 (c : Int32) : Bool := decide (0 ≤ c) && decide (c ≤ 255)
/-- whether a byte stands in a text -/
def bt5 (c : Int32) : Int32 := (c.toInt8).toInt32
theorem jCan_q5 {C : zC} {n0 : Nat} {c : Int32} {κ : zS} {Q : Int32 → zS → Prop} (W : zW C n0 κ) (h : ∀ v, (v = 0 ∨ v = 1) ∧ (v ≠ 0 ↔ (0 ≤ c ∧ c ≤ 255)) → Q v κ) : zRun C 0 jCan [.int c] κ (oI Q noX) := by
  replace W := W.lo (Nat.le_trans W.1.2.1 W.1.2.2) (Nat.le_refl (zn κ))
  refine z_run (m_ent _ 0) ?_
  refine y_iln dq_can_0 rfl ?_
  refine y_i (c < 0) dq_can_1 (t := 15) rfl rfl (fun c1 => ?_) (fun c1 => ?_)
  · refine y_ic dq_can_15 zi_0 ?_
    exact y_ri W dq_can_16 rfl ⟨rfl, rfl⟩ (h _ ⟨Or.inl rfl, fun z => absurd rfl z, fun z => absurd z.1 (Int32.not_le.mpr c1)⟩)
  · refine y_iln dq_can_4 rfl ?_
    refine y_si dq_can_5 (x := 255) (by decide) ?_
    refine y_ii ((255 : Int32) < c) dq_can_8 (t := 15) rfl rfl (fun c2 => ?_) (fun c2 => ?_)
    · refine y_ic dq_can_15 zi_0 ?_
      exact y_ri W dq_can_16 rfl ⟨rfl, rfl⟩ (h _ ⟨Or.inl rfl, fun z => absurd rfl z, fun z => absurd z.2 (Int32.not_le.mpr c2)⟩)
    · refine y_ic dq_can_11 zi_1 ?_
      refine y_goto dq_can_12 (t := 16) rfl ?_
      exact y_ri W dq_can_16 rfl ⟨rfl, rfl⟩ (h _ ⟨Or.inr rfl, fun _ => ⟨Int32.not_lt.mp c1, Int32.not_lt.mp c2⟩, fun _ => by decide⟩)

theorem jIxC_q5 {C : zC} {n0 a : Nat} {c f mx : Int32} {κ : zS} {x y : Nat × Nat × List Int32} {Q : Int32 → zS → Prop} (W : zW C n0 κ) (hx : txX C a x y) (h0 : 0 ≤ f.toInt) (h1 : mx.toInt ≤ y.2.2.length) (h : ∀ v, (0 ≤ v.toInt ↔ ∃ j : Nat, f.toInt ≤ j ∧ (j : Int) < mx.toInt ∧ y.2.2.getD j 0 = bt5 c) → Q v κ) : zRun C 0 jIxC [.ref x.2.1, .int c, .int f, .int mx] κ (oI Q noX) := by
  replace W := W.lo (Nat.le_trans W.1.2.1 W.1.2.2) (Nat.le_refl (zn κ))
  have key : ∀ (m : Nat) (b k : Int32), 0 ≤ k.toInt → mx.toInt - k.toInt ≤ m → (∀ v : Int32, (0 ≤ v.toInt ↔ ∃ j : Nat, k.toInt ≤ j ∧ (j : Int) < mx.toInt ∧ y.2.2.getD j 0 = b) → Q v κ) → zG C (zn κ) 0 jIxC 7 [some (.ref x.2.1), some (.int c), some (.int f), some (.int mx), some (.int b), some (.int k)] [] κ (oI Q noX) := by
    intro m
    induction m with
    | zero =>
      intro b k k0 km hq
      refine y_il dq_ixc_7 rfl ?_
      refine y_iln dq_ixc_9 rfl ?_
      refine y_ii (mx ≤ k) dq_ixc_10 (t := 31) rfl rfl (fun _ => ?_) (fun z => absurd (by rw [lei]; omega) z)
      refine y_ic dq_ixc_31 (x := -1) (by decide) ?_
      exact y_ri W dq_ixc_32 rfl ⟨rfl, rfl⟩ (hq _ ⟨fun z => absurd z (by decide), fun ⟨j, a, b, _⟩ => by omega⟩)
    | succ m ih =>
      intro b k k0 km hq
      refine y_il dq_ixc_7 rfl ?_
      refine y_iln dq_ixc_9 rfl ?_
      refine y_ii (mx ≤ k) dq_ixc_10 (t := 31) rfl rfl (fun z => ?_) (fun z => ?_)
      · refine y_ic dq_ixc_31 (x := -1) (by decide) ?_
        exact y_ri W dq_ixc_32 rfl ⟨rfl, rfl⟩ (hq _ ⟨fun z9 => absurd z9 (by decide), fun ⟨j, a, b, _⟩ => by rw [lei] at z; omega⟩)
      · rw [lei] at z
        have e1 := inc_i (x := k) (y := mx) k0 (by omega)
        refine y_aln dq_ixc_13 rfl ?_
        refine y_il dq_ixc_14 rfl ?_
        refine y_tld W dq_ixc_16 hx (by rw [inb_iff]; omega) ?_
        refine y_il dq_ixc_17 rfl ?_
        refine y_iin (y.2.2.getD k.toNatClampNeg 0 = b) dq_ixc_19 (t := 25) rfl rfl (fun e9 => ?_) (fun e9 => ?_)
        · refine y_incb dq_ixc_25 zi_1 rfl (by decide) (fun z hz => ?_)
          refine y_goto dq_ixc_28 (t := 7) rfl ?_
          exact ih b z (by rw [hz, e1]; omega) (by rw [hz, e1]; omega) (fun v hv => hq v (hv.trans ⟨fun ⟨j, a, b, c9⟩ => ⟨j, by rw [hz, e1] at a; omega, b, c9⟩, fun ⟨j, a, b, c9⟩ => ⟨j, by
            rw [hz, e1]
            have kk := cnk k0
            have ne : j ≠ k.toNatClampNeg := fun q => e9 (by rw [← q]; exact c9)
            omega, b, c9⟩⟩))
        · refine y_il dq_ixc_22 rfl ?_
          exact y_ri W dq_ixc_24 rfl ⟨rfl, rfl⟩ (hq _ ⟨fun _ => ⟨k.toNatClampNeg, by have := cnk k0; omega, by have := cnk k0; omega, e9⟩, fun _ => k0⟩)
  refine z_run (m_ent _ 2) ?_
  refine y_iln dq_ixc_0 rfl ?_
  refine y_i2b dq_ixc_1 ?_
  refine y_is dq_ixc_2 (by decide) rfl ?_
  refine y_iln dq_ixc_4 rfl ?_
  refine y_is dq_ixc_5 (by decide) rfl ?_
  exact key (mx.toInt - f.toInt).toNat _ f h0 (by omega) h

theorem jIx1_q5 {C : zC} {n0 a : Nat} {c : Int32} {κ : zS} {x y : Nat × Nat × List Int32} {Q : Int32 → zS → Prop} (W : zW C n0 κ) (hx : txX C a x y) (h : ∀ v, (0 ≤ v.toInt ↔ (0 ≤ c ∧ c ≤ 255) ∧ ∃ j : Nat, j < y.2.2.length ∧ y.2.2.getD j 0 = bt5 c) → Q v κ) : zRun C 1 jIx1 [.ref x.2.1, .int c, .int 0, .int (Int32.ofNat y.2.2.length)] κ (oI Q noX) := by
  replace W := W.lo (Nat.le_trans W.1.2.1 W.1.2.2) (Nat.le_refl (zn κ))
  have hL := ofn_i (n := y.2.2.length) (Nat.le_trans hx.2.2.2.2 (by decide))
  refine z_run (m_ent _ 0) ?_
  refine y_iln dq_ix1_0 rfl ?_
  refine y_cals (As := [.int c]) (rest := []) W dq_ix1_1 rfl (j := 420) (by decide +kernel) (by decide +kernel) rfl rfl rfl (Nat.le_of_ble_eq_true rfl) (Nat.le_refl 0) (Nat.le_of_ble_eq_true rfl) (jCan_q5 (Q := fun z κ' => ((z = 0 ∨ z = 1) ∧ (z ≠ 0 ↔ (0 ≤ c ∧ c ≤ 255))) ∧ κ' = κ) W (fun _ q => ⟨q, rfl⟩)) (fun v κ' w9 m9 p9 => ezI (fun z κ' w m p => ?_) w9 m9 p9) (fun cls κ' p9 => show False from thrI (X := noX) p9)
  obtain ⟨⟨hz1, hz2⟩, rfl⟩ := p
  refine y_in (z = 0) dq_ix1_4 (t := 9) rfl rfl (fun c4 => ?_) (fun c4 => ?_)
  · refine y_iln dq_ix1_9 rfl ?_
    refine y_ic dq_ix1_10 zi_0 ?_
    refine y_max dq_ix1_11 rfl (by decide +kernel) (Nat.le_refl 1) (Nat.le_of_ble_eq_true rfl) ?_
    obtain ⟨g, hg⟩ : ∃ g, g = (if (0 : Int32) < 0 then (0 : Int32) else 0) := ⟨_, rfl⟩
    rw [← hg]
    have g1 : g = 0 := by rw [hg]; rfl
    have g0 : 0 ≤ g.toInt := by rw [g1]; decide
    refine y_isn dq_ix1_14 (by decide) rfl ?_
    refine y_iln dq_ix1_15 rfl ?_
    refine y_aln dq_ix1_16 rfl ?_
    refine y_tln w dq_ix1_17 hx ?_
    refine y_min dq_ix1_18 rfl (by decide +kernel) (Nat.le_refl 1) (Nat.le_of_ble_eq_true rfl) ?_
    obtain ⟨q, hq⟩ : ∃ q, q = (if Int32.ofNat y.2.2.length < Int32.ofNat y.2.2.length then Int32.ofNat y.2.2.length else Int32.ofNat y.2.2.length) := ⟨_, rfl⟩
    rw [← hq]
    have q1 : q = Int32.ofNat y.2.2.length := by rw [hq]; exact if_neg (fun z => Int32.lt_irrefl z)
    have q0 : q.toInt ≤ y.2.2.length := by rw [q1, hL]; exact Int.le_refl _
    refine y_isn dq_ix1_21 (by decide) rfl ?_
    refine y_iln dq_ix1_22 rfl ?_
    refine y_iln dq_ix1_23 rfl ?_
    refine y_ii (g < q) dq_ix1_24 (t := 29) rfl rfl (fun c24 => ?_) (fun c24 => ?_)
    · refine y_aln dq_ix1_29 rfl ?_
      refine y_iln dq_ix1_30 rfl ?_
      refine y_iln dq_ix1_31 rfl ?_
      refine y_iln dq_ix1_32 rfl ?_
      refine y_cals (As := [.ref x.2.1, .int c, .int g, .int q]) (rest := []) w dq_ix1_33 rfl (j := 422) (by decide +kernel) (by decide +kernel) rfl rfl rfl (Nat.le_of_ble_eq_true rfl) (Nat.le_refl 0) (Nat.le_of_ble_eq_true rfl) (jIxC_q5 (Q := fun z κ2 => (0 ≤ z.toInt ↔ ∃ j : Nat, g.toInt ≤ j ∧ (j : Int) < q.toInt ∧ y.2.2.getD j 0 = bt5 c) ∧ κ2 = κ') w hx g0 q0 (fun _ q => ⟨q, rfl⟩)) (fun v κ2 w9 m9 p9 => ezI (fun z κ2 w2 m2 p2 => ?_) w9 m9 p9) (fun cls κ' p9 => show False from thrI (X := noX) p9)
      obtain ⟨p3, rfl⟩ := p2
      exact y_ri w2 dq_ix1_36 rfl ⟨rfl, rfl⟩ (h _ (p3.trans ⟨fun ⟨j, a, b, c9⟩ => ⟨hz2.mp c4, j, by rw [q1, hL] at b; omega, c9⟩, fun ⟨_, j, a, c9⟩ => ⟨j, by rw [g1]; exact Int.natCast_nonneg j, by rw [q1, hL]; omega, c9⟩⟩))
    · refine y_ic dq_ix1_27 (x := -1) (by decide) ?_
      exact y_ri w dq_ix1_28 rfl ⟨rfl, rfl⟩ (h _ ⟨fun z9 => absurd z9 (by decide), fun ⟨_, j, a, _⟩ => by
        exfalso
        rw [lti, g1, t0i, q1, hL] at c24
        omega⟩)
  · refine y_ic dq_ix1_7 (x := -1) (by decide) ?_
    exact y_ri w dq_ix1_8 rfl ⟨rfl, rfl⟩ (h _ ⟨fun z9 => absurd z9 (by decide), fun q9 => absurd (hz2.mpr q9.1) (fun q => q c4)⟩)

theorem jIx2_q5 {C : zC} {n0 a : Nat} {c : Int32} {κ : zS} {Q : Int32 → zS → Prop} (W : zW C n0 κ) (hB : isTx C a) (h : ∀ v, (0 ≤ v.toInt ↔ (0 ≤ c ∧ c ≤ 255) ∧ ∃ j : Nat, j < (txC5 C a).length ∧ (txC5 C a).getD j 0 = bt5 c) → Q v κ) : zRun C 2 jIx2 [.ref a, .int c, .int 0] κ (oI Q noX) := by
  obtain ⟨x, y, hx⟩ := txX_of hB
  replace W := W.lo (Nat.le_trans W.1.2.1 W.1.2.2) (Nat.le_refl (zn κ))
  refine z_run (m_ent _ 0) ?_
  refine y_aln dq_ix2_0 rfl ?_
  refine y_calt (As := []) W dq_ix2_1 rfl (j := 418) (by decide +kernel) rfl ⟨rfl, by decide, rfl⟩ rfl (Nat.le_of_ble_eq_true rfl) (Nat.zero_le 1) (Nat.le_of_ble_eq_true rfl) hB (jLatin_c (Q := fun z κ' => z = 1 ∧ κ' = κ) W hB ⟨rfl, rfl⟩) (fun v κ' w9 m9 p9 => ezI (fun z κ' w m p => ?_) w9 m9 p9) (fun cls κ' p9 => False.elim (show False from thrI (X := noX) p9))
  obtain ⟨rfl, rfl⟩ := p
  refine y_i ((1 : Int32) = 0) dq_ix2_4 (t := 23) rfl rfl (fun c => absurd c (by decide)) (fun _ => ?_)
  refine y_aln dq_ix2_7 rfl ?_
  refine y_tgv w dq_ix2_8 rfl rfl hB hx ?_
  refine y_iln dq_ix2_11 rfl ?_
  refine y_iln dq_ix2_12 rfl ?_
  refine y_aln dq_ix2_13 rfl ?_
  refine y_calt (As := []) w dq_ix2_14 rfl (j := 419) (by decide +kernel) rfl ⟨rfl, by decide, rfl⟩ rfl (Nat.le_of_ble_eq_true rfl) (Nat.le_refl 1) (Nat.le_of_ble_eq_true rfl) hB (jLen_c (Q := fun z κ2 => z = Int32.ofNat (txL C a) ∧ κ2 = κ') w hB ⟨rfl, rfl⟩) (fun v κ2 w9 m9 p9 => ezI (fun z κ2 w2 m2 p2 => ?_) w9 m9 p9) (fun cls κ' p9 => False.elim (show False from thrI (X := noX) p9))
  obtain ⟨rfl, rfl⟩ := p2
  rw [txL_e hx]
  refine y_cals (As := [.ref x.2.1, .int c, .int 0, .int (Int32.ofNat y.2.2.length)]) (rest := []) w2 dq_ix2_17 rfl (j := 423) (by decide +kernel) (by decide +kernel) rfl rfl rfl (Nat.le_of_ble_eq_true rfl) (Nat.le_refl 1) (Nat.le_of_ble_eq_true rfl) (jIx1_q5 (Q := fun z κ3 => (0 ≤ z.toInt ↔ (0 ≤ c ∧ c ≤ 255) ∧ ∃ j : Nat, j < y.2.2.length ∧ y.2.2.getD j 0 = bt5 c) ∧ κ3 = κ2) w2 hx (fun _ q => ⟨q, rfl⟩)) (fun v κ3 w9 m9 p9 => ezI (fun z κ3 w3 m3 p3 => ?_) w9 m9 p9) (fun cls κ' p9 => show False from thrI (X := noX) p9)
  obtain ⟨p4, rfl⟩ := p3
  refine y_goto dq_ix2_20 (t := 36) rfl ?_
  exact y_ri w3 dq_ix2_36 rfl ⟨rfl, rfl⟩ (h _ (by rw [txC_e5 hx]; exact p4))

theorem St_indexOf_q5 {C : zC} {n0 : Nat} {a0 : Nat} {a1 : Int32} {κ : zS} {Q : Int32 → zS → Prop} (W : zW C n0 κ) (Ta0 : isTx C a0) (h : ∀ (v : Int32), (0 ≤ v.toInt ↔ (0 ≤ a1 ∧ a1 ≤ 255) ∧ ∃ j : Nat, j < (txC5 C a0).length ∧ (txC5 C a0).getD j 0 = bt5 a1) → Q v κ) : zRun C 9 mSt_indexOf [.ref a0, .int a1] κ (oI Q noX) := by
  refine zRun.up (d := 3) (by decide) ?_
  replace W := W.lo (Nat.le_trans W.1.2.1 W.1.2.2) (Nat.le_refl (zn κ))
  refine z_run (m_ent _ 0) ?_
  refine y_aln dq_ix3_0 rfl ?_
  refine y_iln dq_ix3_1 rfl ?_
  refine y_ic dq_ix3_2 zi_0 ?_
  refine y_calt (As := [.int a1, .int 0]) W dq_ix3_3 rfl (j := 417) (by decide +kernel) rfl ⟨rfl, by decide, rfl⟩ rfl (Nat.le_of_ble_eq_true rfl) (Nat.le_refl 2) (Nat.le_of_ble_eq_true rfl) Ta0 (jIx2_q5 (Q := fun z κ' => (0 ≤ z.toInt ↔ (0 ≤ a1 ∧ a1 ≤ 255) ∧ ∃ j : Nat, j < (txC5 C a0).length ∧ (txC5 C a0).getD j 0 = bt5 a1) ∧ κ' = κ) W Ta0 (fun _ q => ⟨q, rfl⟩)) (fun v κ' w9 m9 p9 => ezI (fun z κ' w m p => ?_) w9 m9 p9) (fun cls κ' p9 => False.elim (show False from thrI (X := noX) p9))
  obtain ⟨p1, rfl⟩ := p
  exact y_ri w dq_ix3_6 rfl ⟨rfl, rfl⟩ (h _ p1)

def wt5 : List Int32 := [118, 97, 114, 32] ++ [97, 114, 114, 32] ++ [102, 117, 110, 99, 32] ++ [108, 111, 99, 97, 108, 32] ++ [105, 102, 32] ++ [101, 108, 115, 101, 32] ++ [119, 104, 105, 108, 101, 32] ++ [114, 101, 116, 117, 114, 110, 32] ++ [111, 98, 115, 101, 114, 118, 101, 32] ++ [103, 97, 105, 110, 32] ++ [112, 105, 99, 107, 32] ++ [102, 108, 105, 112, 32] ++ [99, 104, 111, 111, 115, 101, 32]
def sn5 : List Int32 := [40, 41, 123, 125, 91, 93, 59, 44, 58, 126, 61, 60, 62, 43, 45, 42, 47, 37, 38, 124, 33]
def mn5 : List Int32 := [109, 97, 105, 110]
def tx5 (C : zC) : Prop := txC5 C (C.1 0) = wt5 ∧ txC5 C (C.1 1) = sn5 ∧ txC5 C (C.1 3) = mn5
def ix5 (l : List Int32) (c : Int32) : Int32 := if (0 ≤ c ∧ c ≤ 255) ∧ bt5 c ∈ l then 0 else -1
theorem ix_5 {v c : Int32} {l : List Int32} (h : 0 ≤ v.toInt ↔ (0 ≤ c ∧ c ≤ 255) ∧ ∃ j : Nat, j < l.length ∧ l.getD j 0 = bt5 c) : v < 0 ↔ ix5 l c < 0 := by
  have hm : (∃ j : Nat, j < l.length ∧ l.getD j 0 = bt5 c) ↔ bt5 c ∈ l := by
    constructor
    · rintro ⟨j, hj, e⟩
      rw [List.getD_eq_getElem?_getD, List.getElem?_eq_getElem hj] at e
      rw [← e]
      exact List.getElem_mem hj
    · intro hb
      obtain ⟨j, hj, e⟩ := List.getElem_of_mem hb
      refine ⟨j, hj, ?_⟩
      rw [List.getD_eq_getElem?_getD, List.getElem?_eq_getElem hj]
      exact e
  rw [hm] at h
  unfold ix5
  rw [lti, t0i]
  by_cases z : (0 ≤ c ∧ c ≤ 255) ∧ bt5 c ∈ l
  · rw [if_pos z]
    have a := h.mpr z
    exact ⟨fun q => by omega, fun q => absurd q (by decide)⟩
  · rw [if_neg z]
    have a : ¬ 0 ≤ v.toInt := fun q => z (h.mp q)
    exact ⟨fun _ => by decide, fun _ => by omega⟩
theorem St_length_r5 {C : zC} {n0 : Nat} {a0 : Nat} {κ : zS} {Q : Int32 → zS → Prop} (W : zW C n0 κ) (Ta0 : isTx C a0) (h : ∀ (v : Int32), ((v.toInt = txL C a0) ∧ v = Int32.ofNat (txC5 C a0).length) → Q v κ) : zRun C 9 mSt_length [.ref a0] κ (oI Q noX) :=
  zRun.up (by decide) (jLen_c W Ta0 (h _ ⟨ofn_i (Nat.le_trans (txL_b Ta0) (by decide)), by rw [txL_5 Ta0]⟩))
theorem St_charAt_r5 {C : zC} {n0 : Nat} {a0 : Nat} {a1 : Int32} {κ : zS} {Q : Int32 → zS → Prop} (W : zW C n0 κ) (Ta0 : isTx C a0) (hp : 0 ≤ a1.toInt ∧ a1.toInt < txL C a0) (h : ∀ (v : Int32), ((True) ∧ v = ch5 (txC5 C a0) a1) → Q v κ) : zRun C 9 mSt_charAt [.ref a0, .int a1] κ (oI Q noX) := St_charAt_q5 W Ta0 hp (fun v q => h v ⟨trivial, q⟩)
theorem St_indexOf_r5 {C : zC} {n0 : Nat} {a0 : Nat} {a1 : Int32} {κ : zS} {Q : Int32 → zS → Prop} (W : zW C n0 κ) (Ta0 : isTx C a0) (h : ∀ (v : Int32), ((True) ∧ (0 ≤ v.toInt ↔ (0 ≤ a1 ∧ a1 ≤ 255) ∧ ∃ j : Nat, j < (txC5 C a0).length ∧ (txC5 C a0).getD j 0 = bt5 a1)) → Q v κ) : zRun C 9 mSt_indexOf [.ref a0, .int a1] κ (oI Q noX) := St_indexOf_q5 W Ta0 (fun v q => h v ⟨trivial, q⟩)

end
