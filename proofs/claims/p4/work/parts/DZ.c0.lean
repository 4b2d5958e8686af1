set_option maxHeartbeats 1600000
/-! the class: ChanceWorks' own methods: a play -/
theorem Ma_act_c2 {C : zC} {n0 : Nat} {a0 : Nat} {κ : zS} {Q : zS → Prop} (W : zW C n0 κ) (Ta0 : zT κ a0 = 7)  (hp : mkI κ a0 ∧ mO κ a0) (h : ∀ (κ' : zS), (mF κ κ' a0 ∧ zI κ' maShared a0 = zI κ maShared a0 ∧ (mO κ' a0 ∨ zI κ' maOutcome a0 = 1) ∧ mDw κ' a0 ∧ (zI κ' maWants a0 ≠ -1 → mO κ' a0)) → Q κ') : zRun C 4 mMa_act [.ref a0] κ (oV Q noX) := by
  refine Ma_act_run W Ta0 ?_
  replace W := W.lo (Nat.le_trans W.1.2.1 W.1.2.2) (Nat.le_refl (zn κ))
  unfold w_Ma_act_0
  have hj92 : ∀ (l0 : Nat) (l1 : Int32) (τ : zS), zW C (zn κ) τ → zT τ l0 = 7 → (a0 = l0 ∧ mF κ τ a0 ∧ mS0 κ τ a0 ∧ zI τ maWants a0 = -1) → w_Ma_act_92 C (zn κ) Q  l0 l1 τ := by
    rintro _ y92_1 τ92 W92 T92_0 ⟨rfl, j92⟩
    unfold w_Ma_act_92
    refine ⟨fun c1 => ?_, fun c1 => ?_⟩
    · skip
      intro T2
      refine Co_column_c W92 T2  ?_ (fun r3 q5 => ?_)
      · exact ⟨(mkI_f j92.1 W Ta0 hp.1).1.2, by decide, by decide⟩  -- p1
      intro W6
      intro M7
      intro κ_8 hκ_8
      intro W9
      intro κ_10 hκ_10
      intro W11
      intro T12
      refine Co_column_c W11 T12  ?_ (fun r13 q15 => ?_)
      · have F := (j92.1.tr (mF_ui hκ_8 (by decide))).tr (mF_ui hκ_10 (by decide))
        exact ⟨(mkI_f F W Ta0 hp.1).1.2, by decide, by decide⟩
      intro W16
      intro M17
      intro T18
      refine Ma_obey_c W16 T18  ?_ (fun κ_19 q20 => ?_)
      · have F := (j92.1.tr (mF_ui hκ_8 (by decide))).tr (mF_ui hκ_10 (by decide))
        have S := (j92.2.1.tr (mS_ui hκ_8 (by decide)).1).tr (mS_ui hκ_10 (by decide)).1
        have w1 : zI κ_10 maWants a0 = zI τ92 maWants a0 := by rw [hκ_10, hκ_8]; rfl
        exact ⟨⟨(mkI_f F W Ta0 hp.1).1, mO_0 S hp.2⟩, w1.trans j92.2.2⟩
      intro W21
      intro M22
      refine ⟨fun c23 => ?_, fun c23 => ?_⟩
      · skip
        refine h _ ?_
        · have F := (j92.1.tr (mF_ui hκ_8 (by decide))).tr (mF_ui hκ_10 (by decide))
          have S := (j92.2.1.tr (mS_ui hκ_8 (by decide)).1).tr (mS_ui hκ_10 (by decide)).1
          exact ⟨F.tr q20.1, q20.2.1.trans (S maShared (by decide)), Or.inl q20.2.2.1, q20.2.2.2, fun _ => q20.2.2.1⟩
      · skip
        refine ⟨fun c24 => ?_, fun c24 => ?_⟩
        · skip
          refine h _ ?_
          · have F := (j92.1.tr (mF_ui hκ_8 (by decide))).tr (mF_ui hκ_10 (by decide))
            have S := (j92.2.1.tr (mS_ui hκ_8 (by decide)).1).tr (mS_ui hκ_10 (by decide)).1
            exact ⟨F.tr q20.1, q20.2.1.trans (S maShared (by decide)), Or.inl q20.2.2.1, q20.2.2.2, fun _ => q20.2.2.1⟩
        · skip
          intro T25
          refine Ma_proceed_c W21 T25  ?_ (fun κ_26 q27 => ?_)
          · have F := (j92.1.tr (mF_ui hκ_8 (by decide))).tr (mF_ui hκ_10 (by decide))
            exact ⟨(mkI_f (F.tr q20.1) W Ta0 hp.1).1, q20.2.2.1⟩
          intro W28
          intro M29
          refine h _ ?_
          · have F := (j92.1.tr (mF_ui hκ_8 (by decide))).tr (mF_ui hκ_10 (by decide))
            have S := (j92.2.1.tr (mS_ui hκ_8 (by decide)).1).tr (mS_ui hκ_10 (by decide)).1
            exact ⟨(F.tr q20.1).tr q27.1, q27.2.1.trans (q20.2.1.trans (S maShared (by decide))), q27.2.2.1, mDw_g q27.2.2.2 q20.2.2.2, fun z => absurd ((q27.2.2.2 maWants (by decide)).1.trans c23) z⟩
    · skip
      intro κ_30 hκ_30
      intro W31
      refine h _ ?_
      · have S := j92.2.1.tr (mS_ui hκ_30 (by decide)).1
        exact ⟨j92.1.tr (mF_ui hκ_30 (by decide)), S maShared (by decide), Or.inl (mO_0 S hp.2), mDw_g (mS_ui hκ_30 (by decide)).2 (Or.inl j92.2.2), fun _ => mO_0 S hp.2⟩
  refine ⟨?_, ?_⟩
  · have L := hp.1.1.1
    obtain ⟨s, o, f⟩ := hp.2
    rw [inb_iff]; omega
  intro x32 hx32
  intro κ_33 hκ_33
  intro W34
  intro κ_35 hκ_35
  intro W36
  intro κ_37 hκ_37
  intro W38
  intro T39
  refine Co_column_c W38 T39  ?_ (fun r40 q42 => ?_)
  · have F := ((mF_ui hκ_33 (by decide)).tr (mF_ui hκ_35 (by decide))).tr (mF_ui hκ_37 (by decide))
    exact ⟨(mkI_f F W Ta0 hp.1).1.2, by decide, by decide⟩
  intro W43
  intro M44
  intro κ_45 hκ_45
  intro W46
  intro T47
  refine Ma_aim_c W46 T47  ?_ (fun κ_48 q49 => ?_)
  · have F := ((mF_ui hκ_33 (by decide)).tr (mF_ui hκ_35 (by decide))).tr (mF_ui hκ_37 (by decide))
    exact (mkI_f (F.tr (mF_ui hκ_45 (by decide))) W Ta0 hp.1).1
  intro W50
  intro M51
  intro T52
  refine Co_column_c W50 T52  ?_ (fun r53 q55 => ?_)
  · have F := ((mF_ui hκ_33 (by decide)).tr (mF_ui hκ_35 (by decide))).tr (mF_ui hκ_37 (by decide))
    exact ⟨(mkI_f ((F.tr (mF_ui hκ_45 (by decide))).tr q49.1) W Ta0 hp.1).1.2, by decide, by decide⟩
  intro W56
  intro M57
  unfold w_Ma_act_55
  refine ⟨fun n l0 l1 l2 l3 τ => n = (16 - l3.toInt).toNat ∧ (a0 = l0 ∧ mF κ τ a0 ∧ mS0 κ τ a0 ∧ 0 ≤ l3.toInt ∧ zI τ maWants a0 = -1), ⟨_, rfl, ?_⟩, ?_⟩
  · have F := ((mF_ui hκ_33 (by decide)).tr (mF_ui hκ_35 (by decide))).tr (mF_ui hκ_37 (by decide))
    have S := ((mS0_ui hκ_33 (by decide)).tr (mS0_ui hκ_35 (by decide))).tr (mS0_ui hκ_37 (by decide))
    have w0 : zI κ_33 maWants a0 = -1 := by rw [hκ_33]; exact if_pos ⟨rfl, rfl⟩
    have w1 : zI κ_45 maWants a0 = zI κ_33 maWants a0 := by rw [hκ_45, hκ_37, hκ_35]; rfl
    have w2 := (q49.2.2 maWants (by decide)).1
    exact ⟨rfl, (F.tr (mF_ui hκ_45 (by decide))).tr q49.1, (S.tr (mS0_ui hκ_45 (by decide))).tr q49.2.1, by decide, w2.trans (w1.trans w0)⟩
  rintro n55 _ x55_1 x55_2 x55_3 κ55 W55 T55_0 ⟨hn55, rfl, i55⟩
  refine ⟨fun c58 => ?_, fun c58 => ?_⟩
  · skip
    refine hj92 _ _ _ W55 ?_ ?_
    · exact T55_0  -- t14
    · exact ⟨rfl, i55.1, i55.2.1, i55.2.2.2⟩  -- k15
  · skip
    refine ⟨fun c59 => ?_, fun c59 => ?_⟩
    · skip
      refine hj92 _ _ _ W55 ?_ ?_
      · exact T55_0  -- t16
      · exact ⟨rfl, i55.1, i55.2.1, i55.2.2.2⟩  -- k17
    · skip
      refine ⟨fun c60 => ?_, fun c60 => ?_⟩
      · skip
        refine hj92 _ _ _ W55 ?_ ?_
        · exact T55_0  -- t18
        · exact ⟨rfl, i55.1, i55.2.1, i55.2.2.2⟩  -- k19
      · skip
        intro T61
        refine Ma_work_c W55 T61  ?_ (fun r62 κ_63 q64 => ?_)
        · exact (mkI_f i55.1 W Ta0 hp.1).1  -- p20
        intro W65
        intro M66
        have LK := (maL_f i55.1 hp.1.1).2.2.1
        have bN := W55.n (ty_maWorked W55 T55_0)
        have l := i55.2.2.1
        rw [lei, ofn_i bN] at c59
        have e1 : (x55_3 + 1).toInt = x55_3.toInt + 1 := by rw [add_i (by rw [t1i]; omega) (by rw [t1i]; omega), t1i]
        refine ⟨?_, ?_⟩
        · rw [q64.1.2.2.1, inb_iff]; omega  -- b21
        intro κ_67 hκ_67
        intro W68
        intro x69 hx69
        refine ⟨_, ?_, rfl, ?_⟩
        · rw [hn55, hx69, e1]; omega  -- d22
        · rw [← q64.1.2.1] at hκ_67
          have f := mF_ua W65 (q64.1.1.t T55_0 (by decide)) (show zr maWorked = some 20 by decide +kernel) (by decide) hκ_67
          exact ⟨rfl, (i55.1.tr q64.1).tr f.1, (i55.2.1.tr q64.2.1).tr f.2.1.1, by rw [hx69, e1]; omega, by rw [f.2.2, (q64.2.2 maWants (by decide)).1]; exact i55.2.2.2⟩


theorem mO_z9 {m : Nat} {F : Nat → Nat → Prop} {κ τ : zS} (Z : zF F κ τ) (hF : ∀ f, ¬ F f m) (O : mO κ m) : mO τ m := by
  unfold mO
  rw [Z.i (hF maShared), Z.i (hF maOpen), Z.i (hF maFrame)]
  exact O
/-- the rows of what was drawn -/
def dwI9 (κ : zS) (a : Nat) : Prop := (zN κ (zR κ chDrawnTotals a)) = (zN κ (zR κ chDrawnWeights a)) ∧ 16 ≤ (zN κ (zR κ chDrawnWeights a)) ∧ (zN κ (zR κ chDrawnWeights a)) ≤ 4000
def dwF9 (m a : Nat) : Nat → Nat → Prop := fun f b => b = m ∨ (b = a ∧ (f = chDrawnWeights ∨ f = chDrawnTotals))
theorem ch_m9 {C : zC} {n0 a : Nat} {κ : zS} (W : zW C n0 κ) (T : zT κ a = 15) : a ≠ zR κ chMachine a ∧ a ≠ zR κ maCode (zR κ chMachine a) ∧ a ≠ zR κ chCode a := by
  have t1 := ty_chMachine W T
  have t2 := ty_maCode W t1
  have t3 := ty_chCode W T
  refine ⟨fun e => ?_, fun e => ?_, fun e => ?_⟩
  · rw [← e, T] at t1; exact absurd t1 (by decide)
  · rw [← e, T] at t2; exact absurd t2 (by decide)
  · rw [← e, T] at t3; exact absurd t3 (by decide)
/-- before a draw is kept -/
def djI9 (κ τ : zS) (a : Nat) (x y : Int32) : Prop := zF (dwF9 (zR κ chMachine a) a) κ τ ∧ (∀ f, f ≠ chDrawnWeights → f ≠ chDrawnTotals → zR τ f a = zR κ f a) ∧ mkI τ (zR κ chMachine a) ∧ (mO τ (zR κ chMachine a) ∧ (zI τ maWays (zR κ chMachine a)).toInt ≤ 64) ∧ dwI9 τ a ∧ (0 ≤ y.toInt ∧ y.toInt < ((zN τ (zR τ chDrawnWeights a)))) ∧ 0 ≤ x.toInt ∧ x.toInt < 64
theorem Ch_drawn_c {C : zC} {n0 : Nat} {a0 : Nat} {a1 : Int32} {a2 : Int32} {κ : zS} {Q : Int32 → zS → Prop} (W : zW C n0 κ) (Ta0 : zT κ a0 = 15)  (hp : mkI κ (zR κ chMachine a0) ∧ (mO κ (zR κ chMachine a0) ∧ (zI κ maWays (zR κ chMachine a0)).toInt ≤ 64) ∧ dwI9 κ a0 ∧ 0 ≤ a2.toInt ∧ a2.toInt < 2000) (h : ∀ (v : Int32) (κ' : zS), (zF (dwF9 (zR κ chMachine a0) a0) κ κ' ∧ (∀ f, f ≠ chDrawnWeights → f ≠ chDrawnTotals → zR κ' f a0 = zR κ f a0) ∧ mkI κ' (zR κ chMachine a0) ∧ (zI κ' maOutcome (zR κ chMachine a0) = 0 → mO κ' (zR κ chMachine a0)) ∧ dwI9 κ' a0 ∧ (v = 0 ∨ v = 1)) → Q v κ') : zRun C 3 mCh_drawn [.ref a0, .int a1, .int a2] κ (oI Q noX) := by
  refine Ch_drawn_run W Ta0 ?_
  replace W := W.lo (Nat.le_trans W.1.2.1 W.1.2.2) (Nat.le_refl (zn κ))
  unfold w_Ch_drawn_0
  have am := ch_m9 W Ta0
  have tm := ty_chMachine W Ta0
  obtain ⟨K0, ⟨O0, w0⟩, D0, l0, l1⟩ := hp
  have bn := W.n (ty_chDrawnWeights W Ta0)
  have e2 : (2 : Int32).toInt = 2 := rfl
  have m2 : (a2 * 2).toInt = 2 * a2.toInt := by
    have q := mul_i (x := a2) (y := 2) (by rw [e2]; omega) (by rw [e2]; omega)
    rw [e2] at q
    omega
  have k2 := cnk (x := a2 * 2) (by omega)
  have hj63 : ∀ (l0 : Nat) (l1 : Int32) (l2 : Int32) (τ : zS), zW C (zn κ) τ → zT τ l0 = 15 → (a0 = l0 ∧ a1 = l1 ∧ a2 = l2 ∧ djI9 κ τ a0 a1 a2) → w_Ch_drawn_63 C (zn κ) Q  l0 l1 l2 τ := by
    rintro _ _ _ τ63 W63 T63_0 ⟨rfl, rfl, rfl, j63⟩
    unfold w_Ch_drawn_63
    obtain ⟨Z6, R6, K6, ⟨O6, w6⟩, D6, ⟨y0, y1⟩, x0, x1⟩ := j63
    have rm : zR τ63 chMachine a0 = zR κ chMachine a0 := R6 _ (by decide) (by decide)
    refine ⟨?_, ?_⟩
    · rw [rm, inb_iff, K6.1.2.2.2.2]; omega  -- b1
    refine ⟨?_, ?_⟩
    · rw [inb_iff]; omega  -- b2
    intro κ_1 hκ_1
    intro W2
    have o1 := W63.o (show zr chDrawnWeights = some 20 by decide +kernel) (by decide) (T63_0.trans (by decide))
    have Z1 : zF (fun f b => b = a0 ∧ (f = chDrawnWeights ∨ f = chDrawnTotals)) τ63 κ_1 := by
      rw [hκ_1]
      exact zF_ua (by rw [o1]; exact ⟨rfl, Or.inl rfl⟩)
    have R1 : zR κ_1 = zR τ63 := by rw [hκ_1]; rfl
    have N1 : zN κ_1 = zN τ63 := by rw [hκ_1]; rfl
    refine ⟨?_, ?_⟩
    · rw [inb_iff, R1, N1, D6.1]; omega  -- b3
    intro κ_3 hκ_3
    intro W4
    intro T5
    have o2 := W2.o (show zr chDrawnTotals = some 20 by decide +kernel) (by decide) ((Z1.t T63_0 (by decide)).trans (by decide))
    have Z3 : zF (fun f b => b = a0 ∧ (f = chDrawnWeights ∨ f = chDrawnTotals)) τ63 κ_3 := Z1.tr (by
      rw [hκ_3]
      exact zF_ua (by rw [o2]; exact ⟨rfl, Or.inr rfl⟩))
    have R3 : zR κ_3 = zR τ63 := by rw [hκ_3]; exact R1
    have N3 : zN κ_3 = zN τ63 := by rw [hκ_3]; exact N1
    have am6 := ch_m9 W63 T63_0
    rw [rm] at am6
    have tm6 : zT τ63 (zR κ chMachine a0) = 7 := Z6.t tm (by decide)
    have K3 : mkI κ_3 (zR κ chMachine a0) := mkI_zF Z3 W63 tm6 (fun f z => am6.1 z.1.symm) (fun f z => am6.2.1 z.1.symm) K6
    have O3 : mO κ_3 (zR κ chMachine a0) := mO_z9 Z3 (fun f z => am6.1 z.1.symm) O6
    have w3 : zI κ_3 maWays (zR κ chMachine a0) = zI τ63 maWays (zR κ chMachine a0) := Z3.i (fun z => am6.1 z.1.symm)
    refine Ma_settle_c W4 T5  ?_ (fun κ_6 q7 => ?_)
    · rw [R3, rm]
      exact ⟨K3, O3, by rw [w3]; exact w6⟩
    intro W8
    intro M9
    refine h _ _ ?_
    · rw [R3, rm] at q7 T5
      refine ⟨(Z6.tr (Z3.mono (fun f b z => Or.inr z))).tr (q7.1.1.mono (fun f b z => Or.inl z)), fun f h1 h2 => ?_, (mkI_f q7.1 W4 T5 K3).1, fun z => ?_, ?_, Or.inr rfl⟩
      · rw [q7.1.2.1, R3]
        exact R6 f h1 h2
      · rcases q7.2.2.1 with y | y
        · exact y
        · rw [y] at z
          exact absurd z (by decide)
      · unfold dwI9
        rw [q7.1.2.1, q7.1.2.2.1, R3, N3]
        exact D6
  have hj15 : ∀ (l0 : Nat) (τ : zS), zW C (zn κ) τ → zT τ l0 = 15 → (κ = τ ∧ a0 = l0 ∧ True) → w_Ch_drawn_15 C (zn κ) Q  l0 τ := by
    rintro _ _ W15 T15_0 ⟨rfl, rfl, j15⟩
    unfold w_Ch_drawn_15
    intro T10
    refine Ma_fail_c W15 T10  (fun κ_11 q12 => ?_)
    intro W13
    intro M14
    refine h _ _ ?_
    · have f := mF_fail q12
      refine ⟨q12.1.mono (fun f b z => Or.inl z), fun f _ _ => by rw [q12.2.1], (mkI_f f.1 W tm K0).1, fun z => ?_, ?_, Or.inl rfl⟩
      · rw [q12.2.2.2.2.2.2] at z
        exact absurd z (by decide)
      · unfold dwI9
        rw [q12.2.1, q12.2.2.1]
        exact D0
  refine ⟨fun c15 => ?_, fun c15 => ?_⟩
  · skip
    refine hj15 _ _ W ?_ ?_
    · exact Ta0  -- t7
    · exact ⟨rfl, rfl, trivial⟩  -- k8
  · skip
    refine ⟨fun c16 => ?_, fun c16 => ?_⟩
    · skip
      refine ⟨fun c17 => ?_, fun c17 => ?_⟩
      · skip
        refine hj63 _ _ _ _ W ?_ ?_
        · exact Ta0  -- t9
        · rw [lti, t0i] at c15
          rw [lti] at c16
          rw [lti, ofn_i bn] at c17
          exact ⟨rfl, rfl, rfl, zF.rf, fun _ _ _ => rfl, K0, ⟨O0, w0⟩, D0, ⟨l0, by omega⟩, by omega, by omega⟩
      · skip
        intro T18
        refine Ar_copyOf_c W T18  ?_ (fun r19 κ_20 q21 => ?_)
        · rw [lti, ofn_i bn] at c17
          refine ⟨⟨by rw [lei, t0i]; omega, by omega⟩, fun e => ?_⟩
          have g := congrArg Int32.toInt e
          rw [ofn_i bn, m2] at g
          have := D0.2.1
          omega
        intro W22
        intro M23
        intro T24
        refine ⟨?_, ?_⟩
        · rw [q21.1]; exact q21.2.2.1  -- b12
        intro κ_25 hκ_25
        intro W26
        intro T27
        rw [lti, t0i] at c15
        rw [lti] at c16
        rw [lti, ofn_i bn] at c17
        obtain ⟨e19, Q1⟩ := q21
        rw [e19] at hκ_25
        have G1 := gr_f W (show zr chDrawnWeights = some 20 by decide +kernel) (by decide) (Ta0.trans (by decide)) ⟨by decide, by decide, by decide, by decide +kernel⟩ Q1 hκ_25 (by omega) (by have := D0.2.1; omega)
        have T25 : zT κ_25 a0 = 15 := G1.1.t Ta0 (by decide)
        have rt : zR κ_25 chDrawnTotals a0 = zR κ chDrawnTotals a0 := G1.2.2.1 _ _ (fun z => absurd z.1 (by decide))
        have nt : zN κ_25 (zR κ chDrawnTotals a0) = zN κ (zR κ chDrawnTotals a0) := G1.1.l (ty_chDrawnTotals W Ta0)
        have e0 := D0.1
        refine Ar_copyOf_c W26 T27  ?_ (fun r28 κ_29 q30 => ?_)
        · rw [rt, nt, e0]
          refine ⟨⟨by rw [lei, t0i]; omega, by omega⟩, fun e => ?_⟩
          have g := congrArg Int32.toInt e
          rw [ofn_i bn, m2] at g
          have := D0.2.1
          omega
        intro W31
        intro M32
        intro T33
        refine ⟨?_, ?_⟩
        · rw [q30.1]; exact q30.2.2.1  -- b14
        intro κ_34 hκ_34
        intro W35
        refine hj63 _ _ _ _ W35 ?_ ?_
        · rw [hκ_34]; obtain ⟨e28, Q2⟩ := q30
          rw [e28] at hκ_34
          have G2 := gr_f W26 (show zr chDrawnTotals = some 20 by decide +kernel) (by decide) (T25.trans (by decide)) ⟨by decide, by decide, by decide, by decide +kernel⟩ Q2 hκ_34 (by rw [rt, nt, e0]; omega) (by rw [rt, nt, e0]; have := D0.2.1; omega)
          have y := G2.1.t T25 (by decide)
          rw [hκ_34, ← e28] at y
          exact y
        · obtain ⟨e28, Q2⟩ := q30
          rw [e28] at hκ_34
          have G2 := gr_f W26 (show zr chDrawnTotals = some 20 by decide +kernel) (by decide) (T25.trans (by decide)) ⟨by decide, by decide, by decide, by decide +kernel⟩ Q2 hκ_34 (by rw [rt, nt, e0]; omega) (by rw [rt, nt, e0]; have := D0.2.1; omega)
          have Z0 : zF (fun f b => b = a0 ∧ (f = chDrawnWeights ∨ f = chDrawnTotals)) κ κ_34 := (G1.1.mono (fun f b z => ⟨z.2, Or.inl z.1⟩)).tr (G2.1.mono (fun f b z => ⟨z.2, Or.inr z.1⟩))
          have rw1 : zR κ_34 chDrawnWeights a0 = zn κ := (G2.2.2.1 _ _ (fun z => absurd z.1 (by decide))).trans G1.2.2.2.1
          have tw := ty_chDrawnWeights W26 T25
          rw [G1.2.2.2.1] at tw
          have nw1 : zN κ_34 (zn κ) = (a2 * 2).toNatClampNeg := (G2.1.l tw).trans G1.2.2.2.2.1
          refine ⟨rfl, rfl, rfl, Z0.mono (fun f b z => Or.inr z), fun f h1 h2 => (G2.2.2.1 f a0 (fun z => h2 z.1)).trans (G1.2.2.1 f a0 (fun z => h1 z.1)), mkI_zF Z0 W tm (fun f z => am.1 z.1.symm) (fun f z => am.2.1 z.1.symm) K0, ⟨mO_z9 Z0 (fun f z => am.1 z.1.symm) O0, by rw [Z0.i (fun z => am.1 z.1.symm)]; exact w0⟩, ⟨?_, ?_⟩, ⟨l0, ?_⟩, by omega, by omega⟩
          · rw [rw1, nw1, G2.2.2.2.1, G2.2.2.2.2.1]
          · rw [rw1, nw1]
            have := D0.2.1
            omega
          · rw [rw1, nw1]
            have := D0.2.1
            omega
    · skip
      refine hj15 _ _ W ?_ ?_
      · exact Ta0  -- t17
      · exact ⟨rfl, rfl, trivial⟩  -- k18

def ntF9 (a : Nat) : Nat → Nat → Prop := fun f b => b = a ∧ (f = chRecord ∨ f = chLastShared ∨ f = chPlayMade)
theorem nt_j9 {C : zC} {n0 a i : Nat} {κ τ : zS} {x : Int64} (W : zW C n0 κ) (T : zT κ a = 15) (e : τ = uj κ (zR κ chRecord a) i x) : zF (ntF9 a) κ τ ∧ zR τ = zR κ := by
  have o := W.o (show zr chRecord = some 22 by decide +kernel) (by decide) (T.trans (by decide))
  refine ⟨?_, by rw [e]; rfl⟩
  rw [e]
  exact zF_uj (by rw [o]; exact ⟨rfl, Or.inl rfl⟩)
theorem Ch_note_c {C : zC} {n0 : Nat} {a0 : Nat} {a1 : Int32} {a2 : Int32} {a3 : Int64} {κ : zS} {Q : zS → Prop} (W : zW C n0 κ) (Ta0 : zT κ a0 = 15)  (hp : mkI κ (zR κ chMachine a0) ∧ coI κ (zR κ chCode a0) ∧ (zN κ (zR κ chRecord a0)) = 5 ∧ (zN κ (zR κ chLastShared a0)) = 34) (h : ∀ (κ' : zS), (zF (ntF9 a0) κ κ' ∧ zR κ' = zR κ) → Q κ') : zRun C 1 mCh_note [.ref a0, .int a1, .int a2, .long a3] κ (oV Q noX) := by
  refine Ch_note_run W Ta0 ?_
  replace W := W.lo (Nat.le_trans W.1.2.1 W.1.2.2) (Nat.le_refl (zn κ))
  unfold w_Ch_note_0
  have am := ch_m9 W Ta0
  have nr : ∀ τ, zF (ntF9 a0) κ τ → zN τ (zR κ chRecord a0) = 5 := fun τ Z => (Z.l (ty_chRecord W Ta0)).trans hp.2.2.1
  have e1 : (1 : Int32).toInt = 1 := rfl
  have e2 : (2 : Int32).toInt = 2 := rfl
  have e3 : (3 : Int32).toInt = 3 := rfl
  have e4 : (4 : Int32).toInt = 4 := rfl
  have hj58 : ∀ (l0 : Nat) (l1 : Int32) (l2 : Int32) (l3 : Int64) (s0 : Nat) (s1 : Int32) (s2 : Int64) (τ : zS), zW C (zn κ) τ → zT τ l0 = 15 → zT τ s0 = 22 → (a0 = l0 ∧ a1 = l1 ∧ a2 = l2 ∧ a3 = l3 ∧ (zF (ntF9 a0) κ τ ∧ zR τ = zR κ) ∧ s0 = zR κ chRecord a0 ∧ s1 = 1) → w_Ch_note_58 C (zn κ) Q  l0 l1 l2 l3 s0 s1 s2 τ := by
    rintro _ _ _ _ y58_s0 y58_s1 y58_s2 τ58 W58 T58_0 T58_1 ⟨rfl, rfl, rfl, rfl, j58⟩
    unfold w_Ch_note_58
    obtain ⟨⟨Z6, R6⟩, es, e6⟩ := j58
    refine ⟨?_, ?_⟩
    · rw [inb_iff, es, e6, nr _ Z6, e1]; omega  -- b1
    intro κ_1 hκ_1
    intro W2
    rw [es, ← R6] at hκ_1
    obtain ⟨Z1, R1⟩ := nt_j9 W58 T58_0 hκ_1
    have R1' := R1.trans R6
    have Y1 := Z6.tr Z1
    refine ⟨?_, ?_⟩
    · rw [inb_iff, R1', nr _ Y1, e2]; omega  -- b2
    intro κ_3 hκ_3
    intro W4
    obtain ⟨Z3, R3⟩ := nt_j9 W2 (Z1.t T58_0 (by decide)) hκ_3
    have R3' := R3.trans R1'
    have Y3 := Y1.tr Z3
    refine ⟨?_, ?_⟩
    · rw [inb_iff, R3', nr _ Y3, e3]; omega  -- b3
    intro κ_5 hκ_5
    intro W6
    obtain ⟨Z5, R5⟩ := nt_j9 W4 (Y3.t Ta0 (by decide)) hκ_5
    have R5' := R5.trans R3'
    have Y5 := Y3.tr Z5
    refine ⟨?_, ?_⟩
    · rw [inb_iff, R5', nr _ Y5, e4]; omega  -- b4
    intro κ_7 hκ_7
    intro W8
    intro T9
    obtain ⟨Z7, R7⟩ := nt_j9 W6 (Y5.t Ta0 (by decide)) hκ_7
    have R7' := R7.trans R5'
    have Y7 := Y5.tr Z7
    have C7 : coI κ_7 (zR κ chCode a0) := coI_zF Y7 W (ty_chCode W Ta0) (fun f z => am.2.2 z.1.symm) hp.2.1
    refine Co_shared_c W8 T9  ?_ (fun r10 q12 => ?_)
    · rw [R7']; exact C7  -- p5
    intro W13
    intro M14
    rw [R7'] at q12
    have rb : 0 ≤ r10.toInt ∧ r10.toInt ≤ 34 := by
      obtain ⟨-, hv, ha, hc, -⟩ := C7
      omega
    have kr := cnk rb.1
    have cd : (if (34 : Int32) < r10 then (34 : Int32) else r10) = r10 := if_neg (by
      have e34 : (34 : Int32).toInt = 34 := rfl
      rw [lti, e34]
      omega)
    have n1 : zN κ_7 (zR κ maMemory (zR κ chMachine a0)) = 142 := (Y7.l (ty_maMemory W (ty_chMachine W Ta0))).trans hp.1.1.1
    have n2 : zN κ_7 (zR κ chLastShared a0) = 34 := (Y7.l (ty_chLastShared W Ta0)).trans hp.2.2.2
    have z0 : (0 : Int32).toNatClampNeg = 0 := rfl
    rw [cd]
    refine ⟨?_, ?_⟩
    · rw [R7']
      refine ⟨by decide, by decide, by rw [lei, t0i]; omega, by rw [n1, z0]; omega, by rw [n2, z0]; omega⟩
    intro κ_15 hκ_15
    intro W16
    intro κ_17 hκ_17
    intro W18
    refine h _ ?_
    · have T7 := Y7.t Ta0 (by decide)
      have o := W8.o (show zr chLastShared = some 20 by decide +kernel) (by decide) (T7.trans (by decide))
      have Z15 : zF (ntF9 a0) κ_7 κ_15 := by
        rw [hκ_15]
        exact zF_uc (by rw [o]; exact ⟨rfl, Or.inr (Or.inl rfl)⟩)
      have Z17 : zF (ntF9 a0) κ_15 κ_17 := by
        rw [hκ_17]
        exact zF_ui ⟨rfl, Or.inr (Or.inr rfl)⟩
      refine ⟨(Y7.tr Z15).tr Z17, ?_⟩
      rw [hκ_17, hκ_15]
      exact R7'
  intro x19 hx19
  refine ⟨?_, ?_⟩
  · rw [inb_iff, hp.2.2.1, t0i]; omega  -- b8
  intro κ_20 hκ_20
  intro W21
  obtain ⟨Z20, R20⟩ := nt_j9 W Ta0 hκ_20
  have T20 := Z20.t Ta0 (by decide)
  refine ⟨fun c22 => ?_, fun c22 => ?_⟩
  · skip
    refine ⟨fun c23 => ?_, fun c23 => ?_⟩
    · skip
      refine hj58 _ _ _ _ _ _ _ _ W21 ?_ ?_ ?_
      · exact T20  -- t9
      · exact ty_chRecord W21 T20  -- t10
      · exact ⟨rfl, rfl, rfl, rfl, ⟨Z20, R20⟩, by rw [R20], rfl⟩  -- k11
    · skip
      refine hj58 _ _ _ _ _ _ _ _ W21 ?_ ?_ ?_
      · exact T20  -- t12
      · exact ty_chRecord W21 T20  -- t13
      · exact ⟨rfl, rfl, rfl, rfl, ⟨Z20, R20⟩, by rw [R20], rfl⟩  -- k14
  · skip
    refine hj58 _ _ _ _ _ _ _ _ W21 ?_ ?_ ?_
    · exact T20  -- t15
    · exact ty_chRecord W21 T20  -- t16
    · exact ⟨rfl, rfl, rfl, rfl, ⟨Z20, R20⟩, by rw [R20], rfl⟩  -- k17

theorem pm_9 {x y a m : Nat} (h : x < pB9 m) (hy : y ≤ x * a) (ha : a < 2147483648) : y < pB9 (m + 1) := by
  have e : pB9 (m + 1) = pB9 m * 2147483648 := Nat.pow_succ _ _
  rw [e]
  have h1 : x * a ≤ x * 2147483648 := Nat.mul_le_mul_left _ (Nat.le_of_lt ha)
  have h2 : x * 2147483648 < pB9 m * 2147483648 := Nat.mul_lt_mul_of_pos_right h (by decide)
  omega
theorem Ch_showPlay_c {C : zC} {n0 : Nat} {a0 : Nat} {κ : zS} {Q : zS → Prop} (W : zW C n0 κ) (Ta0 : zT κ a0 = 15)  (hp : raC κ (zR κ chShown a0) 6500 ∧ ((zN κ (zR κ chDrawnWeights a0)) ≤ 4000 ∧ (zN κ (zR κ chRecord a0)) = 5)) (h : ∀ (κ' : zS), (zF (raF (zR κ raTop (zR κ chShown a0)) (zR κ raBottom (zR κ chShown a0)) (zR κ chShown a0)) κ κ' ∧ raJ κ' (zR κ chShown a0) 6500) → Q κ') : zRun C 5 mCh_showPlay [.ref a0] κ (oV Q noX) := by
  refine Ch_showPlay_run W Ta0 ?_
  replace W := W.lo (Nat.le_trans W.1.2.1 W.1.2.2) (Nat.le_refl (zn κ))
  unfold w_Ch_showPlay_0
  intro T1
  refine Ra_putOne_c W T1 6500 ?_ (fun κ_2 q3 => ?_)
  · exact hp.1  -- p1
  intro W4
  intro M5
  have r2 : ∀ f b, f ≠ nuLimbs → f ≠ nuLength → f ≠ raSign → zR κ_2 f b = zR κ f b := fun f b h1 h2 h3 => raF_r q3.1 h1 h2 h3
  refine ⟨?_, ?_⟩
  · have e3 : (3 : Int32).toInt = 3 := rfl
    rw [inb_iff, r2 chRecord _ (by decide) (by decide) (by decide), q3.1.l (ty_chRecord W Ta0), hp.2.2, e3]
    omega
  intro x6 hx6
  unfold w_Ch_showPlay_16
  refine ⟨fun n l0 l1 l3 τ => n = (4000 - l3.toInt).toNat ∧ (a0 = l0 ∧ zF (raF (zR κ raTop (zR κ chShown a0)) (zR κ raBottom (zR κ chShown a0)) (zR κ chShown a0)) κ τ ∧ raJ τ (zR κ chShown a0) 6500 ∧ 0 ≤ l3.toInt ∧ nuN τ (zR κ raTop (zR κ chShown a0)) < pB9 (l3.toInt.toNat + 1) ∧ nuN τ (zR κ raBottom (zR κ chShown a0)) < pB9 (l3.toInt.toNat + 1)), ⟨_, rfl, ?_⟩, ?_⟩
  · obtain ⟨v1, v2, v3⟩ := q3.2.2
    rw [r2 raTop _ (by decide) (by decide) (by decide)] at v2
    rw [r2 raBottom _ (by decide) (by decide) (by decide)] at v3
    have e : (0 : Int32).toInt.toNat + 1 = 1 := rfl
    have p1 : 1 < pB9 1 := by unfold pB9; decide
    exact ⟨rfl, q3.1, q3.2.1, by decide, by rw [e, v2]; exact p1, by rw [e, v3]; exact p1⟩
  rintro n16 _ x16_1 x16_3 κ16 W16 T16_0 ⟨hn16, rfl, i16⟩
  refine ⟨fun c7 => ?_, fun c7 => ?_⟩
  · skip
    refine h _ ?_
    · exact ⟨i16.1, i16.2.1⟩  -- q4
  · skip
    refine ⟨fun c8 => ?_, fun c8 => ?_⟩
    · skip
      refine h _ ?_
      · exact ⟨i16.1, i16.2.1⟩  -- q5
    · skip
      refine ⟨fun c9 => ?_, fun c9 => ?_⟩
      · skip
        refine h _ ?_
        · exact ⟨i16.1, i16.2.1⟩  -- q6
      · skip
        obtain ⟨Z6, J6, l0, t6, b6⟩ := i16
        have r6 : ∀ f b, f ≠ nuLimbs → f ≠ nuLength → f ≠ raSign → zR κ16 f b = zR κ f b := fun f b h1 h2 h3 => raF_r Z6 h1 h2 h3
        have rs := r6 chShown a0 (by decide) (by decide) (by decide)
        have rt := r6 raTop (zR κ chShown a0) (by decide) (by decide) (by decide)
        have rb := r6 raBottom (zR κ chShown a0) (by decide) (by decide) (by decide)
        have nw : zN κ16 (zR κ16 chDrawnWeights a0) = zN κ (zR κ chDrawnWeights a0) := by
          rw [r6 chDrawnWeights a0 (by decide) (by decide) (by decide)]
          exact Z6.l (ty_chDrawnWeights W Ta0)
        have h40 := hp.2.1
        rw [lei, ofn_i (W16.n (ty_chDrawnWeights W16 T16_0)), nw] at c8
        rw [lei, ofn_i (W16.n (ty_chDrawnTotals W16 T16_0))] at c9
        have ix := cn1 (x := x16_3) l0 (by omega)
        refine ⟨?_, ?_⟩
        · rw [inb_iff, nw]; omega  -- b7
        refine ⟨?_, ?_⟩
        · rw [inb_iff]; omega  -- b8
        intro T10
        refine Ra_scale_c2 W16 T10 6500 ?_ (fun κ_11 q12 => ?_)
        · rw [rs, rt, rb]
          have I1 := J6.1
          have I2 := J6.2.1
          rw [rt] at I1
          rw [rb] at I2
          have k1 := nuK_lt I1 t6
          have k2 := nuK_lt I2 b6
          exact ⟨J6, ⟨by omega, by omega⟩, by decide⟩
        intro W13
        intro M14
        intro x15 hx15
        rw [rs, rt, rb] at q12
        have r11 : ∀ f b, f ≠ nuLimbs → f ≠ nuLength → f ≠ raSign → zR κ_11 f b = zR κ16 f b := fun f b h1 h2 h3 => raF_r q12.1 h1 h2 h3
        refine ⟨_, ?_, rfl, ?_⟩
        · rw [hn16, hx15, ix.2]; omega  -- d10
        · have ek : x15.toInt.toNat + 1 = (x16_3.toInt.toNat + 1) + 1 := by rw [hx15, ix.2]; omega
          have l31 : ∀ z : Int32, z.toInt.toNat < 2147483648 := fun z => by
            have := z.toInt_lt
            omega
          refine ⟨rfl, Z6.tr q12.1, q12.2.1, by rw [hx15, ix.2]; omega, ?_, ?_⟩
          · rw [ek]
            rcases q12.2.2 with ⟨_, y, _⟩ | y
            · rw [r11 raTop _ (by decide) (by decide) (by decide), rt] at y
              rw [y]
              exact pB9_p
            · exact pm_9 t6 y.2.2.1 (l31 _)
          · rw [ek]
            rcases q12.2.2 with ⟨_, _, y⟩ | y
            · rw [r11 raBottom _ (by decide) (by decide) (by decide), rb] at y
              rw [y]
              exact Nat.lt_of_lt_of_le (by unfold pB9; decide : 1 < pB9 1) (pB9_l (by omega))
            · exact pm_9 b6 y.2.2.2.2 (l31 _)
