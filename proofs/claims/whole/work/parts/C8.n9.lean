set_option maxHeartbeats 1600000
theorem Ca_divide_c {C : zC} {n0 : Nat} {a0 : Nat} {a1 : Nat} {a2 : Nat} {κ : zS} {Q : zS → Prop} (W : zW C n0 κ) (Ta0 : zT κ a0 = 4) (Ta1 : zT κ a1 = 8) (Ta2 : zT κ a2 = 8) (c9 : Nat) (hp : (nuC κ (zR κ caQuotient a0) c9 ∧ nuC κ (zR κ caRest a0) c9 ∧ nuC κ (zR κ caDivisor a0) c9) ∧ (nuI κ a1 30000000 ∧ nuI κ a2 30000000) ∧ ((zR κ caQuotient a0) ≠ (zR κ caRest a0) ∧ (zR κ caQuotient a0) ≠ (zR κ caDivisor a0) ∧ (zR κ caRest a0) ≠ (zR κ caDivisor a0)) ∧ (a1 ≠ (zR κ caQuotient a0) ∧ a1 ≠ (zR κ caRest a0) ∧ a1 ≠ (zR κ caDivisor a0)) ∧ (a2 ≠ (zR κ caQuotient a0) ∧ a2 ≠ (zR κ caRest a0) ∧ a2 ≠ (zR κ caDivisor a0)) ∧ nuK κ a1 + 1 + (nuK κ a1 + 1) / 2 + 2 ≤ c9 ∧ c9 ≤ 30000000) (h : ∀ (κ' : zS), (dvO κ κ' (zR κ caQuotient a0) (zR κ caRest a0) (zR κ caDivisor a0) (nuN κ a1) (nuN κ a2) c9) → Q κ') : zRun C 2 mCa_divide [.ref a0, .ref a1, .ref a2] κ (oV Q noX) := by
  refine Ca_divide_run W Ta0 Ta1 Ta2 ?_
  replace W := W.lo (Nat.le_trans W.1.2.1 W.1.2.2) (Nat.le_refl (zn κ))
  unfold w_Ca_divide_0
  obtain ⟨⟨cq, cr, cd⟩, ⟨I1, I2⟩, ⟨nqr, nqd, nrd⟩, ⟨n1q, n1r, n1d⟩, ⟨n2q, n2r, n2d⟩, p1, p2⟩ := hp
  have k1 := nuK_i I1.1
  have k2 := nuK_i I2.1
  have kd1 : nuK κ a1 = (zI κ nuLength a1).toNatClampNeg := rfl
  have kd2 : nuK κ a2 = (zI κ nuLength a2).toNatClampNeg := rfl
  have lb1 := I1.1.1
  have lb2 := I2.1.1
  have Tq := ty_caQuotient W Ta0
  have Tr := ty_caRest W Ta0
  have Td := ty_caDivisor W Ta0
  have fQ : ∀ {x : Nat} {σ τ : zS}, zF (nuF x) σ τ → zR τ caQuotient a0 = zR σ caQuotient a0 := fun Z => nuF_r Z (by decide) (by decide)
  have fR : ∀ {x : Nat} {σ τ : zS}, zF (nuF x) σ τ → zR τ caRest a0 = zR σ caRest a0 := fun Z => nuF_r Z (by decide) (by decide)
  have fD : ∀ {x : Nat} {σ τ : zS}, zF (nuF x) σ τ → zR τ caDivisor a0 = zR σ caDivisor a0 := fun Z => nuF_r Z (by decide) (by decide)
  have oQ : oo3 (zR κ caQuotient a0) (zR κ caRest a0) (zR κ caDivisor a0) (zR κ caQuotient a0) := Or.inl rfl
  have oR : oo3 (zR κ caQuotient a0) (zR κ caRest a0) (zR κ caDivisor a0) (zR κ caRest a0) := Or.inr (Or.inl rfl)
  have oD : oo3 (zR κ caQuotient a0) (zR κ caRest a0) (zR κ caDivisor a0) (zR κ caDivisor a0) := Or.inr (Or.inr rfl)
  have o1 := oo3_n n1q n1r n1d
  have o22 := oo3_n n2q n2r n2d
  have sm : nuK κ a1 ≤ 2 → nuN κ a1 < 4611686018427387904 := fun z => by
    have a := nuN_lt (κ := κ) (x := a1)
    have b := Nat.pow_le_pow_right (n := 2147483648) (by decide) z
    omega
  have hj65 : ∀ (l0 : Nat) (l1 : Nat) (l3 : Int64) (s0 : Nat) (s1 : Int64) (τ : zS), zW C (zn κ) τ → zT τ l0 = 4 → zT τ l1 = 8 → zT τ s0 = 8 → (κ = τ ∧ a0 = l0 ∧ a1 = l1 ∧ nuK κ a1 ≤ 2 ∧ (0 < l3.toInt ∧ l3.toInt = nuN κ a2) ∧ s0 = (zR κ caQuotient a0) ∧ s1.toInt = ((nuN κ a1 / nuN κ a2 : Nat) : Int)) → w_Ca_divide_65 C (zn κ) Q  l0 l1 l3 s0 s1 τ := by
    rintro _ _ y65_3 y65_s0 y65_s1 _ W65 T65_0 T65_1 T65_2 ⟨rfl, rfl, rfl, j65⟩
    unfold w_Ca_divide_65
    intro T1
    obtain ⟨K2, ⟨y0, yv⟩, rfl, ev⟩ := j65
    have sl := sm K2
    have dl : nuN κ a1 / nuN κ a2 ≤ nuN κ a1 := Nat.div_le_self _ _
    have dl2 : nuN κ a1 % nuN κ a2 ≤ nuN κ a1 := Nat.mod_le _ _
    have s0 : 0 ≤ y65_s1.toInt := by rw [ev]; exact Int.natCast_nonneg _
    have s2 : y65_s1.toInt < 4611686018427387904 := by rw [ev]; omega
    refine Nu_put_c W65 T1 c9 ?_ (fun κ_2 q3 => ?_)
    · exact ⟨⟨s0, s2⟩, cq.1, cq.2⟩  -- p1
    obtain ⟨F2, ⟨R2, N2⟩, IQ, VQ⟩ := q3
    have eR2 : zR κ_2 caRest a0 = (zR κ caRest a0) := by rw [R2]
    intro W4
    intro M5
    refine ⟨fun c6 => ?_, fun c6 => ?_⟩
    · skip
      intro T7
      refine Nu_put_c W4 T7 c9 ?_ (fun κ_8 q9 => ?_)
      · rw [lg_cmp_le, jlei] at c6
        exact absurd y0 (by
          have : y65_3.toInt ≤ (0 : Int64).toInt := c6
          have z : (0 : Int64).toInt = 0 := rfl
          omega)
      intro W10
      intro M11
      refine h _ ?_
      · rw [lg_cmp_le, jlei] at c6
        exact absurd y0 (by
          have : y65_3.toInt ≤ (0 : Int64).toInt := c6
          have z : (0 : Int64).toInt = 0 := rfl
          omega)
    · skip
      intro T12
      have b1 := nuB_z (c := 30000000) W Ta1 F2 (fun z => n1q z.1) (fun z => n1q z.1)
      refine Nu_small_c W4 T12 30000000 ?_ (fun r13 q15 => ?_)
      · exact (b1.2.1 I1).1  -- p4
      intro W16
      intro M17
      refine ⟨?_, ?_⟩
      · exact j_n0 y0  -- b5
      intro T18
      have vr := q15.2 (by rw [b1.2.2.2]; exact K2)
      rw [b1.2.2.1] at vr
      have m := jmod_i (x := r13) (y := y65_3) (by omega) y0
      rw [vr, yv, ← Int.natCast_emod] at m
      refine Nu_put_c W16 T18 c9 ?_ (fun κ_19 q20 => ?_)
      · rw [eR2, R2, N2]
        refine ⟨⟨?_, ?_⟩, cr.1, cr.2⟩
        · rw [m]; exact Int.natCast_nonneg _
        · rw [m]; omega
      intro W21
      intro M22
      refine h _ ?_
      · rw [eR2] at q20
        obtain ⟨F3, ⟨R3, N3⟩, IR, VR⟩ := q20
        have Tq2 : zT κ_2 (zR κ caQuotient a0) = 8 := F2.t Tq (by decide)
        have Td2 : zT κ_2 (zR κ caDivisor a0) = 8 := F2.t Td (by decide)
        have bq := nuB_z (c := c9) W16 Tq2 F3 (fun z => nqr z.1) (fun z => nqr z.1)
        refine ⟨(nuFp_m oQ F2).tr (nuFp_m oR F3), ⟨bq.2.1 IQ, ?_⟩, ⟨IR, ?_⟩, ?_⟩
        · rw [bq.2.2.1, VQ, ev]
          exact Int.toNat_natCast _
        · rw [VR, m]
          exact Int.toNat_natCast _
        · unfold nuC
          rw [R3, N3, R2, N2]
          exact cd
  have hj15 : ∀ (l0 : Nat) (l1 : Nat) (τ : zS), zW C (zn κ) τ → zT τ l0 = 4 → zT τ l1 = 8 → (κ = τ ∧ a0 = l0 ∧ a1 = l1 ∧ (nuN κ a1 < nuN κ a2 ∨ nuN κ a2 = 0)) → w_Ca_divide_15 C (zn κ) Q  l0 l1 τ := by
    rintro _ _ _ W15 T15_0 T15_1 ⟨rfl, rfl, rfl, j15⟩
    unfold w_Ca_divide_15
    intro T23
    refine Nu_put_c W15 T23 c9 ?_ (fun κ_24 q25 => ?_)
    · exact ⟨⟨by decide, by decide⟩, cq.1, cq.2⟩  -- p8
    obtain ⟨F2, ⟨R2, N2⟩, IQ, VQ⟩ := q25
    have eR2 : zR κ_24 caRest a0 = (zR κ caRest a0) := by rw [R2]
    have b1 := nuB_z (c := 30000000) W Ta1 F2 (fun z => n1q z.1) (fun z => n1q z.1)
    intro W26
    intro M27
    intro T28
    intro T29
    refine Nu_copy_c W26 T28 T29 c9 30000000 ?_ (fun κ_30 q31 => ?_)
    · rw [eR2, R2, N2, b1.2.2.2]
      exact ⟨cr, (b1.2.1 I1).1, n1r.symm, by omega, p2⟩
    intro W32
    intro M33
    refine h _ ?_
    · rw [eR2] at q31
      obtain ⟨F3, BR, VR, KR, ZR⟩ := q31
      have I1' := b1.2.1 I1
      have Tq2 : zT κ_24 (zR κ caQuotient a0) = 8 := F2.t Tq (by decide)
      have Td2 : zT κ_24 (zR κ caDivisor a0) = 8 := F2.t Td (by decide)
      have bq := nuB_z (c := c9) W26 Tq2 F3 (fun z => nqr z.1) (fun z => nqr z.1)
      have dq : nuN κ a1 / nuN κ a2 = 0 ∧ nuN κ a1 % nuN κ a2 = nuN κ a1 := by
        rcases j15 with z | z
        · exact ⟨Nat.div_eq_of_lt z, Nat.mod_eq_of_lt z⟩
        · rw [z]; exact ⟨Nat.div_zero _, Nat.mod_zero _⟩
      refine ⟨(nuFp_m oQ F2).tr (nuFp_m oR F3), ⟨bq.2.1 IQ, ?_⟩, ⟨⟨BR, ZR I1'.2⟩, ?_⟩, ?_⟩
      · rw [bq.2.2.1, VQ, dq.1]
        rfl
      · rw [VR, b1.2.2.1, dq.2]
      · have u := nu_z W26 Td2 F3 (fun z => nrd z.1.symm) (fun z => nrd z.1.symm)
        unfold nuC
        rw [u.2.1, u.2.2.2, R2, N2]
        exact cd
  refine ⟨fun c34 => ?_, fun c34 => ?_⟩
  · skip
    refine hj15 _ _ _ W ?_ ?_ ?_
    · exact Ta0  -- t11
    · exact Ta1  -- t12
    · refine ⟨rfl, rfl, rfl, Or.inr ((nuK_z I2).mp ?_)⟩
      rw [kd2, c34]
      rfl
  · skip
    intro T35
    intro T36
    refine Nu_compare_c W T35 T36 30000000 30000000 ?_ (fun r37 q39 => ?_)
    · exact ⟨I1, I2⟩  -- p14
    intro W40
    intro M41
    refine ⟨fun c42 => ?_, fun c42 => ?_⟩
    · skip
      refine ⟨fun c43 => ?_, fun c43 => ?_⟩
      · skip
        refine ⟨fun c44 => ?_, fun c44 => ?_⟩
        · skip
          intro x45 hx45
          refine ⟨?_, ?_⟩
          · rw [lei, t0i] at c42
            have ge : nuN κ a2 ≤ nuN κ a1 := by omega
            clear q39 sm
            have kl : nuK κ a2 ≤ nuK κ a1 := nuK_le (d := 0) I2 ge
            have z2 : nuK κ a2 ≠ 0 := fun z => c34 (Int32.toInt_inj.mp (by rw [t0i]; omega))
            have N20 : 0 < nuN κ a2 := Nat.pos_of_ne_zero (fun z => z2 ((nuK_z I2).mpr z))
            have t2 : (2 : Int32).toInt = 2 := rfl
            rw [lti, t2] at c43
            have k21 : nuK κ a2 ≠ 1 := fun z => c44 (Int32.toInt_inj.mp (by rw [t1i]; omega))
            have d45 : (x45 - 1).toInt = nuK κ a2 - 1 := by rw [hx45, dec_i (by omega)]; omega
            have kk45 := cnk (x := x45 - 1) (by omega)
            have e45 : (x45 - 1).toNatClampNeg = nuK κ a2 - 1 := by omega
            have tz := I2.2 (by omega)
            have etz : ((zI κ nuLength a2).toInt - 1).toNat = nuK κ a2 - 1 := by omega
            rw [etz] at tz
            rw [inb_iff, d45]; omega
          rw [lei, t0i] at c42
          have ge : nuN κ a2 ≤ nuN κ a1 := by omega
          clear q39 sm
          have kl : nuK κ a2 ≤ nuK κ a1 := nuK_le (d := 0) I2 ge
          have z2 : nuK κ a2 ≠ 0 := fun z => c34 (Int32.toInt_inj.mp (by rw [t0i]; omega))
          have N20 : 0 < nuN κ a2 := Nat.pos_of_ne_zero (fun z => z2 ((nuK_z I2).mpr z))
          have t2 : (2 : Int32).toInt = 2 := rfl
          rw [lti, t2] at c43
          have k21 : nuK κ a2 ≠ 1 := fun z => c44 (Int32.toInt_inj.mp (by rw [t1i]; omega))
          have d45 : (x45 - 1).toInt = nuK κ a2 - 1 := by rw [hx45, dec_i (by omega)]; omega
          have kk45 := cnk (x := x45 - 1) (by omega)
          have e45 : (x45 - 1).toNatClampNeg = nuK κ a2 - 1 := by omega
          have tz := I2.2 (by omega)
          have etz : ((zI κ nuLength a2).toInt - 1).toNat = nuK κ a2 - 1 := by omega
          rw [etz] at tz
          refine Nu_bitsOf_c W40   ?_ (fun r46 q48 => ?_)
          · rw [e45]; omega  -- p16
          rw [e45] at q48
          have v1 := q48.2.2 tz
          have kt := cnk (x := zA κ (zR κ nuLimbs a2) (nuK κ a2 - 1)) (by omega)
          intro W49
          intro M50
          intro x51 hx51
          intro T52
          intro T53
          have t31 : (31 : Int32).toInt = 31 := rfl
          have q48a := q48.1
          have e51 : x51.toInt = 31 - r46.toInt := by rw [hx51, sub_i (by rw [t31]; omega) (by rw [t31]; omega), t31]
          refine Nu_shiftFrom_c W49 T52 T53 c9 30000000 ?_ (fun κ_54 q55 => ?_)
          · exact ⟨cr, I1.1, n1r.symm, by omega, by omega, p2⟩  -- p17
          obtain ⟨F54, B54, K54, V54⟩ := q55
          have eD54 : zR κ_54 caDivisor a0 = (zR κ caDivisor a0) := fD F54
          have b2 := nuB_z (c := 30000000) W Ta2 F54 (fun z => n2r z.1) (fun z => n2r z.1)
          have ud54 := nu_z W Td F54 (fun z => nrd z.1.symm) (fun z => nrd z.1.symm)
          have uq54 := nu_z W Tq F54 (fun z => nqr z.1) (fun z => nqr z.1)
          have Tr54 : zT κ_54 (zR κ caRest a0) = 8 := F54.t Tr (by decide)
          have Tq54 : zT κ_54 (zR κ caQuotient a0) = 8 := F54.t Tq (by decide)
          have Td54 : zT κ_54 (zR κ caDivisor a0) = 8 := F54.t Td (by decide)
          intro W56
          intro M57
          intro T58
          intro T59
          refine Nu_shiftFrom_c W56 T58 T59 c9 30000000 ?_ (fun κ_60 q61 => ?_)
          · rw [eD54, ud54.2.1, ud54.2.2.2, b2.2.2.2]
            exact ⟨cd, (b2.2.1 I2).1, n2d.symm, by omega, by omega, p2⟩
          rw [eD54, b2.2.2.2, b2.2.2.1] at q61
          obtain ⟨F60, B60, K60, V60⟩ := q61
          have eQ60 : zR κ_60 caQuotient a0 = (zR κ caQuotient a0) := (fQ F60).trans (fQ F54)
          have eR60 : zR κ_60 caRest a0 = (zR κ caRest a0) := (fR F60).trans (fR F54)
          have br := nuB_z (c := c9) W56 Tr54 F60 (fun z => nrd z.1) (fun z => nrd z.1)
          have uq60 := nu_z W56 Tq54 F60 (fun z => nqd z.1) (fun z => nqd z.1)
          have Tr60 : zT κ_60 (zR κ caRest a0) = 8 := F60.t Tr54 (by decide)
          have Tq60 : zT κ_60 (zR κ caQuotient a0) = 8 := F60.t Tq54 (by decide)
          have Td60 : zT κ_60 (zR κ caDivisor a0) = 8 := F60.t Td54 (by decide)
          intro W62
          intro M63
          intro T64
          intro T65
          refine Nu_copy_c W62 T64 T65 c9 30000000 ?_ (fun κ_66 q67 => ?_)
          · rw [eQ60, eR60, br.2.2.2, K54, uq60.2.1, uq60.2.2.2, uq54.2.1, uq54.2.2.2]
            exact ⟨cq, nuB_mono p2 (br.1 B54), nqr, by omega, p2⟩
          rw [eQ60, eR60, br.2.2.2, K54] at q67
          obtain ⟨F66, BQ, VQ, KQ, ZQ⟩ := q67
          have eQ66 : zR κ_66 caQuotient a0 = (zR κ caQuotient a0) := (fQ F66).trans eQ60
          have eR66 : zR κ_66 caRest a0 = (zR κ caRest a0) := (fR F66).trans eR60
          have eD66 : zR κ_66 caDivisor a0 = (zR κ caDivisor a0) := (fD F66).trans ((fD F60).trans eD54)
          have br6 := nuB_z (c := c9) W62 Tr60 F66 (fun z => nqr z.1.symm) (fun z => nqr z.1.symm)
          have bd6 := nuB_z (c := c9) W62 Td60 F66 (fun z => nqd z.1.symm) (fun z => nqd z.1.symm)
          have Tr66 : zT κ_66 (zR κ caRest a0) = 8 := F66.t Tr60 (by decide)
          have Tq66 : zT κ_66 (zR κ caQuotient a0) = 8 := F66.t Tq60 (by decide)
          have Td66 : zT κ_66 (zR κ caDivisor a0) = 8 := F66.t Td60 (by decide)
          have BR66 : nuB κ_66 (zR κ caRest a0) c9 := br6.1 (br.1 B54)
          have BD66 : nuB κ_66 (zR κ caDivisor a0) c9 := bd6.1 B60
          have KR66 : nuK κ_66 (zR κ caRest a0) = nuK κ a1 + 1 := by rw [br6.2.2.2, br.2.2.2, K54]
          have KD66 : nuK κ_66 (zR κ caDivisor a0) = nuK κ a2 + 1 := by rw [bd6.2.2.2, K60]
          have VR66 : nuN κ_66 (zR κ caRest a0) = nuN κ a1 * 2 ^ x51.toInt.toNat := by rw [br6.2.2.1, br.2.2.1, V54]
          have VD66 : nuN κ_66 (zR κ caDivisor a0) = nuN κ a2 * 2 ^ x51.toInt.toNat := by rw [bd6.2.2.1, V60]
          have Z66 : zF (nuFp (oo3 (zR κ caQuotient a0) (zR κ caRest a0) (zR κ caDivisor a0))) κ κ_66 := ((nuFp_m oR F54).tr (nuFp_m oD F60)).tr (nuFp_m oQ F66)
          have ld6 := BD66.1
          have kd6 := nuK_i BD66
          have UD : uV (zA κ_66 (zR κ_66 nuLimbs (zR κ caDivisor a0))) (nuK κ a2 + 1) = nuN κ a2 * 2 ^ x51.toInt.toNat := by
            rw [← VD66, ← KD66]
            rfl
          have UR : uV (zA κ_66 (zR κ_66 nuLimbs (zR κ caRest a0))) (nuK κ a1 + 1) = nuN κ a1 * 2 ^ x51.toInt.toNat := by
            rw [← VR66, ← KR66]
            rfl
          have et2 : nuN κ a2 = uV (zA κ (zR κ nuLimbs a2)) (nuK κ a2 - 1) + (zA κ (zR κ nuLimbs a2) (nuK κ a2 - 1)).toNatClampNeg * 2147483648 ^ (nuK κ a2 - 1) := by
            have e9 : nuK κ a2 = nuK κ a2 - 1 + 1 := by omega
            show uV _ (nuK κ a2) = uV _ (nuK κ a2 - 1 + 1)
            rw [← e9]
          have lt2 := uV_lt (f := zA κ (zR κ nuLimbs a2)) (n := nuK κ a2 - 1)
          have nz := nz_s (D := zA κ_66 (zR κ_66 nuLimbs (zR κ caDivisor a0))) (m := nuK κ a2) (t := (zA κ (zR κ nuLimbs a2) (nuK κ a2 - 1)).toNatClampNeg) (v := r46.toInt.toNat) (by omega) UD (by omega) (by omega) (by
            have := q48.2.1
            have e9 : (zA κ (zR κ nuLimbs a2) (nuK κ a2 - 1)).toInt.toNat = (zA κ (zR κ nuLimbs a2) (nuK κ a2 - 1)).toNatClampNeg := rfl
            rw [e9] at this
            exact this) v1.2 (by omega) (by rw [Nat.add_mul]; omega)
          clear q48
          have hd0 := BD66.2.2 (nuK κ a2 - 1) (by omega)
          have khd := cnk hd0
          have hs0 := BD66.2.2 (nuK κ a2 - 2) (by omega)
          have khs := cnk hs0
          intro W68
          intro M69
          refine ⟨?_, ?_⟩
          · rw [eD66, inb_iff, d45]; omega  -- b20
          intro x70 hx70
          have d46 : (x45 - 2).toInt = nuK κ a2 - 2 := by rw [hx45, sub_i (by rw [t2]; omega) (by rw [t2]; omega), t2]; omega
          have kk46 := cnk (x := x45 - 2) (by omega)
          have e46 : (x45 - 2).toNatClampNeg = nuK κ a2 - 2 := by omega
          have e70 : x70.toInt = ((zA κ_66 (zR κ_66 nuLimbs (zR κ caDivisor a0)) (nuK κ a2 - 1)).toNatClampNeg : Int) := by
            have b7 : (zA κ_66 (zR κ_66 nuLimbs (zR κ caDivisor a0)) (nuK κ a2 - 1)).toInt64.toInt = (zA κ_66 (zR κ_66 nuLimbs (zR κ caDivisor a0)) (nuK κ a2 - 1)).toInt := Int32.toInt_toInt64 _
            rw [hx70, eD66, e45, if_neg (by rw [lti, t1i]; omega), b7]
            omega
          refine ⟨?_, ?_⟩
          · rw [eD66, inb_iff, d46]; omega  -- b21
          intro x71 hx71
          intro x72 hx72
          intro x73 hx73
          have e71 : x71.toInt = ((zA κ_66 (zR κ_66 nuLimbs (zR κ caDivisor a0)) (nuK κ a2 - 2)).toNatClampNeg : Int) := by
            have b7 : (zA κ_66 (zR κ_66 nuLimbs (zR κ caDivisor a0)) (nuK κ a2 - 2)).toInt64.toInt = (zA κ_66 (zR κ_66 nuLimbs (zR κ caDivisor a0)) (nuK κ a2 - 2)).toInt := Int32.toInt_toInt64 _
            rw [hx71, eD66, e46, b7]
            omega
          have e72 : x72 = zR κ_66 nuLimbs (zR κ caRest a0) := by rw [hx72, eR66]
          have u1 := nuFp_z W Ta1 Z66 o1
          have e73 : x73.toInt = (nuK κ a1 : Int) - nuK κ a2 := by
            rw [hx73, u1.1, hx45, sub_i (by omega) (by omega)]
            omega
          have e45b : x45.toInt = nuK κ a2 := by rw [hx45]; omega
          have g := nuN_ge I2 (by omega)
          have g2 := Nat.mul_le_mul_right (2147483648 ^ (nuK κ a1 + 1 - nuK κ a2)) g
          rw [← Nat.pow_add] at g2
          have e8 : nuK κ a2 - 1 + (nuK κ a1 + 1 - nuK κ a2) = nuK κ a1 := by omega
          rw [e8] at g2
          exact Ca_divide_231_c W68 (Z66.t Ta1 (by decide)) Tq66 Tr66 Td66 nqr nqd nrd n1q n1r eQ66 eR66 eD66 Z66 BQ KQ BR66 KR66 BD66 KD66 UR nz nuN_lt g2 N20 ⟨by omega, kl⟩ p1 p2 (by rw [u1.1]; omega) e45b ⟨by omega, by omega⟩ e70 e71 e72 e73 h
        · skip
          intro T104
          intro T105
          rw [lei, t0i] at c42
          have ge : nuN κ a2 ≤ nuN κ a1 := by omega
          have l20 := I2.1.2.2 0 (by rw [c44]; decide)
          have z20 := I2.2 (by rw [c44]; decide)
          have e20 : ((zI κ nuLength a2).toInt - 1).toNat = 0 := by rw [c44]; decide
          rw [e20] at z20
          have v20 : nuN κ a2 = (zA κ (zR κ nuLimbs a2) 0).toNatClampNeg := by
            unfold nuN
            rw [c44]
            exact uV_1
          refine Nu_copy_c W40 T104 T105 c9 30000000 ?_ (fun κ_106 q107 => ?_)
          · exact ⟨cq, I1.1, n1q.symm, by omega, p2⟩  -- p49
          obtain ⟨F6, B6, V6, K6, Z6⟩ := q107
          have eQ6 : zR κ_106 caQuotient a0 = (zR κ caQuotient a0) := fQ F6
          have eR6 : zR κ_106 caRest a0 = (zR κ caRest a0) := fR F6
          have u2 := nu_z W Ta2 F6 (fun z => n2q z.1) (fun z => n2q z.1)
          have ur := nu_z W Tr F6 (fun z => nqr z.1.symm) (fun z => nqr z.1.symm)
          have Tr6 : zT κ_106 (zR κ caRest a0) = 8 := F6.t Tr (by decide)
          have Tq6 : zT κ_106 (zR κ caQuotient a0) = 8 := F6.t Tq (by decide)
          have Td6 : zT κ_106 (zR κ caDivisor a0) = 8 := F6.t Td (by decide)
          intro W108
          intro M109
          refine ⟨?_, ?_⟩
          · rw [u2.2.1, u2.2.2.2, inb_iff, t0i]
            have := I2.1.2.1
            omega
          intro T110
          refine Nu_over_c W108 T110 c9 ?_ (fun r111 κ_112 q113 => ?_)
          · rw [eQ6, u2.2.1, u2.2.2.1]
            exact ⟨⟨B6, Z6 I1.2⟩, z20⟩
          rw [eQ6, u2.2.1, u2.2.2.1, V6] at q113
          obtain ⟨F12, I12, V12, r12⟩ := q113
          have e20n : (zA κ (zR κ nuLimbs a2) 0).toInt.toNat = nuN κ a2 := by
            rw [v20]
            rfl
          have r12' : r111.toInt = ((nuN κ a1 % nuN κ a2 : Nat) : Int) := by
            rw [← e20n]
            exact r12
          have V12' : nuN κ_112 (zR κ caQuotient a0) = nuN κ a1 / nuN κ a2 := by
            rw [← e20n]
            exact V12
          have ur2 := nu_z W108 Tr6 F12 (fun z => nqr z.1.symm) (fun z => nqr z.1.symm)
          have b64 : r111.toInt64.toInt = r111.toInt := Int32.toInt_toInt64 _
          have h31 := ihi r111
          have Tq12 : zT κ_112 (zR κ caQuotient a0) = 8 := F12.t Tq6 (by decide)
          have Td12 : zT κ_112 (zR κ caDivisor a0) = 8 := F12.t Td6 (by decide)
          intro W114
          intro M115
          intro T116
          refine Nu_put_c W114 T116 c9 ?_ (fun κ_117 q118 => ?_)
          · rw [eR6, ur2.2.1, ur2.2.2.2, ur.2.1, ur.2.2.2]
            refine ⟨⟨?_, ?_⟩, cr.1, cr.2⟩
            · rw [b64, r12']; exact Int.natCast_nonneg _
            · rw [b64]; omega
          intro W119
          intro M120
          refine h _ ?_
          · rw [eR6] at q118
            obtain ⟨F17, ⟨R17, N17⟩, I17, V17⟩ := q118
            have bq := nuB_z (c := c9) W114 Tq12 F17 (fun z => nqr z.1) (fun z => nqr z.1)
            refine ⟨((nuFp_m oQ F6).tr (nuFp_m oQ F12)).tr (nuFp_m oR F17), ⟨bq.2.1 I12, by rw [bq.2.2.1]; exact V12'⟩, ⟨I17, ?_⟩, ?_⟩
            · rw [V17, b64, r12']
              exact Int.toNat_natCast _
            · have Zf : zF (nuFp (oo2 (zR κ caQuotient a0) (zR κ caRest a0))) κ κ_117 := ((nuFp_m (Or.inl rfl) F6).tr (nuFp_m (Or.inl rfl) F12)).tr (nuFp_m (Or.inr rfl) F17)
              exact nuFp_C W Td Zf (oo2_n nqd.symm nrd.symm) cd
      · skip
        intro T121
        rw [lei, t0i] at c42
        have ge : nuN κ a2 ≤ nuN κ a1 := by omega
        clear q39 sm
        have kl : nuK κ a2 ≤ nuK κ a1 := nuK_le (d := 0) I2 ge
        have z2 : nuK κ a2 ≠ 0 := fun z => c34 (Int32.toInt_inj.mp (by rw [t0i]; omega))
        have N20 : 0 < nuN κ a2 := Nat.pos_of_ne_zero (fun z => z2 ((nuK_z I2).mpr z))
        have t2 : (2 : Int32).toInt = 2 := rfl
        rw [lti, t2] at c43
        refine Nu_small_c W40 T121 30000000 ?_ (fun r122 q124 => ?_)
        · exact I2.1  -- p54
        have v2 := q124.2 (by omega)
        intro W125
        intro M126
        refine ⟨fun c127 => ?_, fun c127 => ?_⟩
        · skip
          refine hj65 _ _ _ _ _ _ W125 ?_ ?_ ?_ ?_
          · exact Ta0  -- t55
          · exact Ta1  -- t56
          · exact Tq  -- t57
          · rw [lg_cmp_le, jlei] at c127
            exact absurd c127 (by
              show ¬ r122.toInt ≤ (0 : Int64).toInt
              have z : (0 : Int64).toInt = 0 := rfl
              omega)
        · skip
          intro T128
          refine Nu_small_c W125 T128 30000000 ?_ (fun r129 q131 => ?_)
          · exact I1.1  -- p59
          have v3 := q131.2 (by omega)
          have dv9 := jdiv_i (x := r129) (y := r122) (by omega) (by omega)
          rw [v3, v2, ← Int.natCast_ediv] at dv9
          intro W132
          intro M133
          refine ⟨?_, ?_⟩
          · exact j_n0 (by omega)  -- b60
          refine hj65 _ _ _ _ _ _ W132 ?_ ?_ ?_ ?_
          · exact Ta0  -- t61
          · exact Ta1  -- t62
          · exact Tq  -- t63
          · exact ⟨rfl, rfl, rfl, by omega, ⟨by omega, v2⟩, rfl, dv9⟩  -- k64
    · skip
      refine hj15 _ _ _ W40 ?_ ?_ ?_
      · exact Ta0  -- t65
      · exact Ta1  -- t66
      · rw [lei, t0i] at c42
        exact ⟨rfl, rfl, rfl, Or.inl (by omega)⟩

