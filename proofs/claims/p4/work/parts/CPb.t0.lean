set_option maxHeartbeats 1600000
/-! the class: scale, addTerm, unit once more, where what is below the line may be 0 -/
theorem Ra_scale_c2 {C : zC} {n0 : Nat} {a0 : Nat} {a1 : Int32} {a2 : Int32} {κ : zS} {Q : zS → Prop} (W : zW C n0 κ) (Ta0 : zT κ a0 = 11) (c9 : Nat) (hp : raJ κ a0 c9 ∧ (nuK κ (zR κ raTop a0) + 1 + (nuK κ (zR κ raTop a0) + 1) / 2 + 1 ≤ c9 ∧ nuK κ (zR κ raBottom a0) + 1 + (nuK κ (zR κ raBottom a0) + 1) / 2 + 1 ≤ c9) ∧ c9 ≤ 30000000) (h : ∀ (κ' : zS), (zF (raF (zR κ raTop a0) (zR κ raBottom a0) a0) κ κ' ∧ raJ κ' a0 c9 ∧ (raV κ' a0 0 0 1 ∨ ((0 < a1.toInt ∧ 0 < a2.toInt ∧ (zI κ raSign a0).toInt ≠ 0) ∧ zI κ' raSign a0 = zI κ raSign a0 ∧ nuN κ' (zR κ raTop a0) ≤ nuN κ (zR κ raTop a0) * a1.toInt.toNat ∧ nuN κ' (zR κ raBottom a0) ∣ nuN κ (zR κ raBottom a0) * a2.toInt.toNat ∧ nuN κ' (zR κ raBottom a0) ≤ nuN κ (zR κ raBottom a0) * a2.toInt.toNat))) → Q κ') : zRun C 4 mRa_scale [.ref a0, .int a1, .int a2] κ (oV Q noX) := by
  refine Ra_scale_run W Ta0 ?_
  replace W := W.lo (Nat.le_trans W.1.2.1 W.1.2.2) (Nat.le_refl (zn κ))
  unfold w_Ra_scale_0
  obtain ⟨⟨It, Ib, ne⟩, ⟨p1, p2⟩, p3⟩ := hp
  have Tt := ty_raTop W Ta0
  have Tb := ty_raBottom W Ta0
  have zro : ∀ κ' : zS, (zF (raF (zR κ raTop a0) (zR κ raBottom a0) a0) κ κ' ∧ raJ κ' a0 c9 ∧ raV κ' a0 0 0 1) → zF (raF (zR κ raTop a0) (zR κ raBottom a0) a0) κ κ' ∧ raJ κ' a0 c9 ∧ (raV κ' a0 0 0 1 ∨ ((0 < a1.toInt ∧ 0 < a2.toInt ∧ (zI κ raSign a0).toInt ≠ 0) ∧ zI κ' raSign a0 = zI κ raSign a0 ∧ nuN κ' (zR κ raTop a0) ≤ nuN κ (zR κ raTop a0) * a1.toInt.toNat ∧ nuN κ' (zR κ raBottom a0) ∣ nuN κ (zR κ raBottom a0) * a2.toInt.toNat ∧ nuN κ' (zR κ raBottom a0) ≤ nuN κ (zR κ raBottom a0) * a2.toInt.toNat)) := fun κ' z => by
    have e : zR κ' raBottom a0 = (zR κ raBottom a0) := raF_r z.1 (by decide) (by decide) (by decide)
    have v := z.2.2.2.2
    rw [e] at v
    exact ⟨z.1, z.2.1, Or.inl z.2.2⟩
  have rC : raC κ a0 c9 := ⟨It.1.2.1, Ib.1.2.1, ne⟩
  have hj100 : ∀ (l0 : Nat) (l4 : Int32) (l5 : Int32) (l6 : Int32) (l7 : Int32) (τ : zS), zW C (zn κ) τ → zT τ l0 = 11 → (a0 = l0 ∧ scI κ τ a0 c9 l4 l5 l6 l7 a1 a2 (nuN κ (zR κ raBottom a0) / l7.toInt.toNat) ∧ (0 < a1.toInt ∧ 0 < a2.toInt ∧ (zI κ raSign a0).toInt ≠ 0)) → w_Ra_scale_100 C (zn κ) Q  l0 l4 l5 l6 l7 τ := by
    rintro _ y100_4 y100_5 y100_6 y100_7 τ100 W100 T100_0 ⟨rfl, j100⟩
    unfold w_Ra_scale_100
    obtain ⟨⟨⟨Z1, S1⟩, ⟨It1, Vt1⟩, ⟨Ib1, Vb1⟩, ⟨l41, l42⟩, ⟨l51, l52⟩, ⟨l61, l62⟩, l71, l72⟩, pos⟩ := j100
    have et1 : zR τ100 raTop a0 = (zR κ raTop a0) := raF_r Z1 (by decide) (by decide) (by decide)
    have eb1 : zR τ100 raBottom a0 = (zR κ raBottom a0) := raF_r Z1 (by decide) (by decide) (by decide)
    have Tt1 : zT τ100 (zR κ raTop a0) = 8 := Z1.t Tt (by decide)
    have Tb1 : zT τ100 (zR κ raBottom a0) = 8 := Z1.t Tb (by decide)
    have kt1 : nuK τ100 (zR κ raTop a0) ≤ nuK κ (zR κ raTop a0) := nuK_le (d := 0) It1 Vt1
    have kb1 : nuK τ100 (zR κ raBottom a0) ≤ nuK κ (zR κ raBottom a0) := nuK_le (d := 0) Ib1 (by rw [Vb1]; exact Nat.div_le_self _ _)
    have d4 := i_divn (x := y100_4) (y := y100_7) (by omega) l71
    have d5 := i_divn (x := y100_5) (y := y100_6) (by omega) l61
    have e4 : (y100_4 / y100_7).toInt64.toInt = (y100_4 / y100_7).toInt := Int32.toInt_toInt64 _
    have e5 : (y100_5 / y100_6).toInt64.toInt = (y100_5 / y100_6).toInt := Int32.toInt_toInt64 _
    have i4 := ihi (y100_4 / y100_7)
    have i5 := ihi (y100_5 / y100_6)
    refine ⟨?_, ?_⟩
    · exact i_n0 l71  -- b1
    intro T1
    refine Nu_times_c W100 T1 c9 ?_ (fun κ_2 q3 => ?_)
    · rw [et1]
      exact ⟨It1, ⟨by rw [e4]; exact d4.2.2, by rw [e4]; omega⟩, by omega, p3⟩
    rw [et1, e4, d4.2.1] at q3
    obtain ⟨F2, I2, V2⟩ := q3
    have eb2 : zR κ_2 raBottom a0 = (zR κ raBottom a0) := (nuF_r F2 (by decide) (by decide)).trans eb1
    have bb := nuB_z (c := c9) W100 Tb1 F2 (fun z => ne z.1.symm) (fun z => ne z.1.symm)
    have Tt2 : zT κ_2 (zR κ raTop a0) = 8 := F2.t Tt1 (by decide)
    intro W4
    intro M5
    refine ⟨?_, ?_⟩
    · exact i_n0 l61  -- b3
    intro T6
    refine Nu_times_c W4 T6 c9 ?_ (fun κ_7 q8 => ?_)
    · rw [eb2, bb.2.2.2]
      exact ⟨bb.2.1 Ib1, ⟨by rw [e5]; exact d5.2.2, by rw [e5]; omega⟩, by omega, p3⟩
    intro W9
    intro M10
    refine h _ ?_
    · rw [eb2, e5, d5.2.1, bb.2.2.1, Vb1] at q8
      obtain ⟨F7, I7, V7⟩ := q8
      have bt := nuB_z (c := c9) W4 Tt2 F7 (fun z => ne z.1) (fun z => ne z.1)
      have Zf := (Z1.tr (raF_1 F2)).tr (raF_2 F7)
      have et7 : zR κ_7 raTop a0 = (zR κ raTop a0) := raF_r Zf (by decide) (by decide) (by decide)
      have eb7 : zR κ_7 raBottom a0 = (zR κ raBottom a0) := raF_r Zf (by decide) (by decide) (by decide)
      refine ⟨Zf, ?_, Or.inr ⟨pos, (nuF_i F7).trans ((nuF_i F2).trans S1), ?_, by rw [V7]; exact sc_d l72 l62 l52, by rw [V7]; exact Nat.mul_le_mul (Nat.div_le_self _ _) (Nat.le_trans (Nat.div_le_self _ _) (Nat.le_of_dvd (by omega) l52))⟩⟩
      · unfold raJ
        rw [et7, eb7]
        exact ⟨bt.2.1 I2, I7, ne⟩
      · rw [bt.2.2.1, V2]
        refine Nat.mul_le_mul Vt1 (Nat.le_trans (Nat.div_le_self _ _) ?_)
        omega
  have hj84 : ∀ (l0 : Nat) (l4 : Int32) (l5 : Int32) (l6 : Int32) (l7 : Int32) (τ : zS), zW C (zn κ) τ → zT τ l0 = 11 → (a0 = l0 ∧ scI κ τ a0 c9 l4 l5 l6 l7 a1 a2 (nuN κ (zR κ raBottom a0)) ∧ (0 < a1.toInt ∧ 0 < a2.toInt ∧ (zI κ raSign a0).toInt ≠ 0)) → w_Ra_scale_84 C (zn κ) Q  l0 l4 l5 l6 l7 τ := by
    rintro _ y84_4 y84_5 y84_6 y84_7 τ84 W84 T84_0 ⟨rfl, j84⟩
    unfold w_Ra_scale_84
    refine ⟨fun c11 => ?_, fun c11 => ?_⟩
    · skip
      refine hj100 _ _ _ _ _ _ W84 ?_ ?_
      · exact T84_0  -- t6
      · rw [lei, t1i] at c11
        obtain ⟨⟨Z1, ⟨It1, Vt1⟩, ⟨Ib1, Vb1⟩, l4, l5, l6, l71, l72⟩, pos⟩ := j84
        have e : y84_7.toInt.toNat = 1 := by omega
        exact ⟨rfl, ⟨Z1, ⟨It1, Vt1⟩, ⟨Ib1, by rw [Vb1, e, Nat.div_one]⟩, l4, l5, l6, l71, l72⟩, pos⟩
    · skip
      intro T12
      obtain ⟨⟨⟨Z1, S1⟩, ⟨It1, Vt1⟩, ⟨Ib1, Vb1⟩, l4, l5, l6, l71, l72⟩, pos⟩ := j84
      have eb1 : zR τ84 raBottom a0 = (zR κ raBottom a0) := raF_r Z1 (by decide) (by decide) (by decide)
      have Tt1 : zT τ84 (zR κ raTop a0) = 8 := Z1.t Tt (by decide)
      refine Nu_over_c W84 T12 c9 ?_ (fun r13 κ_14 q15 => ?_)
      · rw [eb1]
        exact ⟨Ib1, l71⟩
      rw [eb1, Vb1] at q15
      obtain ⟨F14, I14, V14, r14⟩ := q15
      have bt := nuB_z (c := c9) W84 Tt1 F14 (fun z => ne z.1) (fun z => ne z.1)
      intro W16
      intro M17
      refine hj100 _ _ _ _ _ _ W16 ?_ ?_
      · exact F14.t T84_0 (by decide)  -- t9
      · exact ⟨rfl, ⟨⟨Z1.tr (raF_2 F14), (nuF_i F14).trans S1⟩, ⟨bt.2.1 It1, by rw [bt.2.2.1]; exact Vt1⟩, ⟨I14, V14⟩, l4, l5, l6, l71, l72⟩, pos⟩  -- k10
  refine ⟨fun c18 => ?_, fun c18 => ?_⟩
  · skip
    intro T19
    refine Ra_putZero_c W T19 c9 ?_ (fun κ_20 q21 => ?_)
    · exact rC  -- p11
    intro W22
    intro M23
    refine h _ ?_
    · exact zro _ q21  -- q12
  · skip
    refine ⟨fun c24 => ?_, fun c24 => ?_⟩
    · skip
      intro T25
      refine Ra_putZero_c W T25 c9 ?_ (fun κ_26 q27 => ?_)
      · exact rC  -- p13
      intro W28
      intro M29
      refine h _ ?_
      · exact zro _ q27  -- q14
    · skip
      have pos : ¬ a1 ≤ 0 → ¬ a2 ≤ 0 → ¬ zI κ raSign a0 = 0 → (0 < a1.toInt ∧ 0 < a2.toInt ∧ (zI κ raSign a0).toInt ≠ 0) := fun x y z => by
        rw [lei, t0i] at x y
        exact ⟨by omega, by omega, fun w => z (Int32.toInt_inj.mp (w.trans t0i.symm))⟩
      refine ⟨fun c30 => ?_, fun c30 => ?_⟩
      · skip
        refine Ch_commonInt_c W   ?_ (fun r31 q33 => ?_)
        · have ps := pos c18 c24 c30
          exact ⟨by omega, by omega⟩
        intro W34
        intro M35
        have ps := pos c18 c24 c30
        have ps1 := ps.1
        have ps2 := ps.2.1
        clear pos
        have g1 : r31.toInt.toNat = Nat.gcd a1.toInt.toNat a2.toInt.toNat := by
          rcases q33.2 with z | z
          · exact z
          · omega
        have g0 := q33.1
        have ga : r31.toInt.toNat ∣ a1.toInt.toNat := by rw [g1]; exact Nat.gcd_dvd_left _ _
        have gb : r31.toInt.toNat ∣ a2.toInt.toNat := by rw [g1]; exact Nat.gcd_dvd_right _ _
        refine ⟨?_, ?_⟩
        · exact i_n0 (by omega)  -- b16
        intro x36 hx36
        have f4 := i_divn (x := a1) (y := r31) (by omega) (by omega)
        rw [← hx36] at f4
        have f4p := dv_p (show 0 < a1.toInt.toNat by omega) ga
        rw [← f4.2.1] at f4p
        have f4l : x36.toInt.toNat ≤ a1.toInt.toNat := by rw [f4.2.1]; exact Nat.div_le_self _ _
        refine ⟨?_, ?_⟩
        · exact i_n0 (by omega)  -- b17
        intro x37 hx37
        intro T38
        have f5 := i_divn (x := a2) (y := r31) (by omega) (by omega)
        rw [← hx37] at f5
        have f5p := dv_p (show 0 < a2.toInt.toNat by omega) gb
        rw [← f5.2.1] at f5p
        have f5d : x37.toInt.toNat ∣ a2.toInt.toNat := by rw [f5.2.1]; exact Nat.div_dvd_of_dvd gb
        refine Nu_rest_c W34 T38 c9 ?_ (fun r39 q41 => ?_)
        · exact ⟨It, by omega⟩  -- p18
        intro W42
        intro M43
        have r39p : 0 ≤ r39.toInt := by rw [q41]; exact Int.natCast_nonneg _
        refine Ch_commonInt_c W42   ?_ (fun r44 q46 => ?_)
        · exact ⟨by omega, r39p⟩  -- p19
        have g6 : r44.toInt.toNat ∣ x37.toInt.toNat := by
          rcases q46.2 with z | z
          · rw [z]; exact Nat.gcd_dvd_left _ _
          · omega
        have g6p := q46.1
        intro W47
        intro M48
        intro T49
        refine Nu_rest_c W47 T49 c9 ?_ (fun r50 q52 => ?_)
        · exact ⟨Ib, by omega⟩  -- p20
        intro W53
        intro M54
        have r50p : 0 ≤ r50.toInt := by rw [q52]; exact Int.natCast_nonneg _
        refine Ch_commonInt_c W53   ?_ (fun r55 q57 => ?_)
        · exact ⟨by omega, r50p⟩  -- p21
        have g7 : r55.toInt.toNat ∣ nuN κ (zR κ raBottom a0) := by
          have e50 : r50.toInt.toNat = nuN κ (zR κ raBottom a0) % x36.toInt.toNat := by rw [q52]; exact Int.toNat_natCast _
          rcases q57.2 with z | z
          · rw [z, e50, gc_m]; exact Nat.gcd_dvd_left _ _
          · omega
        have g7p := q57.1
        intro W58
        intro M59
        refine ⟨fun c60 => ?_, fun c60 => ?_⟩
        · skip
          refine hj84 _ _ _ _ _ _ W58 ?_ ?_
          · exact Ta0  -- t22
          · exact ⟨rfl, ⟨⟨zF.rf, rfl⟩, ⟨It, Nat.le_refl _⟩, ⟨Ib, rfl⟩, ⟨by omega, by omega⟩, ⟨by omega, f5d⟩, ⟨by omega, g6⟩, by omega, g7⟩, ps⟩  -- k23
        · skip
          intro T61
          refine Nu_over_c W58 T61 c9 ?_ (fun r62 κ_63 q64 => ?_)
          · exact ⟨It, by omega⟩  -- p24
          obtain ⟨F63, I63, V63, r63⟩ := q64
          have bb := nuB_z (c := c9) W Tb F63 (fun z => ne z.1.symm) (fun z => ne z.1.symm)
          intro W65
          intro M66
          refine hj84 _ _ _ _ _ _ W65 ?_ ?_
          · exact F63.t Ta0 (by decide)  -- t25
          · exact ⟨rfl, ⟨⟨raF_1 F63, nuF_i F63⟩, ⟨I63, by rw [V63]; exact Nat.div_le_self _ _⟩, ⟨bb.2.1 Ib, bb.2.2.1⟩, ⟨by omega, by omega⟩, ⟨by omega, f5d⟩, ⟨by omega, g6⟩, by omega, g7⟩, ps⟩  -- k26
      · skip
        intro T67
        refine Ra_putZero_c W T67 c9 ?_ (fun κ_68 q69 => ?_)
        · exact rC  -- p27
        intro W70
        intro M71
        refine h _ ?_
        · exact zro _ q69  -- q28


theorem So_addTerm_c2 {C : zC} {n0 : Nat} {a0 : Nat} {a1 : Int64} {κ : zS} {Q : zS → Prop} (W : zW C n0 κ) (Ta0 : zT κ a0 = 12) (ρ : Nat → Nat) (hp : (nmI ρ κ ∧ soI ρ κ a0) ∧ (-4611686018427387904 < a1.toInt ∧ a1.toInt < 4611686018427387904) ∧ (nuN κ (zR κ soWhole a0) < pB9 2000 ∧ nuN κ (zR κ raTop (zR κ soPart a0)) < pB9 100) ∧ nuN κ (zR κ soSum a0) < pB9 4000 ∧ nuN κ (zR κ soLess a0) < pB9 4000) (h : ∀ (κ' : zS), (zF (soF ρ adR9 (zR κ soCalc a0)) κ κ' ∧ (nmI ρ κ' ∧ soI ρ κ' a0) ∧ (0 < a1.toInt → nuN κ' (zR κ soSum a0) ≤ nuN κ (zR κ soSum a0) + nuN κ (zR κ raTop (zR κ soPart a0)) * a1.toInt.natAbs * (nuN κ (zR κ soWhole a0) + 1) ∧ nuN κ' (zR κ soLess a0) = nuN κ (zR κ soLess a0)) ∧ (¬ 0 < a1.toInt → nuN κ' (zR κ soLess a0) ≤ nuN κ (zR κ soLess a0) + nuN κ (zR κ raTop (zR κ soPart a0)) * a1.toInt.natAbs * (nuN κ (zR κ soWhole a0) + 1) ∧ nuN κ' (zR κ soSum a0) = nuN κ (zR κ soSum a0))) → Q κ') : zRun C 4 mSo_addTerm [.ref a0, .long a1] κ (oV Q noX) := by
  refine So_addTerm_run W Ta0 ?_
  replace W := W.lo (Nat.le_trans W.1.2.1 W.1.2.2) (Nat.le_refl (zn κ))
  unfold w_So_addTerm_0
  obtain ⟨⟨N0, S0⟩, p1, ⟨p2, p3⟩, p5, p6⟩ := hp
  obtain ⟨⟨r1, r4, r5, r6, r7, r8, r20⟩, _, rS, r9⟩ := id S0
  have P20 := N0.2 (zR κ soPart a0) (by rw [r20]; exact Or.inl rfl)
  have h21 : ρ (zR κ raTop (zR κ soPart a0)) = 21 := by rw [P20.2.1, r20]
  have h22 : ρ (zR κ raBottom (zR κ soPart a0)) = 22 := by rw [P20.2.2, r20]
  have z64 : (0 : Int64).toInt = 0 := rfl
  have s20 : ∀ r, 1 ≤ r → r < 20 → nmR r := fun r x y => Or.inl ⟨x, y⟩
  have g1 := nm_g N0 r1 (s20 _ (by decide) (by decide)) (by decide)
  have g4 := nm_g N0 r4 (s20 _ (by decide) (by decide)) (by decide)
  have g5 := nm_g N0 r5 (s20 _ (by decide) (by decide)) (by decide)
  have g6 := nm_g N0 r6 (s20 _ (by decide) (by decide)) (by decide)
  have g7 := nm_g N0 r7 (s20 _ (by decide) (by decide)) (by decide)
  have g8 := nm_g N0 r8 (s20 _ (by decide) (by decide)) (by decide)
  have g21 := nm_g N0 h21 (Or.inr (Or.inl rfl)) (by decide)
  have g22 := nm_g N0 h22 (Or.inr (Or.inr (Or.inl rfl))) (by decide)
  have c1 : capR 1 = 6500 := rfl
  have tt1 := ty_soWhole W Ta0
  have tt4 := ty_soFactor W Ta0
  have tt5 := ty_soScaled W Ta0
  have tt6 := ty_soTerm W Ta0
  have tt7 := ty_soSum W Ta0
  have tt8 := ty_soLess W Ta0
  have tt21 : zT κ (zR κ raTop (zR κ soPart a0)) = 8 := ty_raTop W P20.1
  have tt22 : zT κ (zR κ raBottom (zR κ soPart a0)) = 8 := ty_raBottom W P20.1
  have k1 := nuK_lt g1.1 p2
  have k21 := nuK_lt g21.1 p3
  have hj103 : ∀ (l0 : Nat) (l1 : Int64) (τ : zS), zW C (zn κ) τ → zT τ l0 = 12 → (a0 = l0 ∧ a1 = l1 ∧ zF (soF ρ adR9 (zR κ soCalc a0)) κ τ ∧ (nmI ρ τ ∧ soI ρ τ a0) ∧ (∀ f b, f ≠ nuLimbs → f ≠ nuLength → zR τ f b = zR κ f b) ∧ (nuN τ (zR κ soTerm a0) ≤ nuN κ (zR κ raTop (zR κ soPart a0)) * a1.toInt.natAbs * (nuN κ (zR κ soWhole a0) + 1) ∧ nuK τ (zR κ soTerm a0) ≤ 2102) ∧ nuN τ (zR κ soSum a0) = nuN κ (zR κ soSum a0) ∧ nuN τ (zR κ soLess a0) = nuN κ (zR κ soLess a0)) → w_So_addTerm_103 C (zn κ) Q  l0 l1 τ := by
    rintro _ _ τ103 W103 T103_0 ⟨rfl, rfl, j103⟩
    unfold w_So_addTerm_103
    obtain ⟨Z1, ⟨N1, S1⟩, hr1, ⟨V1, K1⟩, u1, v1⟩ := j103
    have e6 : zR τ103 soTerm a0 = (zR κ soTerm a0) := hr1 _ _ (by decide) (by decide)
    have e7 : zR τ103 soSum a0 = (zR κ soSum a0) := hr1 _ _ (by decide) (by decide)
    have e8 : zR τ103 soLess a0 = (zR κ soLess a0) := hr1 _ _ (by decide) (by decide)
    have f6 := nm_g N1 r6 (s20 _ (by decide) (by decide)) (by decide)
    have f7 := nm_g N1 r7 (s20 _ (by decide) (by decide)) (by decide)
    have f8 := nm_g N1 r8 (s20 _ (by decide) (by decide)) (by decide)
    have k7 := nuK_lt f7.1 (by rw [u1]; exact p5)
    have k8 := nuK_lt f8.1 (by rw [v1]; exact p6)
    refine ⟨fun c1 => ?_, fun c1 => ?_⟩
    · skip
      intro T2
      intro T3
      refine Nu_plus_c W103 T2 T3 6500 30000000 ?_ (fun κ_4 q5 => ?_)
      · rw [e6, e8]
        exact ⟨f8.1, f6.2.1, ro_n r8 r6 (by decide), ⟨by omega, by omega⟩, by decide⟩
      intro W6
      intro M7
      refine h _ ?_
      · rw [lg_cmp_le, jlei, z64] at c1
        rw [e6, e8] at q5
        obtain ⟨F, I, V⟩ := q5
        have b7 := nuB_z (c := 6500) W103 (Z1.t tt7 (by decide)) F (fun z => ro_n r7 r8 (by decide) z.1) (fun z => ro_n r7 r8 (by decide) z.1)
        refine ⟨Z1.tr (soF_1 (by rw [r8]; exact Or.inr (Or.inr (Or.inr (Or.inr (Or.inl rfl))))) F), ⟨nm_1 W103 N1 F (by rw [r8]; exact I), so_1 W103 T103_0 S1 F⟩, fun z => absurd z (by omega), fun _ => ⟨by rw [V, v1]; exact Nat.add_le_add_left V1 _, by rw [b7.2.2.1, u1]⟩⟩
    · skip
      intro T8
      intro T9
      refine Nu_plus_c W103 T8 T9 6500 30000000 ?_ (fun κ_10 q11 => ?_)
      · rw [e6, e7]
        exact ⟨f7.1, f6.2.1, ro_n r7 r6 (by decide), ⟨by omega, by omega⟩, by decide⟩
      intro W12
      intro M13
      refine h _ ?_
      · rw [lg_cmp_le, jlei, z64] at c1
        rw [e6, e7] at q11
        obtain ⟨F, I, V⟩ := q11
        have b8 := nuB_z (c := 6500) W103 (Z1.t tt8 (by decide)) F (fun z => ro_n r8 r7 (by decide) z.1) (fun z => ro_n r8 r7 (by decide) z.1)
        refine ⟨Z1.tr (soF_1 (by rw [r7]; exact Or.inr (Or.inr (Or.inr (Or.inl rfl)))) F), ⟨nm_1 W103 N1 F (by rw [r7]; exact I), so_1 W103 T103_0 S1 F⟩, fun _ => ⟨by rw [V, u1]; exact Nat.add_le_add_left V1 _, by rw [b8.2.2.1, v1]⟩, fun z => absurd z (by omega)⟩
  intro T14
  have ab := j_ab p1.1 p1.2
  refine Nu_put_c W T14 6500 ?_ (fun κ_15 q16 => ?_)
  · rw [ab]
    exact ⟨⟨by omega, by omega⟩, g4.2.2⟩
  rw [ab, Int.toNat_natCast] at q16
  obtain ⟨F15, ⟨R15, M15⟩, I15, V15⟩ := q16
  have N15 : nmI ρ κ_15 := nm_1 W N0 F15 (by rw [r4]; exact I15)
  have S15 : soI ρ κ_15 a0 := so_1 W Ta0 S0 F15
  have Z15 : zF (soF ρ (fun r => r = 4) (zR κ soCalc a0)) κ κ_15 := soF_1 r4 F15
  have w1 := soF_B (c := 30000000) W tt1 Z15 (by rw [r1]; decide)
  have w21 := soF_B (c := 30000000) W tt21 Z15 (by rw [h21]; decide)
  have w22 := soF_B (c := 30000000) W tt22 Z15 (by rw [h22]; decide)
  have T0_15 : zT κ_15 a0 = 12 := F15.t Ta0 (by decide)
  have k4 : nuK κ_15 (zR κ soFactor a0) ≤ 2 := nuK_2 I15 (by rw [V15]; omega)
  intro W17
  intro M18
  intro T19
  intro T20
  refine Nu_compare_c W17 T19 T20 30000000 30000000 ?_ (fun r21 q23 => ?_)
  · rw [R15]
    exact ⟨w1.1 g1.2.1, w22.1 g22.2.1⟩
  intro W24
  intro M25
  have dp : (nuC κ_15 (zR κ caQuotient (zR κ soCalc a0)) 6500 ∧ nuC κ_15 (zR κ caRest (zR κ soCalc a0)) 6500 ∧ nuC κ_15 (zR κ caDivisor (zR κ soCalc a0)) 6500) ∧ (nuI κ_15 (zR κ soWhole a0) 30000000 ∧ nuI κ_15 (zR κ raBottom (zR κ soPart a0)) 30000000) ∧ (zR κ caQuotient (zR κ soCalc a0) ≠ zR κ caRest (zR κ soCalc a0) ∧ zR κ caQuotient (zR κ soCalc a0) ≠ zR κ caDivisor (zR κ soCalc a0) ∧ zR κ caRest (zR κ soCalc a0) ≠ zR κ caDivisor (zR κ soCalc a0)) ∧ ((zR κ soWhole a0) ≠ zR κ caQuotient (zR κ soCalc a0) ∧ (zR κ soWhole a0) ≠ zR κ caRest (zR κ soCalc a0) ∧ (zR κ soWhole a0) ≠ zR κ caDivisor (zR κ soCalc a0)) ∧ ((zR κ raBottom (zR κ soPart a0)) ≠ zR κ caQuotient (zR κ soCalc a0) ∧ (zR κ raBottom (zR κ soPart a0)) ≠ zR κ caRest (zR κ soCalc a0) ∧ (zR κ raBottom (zR κ soPart a0)) ≠ zR κ caDivisor (zR κ soCalc a0)) ∧ nuK κ_15 (zR κ soWhole a0) + 1 + (nuK κ_15 (zR κ soWhole a0) + 1) / 2 + 2 ≤ 6500 ∧ 6500 ≤ 30000000 := by
    have ci := so_ca N15 S15
    unfold caI caN caK at ci
    rw [R15] at ci
    have o1 := (caS_n (so_o S0 r1 (by decide))).1
    have o22 := (caS_n (so_o S0 h22 (by decide))).1
    exact ⟨⟨ci.2.1.1, ci.2.1.2.1, ci.2.1.2.2.1⟩, ⟨w1.1 g1.2.1, w22.1 g22.2.1⟩, ci.1.1, o1, o22, by rw [w1.2.2]; omega, by decide⟩
  refine ⟨fun c26 => ?_, fun c26 => ?_⟩
  · skip
    intro T27
    intro T28
    intro T29
    refine Ca_divide_c W24 T27 T28 T29 6500 ?_ (fun κ_30 q31 => ?_)
    · rw [R15]
      exact dp
    have D := nm_d (a := a0) W17 T0_15 N15 S15 q31
    have Z30' : zF (soF ρ adR9 (zR κ soCalc a0)) κ_15 κ_30 := soF_p (fun b z => by
      have q : ρ b = 10 := by
        rw [R15] at z
        exact rS b ((show b = _ ∨ b = _ ∨ b = _ from z).elim Or.inl (fun z => z.elim (fun y => Or.inr (Or.inl y)) (fun y => Or.inr (Or.inr (Or.inl y)))))
      rw [q]
      exact Or.inr (Or.inr (Or.inr (Or.inr (Or.inr rfl))))) q31.1
    have hr30 : ∀ f b, f ≠ nuLimbs → f ≠ nuLength → zR κ_30 f b = zR κ f b := fun f b x y => (nuFp_r q31.1 x y).trans (nuF_r F15 x y)
    rw [R15, w1.2.1, w22.2.1] at q31
    obtain ⟨DZ, ⟨DQ, DV⟩, _, _⟩ := q31
    have n3 : ∀ w r, ρ w = r → r ≠ 10 → ¬ oo3 (zR κ caQuotient (zR κ soCalc a0)) (zR κ caRest (zR κ soCalc a0)) (zR κ caDivisor (zR κ soCalc a0)) w := fun w r x y => by
      have o := (caS_n (so_o S0 x y)).1
      exact oo3_n o.1 o.2.1 o.2.2
    have x21 := nuFp_B (c := 30000000) W17 (F15.t tt21 (by decide)) DZ (n3 _ _ h21 (by decide))
    have x4 := nuFp_B (c := 30000000) W17 (F15.t tt4 (by decide)) DZ (n3 _ _ r4 (by decide))
    have x7 := nuFp_B (c := 30000000) W17 (F15.t tt7 (by decide)) DZ (n3 _ _ r7 (by decide))
    have x8 := nuFp_B (c := 30000000) W17 (F15.t tt8 (by decide)) DZ (n3 _ _ r8 (by decide))
    have T0_30 : zT κ_30 a0 = 12 := DZ.t T0_15 (by decide)
    have I21 : nuI κ_30 (zR κ raTop (zR κ soPart a0)) 30000000 := x21.2.1 (w21.1 g21.2.1)
    have I4 : nuI κ_30 (zR κ soFactor a0) 30000000 := x4.2.1 (nuI_mono (by decide) I15)
    have f5 := nm_g D.1 r5 (s20 _ (by decide) (by decide)) (by decide)
    have e21 : zR κ_30 raTop (zR κ_30 soPart a0) = (zR κ raTop (zR κ soPart a0)) := by rw [hr30 soPart _ (by decide) (by decide), hr30 raTop _ (by decide) (by decide)]
    have kq : nuK κ_30 (zR κ caQuotient (zR κ soCalc a0)) ≤ 2000 := nuK_lt DQ (by rw [DV]; exact Nat.lt_of_le_of_lt (Nat.div_le_self _ _) p2)
    have k21' : nuK κ_30 (zR κ raTop (zR κ soPart a0)) ≤ 100 := by rw [x21.2.2.2, w21.2.2]; exact k21
    have k4' : nuK κ_30 (zR κ soFactor a0) ≤ 2 := by rw [x4.2.2.2]; exact k4
    intro W32
    intro M33
    intro T34
    intro T35
    intro T36
    refine Nu_product_c W32 T34 T35 T36 6500 30000000 30000000 ?_ (fun κ_37 q38 => ?_)
    · rw [e21, hr30 soScaled _ (by decide) (by decide), hr30 soFactor _ (by decide) (by decide)]
      exact ⟨f5.2.2, ⟨I21, I4⟩, ⟨ro_n r5 h21 (by decide), ro_n r5 r4 (by decide)⟩, by omega, by decide⟩
    rw [e21, hr30 soScaled _ (by decide) (by decide), hr30 soFactor _ (by decide) (by decide), x21.2.2.1, x4.2.2.1, w21.2.1, V15] at q38
    obtain ⟨F37, I37, V37⟩ := q38
    have N37 : nmI ρ κ_37 := nm_1 W32 D.1 F37 (by rw [r5]; exact I37)
    have S37 : soI ρ κ_37 a0 := so_1 W32 T0_30 D.2 F37
    have hr37 : ∀ f b, f ≠ nuLimbs → f ≠ nuLength → zR κ_37 f b = zR κ f b := fun f b x y => (nuF_r F37 x y).trans (hr30 f b x y)
    have T0_37 : zT κ_37 a0 = 12 := F37.t T0_30 (by decide)
    have eq37 : zR κ_37 caQuotient (zR κ_37 soCalc a0) = zR κ caQuotient (zR κ soCalc a0) := by rw [hr37 soCalc _ (by decide) (by decide), hr37 caQuotient _ (by decide) (by decide)]
    have rq := rS (zR κ caQuotient (zR κ soCalc a0)) (Or.inl rfl)
    have Tq := ty_caQuotient W (ty_soCalc W Ta0)
    have yq := nuB_z (c := 30000000) W32 (DZ.t (F15.t Tq (by decide)) (by decide)) F37 (fun z => ro_n rq r5 (by decide) z.1) (fun z => ro_n rq r5 (by decide) z.1)
    have y7 := nuB_z (c := 30000000) W32 (DZ.t (F15.t tt7 (by decide)) (by decide)) F37 (fun z => ro_n r7 r5 (by decide) z.1) (fun z => ro_n r7 r5 (by decide) z.1)
    have y8 := nuB_z (c := 30000000) W32 (DZ.t (F15.t tt8 (by decide)) (by decide)) F37 (fun z => ro_n r8 r5 (by decide) z.1) (fun z => ro_n r8 r5 (by decide) z.1)
    have f6 := nm_g N37 r6 (s20 _ (by decide) (by decide)) (by decide)
    have lT : nuN κ (zR κ raTop (zR κ soPart a0)) * a1.toInt.natAbs < pB9 102 := by
      rw [show (102 : Nat) = 100 + 2 from rfl, pB9_2]
      exact Nat.mul_lt_mul'' p3 (by omega)
    have k5 : nuK κ_37 (zR κ soScaled a0) ≤ 102 := nuK_lt I37 (by rw [V37]; exact lT)
    intro W39
    intro M40
    intro T41
    intro T42
    intro T43
    refine Nu_product_c W39 T41 T42 T43 6500 30000000 30000000 ?_ (fun κ_44 q45 => ?_)
    · rw [eq37, hr37 soTerm _ (by decide) (by decide), hr37 soScaled _ (by decide) (by decide), yq.2.2.2]
      exact ⟨f6.2.2, ⟨nuI_mono (by decide) I37, yq.2.1 (nuI_mono (by decide) DQ)⟩, ⟨ro_n r6 r5 (by decide), ro_n r6 rq (by decide)⟩, by omega, by decide⟩
    intro W46
    intro M47
    rw [eq37, hr37 soTerm _ (by decide) (by decide), hr37 soScaled _ (by decide) (by decide), yq.2.2.1, V37, DV] at q45
    obtain ⟨F44, I44, V44⟩ := q45
    refine hj103 _ _ _ W46 ?_ ?_
    · exact F44.t T0_37 (by decide)  -- t10
    · have z7 := nuB_z (c := 30000000) W39 (F37.t (DZ.t (F15.t tt7 (by decide)) (by decide)) (by decide)) F44 (fun z => ro_n r7 r6 (by decide) z.1) (fun z => ro_n r7 r6 (by decide) z.1)
      have z8 := nuB_z (c := 30000000) W39 (F37.t (DZ.t (F15.t tt8 (by decide)) (by decide)) (by decide)) F44 (fun z => ro_n r8 r6 (by decide) z.1) (fun z => ro_n r8 r6 (by decide) z.1)
      have v7 := nuB_z (c := 30000000) W tt7 F15 (fun z => ro_n r7 r4 (by decide) z.1) (fun z => ro_n r7 r4 (by decide) z.1)
      have v8 := nuB_z (c := 30000000) W tt8 F15 (fun z => ro_n r8 r4 (by decide) z.1) (fun z => ro_n r8 r4 (by decide) z.1)
      have Zf : zF (soF ρ adR9 (zR κ soCalc a0)) κ κ_44 := (((soF_m (fun r z => Or.inl z) Z15).tr Z30').tr (soF_1 (by rw [r5]; exact Or.inr (Or.inl rfl)) F37)).tr (soF_1 (by rw [r6]; exact Or.inr (Or.inr (Or.inl rfl))) F44)
      refine ⟨rfl, rfl, Zf, ⟨nm_1 W39 N37 F44 (by rw [r6]; exact I44), so_1 W39 T0_37 S37 F44⟩, fun f b x y => (nuF_r F44 x y).trans (hr37 f b x y), ⟨by rw [V44]; exact Nat.mul_le_mul_left _ (Nat.le_trans (Nat.div_le_self _ _) (Nat.le_succ _)), nuK_lt I44 ?_⟩, by rw [z7.2.2.1, y7.2.2.1, x7.2.2.1, v7.2.2.1], by rw [z8.2.2.1, y8.2.2.1, x8.2.2.1, v8.2.2.1]⟩
      show _ < pB9 2102
      rw [V44, show (2102 : Nat) = 102 + 2000 from rfl, pB9_a]
      exact Nat.mul_lt_mul'' lT (Nat.lt_of_le_of_lt (Nat.div_le_self _ _) p2)
  · skip
    intro T48
    intro T49
    intro T50
    have f6 := nm_g N15 r6 (s20 _ (by decide) (by decide)) (by decide)
    have k21' : nuK κ_15 (zR κ raTop (zR κ soPart a0)) ≤ 100 := by rw [w21.2.2]; exact k21
    refine Nu_product_c W24 T48 T49 T50 6500 30000000 30000000 ?_ (fun κ_51 q52 => ?_)
    · have f62 := f6.2.2
      unfold nuC at f62
      rw [R15] at f62 ⊢
      exact ⟨f62, ⟨w21.1 g21.2.1, nuI_mono (by decide) I15⟩, ⟨ro_n r6 h21 (by decide), ro_n r6 r4 (by decide)⟩, by omega, by decide⟩
    intro W53
    intro M54
    rw [R15, w21.2.1, V15] at q52
    obtain ⟨F51, I51, V51⟩ := q52
    refine hj103 _ _ _ W53 ?_ ?_
    · exact F51.t T0_15 (by decide)  -- t13
    · have z7 := nuB_z (c := 30000000) W17 (F15.t tt7 (by decide)) F51 (fun z => ro_n r7 r6 (by decide) z.1) (fun z => ro_n r7 r6 (by decide) z.1)
      have z8 := nuB_z (c := 30000000) W17 (F15.t tt8 (by decide)) F51 (fun z => ro_n r8 r6 (by decide) z.1) (fun z => ro_n r8 r6 (by decide) z.1)
      have v7 := nuB_z (c := 30000000) W tt7 F15 (fun z => ro_n r7 r4 (by decide) z.1) (fun z => ro_n r7 r4 (by decide) z.1)
      have v8 := nuB_z (c := 30000000) W tt8 F15 (fun z => ro_n r8 r4 (by decide) z.1) (fun z => ro_n r8 r4 (by decide) z.1)
      have Zf : zF (soF ρ adR9 (zR κ soCalc a0)) κ κ_51 := (soF_m (fun r z => Or.inl z) Z15).tr (soF_1 (by rw [r6]; exact Or.inr (Or.inr (Or.inl rfl))) F51)
      have lT : nuN κ (zR κ raTop (zR κ soPart a0)) * a1.toInt.natAbs < pB9 102 := by
        rw [show (102 : Nat) = 100 + 2 from rfl, pB9_2]
        exact Nat.mul_lt_mul'' p3 (by omega)
      have kf := nuK_lt I51 (by rw [V51]; exact lT)
      exact ⟨rfl, rfl, Zf, ⟨nm_1 W17 N15 F51 (by rw [r6]; exact I51), so_1 W17 T0_15 S15 F51⟩, fun f b x y => (nuF_r F51 x y).trans (nuF_r F15 x y), ⟨by rw [V51]; exact Nat.le_mul_of_pos_right _ (Nat.succ_pos _), by omega⟩, by rw [z7.2.2.1, v7.2.2.1], by rw [z8.2.2.1, v8.2.2.1]⟩


theorem So_unit_c2 {C : zC} {n0 : Nat} {a0 : Nat} {a1 : Int32} {κ : zS} {Q : zS → Prop} (W : zW C n0 κ) (Ta0 : zT κ a0 = 12) (ρ : Nat → Nat) (u9 : Nat) (hp : (nmI ρ κ ∧ soI ρ κ a0) ∧ atM κ (zR κ soAtlas a0) ∧ (0 ≤ a1.toInt ∧ a1.toInt < 1000 ∧ a1.toInt < (zN κ (zR κ soVisits a0))) ∧ (zQ κ (zR κ soVisits a0) a1.toNatClampNeg = some u9 ∧ ρ u9 = 100 + 8 * a1.toNatClampNeg) ∧ (nuN κ (zR κ raTop u9) < 2 ^ 256 ∧ nuN κ (zR κ raBottom u9) < 2 ^ 256)) (h : ∀ (κ' : zS), ((zF (soF ρ unR9 (zR κ soCalc a0)) κ κ' ∧ nmI ρ κ' ∧ soI ρ κ' a0) ∧ (zI κ' raSign (zR κ soPart a0)).toInt = (zI κ raSign u9).toInt ∧ nuN κ' (zR κ raTop (zR κ soPart a0)) ≤ nuN κ (zR κ raTop u9) ∧ nuN κ' (zR κ raBottom (zR κ soPart a0)) ∣ nuN κ (zR κ raBottom u9) * (if (dvA κ (zR κ soAtlas a0) a1.toNatClampNeg).toInt ≤ 1 then 1 else (dvA κ (zR κ soAtlas a0) a1.toNatClampNeg).toInt.toNat) ∧ nuN κ' (zR κ raBottom (zR κ soPart a0)) ≤ nuN κ (zR κ raBottom u9) * (if (dvA κ (zR κ soAtlas a0) a1.toNatClampNeg).toInt ≤ 1 then 1 else (dvA κ (zR κ soAtlas a0) a1.toNatClampNeg).toInt.toNat)) → Q κ') : zRun C 4 mSo_unit [.ref a0, .int a1] κ (oV Q noX) := by
  refine So_unit_run W Ta0 ?_
  replace W := W.lo (Nat.le_trans W.1.2.1 W.1.2.2) (Nat.le_refl (zn κ))
  unfold w_So_unit_0
  obtain ⟨⟨N0, S0⟩, M0, p1, ⟨hq, hu⟩, q1, q2⟩ := hp
  have h20 := S0.1.2.2.2.2.2.2
  have P20 := N0.2 (zR κ soPart a0) (by rw [h20]; exact Or.inl rfl)
  have h21 : ρ (zR κ raTop (zR κ soPart a0)) = 21 := by rw [P20.2.1, h20]
  have h22 : ρ (zR κ raBottom (zR κ soPart a0)) = 22 := by rw [P20.2.2, h20]
  have m21 : nmR 21 := Or.inr (Or.inl rfl)
  have m22 : nmR 22 := Or.inr (Or.inr (Or.inl rfl))
  have kn := cnk p1.1
  have ru : raR (ρ u9) := by rw [hu]; exact Or.inr (Or.inr ⟨by omega, by omega, by omega⟩)
  have PU := N0.2 u9 ru
  have hu1 : ρ (zR κ raTop u9) = 101 + 8 * a1.toNatClampNeg := by rw [PU.2.1, hu]; omega
  have hu2 : ρ (zR κ raBottom u9) = 102 + 8 * a1.toNatClampNeg := by rw [PU.2.2, hu]; omega
  have g21 := nm_g N0 h21 m21 (by decide)
  have g22 := nm_g N0 h22 m22 (by decide)
  have gu1 := nm_g N0 PU.2.1 (raR_n ru).1 (by omega)
  have gu2 := nm_g N0 PU.2.2 (raR_n ru).2 (by omega)
  have k1 := k256 gu1.1 q1
  have k2 := k256 gu2.1 q2
  have tp21 : zT κ (zR κ raTop (zR κ soPart a0)) = 8 := ty_raTop W P20.1
  have tp22 : zT κ (zR κ raBottom (zR κ soPart a0)) = 8 := ty_raBottom W P20.1
  have hj60 : ∀ (l0 : Nat) (l2 : Int32) (l3 : Int32) (τ : zS), zW C (zn κ) τ → zT τ l0 = 12 → (a0 = l0 ∧ ((zF (soF ρ unR9 (zR κ soCalc a0)) κ τ ∧ nmI ρ τ ∧ soI ρ τ a0) ∧ zR τ raBottom (zR τ soPart a0) = (zR κ raBottom (zR κ soPart a0))) ∧ ((zI τ raSign (zR κ soPart a0)).toInt = (zI κ raSign u9).toInt ∧ nuN τ (zR κ raTop (zR κ soPart a0)) ≤ nuN κ (zR κ raTop u9) ∧ nuN τ (zR κ raBottom (zR κ soPart a0)) = nuN κ (zR κ raBottom u9)) ∧ (1 < l2.toInt ∧ l2 = dvA κ (zR κ soAtlas a0) a1.toNatClampNeg) ∧ 0 < l3.toInt ∧ l3.toInt.toNat ∣ l2.toInt.toNat) → w_So_unit_60 C (zn κ) Q  l0 l2 l3 τ := by
    rintro _ y60_2 y60_3 τ60 W60 T60_0 ⟨rfl, j60⟩
    unfold w_So_unit_60
    obtain ⟨⟨⟨Z1, N1, S1⟩, eb1⟩, ⟨sg, t1, b1⟩, ⟨l2, rfl⟩, l3, ld⟩ := j60
    have f22 := nm_g N1 h22 m22 (by decide)
    have d5 := i_divn (x := dvA κ (zR κ soAtlas a0) a1.toNatClampNeg) (y := y60_3) (by omega) l3
    have e5 : (dvA κ (zR κ soAtlas a0) a1.toNatClampNeg / y60_3).toInt64.toInt = (dvA κ (zR κ soAtlas a0) a1.toNatClampNeg / y60_3).toInt := Int32.toInt_toInt64 _
    have i5 := ihi (dvA κ (zR κ soAtlas a0) a1.toNatClampNeg / y60_3)
    have kb := k256 f22.1 (by rw [b1]; exact q2)
    refine ⟨?_, ?_⟩
    · exact i_n0 l3  -- b1
    intro T1
    refine Nu_times_c W60 T1 6500 ?_ (fun κ_2 q3 => ?_)
    · rw [eb1]
      exact ⟨f22.1, ⟨by rw [e5]; exact d5.2.2, by rw [e5]; omega⟩, by omega, by decide⟩
    intro W4
    intro M5
    refine h _ ?_
    · rw [eb1, e5, d5.2.1, b1] at q3
      obtain ⟨F, I, V⟩ := q3
      have bt := nuB_z (c := 6500) W60 (Z1.t tp21 (by decide)) F (fun z => ro_n h21 h22 (by decide) z.1) (fun z => ro_n h21 h22 (by decide) z.1)
      refine ⟨⟨Z1.tr (soF_1 (by rw [h22]; exact Or.inr (Or.inr rfl)) F), nm_1 W60 N1 F (by rw [h22]; exact I), so_1 W60 T60_0 S1 F⟩, by rw [nuF_i F]; exact sg, by rw [bt.2.2.1]; exact t1, ?_⟩
      rw [V, if_neg (by omega)]
      exact ⟨Nat.mul_dvd_mul (Nat.dvd_refl _) (Nat.div_dvd_of_dvd ld), Nat.mul_le_mul_left _ (Nat.div_le_self _ _)⟩
  refine ⟨?_, ?_⟩
  · rw [inb_iff]; omega  -- b4
  refine ex_some ?_ (fun u6 hu6 => ?_)
  · exact ⟨u9, hq⟩  -- e5
  intro T7
  intro T8
  have eu : u6 = u9 := Option.some.inj (hu6.symm.trans hq)
  subst eu
  refine Ra_copy_c W T7 T8 6500 ?_ (fun κ_9 q10 => ?_)
  · exact ⟨⟨g21.2.2, g22.2.2, ro_n h21 h22 (by decide)⟩, ⟨gu1.2.1, gu2.2.1, ro_n hu1 hu2 (by omega)⟩, ⟨ro_n h21 hu1 (by omega), ro_n h21 hu2 (by omega), ro_n h22 hu1 (by omega), ro_n h22 hu2 (by omega)⟩, ⟨by omega, by omega⟩, by decide⟩  -- p6
  obtain ⟨Z9, J9, V9⟩ := q10
  have e1 : zR κ_9 raTop (zR κ soPart a0) = (zR κ raTop (zR κ soPart a0)) := raF_r Z9 (by decide) (by decide) (by decide)
  have e2 : zR κ_9 raBottom (zR κ soPart a0) = (zR κ raBottom (zR κ soPart a0)) := raF_r Z9 (by decide) (by decide) (by decide)
  have e3 : zR κ_9 soPart a0 = (zR κ soPart a0) := raF_r Z9 (by decide) (by decide) (by decide)
  have e4 : zR κ_9 soAtlas a0 = zR κ soAtlas a0 := raF_r Z9 (by decide) (by decide) (by decide)
  unfold raJ at J9
  unfold raV at V9
  rw [e1, e2] at J9 V9
  have R9 := nm_ra W Ta0 N0 S0 h20 (Or.inl rfl) Z9 J9.1 J9.2.1
  have A9 := at_ra W (ty_soAtlas W Ta0) Z9 M0
  have T9 : zT κ_9 a0 = 12 := Z9.t Ta0 (by decide)
  have Zs : zF (soF ρ unR9 (zR κ soCalc a0)) κ κ_9 := R9.2 _
  have et9 : zR κ_9 raTop (zR κ_9 soPart a0) = (zR κ raTop (zR κ soPart a0)) := by rw [e3, e1]
  have eb9 : zR κ_9 raBottom (zR κ_9 soPart a0) = (zR κ raBottom (zR κ soPart a0)) := by rw [e3, e2]
  intro W11
  intro M12
  intro T13
  refine At_divisorOf_c W11 T13  ?_ (fun r14 q16 => ?_)
  · rw [e4]
    exact ⟨A9.1, p1.1, p1.2.1⟩
  intro W17
  intro M18
  have q16' : r14 = dvA κ (zR κ soAtlas a0) a1.toNatClampNeg := by
    rw [e4] at q16
    exact q16.trans (A9.2 _)
  refine ⟨fun c19 => ?_, fun c19 => ?_⟩
  · skip
    refine h _ ?_
    · rw [lei, t1i] at c19
      rw [q16'] at c19
      refine ⟨⟨Zs, R9.1⟩, V9.1, Nat.le_of_eq V9.2.1, ?_⟩
      rw [V9.2.2, if_pos c19, Nat.mul_one]
      exact ⟨Nat.dvd_refl _, Nat.le_refl _⟩
  · skip
    intro T20
    rw [lei, t1i] at c19
    refine Nu_rest_c W17 T20 30000000 ?_ (fun r21 q23 => ?_)
    · rw [et9]
      exact ⟨nuI_mono (by decide) J9.1, by omega⟩
    intro W24
    intro M25
    have r0 : 0 ≤ r21.toInt := by rw [q23]; exact Int.natCast_nonneg _
    refine Ch_commonInt_c W24   ?_ (fun r26 q28 => ?_)
    · exact ⟨by omega, r0⟩  -- p10
    have gd : r26.toInt.toNat ∣ r14.toInt.toNat := by
      rcases q28.2 with z | z
      · rw [z]; exact Nat.gcd_dvd_left _ _
      · omega
    have g0 := q28.1
    intro W29
    intro M30
    refine ⟨fun c31 => ?_, fun c31 => ?_⟩
    · skip
      refine hj60 _ _ _ _ W29 ?_ ?_
      · exact T9  -- t11
      · exact ⟨rfl, ⟨⟨Zs, R9.1⟩, eb9⟩, ⟨V9.1, Nat.le_of_eq V9.2.1, V9.2.2⟩, ⟨by omega, q16'⟩, by omega, gd⟩  -- k12
    · skip
      intro T32
      refine Nu_over_c W29 T32 6500 ?_ (fun r33 κ_34 q35 => ?_)
      · rw [et9]
        exact ⟨J9.1, by omega⟩
      rw [et9, V9.2.1] at q35
      obtain ⟨F, I, V, _⟩ := q35
      have bb := nuB_z (c := 6500) W11 (Z9.t tp22 (by decide)) F (fun z => ro_n h22 h21 (by decide) z.1) (fun z => ro_n h22 h21 (by decide) z.1)
      have ebF : zR κ_34 raBottom (zR κ_34 soPart a0) = (zR κ raBottom (zR κ soPart a0)) := by rw [nuF_r F (by decide) (by decide), nuF_r F (by decide) (by decide), eb9]
      intro W36
      intro M37
      refine hj60 _ _ _ _ W36 ?_ ?_
      · exact F.t T9 (by decide)  -- t14
      · exact ⟨rfl, ⟨⟨Zs.tr (soF_1 (by rw [h21]; exact Or.inr (Or.inl rfl)) F), nm_1 W11 R9.1.1 F (by rw [h21]; exact I), so_1 W11 T9 R9.1.2 F⟩, ebF⟩, ⟨by rw [nuF_i F]; exact V9.1, by rw [V]; exact Nat.div_le_self _ _, by rw [bb.2.2.1]; exact V9.2.2⟩, ⟨by omega, q16'⟩, by omega, gd⟩  -- k15
