section
set_option maxHeartbeats 1600000
/-! the class: scale, addTerm, unit once more, where what is below the line may be 0 -/
theorem Ra_scale_c2 {C : zC} {n0 : Nat} {a0 : Nat} {a1 : Int32} {a2 : Int32} {κ : zS} {Q : zS → Prop} (W : zW C n0 κ) (Ta0 : zT κ a0 = 11) (c9 : Nat) (hp : raJ κ a0 c9 ∧ (nuK κ (zR κ raTop a0) + 1 + (nuK κ (zR κ raTop a0) + 1) / 2 + 1 ≤ c9 ∧ nuK κ (zR κ raBottom a0) + 1 + (nuK κ (zR κ raBottom a0) + 1) / 2 + 1 ≤ c9) ∧ c9 ≤ 30000000) (h : ∀ (κ' : zS), (zF (raF (zR κ raTop a0) (zR κ raBottom a0) a0) κ κ' ∧ raJ κ' a0 c9 ∧ (raV κ' a0 0 0 1 ∨ ((0 < a1.toInt ∧ 0 < a2.toInt ∧ (zI κ raSign a0).toInt ≠ 0) ∧ zI κ' raSign a0 = zI κ raSign a0 ∧ nuN κ' (zR κ raTop a0) ≤ nuN κ (zR κ raTop a0) * a1.toInt.toNat ∧ nuN κ' (zR κ raBottom a0) ∣ nuN κ (zR κ raBottom a0) * a2.toInt.toNat ∧ nuN κ' (zR κ raBottom a0) ≤ nuN κ (zR κ raBottom a0) * a2.toInt.toNat))) → Q κ') : zRun C 4 mRa_scale [.ref a0, .int a1, .int a2] κ (oV Q noX) := by
  refine Ra_scale_run W Ta0 ?_
  replace W := W.lo (Nat.le_trans W.1.2.1 W.1.2.2) (Nat.le_refl (zn κ))
  unfold w_Ra_scale_0
  obtain ⟨⟨It, Ib, ne⟩, ⟨p1, p2⟩, p3⟩ := hp
  have Tt := ty_raTop W Ta0
  have Tb := ty_raBottom W Ta0
  have zro : ∀ κ' : zS, (zF (raF (zR κ raTop a0) (zR κ raBottom a0) a0) κ κ' ∧ raJ κ' a0 c9 ∧ raV κ' a0 0 0 1) → zF (raF (zR κ raTop a0) (zR κ raBottom a0) a0) κ κ' ∧ raJ κ' a0 c9 ∧ (raV κ' a0 0 0 1 ∨ ((0 < a1.toInt ∧ 0 < a2.toInt ∧ (zI κ raSign a0).toInt ≠ 0) ∧ zI κ' raSign a0 = zI κ raSign a0 ∧ nuN κ' (zR κ raTop a0) ≤ nuN κ (zR κ raTop a0) * a1.toInt.toNat ∧ nuN κ' (zR κ raBottom a0) ∣ nuN κ (zR κ raBottom a0) * a2.toInt.toNat ∧ nuN κ' (zR κ raBottom a0) ≤ nuN κ (zR κ raBottom a0) * a2.toInt.toNat)) := fun κ' z => by
    have e : zR κ' raBottom a0 = (zR κ raBottom a0) := raF_r z.1 (by decide) (by decide) (by decide)
    have v := z.2.2.2.2
    rw [e] at v
    exact ⟨z.1, z.2.1, Or.inl z.2.2⟩
  have rC : raC κ a0 c9 := ⟨It.1.2.1, Ib.1.2.1, ne⟩
  have hj100 : ∀ (l0 : Nat) (l4 : Int32) (l5 : Int32) (l6 : Int32) (l7 : Int32) (τ : zS), zW C (zn κ) τ → zT τ l0 = 11 → (a0 = l0 ∧ scI κ τ a0 c9 l4 l5 l6 l7 a1 a2 (nuN κ (zR κ raBottom a0) / l7.toInt.toNat) ∧ (0 < a1.toInt ∧ 0 < a2.toInt ∧ (zI κ raSign a0).toInt ≠ 0)) → w_Ra_scale_100 C (zn κ) Q  l0 l4 l5 l6 l7 τ := by
    rintro _ y100_4 y100_5 y100_6 y100_7 τ100 W100 T100_0 ⟨rfl, j100⟩
    unfold w_Ra_scale_100
    obtain ⟨⟨⟨Z1, S1⟩, ⟨It1, Vt1⟩, ⟨Ib1, Vb1⟩, ⟨l41, l42⟩, ⟨l51, l52⟩, ⟨l61, l62⟩, l71, l72⟩, pos⟩ := j100
    have et1 : zR τ100 raTop a0 = (zR κ raTop a0) := raF_r Z1 (by decide) (by decide) (by decide)
    have eb1 : zR τ100 raBottom a0 = (zR κ raBottom a0) := raF_r Z1 (by decide) (by decide) (by decide)
    have Tt1 : zT τ100 (zR κ raTop a0) = 8 := Z1.t Tt (by decide)
    have Tb1 : zT τ100 (zR κ raBottom a0) = 8 := Z1.t Tb (by decide)
    have kt1 : nuK τ100 (zR κ raTop a0) ≤ nuK κ (zR κ raTop a0) := nuK_le (d := 0) It1 Vt1
    have kb1 : nuK τ100 (zR κ raBottom a0) ≤ nuK κ (zR κ raBottom a0) := nuK_le (d := 0) Ib1 (by rw [Vb1]; exact Nat.div_le_self _ _)
    have d4 := i_divn (x := y100_4) (y := y100_7) (by omega) l71
    have d5 := i_divn (x := y100_5) (y := y100_6) (by omega) l61
    have e4 : (y100_4 / y100_7).toInt64.toInt = (y100_4 / y100_7).toInt := Int32.toInt_toInt64 _
    have e5 : (y100_5 / y100_6).toInt64.toInt = (y100_5 / y100_6).toInt := Int32.toInt_toInt64 _
    have i4 := ihi (y100_4 / y100_7)
    have i5 := ihi (y100_5 / y100_6)
    refine ⟨?_, ?_⟩
    · exact i_n0 l71  -- b1
    intro T1
    refine Nu_times_c W100 T1 c9 ?_ (fun κ_2 q3 => ?_)
    · rw [et1]
      exact ⟨It1, ⟨by rw [e4]; exact d4.2.2, by rw [e4]; omega⟩, by omega, p3⟩
    rw [et1, e4, d4.2.1] at q3
    obtain ⟨F2, I2, V2⟩ := q3
    have eb2 : zR κ_2 raBottom a0 = (zR κ raBottom a0) := (nuF_r F2 (by decide) (by decide)).trans eb1
    have bb := nuB_z (c := c9) W100 Tb1 F2 (fun z => ne z.1.symm) (fun z => ne z.1.symm)
    have Tt2 : zT κ_2 (zR κ raTop a0) = 8 := F2.t Tt1 (by decide)
    intro W4
    intro M5
    refine ⟨?_, ?_⟩
    · exact i_n0 l61  -- b3
    intro T6
    refine Nu_times_c W4 T6 c9 ?_ (fun κ_7 q8 => ?_)
    · rw [eb2, bb.2.2.2]
      exact ⟨bb.2.1 Ib1, ⟨by rw [e5]; exact d5.2.2, by rw [e5]; omega⟩, by omega, p3⟩
    intro W9
    intro M10
    refine h _ ?_
    · rw [eb2, e5, d5.2.1, bb.2.2.1, Vb1] at q8
      obtain ⟨F7, I7, V7⟩ := q8
      have bt := nuB_z (c := c9) W4 Tt2 F7 (fun z => ne z.1) (fun z => ne z.1)
      have Zf := (Z1.tr (raF_1 F2)).tr (raF_2 F7)
      have et7 : zR κ_7 raTop a0 = (zR κ raTop a0) := raF_r Zf (by decide) (by decide) (by decide)
      have eb7 : zR κ_7 raBottom a0 = (zR κ raBottom a0) := raF_r Zf (by decide) (by decide) (by decide)
      refine ⟨Zf, ?_, Or.inr ⟨pos, (nuF_i F7).trans ((nuF_i F2).trans S1), ?_, by rw [V7]; exact sc_d l72 l62 l52, by rw [V7]; exact Nat.mul_le_mul (Nat.div_le_self _ _) (Nat.le_trans (Nat.div_le_self _ _) (Nat.le_of_dvd (by omega) l52))⟩⟩
      · unfold raJ
        rw [et7, eb7]
        exact ⟨bt.2.1 I2, I7, ne⟩
      · rw [bt.2.2.1, V2]
        refine Nat.mul_le_mul Vt1 (Nat.le_trans (Nat.div_le_self _ _) ?_)
        omega
  have hj84 : ∀ (l0 : Nat) (l4 : Int32) (l5 : Int32) (l6 : Int32) (l7 : Int32) (τ : zS), zW C (zn κ) τ → zT τ l0 = 11 → (a0 = l0 ∧ scI κ τ a0 c9 l4 l5 l6 l7 a1 a2 (nuN κ (zR κ raBottom a0)) ∧ (0 < a1.toInt ∧ 0 < a2.toInt ∧ (zI κ raSign a0).toInt ≠ 0)) → w_Ra_scale_84 C (zn κ) Q  l0 l4 l5 l6 l7 τ := by
    rintro _ y84_4 y84_5 y84_6 y84_7 τ84 W84 T84_0 ⟨rfl, j84⟩
    unfold w_Ra_scale_84
    refine ⟨fun c11 => ?_, fun c11 => ?_⟩
    · skip
      refine hj100 _ _ _ _ _ _ W84 ?_ ?_
      · exact T84_0  -- t6
      · rw [lei, t1i] at c11
        obtain ⟨⟨Z1, ⟨It1, Vt1⟩, ⟨Ib1, Vb1⟩, l4, l5, l6, l71, l72⟩, pos⟩ := j84
        have e : y84_7.toInt.toNat = 1 := by omega
        exact ⟨rfl, ⟨Z1, ⟨It1, Vt1⟩, ⟨Ib1, by rw [Vb1, e, Nat.div_one]⟩, l4, l5, l6, l71, l72⟩, pos⟩
    · skip
      intro T12
      obtain ⟨⟨⟨Z1, S1⟩, ⟨It1, Vt1⟩, ⟨Ib1, Vb1⟩, l4, l5, l6, l71, l72⟩, pos⟩ := j84
      have eb1 : zR τ84 raBottom a0 = (zR κ raBottom a0) := raF_r Z1 (by decide) (by decide) (by decide)
      have Tt1 : zT τ84 (zR κ raTop a0) = 8 := Z1.t Tt (by decide)
      refine Nu_over_c W84 T12 c9 ?_ (fun r13 κ_14 q15 => ?_)
      · rw [eb1]
        exact ⟨Ib1, l71⟩
      rw [eb1, Vb1] at q15
      obtain ⟨F14, I14, V14, r14⟩ := q15
      have bt := nuB_z (c := c9) W84 Tt1 F14 (fun z => ne z.1) (fun z => ne z.1)
      intro W16
      intro M17
      refine hj100 _ _ _ _ _ _ W16 ?_ ?_
      · exact F14.t T84_0 (by decide)  -- t9
      · exact ⟨rfl, ⟨⟨Z1.tr (raF_2 F14), (nuF_i F14).trans S1⟩, ⟨bt.2.1 It1, by rw [bt.2.2.1]; exact Vt1⟩, ⟨I14, V14⟩, l4, l5, l6, l71, l72⟩, pos⟩  -- k10
  refine ⟨fun c18 => ?_, fun c18 => ?_⟩
  · skip
    intro T19
    refine Ra_putZero_c W T19 c9 ?_ (fun κ_20 q21 => ?_)
    · exact rC  -- p11
    intro W22
    intro M23
    refine h _ ?_
    · exact zro _ q21  -- q12
  · skip
    refine ⟨fun c24 => ?_, fun c24 => ?_⟩
    · skip
      intro T25
      refine Ra_putZero_c W T25 c9 ?_ (fun κ_26 q27 => ?_)
      · exact rC  -- p13
      intro W28
      intro M29
      refine h _ ?_
      · exact zro _ q27  -- q14
    · skip
      have pos : ¬ a1 ≤ 0 → ¬ a2 ≤ 0 → ¬ zI κ raSign a0 = 0 → (0 < a1.toInt ∧ 0 < a2.toInt ∧ (zI κ raSign a0).toInt ≠ 0) := fun x y z => by
        rw [lei, t0i] at x y
        exact ⟨by omega, by omega, fun w => z (Int32.toInt_inj.mp (w.trans t0i.symm))⟩
      refine ⟨fun c30 => ?_, fun c30 => ?_⟩
      · skip
        refine Ch_commonInt_c W   ?_ (fun r31 q33 => ?_)
        · have ps := pos c18 c24 c30
          exact ⟨by omega, by omega⟩
        intro W34
        intro M35
        have ps := pos c18 c24 c30
        have ps1 := ps.1
        have ps2 := ps.2.1
        clear pos
        have g1 : r31.toInt.toNat = Nat.gcd a1.toInt.toNat a2.toInt.toNat := by
          rcases q33.2 with z | z
          · exact z
          · omega
        have g0 := q33.1
        have ga : r31.toInt.toNat ∣ a1.toInt.toNat := by rw [g1]; exact Nat.gcd_dvd_left _ _
        have gb : r31.toInt.toNat ∣ a2.toInt.toNat := by rw [g1]; exact Nat.gcd_dvd_right _ _
        refine ⟨?_, ?_⟩
        · exact i_n0 (by omega)  -- b16
        intro x36 hx36
        have f4 := i_divn (x := a1) (y := r31) (by omega) (by omega)
        rw [← hx36] at f4
        have f4p := dv_p (show 0 < a1.toInt.toNat by omega) ga
        rw [← f4.2.1] at f4p
        have f4l : x36.toInt.toNat ≤ a1.toInt.toNat := by rw [f4.2.1]; exact Nat.div_le_self _ _
        refine ⟨?_, ?_⟩
        · exact i_n0 (by omega)  -- b17
        intro x37 hx37
        intro T38
        have f5 := i_divn (x := a2) (y := r31) (by omega) (by omega)
        rw [← hx37] at f5
        have f5p := dv_p (show 0 < a2.toInt.toNat by omega) gb
        rw [← f5.2.1] at f5p
        have f5d : x37.toInt.toNat ∣ a2.toInt.toNat := by rw [f5.2.1]; exact Nat.div_dvd_of_dvd gb
        refine Nu_rest_c W34 T38 c9 ?_ (fun r39 q41 => ?_)
        · exact ⟨It, by omega⟩  -- p18
        intro W42
        intro M43
        have r39p : 0 ≤ r39.toInt := by rw [q41]; exact Int.natCast_nonneg _
        refine Ch_commonInt_c W42   ?_ (fun r44 q46 => ?_)
        · exact ⟨by omega, r39p⟩  -- p19
        have g6 : r44.toInt.toNat ∣ x37.toInt.toNat := by
          rcases q46.2 with z | z
          · rw [z]; exact Nat.gcd_dvd_left _ _
          · omega
        have g6p := q46.1
        intro W47
        intro M48
        intro T49
        refine Nu_rest_c W47 T49 c9 ?_ (fun r50 q52 => ?_)
        · exact ⟨Ib, by omega⟩  -- p20
        intro W53
        intro M54
        have r50p : 0 ≤ r50.toInt := by rw [q52]; exact Int.natCast_nonneg _
        refine Ch_commonInt_c W53   ?_ (fun r55 q57 => ?_)
        · exact ⟨by omega, r50p⟩  -- p21
        have g7 : r55.toInt.toNat ∣ nuN κ (zR κ raBottom a0) := by
          have e50 : r50.toInt.toNat = nuN κ (zR κ raBottom a0) % x36.toInt.toNat := by rw [q52]; exact Int.toNat_natCast _
          rcases q57.2 with z | z
          · rw [z, e50, gc_m]; exact Nat.gcd_dvd_left _ _
          · omega
        have g7p := q57.1
        intro W58
        intro M59
        refine ⟨fun c60 => ?_, fun c60 => ?_⟩
        · skip
          refine hj84 _ _ _ _ _ _ W58 ?_ ?_
          · exact Ta0  -- t22
          · exact ⟨rfl, ⟨⟨zF.rf, rfl⟩, ⟨It, Nat.le_refl _⟩, ⟨Ib, rfl⟩, ⟨by omega, by omega⟩, ⟨by omega, f5d⟩, ⟨by omega, g6⟩, by omega, g7⟩, ps⟩  -- k23
        · skip
          intro T61
          refine Nu_over_c W58 T61 c9 ?_ (fun r62 κ_63 q64 => ?_)
          · exact ⟨It, by omega⟩  -- p24
          obtain ⟨F63, I63, V63, r63⟩ := q64
          have bb := nuB_z (c := c9) W Tb F63 (fun z => ne z.1.symm) (fun z => ne z.1.symm)
          intro W65
          intro M66
          refine hj84 _ _ _ _ _ _ W65 ?_ ?_
          · exact F63.t Ta0 (by decide)  -- t25
          · exact ⟨rfl, ⟨⟨raF_1 F63, nuF_i F63⟩, ⟨I63, by rw [V63]; exact Nat.div_le_self _ _⟩, ⟨bb.2.1 Ib, bb.2.2.1⟩, ⟨by omega, by omega⟩, ⟨by omega, f5d⟩, ⟨by omega, g6⟩, by omega, g7⟩, ps⟩  -- k26
      · skip
        intro T67
        refine Ra_putZero_c W T67 c9 ?_ (fun κ_68 q69 => ?_)
        · exact rC  -- p27
        intro W70
        intro M71
        refine h _ ?_
        · exact zro _ q69  -- q28


theorem So_addTerm_c2 {C : zC} {n0 : Nat} {a0 : Nat} {a1 : Int64} {κ : zS} {Q : zS → Prop} (W : zW C n0 κ) (Ta0 : zT κ a0 = 12) (ρ : Nat → Nat) (hp : (nmI ρ κ ∧ soI ρ κ a0) ∧ (-4611686018427387904 < a1.toInt ∧ a1.toInt < 4611686018427387904) ∧ (nuN κ (zR κ soWhole a0) < pB9 2000 ∧ nuN κ (zR κ raTop (zR κ soPart a0)) < pB9 100) ∧ nuN κ (zR κ soSum a0) < pB9 4000 ∧ nuN κ (zR κ soLess a0) < pB9 4000) (h : ∀ (κ' : zS), (zF (soF ρ adR9 (zR κ soCalc a0)) κ κ' ∧ (nmI ρ κ' ∧ soI ρ κ' a0) ∧ (0 < a1.toInt → nuN κ' (zR κ soSum a0) ≤ nuN κ (zR κ soSum a0) + nuN κ (zR κ raTop (zR κ soPart a0)) * a1.toInt.natAbs * (nuN κ (zR κ soWhole a0) + 1) ∧ nuN κ' (zR κ soLess a0) = nuN κ (zR κ soLess a0)) ∧ (¬ 0 < a1.toInt → nuN κ' (zR κ soLess a0) ≤ nuN κ (zR κ soLess a0) + nuN κ (zR κ raTop (zR κ soPart a0)) * a1.toInt.natAbs * (nuN κ (zR κ soWhole a0) + 1) ∧ nuN κ' (zR κ soSum a0) = nuN κ (zR κ soSum a0))) → Q κ') : zRun C 4 mSo_addTerm [.ref a0, .long a1] κ (oV Q noX) := by
  refine So_addTerm_run W Ta0 ?_
  replace W := W.lo (Nat.le_trans W.1.2.1 W.1.2.2) (Nat.le_refl (zn κ))
  unfold w_So_addTerm_0
  obtain ⟨⟨N0, S0⟩, p1, ⟨p2, p3⟩, p5, p6⟩ := hp
  obtain ⟨⟨r1, r4, r5, r6, r7, r8, r20⟩, _, rS, r9⟩ := id S0
  have P20 := N0.2 (zR κ soPart a0) (by rw [r20]; exact Or.inl rfl)
  have h21 : ρ (zR κ raTop (zR κ soPart a0)) = 21 := by rw [P20.2.1, r20]
  have h22 : ρ (zR κ raBottom (zR κ soPart a0)) = 22 := by rw [P20.2.2, r20]
  have z64 : (0 : Int64).toInt = 0 := rfl
  have s20 : ∀ r, 1 ≤ r → r < 20 → nmR r := fun r x y => Or.inl ⟨x, y⟩
  have g1 := nm_g N0 r1 (s20 _ (by decide) (by decide)) (by decide)
  have g4 := nm_g N0 r4 (s20 _ (by decide) (by decide)) (by decide)
  have g5 := nm_g N0 r5 (s20 _ (by decide) (by decide)) (by decide)
  have g6 := nm_g N0 r6 (s20 _ (by decide) (by decide)) (by decide)
  have g7 := nm_g N0 r7 (s20 _ (by decide) (by decide)) (by decide)
  have g8 := nm_g N0 r8 (s20 _ (by decide) (by decide)) (by decide)
  have g21 := nm_g N0 h21 (Or.inr (Or.inl rfl)) (by decide)
  have g22 := nm_g N0 h22 (Or.inr (Or.inr (Or.inl rfl))) (by decide)
  have c1 : capR 1 = 6500 := rfl
  have tt1 := ty_soWhole W Ta0
  have tt4 := ty_soFactor W Ta0
  have tt5 := ty_soScaled W Ta0
  have tt6 := ty_soTerm W Ta0
  have tt7 := ty_soSum W Ta0
  have tt8 := ty_soLess W Ta0
  have tt21 : zT κ (zR κ raTop (zR κ soPart a0)) = 8 := ty_raTop W P20.1
  have tt22 : zT κ (zR κ raBottom (zR κ soPart a0)) = 8 := ty_raBottom W P20.1
  have k1 := nuK_lt g1.1 p2
  have k21 := nuK_lt g21.1 p3
  have hj103 : ∀ (l0 : Nat) (l1 : Int64) (τ : zS), zW C (zn κ) τ → zT τ l0 = 12 → (a0 = l0 ∧ a1 = l1 ∧ zF (soF ρ adR9 (zR κ soCalc a0)) κ τ ∧ (nmI ρ τ ∧ soI ρ τ a0) ∧ (∀ f b, f ≠ nuLimbs → f ≠ nuLength → zR τ f b = zR κ f b) ∧ (nuN τ (zR κ soTerm a0) ≤ nuN κ (zR κ raTop (zR κ soPart a0)) * a1.toInt.natAbs * (nuN κ (zR κ soWhole a0) + 1) ∧ nuK τ (zR κ soTerm a0) ≤ 2102) ∧ nuN τ (zR κ soSum a0) = nuN κ (zR κ soSum a0) ∧ nuN τ (zR κ soLess a0) = nuN κ (zR κ soLess a0)) → w_So_addTerm_103 C (zn κ) Q  l0 l1 τ := by
    rintro _ _ τ103 W103 T103_0 ⟨rfl, rfl, j103⟩
    unfold w_So_addTerm_103
    obtain ⟨Z1, ⟨N1, S1⟩, hr1, ⟨V1, K1⟩, u1, v1⟩ := j103
    have e6 : zR τ103 soTerm a0 = (zR κ soTerm a0) := hr1 _ _ (by decide) (by decide)
    have e7 : zR τ103 soSum a0 = (zR κ soSum a0) := hr1 _ _ (by decide) (by decide)
    have e8 : zR τ103 soLess a0 = (zR κ soLess a0) := hr1 _ _ (by decide) (by decide)
    have f6 := nm_g N1 r6 (s20 _ (by decide) (by decide)) (by decide)
    have f7 := nm_g N1 r7 (s20 _ (by decide) (by decide)) (by decide)
    have f8 := nm_g N1 r8 (s20 _ (by decide) (by decide)) (by decide)
    have k7 := nuK_lt f7.1 (by rw [u1]; exact p5)
    have k8 := nuK_lt f8.1 (by rw [v1]; exact p6)
    refine ⟨fun c1 => ?_, fun c1 => ?_⟩
    · skip
      intro T2
      intro T3
      refine Nu_plus_c W103 T2 T3 6500 30000000 ?_ (fun κ_4 q5 => ?_)
      · rw [e6, e8]
        exact ⟨f8.1, f6.2.1, ro_n r8 r6 (by decide), ⟨by omega, by omega⟩, by decide⟩
      intro W6
      intro M7
      refine h _ ?_
      · rw [lg_cmp_le, jlei, z64] at c1
        rw [e6, e8] at q5
        obtain ⟨F, I, V⟩ := q5
        have b7 := nuB_z (c := 6500) W103 (Z1.t tt7 (by decide)) F (fun z => ro_n r7 r8 (by decide) z.1) (fun z => ro_n r7 r8 (by decide) z.1)
        refine ⟨Z1.tr (soF_1 (by rw [r8]; exact Or.inr (Or.inr (Or.inr (Or.inr (Or.inl rfl))))) F), ⟨nm_1 W103 N1 F (by rw [r8]; exact I), so_1 W103 T103_0 S1 F⟩, fun z => absurd z (by omega), fun _ => ⟨by rw [V, v1]; exact Nat.add_le_add_left V1 _, by rw [b7.2.2.1, u1]⟩⟩
    · skip
      intro T8
      intro T9
      refine Nu_plus_c W103 T8 T9 6500 30000000 ?_ (fun κ_10 q11 => ?_)
      · rw [e6, e7]
        exact ⟨f7.1, f6.2.1, ro_n r7 r6 (by decide), ⟨by omega, by omega⟩, by decide⟩
      intro W12
      intro M13
      refine h _ ?_
      · rw [lg_cmp_le, jlei, z64] at c1
        rw [e6, e7] at q11
        obtain ⟨F, I, V⟩ := q11
        have b8 := nuB_z (c := 6500) W103 (Z1.t tt8 (by decide)) F (fun z => ro_n r8 r7 (by decide) z.1) (fun z => ro_n r8 r7 (by decide) z.1)
        refine ⟨Z1.tr (soF_1 (by rw [r7]; exact Or.inr (Or.inr (Or.inr (Or.inl rfl)))) F), ⟨nm_1 W103 N1 F (by rw [r7]; exact I), so_1 W103 T103_0 S1 F⟩, fun _ => ⟨by rw [V, u1]; exact Nat.add_le_add_left V1 _, by rw [b8.2.2.1, v1]⟩, fun z => absurd z (by omega)⟩
  intro T14
  have ab := j_ab p1.1 p1.2
  refine Nu_put_c W T14 6500 ?_ (fun κ_15 q16 => ?_)
  · rw [ab]
    exact ⟨⟨by omega, by omega⟩, g4.2.2⟩
  rw [ab, Int.toNat_natCast] at q16
  obtain ⟨F15, ⟨R15, M15⟩, I15, V15⟩ := q16
  have N15 : nmI ρ κ_15 := nm_1 W N0 F15 (by rw [r4]; exact I15)
  have S15 : soI ρ κ_15 a0 := so_1 W Ta0 S0 F15
  have Z15 : zF (soF ρ (fun r => r = 4) (zR κ soCalc a0)) κ κ_15 := soF_1 r4 F15
  have w1 := soF_B (c := 30000000) W tt1 Z15 (by rw [r1]; decide)
  have w21 := soF_B (c := 30000000) W tt21 Z15 (by rw [h21]; decide)
  have w22 := soF_B (c := 30000000) W tt22 Z15 (by rw [h22]; decide)
  have T0_15 : zT κ_15 a0 = 12 := F15.t Ta0 (by decide)
  have k4 : nuK κ_15 (zR κ soFactor a0) ≤ 2 := nuK_2 I15 (by rw [V15]; omega)
  intro W17
  intro M18
  intro T19
  intro T20
  refine Nu_compare_c W17 T19 T20 30000000 30000000 ?_ (fun r21 q23 => ?_)
  · rw [R15]
    exact ⟨w1.1 g1.2.1, w22.1 g22.2.1⟩
  intro W24
  intro M25
  have dp : (nuC κ_15 (zR κ caQuotient (zR κ soCalc a0)) 6500 ∧ nuC κ_15 (zR κ caRest (zR κ soCalc a0)) 6500 ∧ nuC κ_15 (zR κ caDivisor (zR κ soCalc a0)) 6500) ∧ (nuI κ_15 (zR κ soWhole a0) 30000000 ∧ nuI κ_15 (zR κ raBottom (zR κ soPart a0)) 30000000) ∧ (zR κ caQuotient (zR κ soCalc a0) ≠ zR κ caRest (zR κ soCalc a0) ∧ zR κ caQuotient (zR κ soCalc a0) ≠ zR κ caDivisor (zR κ soCalc a0) ∧ zR κ caRest (zR κ soCalc a0) ≠ zR κ caDivisor (zR κ soCalc a0)) ∧ ((zR κ soWhole a0) ≠ zR κ caQuotient (zR κ soCalc a0) ∧ (zR κ soWhole a0) ≠ zR κ caRest (zR κ soCalc a0) ∧ (zR κ soWhole a0) ≠ zR κ caDivisor (zR κ soCalc a0)) ∧ ((zR κ raBottom (zR κ soPart a0)) ≠ zR κ caQuotient (zR κ soCalc a0) ∧ (zR κ raBottom (zR κ soPart a0)) ≠ zR κ caRest (zR κ soCalc a0) ∧ (zR κ raBottom (zR κ soPart a0)) ≠ zR κ caDivisor (zR κ soCalc a0)) ∧ nuK κ_15 (zR κ soWhole a0) + 1 + (nuK κ_15 (zR κ soWhole a0) + 1) / 2 + 2 ≤ 6500 ∧ 6500 ≤ 30000000 := by
    have ci := so_ca N15 S15
    unfold caI caN caK at ci
    rw [R15] at ci
    have o1 := (caS_n (so_o S0 r1 (by decide))).1
    have o22 := (caS_n (so_o S0 h22 (by decide))).1
    exact ⟨⟨ci.2.1.1, ci.2.1.2.1, ci.2.1.2.2.1⟩, ⟨w1.1 g1.2.1, w22.1 g22.2.1⟩, ci.1.1, o1, o22, by rw [w1.2.2]; omega, by decide⟩
  refine ⟨fun c26 => ?_, fun c26 => ?_⟩
  · skip
    intro T27
    intro T28
    intro T29
    refine Ca_divide_c W24 T27 T28 T29 6500 ?_ (fun κ_30 q31 => ?_)
    · rw [R15]
      exact dp
    have D := nm_d (a := a0) W17 T0_15 N15 S15 q31
    have Z30' : zF (soF ρ adR9 (zR κ soCalc a0)) κ_15 κ_30 := soF_p (fun b z => by
      have q : ρ b = 10 := by
        rw [R15] at z
        exact rS b ((show b = _ ∨ b = _ ∨ b = _ from z).elim Or.inl (fun z => z.elim (fun y => Or.inr (Or.inl y)) (fun y => Or.inr (Or.inr (Or.inl y)))))
      rw [q]
      exact Or.inr (Or.inr (Or.inr (Or.inr (Or.inr rfl))))) q31.1
    have hr30 : ∀ f b, f ≠ nuLimbs → f ≠ nuLength → zR κ_30 f b = zR κ f b := fun f b x y => (nuFp_r q31.1 x y).trans (nuF_r F15 x y)
    rw [R15, w1.2.1, w22.2.1] at q31
    obtain ⟨DZ, ⟨DQ, DV⟩, _, _⟩ := q31
    have n3 : ∀ w r, ρ w = r → r ≠ 10 → ¬ oo3 (zR κ caQuotient (zR κ soCalc a0)) (zR κ caRest (zR κ soCalc a0)) (zR κ caDivisor (zR κ soCalc a0)) w := fun w r x y => by
      have o := (caS_n (so_o S0 x y)).1
      exact oo3_n o.1 o.2.1 o.2.2
    have x21 := nuFp_B (c := 30000000) W17 (F15.t tt21 (by decide)) DZ (n3 _ _ h21 (by decide))
    have x4 := nuFp_B (c := 30000000) W17 (F15.t tt4 (by decide)) DZ (n3 _ _ r4 (by decide))
    have x7 := nuFp_B (c := 30000000) W17 (F15.t tt7 (by decide)) DZ (n3 _ _ r7 (by decide))
    have x8 := nuFp_B (c := 30000000) W17 (F15.t tt8 (by decide)) DZ (n3 _ _ r8 (by decide))
    have T0_30 : zT κ_30 a0 = 12 := DZ.t T0_15 (by decide)
    have I21 : nuI κ_30 (zR κ raTop (zR κ soPart a0)) 30000000 := x21.2.1 (w21.1 g21.2.1)
    have I4 : nuI κ_30 (zR κ soFactor a0) 30000000 := x4.2.1 (nuI_mono (by decide) I15)
    have f5 := nm_g D.1 r5 (s20 _ (by decide) (by decide)) (by decide)
    have e21 : zR κ_30 raTop (zR κ_30 soPart a0) = (zR κ raTop (zR κ soPart a0)) := by rw [hr30 soPart _ (by decide) (by decide), hr30 raTop _ (by decide) (by decide)]
    have kq : nuK κ_30 (zR κ caQuotient (zR κ soCalc a0)) ≤ 2000 := nuK_lt DQ (by rw [DV]; exact Nat.lt_of_le_of_lt (Nat.div_le_self _ _) p2)
    have k21' : nuK κ_30 (zR κ raTop (zR κ soPart a0)) ≤ 100 := by rw [x21.2.2.2, w21.2.2]; exact k21
    have k4' : nuK κ_30 (zR κ soFactor a0) ≤ 2 := by rw [x4.2.2.2]; exact k4
    intro W32
    intro M33
    intro T34
    intro T35
    intro T36
    refine Nu_product_c W32 T34 T35 T36 6500 30000000 30000000 ?_ (fun κ_37 q38 => ?_)
    · rw [e21, hr30 soScaled _ (by decide) (by decide), hr30 soFactor _ (by decide) (by decide)]
      exact ⟨f5.2.2, ⟨I21, I4⟩, ⟨ro_n r5 h21 (by decide), ro_n r5 r4 (by decide)⟩, by omega, by decide⟩
    rw [e21, hr30 soScaled _ (by decide) (by decide), hr30 soFactor _ (by decide) (by decide), x21.2.2.1, x4.2.2.1, w21.2.1, V15] at q38
    obtain ⟨F37, I37, V37⟩ := q38
    have N37 : nmI ρ κ_37 := nm_1 W32 D.1 F37 (by rw [r5]; exact I37)
    have S37 : soI ρ κ_37 a0 := so_1 W32 T0_30 D.2 F37
    have hr37 : ∀ f b, f ≠ nuLimbs → f ≠ nuLength → zR κ_37 f b = zR κ f b := fun f b x y => (nuF_r F37 x y).trans (hr30 f b x y)
    have T0_37 : zT κ_37 a0 = 12 := F37.t T0_30 (by decide)
    have eq37 : zR κ_37 caQuotient (zR κ_37 soCalc a0) = zR κ caQuotient (zR κ soCalc a0) := by rw [hr37 soCalc _ (by decide) (by decide), hr37 caQuotient _ (by decide) (by decide)]
    have rq := rS (zR κ caQuotient (zR κ soCalc a0)) (Or.inl rfl)
    have Tq := ty_caQuotient W (ty_soCalc W Ta0)
    have yq := nuB_z (c := 30000000) W32 (DZ.t (F15.t Tq (by decide)) (by decide)) F37 (fun z => ro_n rq r5 (by decide) z.1) (fun z => ro_n rq r5 (by decide) z.1)
    have y7 := nuB_z (c := 30000000) W32 (DZ.t (F15.t tt7 (by decide)) (by decide)) F37 (fun z => ro_n r7 r5 (by decide) z.1) (fun z => ro_n r7 r5 (by decide) z.1)
    have y8 := nuB_z (c := 30000000) W32 (DZ.t (F15.t tt8 (by decide)) (by decide)) F37 (fun z => ro_n r8 r5 (by decide) z.1) (fun z => ro_n r8 r5 (by decide) z.1)
    have f6 := nm_g N37 r6 (s20 _ (by decide) (by decide)) (by decide)
    have lT : nuN κ (zR κ raTop (zR κ soPart a0)) * a1.toInt.natAbs < pB9 102 := by
      rw [show (102 : Nat) = 100 + 2 from rfl, pB9_2]
      exact Nat.mul_lt_mul'' p3 (by omega)
    have k5 : nuK κ_37 (zR κ soScaled a0) ≤ 102 := nuK_lt I37 (by rw [V37]; exact lT)
    intro W39
    intro M40
    intro T41
    intro T42
    intro T43
    refine Nu_product_c W39 T41 T42 T43 6500 30000000 30000000 ?_ (fun κ_44 q45 => ?_)
    · rw [eq37, hr37 soTerm _ (by decide) (by decide), hr37 soScaled _ (by decide) (by decide), yq.2.2.2]
      exact ⟨f6.2.2, ⟨nuI_mono (by decide) I37, yq.2.1 (nuI_mono (by decide) DQ)⟩, ⟨ro_n r6 r5 (by decide), ro_n r6 rq (by decide)⟩, by omega, by decide⟩
    intro W46
    intro M47
    rw [eq37, hr37 soTerm _ (by decide) (by decide), hr37 soScaled _ (by decide) (by decide), yq.2.2.1, V37, DV] at q45
    obtain ⟨F44, I44, V44⟩ := q45
    refine hj103 _ _ _ W46 ?_ ?_
    · exact F44.t T0_37 (by decide)  -- t10
    · have z7 := nuB_z (c := 30000000) W39 (F37.t (DZ.t (F15.t tt7 (by decide)) (by decide)) (by decide)) F44 (fun z => ro_n r7 r6 (by decide) z.1) (fun z => ro_n r7 r6 (by decide) z.1)
      have z8 := nuB_z (c := 30000000) W39 (F37.t (DZ.t (F15.t tt8 (by decide)) (by decide)) (by decide)) F44 (fun z => ro_n r8 r6 (by decide) z.1) (fun z => ro_n r8 r6 (by decide) z.1)
      have v7 := nuB_z (c := 30000000) W tt7 F15 (fun z => ro_n r7 r4 (by decide) z.1) (fun z => ro_n r7 r4 (by decide) z.1)
      have v8 := nuB_z (c := 30000000) W tt8 F15 (fun z => ro_n r8 r4 (by decide) z.1) (fun z => ro_n r8 r4 (by decide) z.1)
      have Zf : zF (soF ρ adR9 (zR κ soCalc a0)) κ κ_44 := (((soF_m (fun r z => Or.inl z) Z15).tr Z30').tr (soF_1 (by rw [r5]; exact Or.inr (Or.inl rfl)) F37)).tr (soF_1 (by rw [r6]; exact Or.inr (Or.inr (Or.inl rfl))) F44)
      refine ⟨rfl, rfl, Zf, ⟨nm_1 W39 N37 F44 (by rw [r6]; exact I44), so_1 W39 T0_37 S37 F44⟩, fun f b x y => (nuF_r F44 x y).trans (hr37 f b x y), ⟨by rw [V44]; exact Nat.mul_le_mul_left _ (Nat.le_trans (Nat.div_le_self _ _) (Nat.le_succ _)), nuK_lt I44 ?_⟩, by rw [z7.2.2.1, y7.2.2.1, x7.2.2.1, v7.2.2.1], by rw [z8.2.2.1, y8.2.2.1, x8.2.2.1, v8.2.2.1]⟩
      show _ < pB9 2102
      rw [V44, show (2102 : Nat) = 102 + 2000 from rfl, pB9_a]
      exact Nat.mul_lt_mul'' lT (Nat.lt_of_le_of_lt (Nat.div_le_self _ _) p2)
  · skip
    intro T48
    intro T49
    intro T50
    have f6 := nm_g N15 r6 (s20 _ (by decide) (by decide)) (by decide)
    have k21' : nuK κ_15 (zR κ raTop (zR κ soPart a0)) ≤ 100 := by rw [w21.2.2]; exact k21
    refine Nu_product_c W24 T48 T49 T50 6500 30000000 30000000 ?_ (fun κ_51 q52 => ?_)
    · have f62 := f6.2.2
      unfold nuC at f62
      rw [R15] at f62 ⊢
      exact ⟨f62, ⟨w21.1 g21.2.1, nuI_mono (by decide) I15⟩, ⟨ro_n r6 h21 (by decide), ro_n r6 r4 (by decide)⟩, by omega, by decide⟩
    intro W53
    intro M54
    rw [R15, w21.2.1, V15] at q52
    obtain ⟨F51, I51, V51⟩ := q52
    refine hj103 _ _ _ W53 ?_ ?_
    · exact F51.t T0_15 (by decide)  -- t13
    · have z7 := nuB_z (c := 30000000) W17 (F15.t tt7 (by decide)) F51 (fun z => ro_n r7 r6 (by decide) z.1) (fun z => ro_n r7 r6 (by decide) z.1)
      have z8 := nuB_z (c := 30000000) W17 (F15.t tt8 (by decide)) F51 (fun z => ro_n r8 r6 (by decide) z.1) (fun z => ro_n r8 r6 (by decide) z.1)
      have v7 := nuB_z (c := 30000000) W tt7 F15 (fun z => ro_n r7 r4 (by decide) z.1) (fun z => ro_n r7 r4 (by decide) z.1)
      have v8 := nuB_z (c := 30000000) W tt8 F15 (fun z => ro_n r8 r4 (by decide) z.1) (fun z => ro_n r8 r4 (by decide) z.1)
      have Zf : zF (soF ρ adR9 (zR κ soCalc a0)) κ κ_51 := (soF_m (fun r z => Or.inl z) Z15).tr (soF_1 (by rw [r6]; exact Or.inr (Or.inr (Or.inl rfl))) F51)
      have lT : nuN κ (zR κ raTop (zR κ soPart a0)) * a1.toInt.natAbs < pB9 102 := by
        rw [show (102 : Nat) = 100 + 2 from rfl, pB9_2]
        exact Nat.mul_lt_mul'' p3 (by omega)
      have kf := nuK_lt I51 (by rw [V51]; exact lT)
      exact ⟨rfl, rfl, Zf, ⟨nm_1 W17 N15 F51 (by rw [r6]; exact I51), so_1 W17 T0_15 S15 F51⟩, fun f b x y => (nuF_r F51 x y).trans (nuF_r F15 x y), ⟨by rw [V51]; exact Nat.le_mul_of_pos_right _ (Nat.succ_pos _), by omega⟩, by rw [z7.2.2.1, v7.2.2.1], by rw [z8.2.2.1, v8.2.2.1]⟩


theorem So_unit_c2 {C : zC} {n0 : Nat} {a0 : Nat} {a1 : Int32} {κ : zS} {Q : zS → Prop} (W : zW C n0 κ) (Ta0 : zT κ a0 = 12) (ρ : Nat → Nat) (u9 : Nat) (hp : (nmI ρ κ ∧ soI ρ κ a0) ∧ atM κ (zR κ soAtlas a0) ∧ (0 ≤ a1.toInt ∧ a1.toInt < 1000 ∧ a1.toInt < (zN κ (zR κ soVisits a0))) ∧ (zQ κ (zR κ soVisits a0) a1.toNatClampNeg = some u9 ∧ ρ u9 = 100 + 8 * a1.toNatClampNeg) ∧ (nuN κ (zR κ raTop u9) < 2 ^ 256 ∧ nuN κ (zR κ raBottom u9) < 2 ^ 256)) (h : ∀ (κ' : zS), ((zF (soF ρ unR9 (zR κ soCalc a0)) κ κ' ∧ nmI ρ κ' ∧ soI ρ κ' a0) ∧ (zI κ' raSign (zR κ soPart a0)).toInt = (zI κ raSign u9).toInt ∧ nuN κ' (zR κ raTop (zR κ soPart a0)) ≤ nuN κ (zR κ raTop u9) ∧ nuN κ' (zR κ raBottom (zR κ soPart a0)) ∣ nuN κ (zR κ raBottom u9) * (if (dvA κ (zR κ soAtlas a0) a1.toNatClampNeg).toInt ≤ 1 then 1 else (dvA κ (zR κ soAtlas a0) a1.toNatClampNeg).toInt.toNat) ∧ nuN κ' (zR κ raBottom (zR κ soPart a0)) ≤ nuN κ (zR κ raBottom u9) * (if (dvA κ (zR κ soAtlas a0) a1.toNatClampNeg).toInt ≤ 1 then 1 else (dvA κ (zR κ soAtlas a0) a1.toNatClampNeg).toInt.toNat)) → Q κ') : zRun C 4 mSo_unit [.ref a0, .int a1] κ (oV Q noX) := by
  refine So_unit_run W Ta0 ?_
  replace W := W.lo (Nat.le_trans W.1.2.1 W.1.2.2) (Nat.le_refl (zn κ))
  unfold w_So_unit_0
  obtain ⟨⟨N0, S0⟩, M0, p1, ⟨hq, hu⟩, q1, q2⟩ := hp
  have h20 := S0.1.2.2.2.2.2.2
  have P20 := N0.2 (zR κ soPart a0) (by rw [h20]; exact Or.inl rfl)
  have h21 : ρ (zR κ raTop (zR κ soPart a0)) = 21 := by rw [P20.2.1, h20]
  have h22 : ρ (zR κ raBottom (zR κ soPart a0)) = 22 := by rw [P20.2.2, h20]
  have m21 : nmR 21 := Or.inr (Or.inl rfl)
  have m22 : nmR 22 := Or.inr (Or.inr (Or.inl rfl))
  have kn := cnk p1.1
  have ru : raR (ρ u9) := by rw [hu]; exact Or.inr (Or.inr ⟨by omega, by omega, by omega⟩)
  have PU := N0.2 u9 ru
  have hu1 : ρ (zR κ raTop u9) = 101 + 8 * a1.toNatClampNeg := by rw [PU.2.1, hu]; omega
  have hu2 : ρ (zR κ raBottom u9) = 102 + 8 * a1.toNatClampNeg := by rw [PU.2.2, hu]; omega
  have g21 := nm_g N0 h21 m21 (by decide)
  have g22 := nm_g N0 h22 m22 (by decide)
  have gu1 := nm_g N0 PU.2.1 (raR_n ru).1 (by omega)
  have gu2 := nm_g N0 PU.2.2 (raR_n ru).2 (by omega)
  have k1 := k256 gu1.1 q1
  have k2 := k256 gu2.1 q2
  have tp21 : zT κ (zR κ raTop (zR κ soPart a0)) = 8 := ty_raTop W P20.1
  have tp22 : zT κ (zR κ raBottom (zR κ soPart a0)) = 8 := ty_raBottom W P20.1
  have hj60 : ∀ (l0 : Nat) (l2 : Int32) (l3 : Int32) (τ : zS), zW C (zn κ) τ → zT τ l0 = 12 → (a0 = l0 ∧ ((zF (soF ρ unR9 (zR κ soCalc a0)) κ τ ∧ nmI ρ τ ∧ soI ρ τ a0) ∧ zR τ raBottom (zR τ soPart a0) = (zR κ raBottom (zR κ soPart a0))) ∧ ((zI τ raSign (zR κ soPart a0)).toInt = (zI κ raSign u9).toInt ∧ nuN τ (zR κ raTop (zR κ soPart a0)) ≤ nuN κ (zR κ raTop u9) ∧ nuN τ (zR κ raBottom (zR κ soPart a0)) = nuN κ (zR κ raBottom u9)) ∧ (1 < l2.toInt ∧ l2 = dvA κ (zR κ soAtlas a0) a1.toNatClampNeg) ∧ 0 < l3.toInt ∧ l3.toInt.toNat ∣ l2.toInt.toNat) → w_So_unit_60 C (zn κ) Q  l0 l2 l3 τ := by
    rintro _ y60_2 y60_3 τ60 W60 T60_0 ⟨rfl, j60⟩
    unfold w_So_unit_60
    obtain ⟨⟨⟨Z1, N1, S1⟩, eb1⟩, ⟨sg, t1, b1⟩, ⟨l2, rfl⟩, l3, ld⟩ := j60
    have f22 := nm_g N1 h22 m22 (by decide)
    have d5 := i_divn (x := dvA κ (zR κ soAtlas a0) a1.toNatClampNeg) (y := y60_3) (by omega) l3
    have e5 : (dvA κ (zR κ soAtlas a0) a1.toNatClampNeg / y60_3).toInt64.toInt = (dvA κ (zR κ soAtlas a0) a1.toNatClampNeg / y60_3).toInt := Int32.toInt_toInt64 _
    have i5 := ihi (dvA κ (zR κ soAtlas a0) a1.toNatClampNeg / y60_3)
    have kb := k256 f22.1 (by rw [b1]; exact q2)
    refine ⟨?_, ?_⟩
    · exact i_n0 l3  -- b1
    intro T1
    refine Nu_times_c W60 T1 6500 ?_ (fun κ_2 q3 => ?_)
    · rw [eb1]
      exact ⟨f22.1, ⟨by rw [e5]; exact d5.2.2, by rw [e5]; omega⟩, by omega, by decide⟩
    intro W4
    intro M5
    refine h _ ?_
    · rw [eb1, e5, d5.2.1, b1] at q3
      obtain ⟨F, I, V⟩ := q3
      have bt := nuB_z (c := 6500) W60 (Z1.t tp21 (by decide)) F (fun z => ro_n h21 h22 (by decide) z.1) (fun z => ro_n h21 h22 (by decide) z.1)
      refine ⟨⟨Z1.tr (soF_1 (by rw [h22]; exact Or.inr (Or.inr rfl)) F), nm_1 W60 N1 F (by rw [h22]; exact I), so_1 W60 T60_0 S1 F⟩, by rw [nuF_i F]; exact sg, by rw [bt.2.2.1]; exact t1, ?_⟩
      rw [V, if_neg (by omega)]
      exact ⟨Nat.mul_dvd_mul (Nat.dvd_refl _) (Nat.div_dvd_of_dvd ld), Nat.mul_le_mul_left _ (Nat.div_le_self _ _)⟩
  refine ⟨?_, ?_⟩
  · rw [inb_iff]; omega  -- b4
  refine ex_some ?_ (fun u6 hu6 => ?_)
  · exact ⟨u9, hq⟩  -- e5
  intro T7
  intro T8
  have eu : u6 = u9 := Option.some.inj (hu6.symm.trans hq)
  subst eu
  refine Ra_copy_c W T7 T8 6500 ?_ (fun κ_9 q10 => ?_)
  · exact ⟨⟨g21.2.2, g22.2.2, ro_n h21 h22 (by decide)⟩, ⟨gu1.2.1, gu2.2.1, ro_n hu1 hu2 (by omega)⟩, ⟨ro_n h21 hu1 (by omega), ro_n h21 hu2 (by omega), ro_n h22 hu1 (by omega), ro_n h22 hu2 (by omega)⟩, ⟨by omega, by omega⟩, by decide⟩  -- p6
  obtain ⟨Z9, J9, V9⟩ := q10
  have e1 : zR κ_9 raTop (zR κ soPart a0) = (zR κ raTop (zR κ soPart a0)) := raF_r Z9 (by decide) (by decide) (by decide)
  have e2 : zR κ_9 raBottom (zR κ soPart a0) = (zR κ raBottom (zR κ soPart a0)) := raF_r Z9 (by decide) (by decide) (by decide)
  have e3 : zR κ_9 soPart a0 = (zR κ soPart a0) := raF_r Z9 (by decide) (by decide) (by decide)
  have e4 : zR κ_9 soAtlas a0 = zR κ soAtlas a0 := raF_r Z9 (by decide) (by decide) (by decide)
  unfold raJ at J9
  unfold raV at V9
  rw [e1, e2] at J9 V9
  have R9 := nm_ra W Ta0 N0 S0 h20 (Or.inl rfl) Z9 J9.1 J9.2.1
  have A9 := at_ra W (ty_soAtlas W Ta0) Z9 M0
  have T9 : zT κ_9 a0 = 12 := Z9.t Ta0 (by decide)
  have Zs : zF (soF ρ unR9 (zR κ soCalc a0)) κ κ_9 := R9.2 _
  have et9 : zR κ_9 raTop (zR κ_9 soPart a0) = (zR κ raTop (zR κ soPart a0)) := by rw [e3, e1]
  have eb9 : zR κ_9 raBottom (zR κ_9 soPart a0) = (zR κ raBottom (zR κ soPart a0)) := by rw [e3, e2]
  intro W11
  intro M12
  intro T13
  refine At_divisorOf_c W11 T13  ?_ (fun r14 q16 => ?_)
  · rw [e4]
    exact ⟨A9.1, p1.1, p1.2.1⟩
  intro W17
  intro M18
  have q16' : r14 = dvA κ (zR κ soAtlas a0) a1.toNatClampNeg := by
    rw [e4] at q16
    exact q16.trans (A9.2 _)
  refine ⟨fun c19 => ?_, fun c19 => ?_⟩
  · skip
    refine h _ ?_
    · rw [lei, t1i] at c19
      rw [q16'] at c19
      refine ⟨⟨Zs, R9.1⟩, V9.1, Nat.le_of_eq V9.2.1, ?_⟩
      rw [V9.2.2, if_pos c19, Nat.mul_one]
      exact ⟨Nat.dvd_refl _, Nat.le_refl _⟩
  · skip
    intro T20
    rw [lei, t1i] at c19
    refine Nu_rest_c W17 T20 30000000 ?_ (fun r21 q23 => ?_)
    · rw [et9]
      exact ⟨nuI_mono (by decide) J9.1, by omega⟩
    intro W24
    intro M25
    have r0 : 0 ≤ r21.toInt := by rw [q23]; exact Int.natCast_nonneg _
    refine Ch_commonInt_c W24   ?_ (fun r26 q28 => ?_)
    · exact ⟨by omega, r0⟩  -- p10
    have gd : r26.toInt.toNat ∣ r14.toInt.toNat := by
      rcases q28.2 with z | z
      · rw [z]; exact Nat.gcd_dvd_left _ _
      · omega
    have g0 := q28.1
    intro W29
    intro M30
    refine ⟨fun c31 => ?_, fun c31 => ?_⟩
    · skip
      refine hj60 _ _ _ _ W29 ?_ ?_
      · exact T9  -- t11
      · exact ⟨rfl, ⟨⟨Zs, R9.1⟩, eb9⟩, ⟨V9.1, Nat.le_of_eq V9.2.1, V9.2.2⟩, ⟨by omega, q16'⟩, by omega, gd⟩  -- k12
    · skip
      intro T32
      refine Nu_over_c W29 T32 6500 ?_ (fun r33 κ_34 q35 => ?_)
      · rw [et9]
        exact ⟨J9.1, by omega⟩
      rw [et9, V9.2.1] at q35
      obtain ⟨F, I, V, _⟩ := q35
      have bb := nuB_z (c := 6500) W11 (Z9.t tp22 (by decide)) F (fun z => ro_n h22 h21 (by decide) z.1) (fun z => ro_n h22 h21 (by decide) z.1)
      have ebF : zR κ_34 raBottom (zR κ_34 soPart a0) = (zR κ raBottom (zR κ soPart a0)) := by rw [nuF_r F (by decide) (by decide), nuF_r F (by decide) (by decide), eb9]
      intro W36
      intro M37
      refine hj60 _ _ _ _ W36 ?_ ?_
      · exact F.t T9 (by decide)  -- t14
      · exact ⟨rfl, ⟨⟨Zs.tr (soF_1 (by rw [h21]; exact Or.inr (Or.inl rfl)) F), nm_1 W11 R9.1.1 F (by rw [h21]; exact I), so_1 W11 T9 R9.1.2 F⟩, ebF⟩, ⟨by rw [nuF_i F]; exact V9.1, by rw [V]; exact Nat.div_le_self _ _, by rw [bb.2.2.1]; exact V9.2.2⟩, ⟨by omega, q16'⟩, by omega, gd⟩  -- k15

end
section
set_option maxHeartbeats 1600000
/-! the class: what the Solver reads of web and atlas -/
/-- a frame that touches numbers, fractions, Calcs, a Solver's cells and rows, and what is new -/
def frS9 (m : Nat) (F : Nat → Nat → Prop) : Prop := ∀ f b, F f b → m ≤ b ∨ f / 100 = 8 ∨ f / 100 = 11 ∨ f / 100 = 4 ∨ f = soCells ∨ f = soRows ∨ f = 0
theorem frS9_n {C : zC} {n0 f b c : Nat} {F : Nat → Nat → Prop} {κ : zS} (W : zW C n0 κ) (H : frS9 (zn κ) F) (T : zT κ b = c + 1) (hf : f / 100 ≠ 8 ∧ f / 100 ≠ 11 ∧ f / 100 ≠ 4 ∧ f ≠ soCells ∧ f ≠ soRows ∧ f ≠ 0) : ¬ F f b := fun z => by
  have l := (W.2.1 b (by omega)).2
  rcases H f b z with h | h | h | h | h | h | h
  · omega
  · exact hf.1 h
  · exact hf.2.1 h
  · exact hf.2.2.1 h
  · exact hf.2.2.2.1 h
  · exact hf.2.2.2.2.1 h
  · exact hf.2.2.2.2.2 h
theorem frS9_w {C : zC} {n0 f b t : Nat} {F : Nat → Nat → Prop} {κ τ : zS} (W : zW C n0 κ) (H : frS9 (zn κ) F) (Z : zF F κ τ) (hr : zr f = some t) (ht : 20 ≤ t) (T : zT κ b = f / 100) (hf : f / 100 ≠ 8 ∧ f / 100 ≠ 11 ∧ f / 100 ≠ 4 ∧ f ≠ soCells ∧ f ≠ soRows ∧ f ≠ 0) (h0 : f / 100 ≠ 0) : zR τ f b = zR κ f b ∧ zA τ (zR τ f b) = zA κ (zR κ f b) ∧ zN τ (zR τ f b) = zN κ (zR κ f b) := by
  have T9 : zT κ b = (f / 100 - 1) + 1 := by omega
  have n := frS9_n W H T9 hf
  have ty := W.r hr T
  have t1 : zT κ (zR κ f b) = (t - 1) + 1 := by omega
  refine ⟨Z.r n, (Z.row W hr ht T n).1, ?_⟩
  rw [Z.r n]
  exact Z.l t1
theorem at_f9 {C : zC} {n0 b f : Nat} {F : Nat → Nat → Prop} {κ τ : zS} (W : zW C n0 κ) (H : frS9 (zn κ) F) (Z : zF F κ τ) (Tb : zT κ b = 3) (hf : f ∈ atRf) : zR τ f b = zR κ f b ∧ zA τ (zR τ f b) = zA κ (zR κ f b) ∧ zN τ (zR τ f b) = zN κ (zR κ f b) := by
  obtain ⟨⟨t, h1, h2⟩, h3⟩ := atRf_r f hf
  refine frS9_w W H Z h1 h2 (Tb.trans h3.symm) ⟨by omega, by omega, by omega, fun e => ?_, fun e => ?_, by omega⟩ (by omega)
  · rw [e] at h3; exact absurd h3 (by decide)
  · rw [e] at h3; exact absurd h3 (by decide)
theorem we_f9 {C : zC} {n0 b f : Nat} {F : Nat → Nat → Prop} {κ τ : zS} (W : zW C n0 κ) (H : frS9 (zn κ) F) (Z : zF F κ τ) (Tb : zT κ b = 14) (hf : f ∈ weRf) : zR τ f b = zR κ f b ∧ zA τ (zR τ f b) = zA κ (zR κ f b) ∧ zN τ (zR τ f b) = zN κ (zR κ f b) := by
  obtain ⟨⟨t, h1, h2⟩, h3⟩ := weRf_r f hf
  refine frS9_w W H Z h1 h2 (Tb.trans h3.symm) ⟨by omega, by omega, by omega, fun e => ?_, fun e => ?_, by omega⟩ (by omega)
  · rw [e] at h3; exact absurd h3 (by decide)
  · rw [e] at h3; exact absurd h3 (by decide)
theorem atW_f9 {C : zC} {n0 b n : Nat} {F : Nat → Nat → Prop} {κ τ : zS} (W : zW C n0 κ) (H : frS9 (zn κ) F) (Z : zF F κ τ) (Tb : zT κ b = 3) (A : atW κ b n) : atW τ b n := by
  have ts := ty_atStates W Tb
  have te := ty_atEndings W Tb
  have g := fun f hf => at_f9 W H Z Tb (f := f) hf
  obtain ⟨A1, A2, A3, A4, A5, A6⟩ := A
  have rs : zR τ atStates b = zR κ atStates b := Z.r (frS9_n W H Tb (by decide))
  have re : zR τ atEndings b = zR κ atEndings b := Z.r (frS9_n W H Tb (by decide))
  have is : zI τ hoTotal (zR κ atStates b) = zI κ hoTotal (zR κ atStates b) := Z.i (frS9_n W H ts (by decide))
  have ie : zI τ hoTotal (zR κ atEndings b) = zI κ hoTotal (zR κ atEndings b) := Z.i (frS9_n W H te (by decide))
  have ix : zI τ atNexts b = zI κ atNexts b := Z.i (frS9_n W H Tb (by decide))
  refine ⟨?_, ?_, A3, ?_, ?_, fun k hk => ?_⟩
  · unfold atM
    rw [(g atFirsts (by decide)).2.2, (g atTotals (by decide)).2.2, (g atGains (by decide)).2.2, (g atPlan (by decide)).2.2, (g atChooses (by decide)).2.2, (g atHopeless (by decide)).2.2]
    exact A1
  · unfold atL
    rw [(g atSorts (by decide)).2.2, (g atNumbers (by decide)).2.2, (g atWeights (by decide)).2.2]
    exact A2
  · rw [rs, is]; exact A4
  · rw [ix, (g atNumbers (by decide)).2.2]; exact A5
  · unfold exK
    rw [rs, re, is, ie, ix, (g atFirsts (by decide)).2.1, (g atTotals (by decide)).2.1, (g atChooses (by decide)).2.1, (g atSorts (by decide)).2.1, (g atNumbers (by decide)).2.1, (g atWeights (by decide)).2.1]
    exact A6 k hk
theorem dvA_f9 {C : zC} {n0 b : Nat} {F : Nat → Nat → Prop} {κ τ : zS} (W : zW C n0 κ) (H : frS9 (zn κ) F) (Z : zF F κ τ) (Tb : zT κ b = 3) : ∀ k, dvA τ b k = dvA κ b k := fun k => by
  unfold dvA
  rw [(at_f9 W H Z Tb (f := atChooses) (by decide)).2.1, (at_f9 W H Z Tb (f := atTotals) (by decide)).2.1]
theorem lkD_f9 {C : zC} {n0 b : Nat} {F : Nat → Nat → Prop} {κ τ : zS} {p : Int32} (W : zW C n0 κ) (H : frS9 (zn κ) F) (Z : zF F κ τ) (Tb : zT κ b = 3) : lkD τ b p = lkD κ b p := by
  have g := fun f hf => at_f9 W H Z Tb (f := f) hf
  funext t k i
  unfold lkD
  rw [(g atSorts (by decide)).2.1, (g atChooses (by decide)).2.1, (g atFirsts (by decide)).2.1, (g atPlan (by decide)).2.1, (g atNumbers (by decide)).2.1]
theorem weG_f9 {C : zC} {n0 w b n : Nat} {F : Nat → Nat → Prop} {κ τ : zS} {p : Int32} (W : zW C n0 κ) (H : frS9 (zn κ) F) (Z : zF F κ τ) (Tw : zT κ w = 14) (Tb : zT κ b = 3) (G : weG κ w b p n) : weG τ w b p n := by
  have g := fun f hf => we_f9 W H Z Tw (f := f) hf
  have ix : zI τ weTotal w = zI κ weTotal w := Z.i (frS9_n W H Tw (by decide))
  have e0 := lkD_f9 (p := p) W H Z Tb
  have e1 := (at_f9 W H Z Tb (f := atFirsts) (by decide)).2.1
  unfold weG weM weL
  rw [ix, e0, e1, (g weFirsts (by decide)).2.1, (g weTargets (by decide)).2.1, (g weBackFirsts (by decide)).2.1, (g weSources (by decide)).2.1, (g weEdges (by decide)).2.1, (g weFirsts (by decide)).2.2, (g weBackFirsts (by decide)).2.2, (g weOpen (by decide)).2.2, (g weKnotFirsts (by decide)).2.2, (g weKnotOf (by decide)).2.2, (g weOrder (by decide)).2.2, (g weSeen (by decide)).2.2, (g weLow (by decide)).2.2, (g weCursor (by decide)).2.2, (g wePath (by decide)).2.2, (g weHeap (by decide)).2.2, (g weSources (by decide)).2.2, (g weTargets (by decide)).2.2, (g weEdges (by decide)).2.2]
  exact G
theorem weKn_f9 {C : zC} {n0 w n : Nat} {F : Nat → Nat → Prop} {κ τ : zS} (W : zW C n0 κ) (H : frS9 (zn κ) F) (Z : zF F κ τ) (Tw : zT κ w = 14) (G : weKn κ w n) : weKn τ w n := by
  have g := fun f hf => we_f9 W H Z Tw (f := f) hf
  have ix : zI τ weKnots w = zI κ weKnots w := Z.i (frS9_n W H Tw (by decide))
  unfold weKn
  rw [ix, (g weKnotFirsts (by decide)).2.1, (g weOrder (by decide)).2.1, (g weKnotOf (by decide)).2.1]
  exact G
/-- what the Solver reads -/
def svX9 (κ : zS) (a n : Nat) : Prop := weG κ (zR κ soWeb a) (zR κ soAtlas a) 1 n ∧ weKn κ (zR κ soWeb a) n ∧ atW κ (zR κ soAtlas a) n ∧ n ≤ (zN κ (zR κ soVisits a))
theorem svX9_f {C : zC} {n0 a n : Nat} {F : Nat → Nat → Prop} {κ τ : zS} (W : zW C n0 κ) (Ta : zT κ a = 12) (H : frS9 (zn κ) F) (Z : zF F κ τ) (X : svX9 κ a n) : svX9 τ a n ∧ zR τ soWeb a = zR κ soWeb a ∧ zR τ soAtlas a = zR κ soAtlas a ∧ zR τ soVisits a = zR κ soVisits a := by
  have e1 : zR τ soWeb a = zR κ soWeb a := Z.r (frS9_n W H Ta (by decide))
  have e2 : zR τ soAtlas a = zR κ soAtlas a := Z.r (frS9_n W H Ta (by decide))
  have e3 := frS9_w (f := soVisits) W H Z (t := 25) (by decide +kernel) (by decide) Ta (by decide) (by decide)
  obtain ⟨X1, X2, X3, X4⟩ := X
  unfold svX9
  rw [e1, e2]
  exact ⟨⟨weG_f9 W H Z (ty_soWeb W Ta) (ty_soAtlas W Ta) X1, weKn_f9 W H Z (ty_soWeb W Ta) X2, atW_f9 W H Z (ty_soAtlas W Ta) X3, by rw [e3.2.2]; exact X4⟩, rfl, rfl, e3.1⟩
theorem soF_fr {ρ : Nat → Nat} {R : Nat → Prop} {ca m : Nat} : frS9 m (soF ρ R ca) := fun f b z => by
  rcases z with ⟨_, z | z | z⟩ | ⟨_, z | z | z | z⟩ <;> rw [z]
  · exact Or.inr (Or.inl (by decide))
  · exact Or.inr (Or.inl (by decide))
  · exact Or.inr (Or.inr (Or.inl (by decide)))
  · exact Or.inr (Or.inr (Or.inr (Or.inl (by decide))))
  · exact Or.inr (Or.inr (Or.inr (Or.inl (by decide))))
  · exact Or.inr (Or.inr (Or.inr (Or.inl (by decide))))
  · exact Or.inr (Or.inr (Or.inr (Or.inl (by decide))))
/-- a state's divisor as a number above 0 -/
def dvN9 (κ : zS) (x k : Nat) : Nat := if (dvA κ x k).toInt ≤ 1 then 1 else (dvA κ x k).toInt.toNat
theorem dvN9_p {κ : zS} {x k : Nat} : 0 < dvN9 κ x k := by
  unfold dvN9
  split <;> omega
/-- the fraction at a place -/
def vU9 (κ : zS) (a k : Nat) : Nat := (zQ κ (zR κ soVisits a) k).getD 0
/-- divides, or is 0 -/
def dz9 (b P : Nat) : Prop := b = 0 ∨ b ∣ P
theorem dz9_le {b P : Nat} (h : dz9 b P) (hP : 0 < P) : b ≤ P := by
  rcases h with h | h
  · omega
  · exact Nat.le_of_dvd hP h
theorem dz9_of {b c P : Nat} (h : dz9 c P) (d : b ∣ c) (l : b ≤ c) : dz9 b P := by
  rcases h with h | h
  · left; omega
  · exact Or.inr (Nat.dvd_trans d h)
theorem dz9_mul {b P d : Nat} (h : dz9 b P) : dz9 (b * d) (P * d) := by
  rcases h with h | h
  · left; rw [h, Nat.zero_mul]
  · exact Or.inr (Nat.mul_dvd_mul h (Nat.dvd_refl d))
theorem dz9_m {b P P' : Nat} (h : dz9 b P) (d : P ∣ P') : dz9 b P' := by
  rcases h with h | h
  · exact Or.inl h
  · exact Or.inr (Nat.dvd_trans h d)
theorem dz9_lcm {a b P : Nat} (h : dz9 a P) (g : dz9 b P) : dz9 (Nat.lcm a b) P := by
  rcases h with h | h
  · left; rw [h, Nat.lcm_zero_left]
  · rcases g with g | g
    · left; rw [g, Nat.lcm_zero_right]
    · exact Or.inr (Nat.lcm_dvd h g)
theorem dz9_div {w g P : Nat} (h : dz9 w P) (d : g ∣ w) : dz9 (w / g) P := by
  rcases h with h | h
  · left; rw [h, Nat.zero_div]
  · exact Or.inr (Nat.dvd_trans (Nat.div_dvd_of_dvd d) h)
/-- visits in order -/
def vsK9 (κ : zS) (u d P : Nat) : Prop := zI κ raSign u ≠ 0 → nuN κ (zR κ raTop u) < 2 ^ 256 ∧ nuN κ (zR κ raBottom u) < 2 ^ 256 ∧ dz9 (nuN κ (zR κ raBottom u) * d) P
def vsI9 (ρ : Nat → Nat) (κ : zS) (a n P : Nat) : Prop := ∀ k, k < n → zQ κ (zR κ soVisits a) k = some (vU9 κ a k) ∧ ρ (vU9 κ a k) = 100 + 8 * k ∧ vsK9 κ (vU9 κ a k) (dvN9 κ (zR κ soAtlas a) k) P
theorem soF_r9 {ρ : Nat → Nat} {R : Nat → Prop} {ca f b : Nat} {κ τ : zS} (Z : zF (soF ρ R ca) κ τ) (h : f ≠ nuLimbs ∧ f ≠ nuLength ∧ f ≠ raSign ∧ f ≠ caRest ∧ f ≠ caX ∧ f ≠ caY ∧ f ≠ caFactors) : zR τ f b = zR κ f b ∧ zI τ f b = zI κ f b := by
  have n : ¬ soF ρ R ca f b := fun z => by
    rcases z with ⟨_, z | z | z⟩ | ⟨_, z | z | z | z⟩
    · exact h.1 z
    · exact h.2.1 z
    · exact h.2.2.1 z
    · exact h.2.2.2.1 z
    · exact h.2.2.2.2.1 z
    · exact h.2.2.2.2.2.1 z
    · exact h.2.2.2.2.2.2 z
  exact ⟨Z.r n, Z.i n⟩
theorem soF_ra {ρ : Nat → Nat} {R : Nat → Prop} {ca b f : Nat} (h : f = raTop ∨ f = raBottom) : ¬ soF ρ R ca f b := fun z => by
  rcases z with ⟨_, z | z | z⟩ | ⟨_, z | z | z | z⟩ <;> (rw [z] at h; exact absurd h (by decide))
theorem soF_sg {ρ : Nat → Nat} {R : Nat → Prop} {ca b : Nat} (h : ¬ R (ρ b)) : ¬ soF ρ R ca raSign b := fun z => by
  rcases z with ⟨z, _⟩ | ⟨_, z | z | z | z⟩
  · exact h z
  · exact absurd z (by decide)
  · exact absurd z (by decide)
  · exact absurd z (by decide)
  · exact absurd z (by decide)
/-- a fraction that a frame leaves alone -/
theorem ra_f9 {C : zC} {n0 u r ca : Nat} {ρ : Nat → Nat} {R : Nat → Prop} {κ τ : zS} (W : zW C n0 κ) (N : nmI ρ κ) (Z : zF (soF ρ R ca) κ τ) (hu : ρ u = r) (hr : raR r) (h : ¬ R r ∧ ¬ R (r + 1) ∧ ¬ R (r + 2)) : zI τ raSign u = zI κ raSign u ∧ (zR τ raTop u = zR κ raTop u ∧ zR τ raBottom u = zR κ raBottom u) ∧ nuN τ (zR κ raTop u) = nuN κ (zR κ raTop u) ∧ nuN τ (zR κ raBottom u) = nuN κ (zR κ raBottom u) := by
  have P := N.2 u (by rw [hu]; exact hr)
  have b1 := soF_B (c := 0) W (ty_raTop W P.1) Z (by rw [P.2.1, hu]; exact h.2.1)
  have b2 := soF_B (c := 0) W (ty_raBottom W P.1) Z (by rw [P.2.2, hu]; exact h.2.2)
  exact ⟨Z.i (soF_sg (by rw [hu]; exact h.1)), ⟨Z.r (soF_ra (Or.inl rfl)), Z.r (soF_ra (Or.inr rfl))⟩, b1.2.1, b2.2.1⟩
theorem vU9_f {C : zC} {n0 a ca : Nat} {ρ : Nat → Nat} {R : Nat → Prop} {κ τ : zS} (W : zW C n0 κ) (Ta : zT κ a = 12) (Z : zF (soF ρ R ca) κ τ) : zQ τ (zR τ soVisits a) = zQ κ (zR κ soVisits a) ∧ ∀ k, vU9 τ a k = vU9 κ a k := by
  have T9 : zT κ a = 11 + 1 := Ta
  have e3 := (Z.row W (f := soVisits) (t := 25) (by decide +kernel) (by decide) Ta (frS9_n W soF_fr T9 (by decide))).2.2
  exact ⟨e3, fun k => by unfold vU9; rw [e3]⟩
theorem vsK9_f {C : zC} {n0 u r d P ca : Nat} {ρ : Nat → Nat} {R : Nat → Prop} {κ τ : zS} (W : zW C n0 κ) (N : nmI ρ κ) (Z : zF (soF ρ R ca) κ τ) (hu : ρ u = r) (hr : raR r) (h : ¬ R r ∧ ¬ R (r + 1) ∧ ¬ R (r + 2)) (V : vsK9 κ u d P) : vsK9 τ u d P := by
  have q := ra_f9 W N Z hu hr h
  unfold vsK9
  rw [q.1, q.2.1.1, q.2.1.2, q.2.2.1, q.2.2.2]
  exact V
theorem vs_r9 {k : Nat} (h : k < 1000) : raR (100 + 8 * k) := Or.inr (Or.inr ⟨by omega, by omega, by omega⟩)
theorem vsI9_f {C : zC} {n0 a n P ca : Nat} {ρ : Nat → Nat} {R : Nat → Prop} {κ τ : zS} (W : zW C n0 κ) (Ta : zT κ a = 12) (N : nmI ρ κ) (Z : zF (soF ρ R ca) κ τ) (hn : n ≤ 1000) (hR : ∀ r, 100 ≤ r → ¬ R r) (V : vsI9 ρ κ a n P) : vsI9 ρ τ a n P := fun k hk => by
  obtain ⟨h1, h2, h3⟩ := V k hk
  have e2 : zR τ soAtlas a = zR κ soAtlas a := Z.r (frS9_n W soF_fr Ta (by decide))
  obtain ⟨e3, e4⟩ := vU9_f W Ta Z
  have d := dvA_f9 W soF_fr Z (ty_soAtlas W Ta) k
  rw [e3, e4]
  refine ⟨h1, h2, ?_⟩
  unfold dvN9
  rw [e2, d]
  exact vsK9_f W N Z h2 (vs_r9 (by omega)) ⟨hR _ (by omega), hR _ (by omega), hR _ (by omega)⟩ h3
/-- a link that leads back -/
theorem bk_g9 {κ : zS} {a n t : Nat} {b : Int32} (X : svX9 κ a n) (ht : t < n) (h1 : (zA κ (zR κ weBackFirsts (zR κ soWeb a)) t).toInt ≤ b.toInt) (h2 : b.toInt < (zA κ (zR κ weBackFirsts (zR κ soWeb a)) (t + 1)).toInt) : (0 ≤ b.toInt ∧ b.toInt < (zN κ (zR κ weSources (zR κ soWeb a))) ∧ b.toInt < (zN κ (zR κ weEdges (zR κ soWeb a))) ∧ b.toInt < 20000) ∧ gdE (lkD κ (zR κ soAtlas a) 1) (zA κ (zR κ atFirsts (zR κ soAtlas a))) n t (zA κ (zR κ weSources (zR κ soWeb a)) b.toNatClampNeg) (zA κ (zR κ weEdges (zR κ soWeb a)) b.toNatClampNeg) := by
  obtain ⟨⟨⟨M, L⟩, _, _, B, E⟩, _⟩ := X
  have d : d01 (lkD κ (zR κ soAtlas a) 1) := fun _ _ _ => lkD_01
  have m0 := bkB_m d B (s := 0) (t := t) (Nat.zero_le _) (Nat.le_of_lt ht)
  have m1 := bkB_m d B (s := t + 1) (t := n) ht (Nat.le_refl n)
  have b0 := B.1
  have bn := B.2.2
  obtain ⟨⟨l1, l2⟩, l3, l4⟩ := L
  have p0 : 0 ≤ b.toInt := by omega
  have c := cnk p0
  refine ⟨⟨p0, by rw [l1]; omega, by rw [l2]; omega, by omega⟩, ?_⟩
  exact E t ht _ (by rw [c]; exact h1) (by rw [c]; exact h2)
/-- the rows of links behind a state -/
theorem bk_r9 {κ : zS} {a n t : Nat} (X : svX9 κ a n) (ht : t < n) : ((zN κ (zR κ weBackFirsts (zR κ soWeb a))) = 1001 ∧ (zN κ (zR κ weKnotOf (zR κ soWeb a))) = 1000 ∧ n ≤ 1000) ∧ 0 ≤ (zA κ (zR κ weBackFirsts (zR κ soWeb a)) t).toInt ∧ (zA κ (zR κ weBackFirsts (zR κ soWeb a)) t).toInt ≤ (zA κ (zR κ weBackFirsts (zR κ soWeb a)) (t + 1)).toInt ∧ (zA κ (zR κ weBackFirsts (zR κ soWeb a)) (t + 1)).toInt ≤ 20000 := by
  obtain ⟨⟨⟨M, L⟩, ⟨_, hn⟩, _, B, E⟩, _⟩ := X
  have d : d01 (lkD κ (zR κ soAtlas a) 1) := fun _ _ _ => lkD_01
  have m0 := bkB_m d B (s := 0) (t := t) (Nat.zero_le _) (Nat.le_of_lt ht)
  have m2 := bkB_m d B (s := t) (t := t + 1) (Nat.le_succ _) ht
  have m1 := bkB_m d B (s := t + 1) (t := n) ht (Nat.le_refl n)
  have b0 := B.1
  have bn := B.2.2
  have l4 := L.2.2
  exact ⟨⟨M.2.1, M.2.2.2.2.1, hn⟩, by omega, m2, by omega⟩
theorem So_comesIn_c {C : zC} {n0 : Nat} {a0 : Nat} {a1 : Int32} {a2 : Int32} {κ : zS} {Q : Int32 → zS → Prop} (W : zW C n0 κ) (Ta0 : zT κ a0 = 12) (ρ : Nat → Nat) (m9 P9 : Nat) (hp : svX9 κ a0 m9 ∧ vsI9 ρ κ a0 m9 P9 ∧ (0 ≤ a2.toInt ∧ a2.toInt < m9) ∧ (zA κ (zR κ weBackFirsts (zR κ soWeb a0)) a2.toNatClampNeg).toInt ≤ a1.toInt ∧ a1.toInt < (zA κ (zR κ weBackFirsts (zR κ soWeb a0)) (a2.toNatClampNeg + 1)).toInt) (h : ∀ (v : Int32), (nb v ∧ (v ≠ 0 → zI κ raSign (vU9 κ a0 (zA κ (zR κ weSources (zR κ soWeb a0)) a1.toNatClampNeg).toNatClampNeg) ≠ 0 ∧ (zA κ (zR κ weSources (zR κ soWeb a0)) a1.toNatClampNeg).toNatClampNeg ≠ a2.toNatClampNeg)) → Q v κ) : zRun C 0 mSo_comesIn [.ref a0, .int a1, .int a2] κ (oI Q noX) := by
  refine So_comesIn_run W Ta0 ?_
  replace W := W.lo (Nat.le_trans W.1.2.1 W.1.2.2) (Nat.le_refl (zn κ))
  unfold w_So_comesIn_0
  obtain ⟨X0, V0, p1, p2, p3⟩ := hp
  have kn := cnk p1.1
  have g := bk_g9 X0 (t := a2.toNatClampNeg) (by omega) p2 p3
  have r := bk_r9 X0 (t := a2.toNatClampNeg) (by omega)
  obtain ⟨⟨g1, g2, g3, g4⟩, ⟨s1, s2⟩, _, _⟩ := g
  have ks := cnk s1
  have xv := X0.2.2.2
  obtain ⟨h1, h2, h3⟩ := V0 _ (show (zA κ (zR κ weSources (zR κ soWeb a0)) a1.toNatClampNeg).toNatClampNeg < m9 by omega)
  refine ⟨?_, ?_⟩
  · rw [inb_iff]; exact ⟨g1, g2⟩  -- b1
  intro x1 hx1
  rw [← hx1] at s1 s2 ks h1 h2 h3
  refine ⟨?_, ?_⟩
  · rw [inb_iff]; omega  -- b2
  refine ⟨?_, ?_⟩
  · rw [inb_iff]; omega  -- b3
  refine ⟨fun c2 => ?_, fun c2 => ?_⟩
  · skip
    refine h _ ?_
    · exact ⟨Or.inl rfl, fun z => absurd rfl z⟩  -- q4
  · skip
    refine ⟨?_, ?_⟩
    · rw [inb_iff]; omega  -- b5
    refine ex_some ?_ (fun u3 hu3 => ?_)
    · exact ⟨_, h1⟩  -- e6
    refine ⟨fun c4 => ?_, fun c4 => ?_⟩
    · skip
      refine h _ ?_
      · exact ⟨Or.inl rfl, fun z => absurd rfl z⟩  -- q7
    · skip
      refine h _ ?_
      · refine ⟨Or.inr rfl, fun _ => ?_⟩
        have eu := Option.some.inj (hu3.symm.trans h1)
        rw [← hx1, ← eu]
        exact ⟨c4, fun e => c2 (by rw [e])⟩

def jiR9 : Nat → Prop := fun r => unR9 r ∨ jnR9 r
theorem jiR9_l : ∀ r, 100 ≤ r → ¬ jiR9 r := fun r h z => by
  rcases z with (z | z | z) | (z | z | z) <;> omega
/-- what a unit's bottom divides -/
theorem un_b9 {b B d P : Nat} (h : b ∣ B * d ∧ b ≤ B * d) (hP : dz9 (B * d) P) (hB : B < 2 ^ 256) (d1 : d < 2147483648) : dz9 b P ∧ b < pB9 100 := by
  refine ⟨dz9_of hP h.1 h.2, ?_⟩
  have l := h.2
  have l2 : B * d < 2 ^ 256 * 2147483648 := Nat.mul_lt_mul'' hB d1
  have l3 : 2 ^ 256 * 2147483648 ≤ pB9 100 := by unfold pB9; decide
  omega
theorem dvN9_l {κ : zS} {x k : Nat} : dvN9 κ x k < 2147483648 := by
  unfold dvN9
  have h := ihi (dvA κ x k)
  split <;> omega
theorem So_joinInflow_c {C : zC} {n0 : Nat} {a0 : Nat} {a1 : Int32} {κ : zS} {Q : zS → Prop} (W : zW C n0 κ) (Ta0 : zT κ a0 = 12) (ρ : Nat → Nat) (m9 P9 : Nat) (hp : (nmI ρ κ ∧ soI ρ κ a0) ∧ svX9 κ a0 m9 ∧ vsI9 ρ κ a0 m9 P9 ∧ (0 ≤ a1.toInt ∧ a1.toInt < m9) ∧ dz9 (nuN κ (zR κ soWhole a0)) P9 ∧ 0 < P9 ∧ P9 < pB9 2000) (h : ∀ (κ' : zS), (zF (soF ρ jiR9 (zR κ soCalc a0)) κ κ' ∧ (nmI ρ κ' ∧ soI ρ κ' a0) ∧ dz9 (nuN κ' (zR κ soWhole a0)) P9) → Q κ') : zRun C 6 mSo_joinInflow [.ref a0, .int a1] κ (oV Q noX) := by
  refine So_joinInflow_run W Ta0 ?_
  replace W := W.lo (Nat.le_trans W.1.2.1 W.1.2.2) (Nat.le_refl (zn κ))
  unfold w_So_joinInflow_0
  obtain ⟨⟨N0, S0⟩, X0, V0, p1, p2, p3, p4⟩ := hp
  have kn := cnk p1.1
  have r0 := bk_r9 X0 (t := a1.toNatClampNeg) (by omega)
  refine ⟨?_, ?_⟩
  · rw [inb_iff]; omega  -- b1
  intro x1 hx1
  unfold w_So_joinInflow_10
  refine ⟨fun n l0 l1 l2 τ => n = ((zA κ (zR κ weBackFirsts (zR κ soWeb a0)) (a1.toNatClampNeg + 1)).toInt - l2.toInt).toNat ∧ (a0 = l0 ∧ a1 = l1 ∧ (zF (soF ρ jiR9 (zR κ soCalc a0)) κ τ ∧ (nmI ρ τ ∧ soI ρ τ a0)) ∧ dz9 (nuN τ (zR κ soWhole a0)) P9 ∧ (zA κ (zR κ weBackFirsts (zR κ soWeb a0)) a1.toNatClampNeg).toInt ≤ l2.toInt), ⟨_, rfl, ?_⟩, ?_⟩
  · exact ⟨rfl, rfl, ⟨zF.rf, N0, S0⟩, p2, by rw [hx1]; exact Int.le_refl _⟩  -- j2
  rintro n10 _ _ x10_2 κ10 W10 T10_0 ⟨hn10, rfl, rfl, i10⟩
  obtain ⟨⟨Z1, N1, S1⟩, D1, l1⟩ := i10
  have X1 := svX9_f W Ta0 soF_fr Z1 X0
  have V1 := vsI9_f W Ta0 N0 Z1 r0.1.2.2 jiR9_l V0
  have eb : zA κ10 (zR κ10 weBackFirsts (zR κ10 soWeb a0)) = zA κ (zR κ weBackFirsts (zR κ soWeb a0)) := by rw [X1.2.1]; exact (we_f9 W soF_fr Z1 (ty_soWeb W Ta0) (f := weBackFirsts) (by decide)).2.1
  have r1 := bk_r9 X1.1 (t := a1.toNatClampNeg) (by omega)
  have i1 := cn1 p1.1 (by omega)
  have ec1 : zR κ10 soCalc a0 = (zR κ soCalc a0) := (soF_r9 Z1 (by decide)).1
  have ew1 : zR κ10 soWhole a0 = (zR κ soWhole a0) := (soF_r9 Z1 (by decide)).1
  refine ⟨?_, ?_⟩
  · rw [inb_iff, i1.2]; omega  -- b3
  refine ⟨fun c2 => ?_, fun c2 => ?_⟩
  · skip
    refine h _ ?_
    · exact ⟨Z1, ⟨N1, S1⟩, D1⟩  -- q4
  · skip
    intro T3
    rw [i1.1, eb, lei] at c2
    have ix := cn1 (x := x10_2) (by omega) (by omega)
    have g1 := bk_g9 X1.1 (t := a1.toNatClampNeg) (b := x10_2) (by omega) (by rw [eb]; exact l1) (by rw [eb]; omega)
    refine So_comesIn_c W10 T3 ρ m9 P9 ?_ (fun r4 q6 => ?_)
    · exact ⟨X1.1, V1, p1, by rw [eb]; exact l1, by rw [eb]; omega⟩  -- p5
    intro W7
    intro M8
    refine ⟨fun c9 => ?_, fun c9 => ?_⟩
    · skip
      intro x10 hx10
      refine ⟨_, ?_, rfl, ?_⟩
      · rw [hn10, hx10, ix.2]; omega  -- d6
      · exact ⟨rfl, rfl, ⟨Z1, N1, S1⟩, D1, by rw [hx10, ix.2]; omega⟩  -- i7
    · skip
      refine ⟨?_, ?_⟩
      · rw [inb_iff]; exact ⟨g1.1.1, g1.1.2.1⟩  -- b8
      intro T11
      have ks := cnk g1.2.1.1
      have gs := g1.2.1
      have xv := X1.1.2.2.2
      obtain ⟨v1, v2, v3⟩ := V1 _ (show (zA κ10 (zR κ10 weSources (zR κ10 soWeb a0)) x10_2.toNatClampNeg).toNatClampNeg < m9 by omega)
      obtain ⟨v5, v6, v7⟩ := v3 (q6.2 c9).1
      refine So_unit_c2 W7 T11 ρ (vU9 κ10 a0 (zA κ10 (zR κ10 weSources (zR κ10 soWeb a0)) x10_2.toNatClampNeg).toNatClampNeg) ?_ (fun κ_12 q13 => ?_)
      · exact ⟨⟨N1, S1⟩, X1.1.2.2.1.1, ⟨g1.2.1.1, by omega, by omega⟩, ⟨v1, v2⟩, v5, v6⟩  -- p9
      obtain ⟨⟨Zu, Nu, Su⟩, _, _, bd⟩ := q13
      have hb := un_b9 bd v7 v6 dvN9_l
      have P2 := Nu.2 (zR κ_12 soPart a0) (by rw [Su.1.2.2.2.2.2.2]; exact Or.inl rfl)
      have h22 : ρ (zR κ_12 raBottom (zR κ_12 soPart a0)) = 22 := by rw [P2.2.2, Su.1.2.2.2.2.2.2]
      have eb2 : zR κ_12 raBottom (zR κ_12 soPart a0) = zR κ10 raBottom (zR κ10 soPart a0) := by rw [(soF_r9 Zu (f := soPart) (by decide)).1, (soF_r9 Zu (f := raBottom) (by decide)).1]
      have ew2 : zR κ_12 soWhole a0 = (zR κ soWhole a0) := (soF_r9 Zu (by decide)).1.trans ew1
      have ec2 : zR κ_12 soCalc a0 = (zR κ soCalc a0) := (soF_r9 Zu (by decide)).1.trans ec1
      have bw := soF_B (c := 0) W10 (w := (zR κ soWhole a0)) (by rw [← ew1]; exact ty_soWhole W10 T10_0) Zu (by rw [S0.1.1]; unfold unR9; decide)
      have lw : nuN κ_12 (zR κ soWhole a0) < pB9 2000 := by
        rw [bw.2.1]
        exact Nat.lt_of_le_of_lt (dz9_le D1 p3) p4
      intro W14
      intro M15
      intro T16
      intro T17
      intro T18
      refine Ca_join_c W14 T16 T17 T18 6500 2000 6500 6500 ?_ (fun κ_19 q20 => ?_)
      · exact jn_p Nu Su h22 (Or.inr (Or.inr (Or.inl rfl))) (by decide) (by rw [ew2]; exact lw) (by rw [eb2]; exact hb.2)  -- p10
      intro W21
      intro M22
      intro x23 hx23
      have J := jn_q W14 Nu Su q20
      have Vj := q20.2.2.2
      rw [ew2, eb2] at Vj
      rw [ec2] at J
      rw [ec1] at Zu
      have Zf : zF (soF ρ jiR9 (zR κ soCalc a0)) κ κ_19 := (Z1.tr (soF_m (fun r z => Or.inl z) Zu)).tr (soF_m (fun r z => Or.inr z) J.2.1)
      refine ⟨_, ?_, rfl, ?_⟩
      · rw [hn10, hx23, ix.2]; omega  -- d11
      · refine ⟨rfl, rfl, ⟨Zf, J.1⟩, ?_, by rw [hx23, ix.2]; omega⟩
        rw [Vj, bw.2.1]
        exact dz9_lcm D1 hb.1

end
section
set_option maxHeartbeats 1600000
/-! the class: Solver's sumInflow -/
def suR9 : Nat → Prop := fun r => unR9 r ∨ adR9 r
theorem suR9_l : ∀ r, 100 ≤ r → ¬ suR9 r := fun r h z => by
  rcases z with (z | z | z) | (z | z | z | z | z | z) <;> omega
/-- how much one link may bring -/
def sM9 : Nat := 2 ^ 287
theorem sm_b9 {i : Nat} (h : i ≤ 20000) : 1 + i * sM9 ≤ pB9 11 := by
  have l : i * sM9 ≤ 20000 * sM9 := Nat.mul_le_mul_right _ h
  have m : 1 + 20000 * sM9 ≤ pB9 11 := by unfold sM9 pB9; decide
  exact Nat.le_trans (Nat.add_le_add_left l 1) m
theorem pB9_l {m n : Nat} (h : m ≤ n) : pB9 m ≤ pB9 n := Nat.pow_le_pow_right (by decide) h
theorem pB9_s {m n : Nat} (h : m < n) : pB9 m < pB9 n := Nat.pow_lt_pow_right (by decide) h
theorem pB9_p {m : Nat} : 0 < pB9 m := Nat.pow_pos (by decide)
theorem tm_b9 {T w q h : Nat} (h1 : T < 2 ^ 256) (h2 : w < 2147483648) (h3 : q ≤ h) : T * w * q ≤ h * sM9 := by
  have e : sM9 = 2 ^ 256 * 2147483648 := by unfold sM9; decide
  rw [e, Nat.mul_comm h]
  exact Nat.mul_le_mul (Nat.mul_le_mul (Nat.le_of_lt h1) (Nat.le_of_lt h2)) h3
theorem sm_s9 {h i s t : Nat} (hs : s ≤ h * (1 + i * sM9)) (ht : t ≤ h * sM9) : s + t ≤ h * (1 + (i + 1) * sM9) := by
  have e : h * (1 + (i + 1) * sM9) = h * (1 + i * sM9) + h * sM9 := by rw [Nat.add_mul, Nat.one_mul, ← Nat.add_assoc, Nat.mul_add]
  rw [e]
  exact Nat.add_le_add hs ht
/-- the next behind a link -/
theorem eg_9 {κ : zS} {a n t : Nat} {s e : Int32} (X : svX9 κ a n) (G : gdE (lkD κ (zR κ soAtlas a) 1) (zA κ (zR κ atFirsts (zR κ soAtlas a))) n t s e) : (0 ≤ e.toInt ∧ e.toInt < (zN κ (zR κ atWeights (zR κ soAtlas a)))) ∧ 0 ≤ (zA κ (zR κ atWeights (zR κ soAtlas a)) e.toNatClampNeg).toInt := by
  obtain ⟨_, _, A, _⟩ := X
  obtain ⟨⟨g1, g2⟩, ⟨g3, g4⟩, _⟩ := G
  obtain ⟨_, AL, _, _, A5, A6⟩ := A
  have ks := cnk g1
  have E := A6 s.toNatClampNeg (by omega)
  obtain ⟨⟨e1, e2, e3⟩, e4, _⟩ := E
  have e0 : 0 ≤ e.toInt := by omega
  have ke := cnk e0
  have l := AL.1.2
  exact ⟨⟨e0, by rw [l]; omega⟩, (e4 e.toNatClampNeg (by omega) (by omega)).2.2⟩
theorem So_sumInflow_c {C : zC} {n0 : Nat} {a0 : Nat} {a1 : Int32} {κ : zS} {Q : zS → Prop} (W : zW C n0 κ) (Ta0 : zT κ a0 = 12) (ρ : Nat → Nat) (m9 P9 : Nat) (hp : (nmI ρ κ ∧ soI ρ κ a0) ∧ svX9 κ a0 m9 ∧ vsI9 ρ κ a0 m9 P9 ∧ (0 ≤ a1.toInt ∧ a1.toInt < m9) ∧ nuN κ (zR κ soWhole a0) < pB9 1900 ∧ nuN κ (zR κ soLess a0) < pB9 4000) (h : ∀ (κ' : zS), (zF (soF ρ suR9 (zR κ soCalc a0)) κ κ' ∧ (nmI ρ κ' ∧ soI ρ κ' a0) ∧ nuN κ' (zR κ soSum a0) ≤ (nuN κ (zR κ soWhole a0) + 1) * pB9 11 ∧ nuN κ' (zR κ soLess a0) ≤ nuN κ (zR κ soLess a0)) → Q κ') : zRun C 5 mSo_sumInflow [.ref a0, .int a1] κ (oV Q noX) := by
  refine So_sumInflow_run W Ta0 ?_
  replace W := W.lo (Nat.le_trans W.1.2.1 W.1.2.2) (Nat.le_refl (zn κ))
  unfold w_So_sumInflow_0
  obtain ⟨⟨N0, S0⟩, X0, V0, p1, p2, p3⟩ := hp
  have kn := cnk p1.1
  have r0 := bk_r9 X0 (t := a1.toNatClampNeg) (by omega)
  have g1 := nm_g N0 S0.1.1 (Or.inl ⟨by decide, by decide⟩) (by decide)
  have g7 := nm_g N0 S0.1.2.2.2.2.1 (Or.inl ⟨by decide, by decide⟩) (by decide)
  have ne17 := ro_n S0.1.1 S0.1.2.2.2.2.1 (by decide)
  have z64 : (0 : Int64).toInt = 0 := rfl
  have hj23 : ∀ (l0 : Nat) (l1 : Int32) (τ : zS), zW C (zn κ) τ → zT τ l0 = 12 → (a0 = l0 ∧ a1 = l1 ∧ zF (soF ρ suR9 (zR κ soCalc a0)) κ τ ∧ (nmI ρ τ ∧ soI ρ τ a0) ∧ nuN τ (zR κ soSum a0) ≤ nuN κ (zR κ soWhole a0) ∧ nuN τ (zR κ soLess a0) ≤ nuN κ (zR κ soLess a0)) → w_So_sumInflow_23 C (zn κ) Q  l0 l1 τ := by
    rintro _ _ τ23 W23 T23_0 ⟨rfl, rfl, j23⟩
    unfold w_So_sumInflow_23
    obtain ⟨Zj, ⟨Nj, Sj⟩, Dj, Ej⟩ := j23
    have Xj := svX9_f W Ta0 soF_fr Zj X0
    have ebj : zA τ23 (zR τ23 weBackFirsts (zR τ23 soWeb a0)) = zA κ (zR κ weBackFirsts (zR κ soWeb a0)) := by rw [Xj.2.1]; exact (we_f9 W soF_fr Zj (ty_soWeb W Ta0) (f := weBackFirsts) (by decide)).2.1
    have rj := bk_r9 Xj.1 (t := a1.toNatClampNeg) (by omega)
    refine ⟨?_, ?_⟩
    · rw [inb_iff]; omega  -- b1
    intro x1 hx1
    unfold w_So_sumInflow_33
    refine ⟨fun n l0 l1 l2 τ => n = ((zA κ (zR κ weBackFirsts (zR κ soWeb a0)) (a1.toNatClampNeg + 1)).toInt - l2.toInt).toNat ∧ (a0 = l0 ∧ a1 = l1 ∧ (zF (soF ρ suR9 (zR κ soCalc a0)) κ τ ∧ nmI ρ τ ∧ soI ρ τ a0) ∧ nuN τ (zR κ soSum a0) ≤ (nuN κ (zR κ soWhole a0) + 1) * (1 + (l2.toInt - (zA κ (zR κ weBackFirsts (zR κ soWeb a0)) a1.toNatClampNeg).toInt).toNat * sM9) ∧ nuN τ (zR κ soLess a0) ≤ nuN κ (zR κ soLess a0) ∧ (zA κ (zR κ weBackFirsts (zR κ soWeb a0)) a1.toNatClampNeg).toInt ≤ l2.toInt ∧ l2.toInt ≤ (zA κ (zR κ weBackFirsts (zR κ soWeb a0)) (a1.toNatClampNeg + 1)).toInt), ⟨_, rfl, ?_⟩, ?_⟩
    · refine ⟨rfl, rfl, ⟨Zj, Nj, Sj⟩, ?_, Ej, by rw [hx1, ebj]; exact Int.le_refl _, by rw [hx1, ebj]; omega⟩
      exact Nat.le_trans (Nat.le_trans Dj (Nat.le_succ _)) (Nat.le_mul_of_pos_right _ (by omega))
    rintro n33 _ _ x33_2 κ33 W33 T33_0 ⟨hn33, rfl, rfl, i33⟩
    obtain ⟨⟨Z1, N1, S1⟩, D1, E1, l1, l2u⟩ := i33
    have X1 := svX9_f W Ta0 soF_fr Z1 X0
    have V1 := vsI9_f W Ta0 N0 Z1 r0.1.2.2 suR9_l V0
    have eb : zA κ33 (zR κ33 weBackFirsts (zR κ33 soWeb a0)) = zA κ (zR κ weBackFirsts (zR κ soWeb a0)) := by rw [X1.2.1]; exact (we_f9 W soF_fr Z1 (ty_soWeb W Ta0) (f := weBackFirsts) (by decide)).2.1
    have r1 := bk_r9 X1.1 (t := a1.toNatClampNeg) (by omega)
    have i1 := cn1 p1.1 (by omega)
    have ec1 : zR κ33 soCalc a0 = (zR κ soCalc a0) := (soF_r9 Z1 (by decide)).1
    have ew1 : zR κ33 soWhole a0 = (zR κ soWhole a0) := (soF_r9 Z1 (by decide)).1
    have es1 : zR κ33 soSum a0 = (zR κ soSum a0) := (soF_r9 Z1 (by decide)).1
    have el1 : zR κ33 soLess a0 = (zR κ soLess a0) := (soF_r9 Z1 (by decide)).1
    have bw1 := soF_B (c := 0) W (ty_soWhole W Ta0) Z1 (by rw [S0.1.1]; unfold suR9 unR9 adR9; decide)
    refine ⟨?_, ?_⟩
    · rw [inb_iff, i1.2]; omega  -- b3
    refine ⟨fun c2 => ?_, fun c2 => ?_⟩
    · skip
      refine h _ ?_
      · refine ⟨Z1, ⟨N1, S1⟩, ?_, E1⟩
        refine Nat.le_trans D1 (Nat.mul_le_mul_left _ (sm_b9 ?_))
        omega
    · skip
      intro T3
      rw [i1.1, eb, lei] at c2
      have ix := cn1 (x := x33_2) (by omega) (by omega)
      have g2 := bk_g9 X1.1 (t := a1.toNatClampNeg) (b := x33_2) (by omega) (by rw [eb]; exact l1) (by rw [eb]; omega)
      refine So_comesIn_c W33 T3 ρ m9 P9 ?_ (fun r4 q6 => ?_)
      · exact ⟨X1.1, V1, p1, by rw [eb]; exact l1, by rw [eb]; omega⟩  -- p5
      intro W7
      intro M8
      refine ⟨fun c9 => ?_, fun c9 => ?_⟩
      · skip
        intro x10 hx10
        refine ⟨_, ?_, rfl, ?_⟩
        · rw [hn33, hx10, ix.2]; omega  -- d6
        · refine ⟨rfl, rfl, ⟨Z1, N1, S1⟩, ?_, E1, by rw [hx10, ix.2]; omega, by rw [hx10, ix.2]; omega⟩
          exact Nat.le_trans D1 (Nat.mul_le_mul_left _ (Nat.add_le_add_left (Nat.mul_le_mul_right _ (by rw [hx10, ix.2]; omega)) _))
      · skip
        refine ⟨?_, ?_⟩
        · rw [inb_iff]; exact ⟨g2.1.1, g2.1.2.1⟩  -- b8
        intro T11
        have ks := cnk g2.2.1.1
        have gs := g2.2.1
        have xv := X1.1.2.2.2
        obtain ⟨v1, v2, v3⟩ := V1 _ (show (zA κ33 (zR κ33 weSources (zR κ33 soWeb a0)) x33_2.toNatClampNeg).toNatClampNeg < m9 by omega)
        obtain ⟨v5, v6, v7⟩ := v3 (q6.2 c9).1
        refine So_unit_c2 W7 T11 ρ (vU9 κ33 a0 (zA κ33 (zR κ33 weSources (zR κ33 soWeb a0)) x33_2.toNatClampNeg).toNatClampNeg) ?_ (fun κ_12 q13 => ?_)
        · exact ⟨⟨N1, S1⟩, X1.1.2.2.1.1, ⟨g2.2.1.1, by omega, by omega⟩, ⟨v1, v2⟩, v5, v6⟩  -- p9
        obtain ⟨⟨Zu, Nu, Su⟩, _, tu, bd⟩ := q13
        have X2 := svX9_f W33 T33_0 soF_fr Zu X1.1
        have eb2 : zA κ_12 (zR κ_12 weBackFirsts (zR κ_12 soWeb a0)) = zA κ (zR κ weBackFirsts (zR κ soWeb a0)) := by rw [X2.2.1, (we_f9 W33 soF_fr Zu (ty_soWeb W33 T33_0) (f := weBackFirsts) (by decide)).2.1]; exact eb
        have g3 := bk_g9 X2.1 (t := a1.toNatClampNeg) (b := x33_2) (by omega) (by rw [eb2]; exact l1) (by rw [eb2]; omega)
        have g4 := eg_9 X2.1 g3.2
        have ec2 : zR κ_12 soCalc a0 = (zR κ soCalc a0) := (soF_r9 Zu (by decide)).1.trans ec1
        have ew2 : zR κ_12 soWhole a0 = (zR κ soWhole a0) := (soF_r9 Zu (by decide)).1.trans ew1
        have es2 : zR κ_12 soSum a0 = (zR κ soSum a0) := (soF_r9 Zu (by decide)).1.trans es1
        have el2 : zR κ_12 soLess a0 = (zR κ soLess a0) := (soF_r9 Zu (by decide)).1.trans el1
        have et2 : zR κ_12 raTop (zR κ_12 soPart a0) = zR κ33 raTop (zR κ33 soPart a0) := by rw [(soF_r9 Zu (f := soPart) (by decide)).1, (soF_r9 Zu (f := raTop) (by decide)).1]
        have eo2 : zR κ_12 raBottom (zR κ_12 soPart a0) = zR κ33 raBottom (zR κ33 soPart a0) := by rw [(soF_r9 Zu (f := soPart) (by decide)).1, (soF_r9 Zu (f := raBottom) (by decide)).1]
        have bw2 := soF_B (c := 0) W33 (w := (zR κ soWhole a0)) (by rw [← ew1]; exact ty_soWhole W33 T33_0) Zu (by rw [S0.1.1]; unfold unR9; decide)
        have bs2 := soF_B (c := 0) W33 (w := (zR κ soSum a0)) (by rw [← es1]; exact ty_soSum W33 T33_0) Zu (by rw [S0.1.2.2.2.2.1]; unfold unR9; decide)
        have bl2 := soF_B (c := 0) W33 (w := (zR κ soLess a0)) (by rw [← el1]; exact ty_soLess W33 T33_0) Zu (by rw [S0.1.2.2.2.2.2.1]; unfold unR9; decide)
        have tl : nuN κ_12 (zR κ33 raTop (zR κ33 soPart a0)) < 2 ^ 256 := Nat.lt_of_le_of_lt tu v5
        have h256 : 2 ^ 256 ≤ pB9 100 := by unfold pB9; decide
        have lS : nuN κ33 (zR κ soSum a0) < pB9 4000 := by
          have q1 := Nat.le_trans D1 (Nat.mul_le_mul_left _ (sm_b9 (i := (x33_2.toInt - (zA κ (zR κ weBackFirsts (zR κ soWeb a0)) a1.toNatClampNeg).toInt).toNat) (by omega)))
          have q2 : (nuN κ (zR κ soWhole a0) + 1) * pB9 11 ≤ pB9 1900 * pB9 11 := Nat.mul_le_mul_right _ p2
          rw [← pB9_a] at q2
          exact Nat.lt_of_le_of_lt (Nat.le_trans q1 q2) (pB9_s (by decide))
        have lW : nuN κ (zR κ soWhole a0) < pB9 2000 := Nat.lt_of_lt_of_le p2 (pB9_l (by decide))
        intro W14
        intro M15
        refine ⟨?_, ?_⟩
        · rw [inb_iff]; exact ⟨g3.1.1, g3.1.2.2.1⟩  -- b10
        refine ⟨?_, ?_⟩
        · rw [inb_iff]; exact g4.1  -- b11
        intro T16
        have ei := Int32.toInt_toInt64 (zA κ_12 (zR κ_12 atWeights (zR κ_12 soAtlas a0)) (zA κ_12 (zR κ_12 weEdges (zR κ_12 soWeb a0)) x33_2.toNatClampNeg).toNatClampNeg)
        have eh := ihi (zA κ_12 (zR κ_12 atWeights (zR κ_12 soAtlas a0)) (zA κ_12 (zR κ_12 weEdges (zR κ_12 soWeb a0)) x33_2.toNatClampNeg).toNatClampNeg)
        have e0 := g4.2
        refine So_addTerm_c2 W14 T16 ρ ?_ (fun κ_17 q18 => ?_)
        · rw [ew2, et2, es2, el2, bw2.2.1, bs2.2.1, bl2.2.1, bw1.2.1, ei]
          exact ⟨⟨Nu, Su⟩, ⟨by omega, by omega⟩, ⟨lW, Nat.lt_of_lt_of_le tl h256⟩, lS, Nat.lt_of_le_of_lt E1 p3⟩
        intro W19
        intro M20
        intro x21 hx21
        rw [ew2, et2, es2, el2, ec2, bw2.2.1, bs2.2.1, bl2.2.1, bw1.2.1, ei] at q18
        obtain ⟨Za, Na, A1, A2⟩ := q18
        rw [ec1] at Zu
        have Zf : zF (soF ρ suR9 (zR κ soCalc a0)) κ κ_17 := (Z1.tr (soF_m (fun r z => Or.inl z) Zu)).tr (soF_m (fun r z => Or.inr z) Za)
        have nx : (x21.toInt - (zA κ (zR κ weBackFirsts (zR κ soWeb a0)) a1.toNatClampNeg).toInt).toNat = (x33_2.toInt - (zA κ (zR κ weBackFirsts (zR κ soWeb a0)) a1.toNatClampNeg).toInt).toNat + 1 := by rw [hx21, ix.2]; omega
        refine ⟨_, ?_, rfl, ?_⟩
        · rw [hn33, hx21, ix.2]; omega  -- d13
        · by_cases z : 0 < (zA κ_12 (zR κ_12 atWeights (zR κ_12 soAtlas a0)) (zA κ_12 (zR κ_12 weEdges (zR κ_12 soWeb a0)) x33_2.toNatClampNeg).toNatClampNeg).toInt
          · obtain ⟨B1, B2⟩ := A1 z
            refine ⟨rfl, rfl, ⟨Zf, Na⟩, ?_, by rw [B2]; exact E1, by rw [hx21, ix.2]; omega, by rw [hx21, ix.2]; omega⟩
            rw [nx]
            exact Nat.le_trans B1 (sm_s9 D1 (tm_b9 tl (by omega) (Nat.le_refl _)))
          · obtain ⟨B1, B2⟩ := A2 z
            refine ⟨rfl, rfl, ⟨Zf, Na⟩, ?_, ?_, by rw [hx21, ix.2]; omega, by rw [hx21, ix.2]; omega⟩
            · rw [nx, B2]
              exact Nat.le_trans D1 (Nat.mul_le_mul_left _ (Nat.add_le_add_left (Nat.mul_le_mul_right _ (Nat.le_succ _)) _))
            · have w0 : (zA κ_12 (zR κ_12 atWeights (zR κ_12 soAtlas a0)) (zA κ_12 (zR κ_12 weEdges (zR κ_12 soWeb a0)) x33_2.toNatClampNeg).toNatClampNeg).toInt.natAbs = 0 := by omega
              rw [w0, Nat.mul_zero, Nat.zero_mul, Nat.add_zero] at B1
              exact Nat.le_trans B1 E1
  intro T22
  refine Nu_put_c W T22 6500 ?_ (fun κ_23 q24 => ?_)
  · exact ⟨by decide, g7.2.2⟩  -- p15
  obtain ⟨Fp, ⟨Rp, Np⟩, Ip, Vp⟩ := q24
  have Zp : zF (soF ρ suR9 (zR κ soCalc a0)) κ κ_23 := soF_1 (by rw [S0.1.2.2.2.2.1]; exact Or.inr (Or.inr (Or.inr (Or.inr (Or.inl rfl))))) Fp
  have Nq : nmI ρ κ_23 := nm_1 W N0 Fp (by rw [S0.1.2.2.2.2.1]; exact Ip)
  have Sq : soI ρ κ_23 a0 := so_1 W Ta0 S0 Fp
  have bl := nuB_z (c := 0) W (ty_soLess W Ta0) Fp (fun z => ro_n S0.1.2.2.2.2.2.1 S0.1.2.2.2.2.1 (by decide) z.1) (fun z => ro_n S0.1.2.2.2.2.2.1 S0.1.2.2.2.2.1 (by decide) z.1)
  have bw := nuB_z (c := 6500) W (ty_soWhole W Ta0) Fp (fun z => ne17 z.1) (fun z => ne17 z.1)
  intro W25
  intro M26
  refine ⟨fun c27 => ?_, fun c27 => ?_⟩
  · skip
    refine hj23 _ _ _ W25 ?_ ?_
    · exact Fp.t Ta0 (by decide)  -- t16
    · exact ⟨rfl, rfl, Zp, ⟨Nq, Sq⟩, by rw [Vp]; exact Nat.zero_le _, Nat.le_of_eq bl.2.2.1⟩  -- k17
  · skip
    intro T28
    intro T29
    refine Nu_copy_c W25 T28 T29 6500 6500 ?_ (fun κ_30 q31 => ?_)
    · rw [Rp]
      have k1 := nuK_lt g1.1 p2
      have ip := Ip.1.2.1
      rw [Rp] at ip
      exact ⟨ip, bw.1 g1.1.1, fun z => ne17 z.symm, by rw [bw.2.2.2]; omega, by decide⟩
    intro W32
    intro M33
    rw [Rp, bw.2.2.1] at q31
    obtain ⟨Fc, Bc, Vc, Kc, Zc⟩ := q31
    have bl3 := nuB_z (c := 0) W25 (Fp.t (ty_soLess W Ta0) (by decide)) Fc (fun z => ro_n S0.1.2.2.2.2.2.1 S0.1.2.2.2.2.1 (by decide) z.1) (fun z => ro_n S0.1.2.2.2.2.2.1 S0.1.2.2.2.2.1 (by decide) z.1)
    refine hj23 _ _ _ W32 ?_ ?_
    · exact Fc.t (Fp.t Ta0 (by decide)) (by decide)  -- t19
    · refine ⟨rfl, rfl, Zp.tr (soF_1 (by rw [S0.1.2.2.2.2.1]; exact Or.inr (Or.inr (Or.inr (Or.inr (Or.inl rfl))))) Fc), ⟨nm_1 W25 Nq Fc (by rw [S0.1.2.2.2.2.1]; exact ⟨Bc, Zc (bw.2.1 g1.1).2⟩), so_1 W25 (Fp.t Ta0 (by decide)) Sq Fc⟩, by rw [Vc]; exact Nat.le_refl _, by rw [bl3.2.2.1, bl.2.2.1]; exact Nat.le_refl _⟩  -- k20

end
section
set_option maxHeartbeats 1600000
/-! the class: Solver's visitOne -/
def voR9 (w : Nat) : Nat → Prop := fun r => r < 100 ∨ r = w ∨ r = w + 1 ∨ r = w + 2
theorem voR9_j {w r : Nat} (h : jiR9 r) : voR9 w r := by
  left
  rcases h with (z | z | z) | (z | z | z) <;> omega
theorem voR9_s {w r : Nat} (h : suR9 r) : voR9 w r := by
  left
  rcases h with (z | z | z) | (z | z | z | z | z | z) <;> omega
theorem voR9_k {w r : Nat} (h : kpR9 w r) : voR9 w r := by
  rcases h with (z | z | z | z) | z
  · left; omega
  · left; omega
  · left; omega
  · left; omega
  · exact Or.inr z
theorem vsK9_m {κ : zS} {u d P P' : Nat} (h : P ∣ P') (V : vsK9 κ u d P) : vsK9 κ u d P' := fun s => by
  obtain ⟨h2, h3, h4⟩ := V s
  exact ⟨h2, h3, dz9_m h4 h⟩
/-- a fraction of a role, in order -/
theorem ra_g9 {ρ : Nat → Nat} {κ : zS} {u r : Nat} (N : nmI ρ κ) (hu : ρ u = r) (h1 : 100 ≤ r) (h2 : r < 999990) (h3 : r % 4 = 0) : (zT κ u = 11 ∧ raR r) ∧ (ρ (zR κ raTop u) = r + 1 ∧ ρ (zR κ raBottom u) = r + 2) ∧ raC κ u 20 ∧ raJ κ u 20 := by
  have hr : raR r := Or.inr (Or.inr ⟨h1, by omega, h3⟩)
  have P := N.2 u (by rw [hu]; exact hr)
  have t : ρ (zR κ raTop u) = r + 1 := by rw [P.2.1, hu]
  have b : ρ (zR κ raBottom u) = r + 2 := by rw [P.2.2, hu]
  have gt := nm_g N t (raR_n hr).1 (by omega)
  have gb := nm_g N b (raR_n hr).2 (by omega)
  have c := cap_v h1 h2
  rw [c.2.1] at gt
  rw [c.2.2] at gb
  have ne := ro_n t b (by omega)
  exact ⟨⟨P.1, hr⟩, ⟨t, b⟩, ⟨gt.2.2, gb.2.2, ne⟩, gt.1, gb.1, ne⟩
/-- and written -/
theorem ra_w9 {C : zC} {n0 a p r : Nat} {ρ : Nat → Nat} {κ τ : zS} (W : zW C n0 κ) (Ta : zT κ a = 12) (N : nmI ρ κ) (I : soI ρ κ a) (hp : ρ p = r) (h1 : 100 ≤ r) (h2 : r < 999990) (h3 : r % 4 = 0) (Z : zF (raF (zR κ raTop p) (zR κ raBottom p) p) κ τ) (J : raJ τ p 20) : (nmI ρ τ ∧ soI ρ τ a) ∧ ∀ ca, zF (soF ρ (fun q => q = r ∨ q = r + 1 ∨ q = r + 2) ca) κ τ := by
  have c := cap_v h1 h2
  have e1 : zR τ raTop p = zR κ raTop p := raF_r Z (by decide) (by decide) (by decide)
  have e2 : zR τ raBottom p = zR κ raBottom p := raF_r Z (by decide) (by decide) (by decide)
  have j1 := J.1
  have j2 := J.2.1
  rw [e1] at j1
  rw [e2] at j2
  exact nm_ra W Ta N I hp (Or.inr (Or.inr ⟨h1, by omega, h3⟩)) Z (by rw [c.2.1]; exact j1) (by rw [c.2.2]; exact j2)
theorem So_visitOne_c {C : zC} {n0 : Nat} {a0 : Nat} {a1 : Int32} {κ : zS} {Q : Int32 → zS → Prop} (W : zW C n0 κ) (Ta0 : zT κ a0 = 12) (ρ : Nat → Nat) (m9 P9 : Nat) (hp : (nmI ρ κ ∧ soI ρ κ a0) ∧ svX9 κ a0 m9 ∧ vsI9 ρ κ a0 m9 P9 ∧ (0 ≤ a1.toInt ∧ a1.toInt < m9) ∧ (0 < P9 ∧ P9 < pB9 1900) ∧ nuN κ (zR κ soLess a0) < pB9 4000) (h : ∀ (v : Int32) (κ' : zS), (nb v ∧ (zF (soF ρ (voR9 (100 + 8 * a1.toNatClampNeg)) (zR κ soCalc a0)) κ κ' ∧ nmI ρ κ' ∧ soI ρ κ' a0) ∧ nuN κ' (zR κ soLess a0) ≤ nuN κ (zR κ soLess a0) ∧ (v ≠ 0 → vsK9 κ' (vU9 κ a0 a1.toNatClampNeg) (dvN9 κ (zR κ soAtlas a0) a1.toNatClampNeg) (P9 * dvN9 κ (zR κ soAtlas a0) a1.toNatClampNeg))) → Q v κ') : zRun C 7 mSo_visitOne [.ref a0, .int a1] κ (oI Q noX) := by
  refine So_visitOne_run W Ta0 ?_
  replace W := W.lo (Nat.le_trans W.1.2.1 W.1.2.2) (Nat.le_refl (zn κ))
  unfold w_So_visitOne_0
  obtain ⟨⟨N0, S0⟩, X0, V0, p1, ⟨p2, p3⟩, p4⟩ := hp
  have kn := cnk p1.1
  have r0 := bk_r9 X0 (t := a1.toNatClampNeg) (by omega)
  obtain ⟨vk1, vk2, vk3⟩ := V0 a1.toNatClampNeg (by omega)
  have xv := X0.2.2.2
  have g1 := nm_g N0 S0.1.1 (Or.inl ⟨by decide, by decide⟩) (by decide)
  have gk := ra_g9 N0 vk2 (by omega) (by omega) (by omega)
  have i1 := cn1 p1.1 (by omega)
  have o1 : (1 : Int64).toInt.toNat = 1 := rfl
  have hj134 : ∀ (l0 : Nat) (l1 : Int32) (l2 : Int32) (τ : zS), zW C (zn κ) τ → zT τ l0 = 12 → (κ = τ ∧ a0 = l0 ∧ a1 = l1 ∧ True) → w_So_visitOne_134 C (zn κ) Q  l0 l1 l2 τ := by
    rintro _ _ y134_2 _ W134 T134_0 ⟨rfl, rfl, rfl, j134⟩
    unfold w_So_visitOne_134
    refine ⟨fun c1 => ?_, fun c1 => ?_⟩
    · skip
      intro T2
      refine Nu_put_c W134 T2 6500 ?_ (fun κ_3 q4 => ?_)
      · exact ⟨by decide, g1.2.2⟩  -- p1
      obtain ⟨Fp, ⟨Rp, Np⟩, Ip, Vp⟩ := q4
      have Zp : zF (soF ρ (fun r => r = 1) (zR κ soCalc a0)) κ κ_3 := soF_1 S0.1.1 Fp
      have N3 : nmI ρ κ_3 := nm_1 W N0 Fp (by rw [S0.1.1]; exact Ip)
      have S3 : soI ρ κ_3 a0 := so_1 W Ta0 S0 Fp
      have T3' : zT κ_3 a0 = 12 := Fp.t Ta0 (by decide)
      have X3 := svX9_f W Ta0 soF_fr Zp X0
      have V3 := vsI9_f W Ta0 N0 Zp r0.1.2.2 (fun r h e => by omega) V0
      intro W5
      intro M6
      intro T7
      refine So_joinInflow_c W5 T7 ρ m9 P9 ?_ (fun κ_8 q9 => ?_)
      · refine ⟨⟨N3, S3⟩, X3.1, V3, p1, ?_, p2, Nat.lt_of_lt_of_le p3 (pB9_l (by decide))⟩
        rw [Rp, Vp, o1]
        exact Or.inr (Nat.one_dvd _)
      obtain ⟨Zj, ⟨N8, S8⟩, Dj⟩ := q9
      have X8 := svX9_f W5 T3' soF_fr Zj X3.1
      have V8 := vsI9_f W5 T3' N3 Zj r0.1.2.2 jiR9_l V3
      rw [Rp] at Zj Dj
      have Zt8 : zF (soF ρ (fun r => r < 100) (zR κ soCalc a0)) κ κ_8 := (soF_m (fun r z => by omega) Zp).tr (soF_m (fun r z => by rcases z with (z | z | z) | (z | z | z) <;> omega) Zj)
      have ew8 : zR κ_8 soWhole a0 = (zR κ soWhole a0) := (soF_r9 Zt8 (by decide)).1
      have el8 : zR κ_8 soLess a0 = (zR κ soLess a0) := (soF_r9 Zt8 (by decide)).1
      have es8 : zR κ_8 soSum a0 = (zR κ soSum a0) := (soF_r9 Zt8 (by decide)).1
      have ec8 : zR κ_8 soCalc a0 = (zR κ soCalc a0) := (soF_r9 Zt8 (by decide)).1
      have l3 := soF_B (c := 0) W (ty_soLess W Ta0) Zp (by rw [S0.1.2.2.2.2.2.1]; decide)
      have l8 := soF_B (c := 0) W5 (w := (zR κ soLess a0)) (Fp.t (ty_soLess W Ta0) (by decide)) Zj (by rw [S0.1.2.2.2.2.2.1]; unfold jiR9 unR9 jnR9; decide)
      have w8 : nuN κ_8 (zR κ soWhole a0) < pB9 1900 := Nat.lt_of_le_of_lt (dz9_le Dj p2) p3
      intro W10
      intro M11
      intro T12
      refine So_sumInflow_c W10 T12 ρ m9 P9 ?_ (fun κ_13 q14 => ?_)
      · refine ⟨⟨N8, S8⟩, X8.1, V8, p1, by rw [ew8]; exact w8, ?_⟩
        rw [el8, l8.2.1, l3.2.1]
        exact p4
      rw [ec8, es8, ew8, el8, l8.2.1, l3.2.1] at q14
      obtain ⟨Zs, ⟨N13, S13⟩, Ds, Es⟩ := q14
      have Zt : zF (soF ρ (fun r => r < 100) (zR κ soCalc a0)) κ κ_13 := Zt8.tr (soF_m (fun r z => by rcases z with (z | z | z) | (z | z | z | z | z | z) <;> omega) Zs)
      have X13 := svX9_f W Ta0 soF_fr Zt X0
      have U13 := vU9_f W Ta0 Zt
      have xv13 := X13.1.2.2.2
      have ew13 : zR κ_13 soWhole a0 = (zR κ soWhole a0) := (soF_r9 Zt (by decide)).1
      have es13 : zR κ_13 soSum a0 = (zR κ soSum a0) := (soF_r9 Zt (by decide)).1
      have ec13 : zR κ_13 soCalc a0 = (zR κ soCalc a0) := (soF_r9 Zt (by decide)).1
      have w13 := soF_B (c := 0) W10 (w := (zR κ soWhole a0)) (by rw [← ew8]; exact ty_soWhole W10 (Zt8.t Ta0 (by decide))) Zs (by rw [S0.1.1]; unfold suR9 unR9 adR9; decide)
      have lsu : nuN κ_13 (zR κ soSum a0) < pB9 4000 := by
        have q2 : (nuN κ_8 (zR κ soWhole a0) + 1) * pB9 11 ≤ pB9 1900 * pB9 11 := Nat.mul_le_mul_right _ w8
        rw [← pB9_a] at q2
        exact Nat.lt_of_le_of_lt (Nat.le_trans Ds q2) (pB9_s (by decide))
      intro W15
      intro M16
      refine ⟨?_, ?_⟩
      · rw [inb_iff]; omega  -- b4
      refine ex_some ?_ (fun u17 hu17 => ?_)
      · exact ⟨_, by rw [U13.1]; exact vk1⟩  -- e5
      intro T18
      intro T19
      intro T20
      intro T21
      have eu : u17 = vU9 κ a0 a1.toNatClampNeg := Option.some.inj (hu17.symm.trans (by rw [U13.1]; exact vk1))
      subst eu
      refine So_keep_c W15 T18 T19 T20 T21 ρ (100 + 8 * a1.toNatClampNeg) 7 1 ?_ (fun r22 κ_23 q24 => ?_)
      · refine ⟨⟨N13, S13⟩, ⟨vk2, by omega, by omega, by omega⟩, ⟨S13.1.2.2.2.2.1, Or.inl ⟨by decide, by decide⟩, by decide⟩, ⟨S13.1.1, Or.inl ⟨by decide, by decide⟩, by decide⟩, by rw [es13]; exact lsu, ?_⟩
        rw [ew13, w13.2.1]
        exact Nat.lt_of_lt_of_le w8 (pB9_l (by decide))
      intro W25
      intro M26
      refine ⟨?_, h _ _ ?_⟩
      · exact q24.1  -- b7
      · rw [ew13, es13, ec13, w13.2.1] at q24
        obtain ⟨b, ⟨Zk, N23, S23⟩, _, K⟩ := q24
        have l23 := soF_B (c := 0) W15 (w := (zR κ soLess a0)) (Zt.t (ty_soLess W Ta0) (by decide)) Zk (by rw [S0.1.2.2.2.2.2.1]; unfold kpR9 stR9; omega)
        refine ⟨b, ⟨(soF_m (fun r z => Or.inl z) Zt).tr (soF_m (fun r z => voR9_k z) Zk), N23, S23⟩, by rw [l23.2.1]; exact Es, fun z => ?_⟩
        obtain ⟨⟨k1, k2⟩, k3, k4, k5⟩ := K z
        intro _
        rw [k4, k5]
        have gd := Nat.gcd_dvd_right (nuN κ_13 (zR κ soSum a0)) (nuN κ_8 (zR κ soWhole a0))
        exact ⟨k1, k2, dz9_mul (dz9_div Dj gd)⟩
    · skip
      refine ⟨fun c27 => ?_, fun c27 => ?_⟩
      · skip
        refine h _ _ ?_
        · exact ⟨Or.inr rfl, ⟨zF.rf, N0, S0⟩, Nat.le_refl _, fun _ => vsK9_m (Nat.dvd_mul_right _ _) vk3⟩  -- q9
      · skip
        refine ⟨?_, ?_⟩
        · rw [inb_iff]; omega  -- b10
        refine ex_some ?_ (fun u28 hu28 => ?_)
        · exact ⟨_, vk1⟩  -- e11
        intro T29
        have eu : u28 = vU9 κ a0 a1.toNatClampNeg := Option.some.inj (hu28.symm.trans vk1)
        subst eu
        refine Ra_putOne_c W134 T29 20 ?_ (fun κ_30 q31 => ?_)
        · exact gk.2.2.1  -- p12
        intro W32
        intro M33
        refine h _ _ ?_
        · obtain ⟨Zo, Jo, Vo⟩ := q31
          have R := ra_w9 W134 Ta0 N0 S0 vk2 (by omega) (by omega) (by omega) Zo Jo
          have Z9 : zF (soF ρ (voR9 (100 + 8 * a1.toNatClampNeg)) (zR κ soCalc a0)) κ κ_30 := soF_m (fun r z => Or.inr z) (R.2 _)
          have l9 := soF_B (c := 0) W134 (ty_soLess W134 Ta0) (R.2 (zR κ soCalc a0)) (by rw [S0.1.2.2.2.2.2.1]; omega)
          refine ⟨Or.inr rfl, ⟨Z9, R.1⟩, Nat.le_of_eq l9.2.1, fun _ _ => ?_⟩
          rw [Vo.2.1, Vo.2.2]
          refine ⟨by decide, by decide, ?_⟩
          rw [Nat.one_mul]
          exact Or.inr (Nat.dvd_mul_left _ _)
  refine ⟨?_, ?_⟩
  · rw [inb_iff]; omega  -- b14
  intro x34 hx34
  unfold w_So_visitOne_15
  refine ⟨fun n l0 l1 l2 l3 l4 τ => n = ((zA κ (zR κ weBackFirsts (zR κ soWeb a0)) (a1.toNatClampNeg + 1)).toInt - l4.toInt).toNat ∧ (κ = τ ∧ a0 = l0 ∧ a1 = l1 ∧ (0 ≤ l2.toInt ∧ l2.toInt ≤ l4.toInt) ∧ ((zA κ (zR κ weBackFirsts (zR κ soWeb a0)) a1.toNatClampNeg).toInt ≤ l4.toInt ∧ l4.toInt ≤ (zA κ (zR κ weBackFirsts (zR κ soWeb a0)) (a1.toNatClampNeg + 1)).toInt) ∧ (l2.toInt ≠ 0 → ((zA κ (zR κ weBackFirsts (zR κ soWeb a0)) a1.toNatClampNeg).toInt ≤ l3.toInt ∧ l3.toInt < (zA κ (zR κ weBackFirsts (zR κ soWeb a0)) (a1.toNatClampNeg + 1)).toInt) ∧ zI κ raSign (vU9 κ a0 (zA κ (zR κ weSources (zR κ soWeb a0)) l3.toNatClampNeg).toNatClampNeg) ≠ 0 ∧ (zA κ (zR κ weSources (zR κ soWeb a0)) l3.toNatClampNeg).toNatClampNeg ≠ a1.toNatClampNeg)), ⟨_, rfl, ?_⟩, ?_⟩
  · exact ⟨rfl, rfl, rfl, ⟨by decide, by rw [hx34, t0i]; omega⟩, ⟨by rw [hx34]; exact Int.le_refl _, by rw [hx34]; exact r0.2.2.1⟩, fun z => absurd rfl z⟩  -- j15
  rintro n15 _ _ x15_2 x15_3 x15_4 _ W15 T15_0 ⟨hn15, rfl, rfl, rfl, i15⟩
  refine ⟨?_, ?_⟩
  · rw [inb_iff, i1.2]; omega  -- b16
  refine ⟨fun c35 => ?_, fun c35 => ?_⟩
  · skip
    refine ⟨fun c36 => ?_, fun c36 => ?_⟩
    · skip
      refine hj134 _ _ _ _ W15 ?_ ?_
      · exact Ta0  -- t17
      · exact ⟨rfl, rfl, rfl, trivial⟩  -- k18
    · skip
      refine ⟨fun c37 => ?_, fun c37 => ?_⟩
      · skip
        refine hj134 _ _ _ _ W15 ?_ ?_
        · exact Ta0  -- t19
        · exact ⟨rfl, rfl, rfl, trivial⟩  -- k20
      · skip
        obtain ⟨_, _, i3⟩ := i15
        obtain ⟨⟨m1, m2⟩, m3, m4⟩ := i3 (by rw [c36]; decide)
        have g2 := bk_g9 X0 (t := a1.toNatClampNeg) (b := x15_3) (by omega) m1 m2
        have g3 := eg_9 X0 g2.2
        refine ⟨?_, ?_⟩
        · rw [inb_iff]; exact ⟨g2.1.1, g2.1.2.1⟩  -- b21
        intro x38 hx38
        obtain ⟨gs1, gs2⟩ := g2.2.1
        rw [← hx38] at gs1 gs2 m3 m4
        have ks := cnk gs1
        obtain ⟨w1, w2, w3⟩ := V0 x38.toNatClampNeg (by omega)
        obtain ⟨v5, v6, v7⟩ := w3 m3
        have gs := ra_g9 N0 w2 (by omega) (by omega) (by omega)
        refine ⟨?_, ?_⟩
        · rw [inb_iff]; omega  -- b22
        refine ⟨?_, ?_⟩
        · rw [inb_iff]; omega  -- b23
        refine ex_some ?_ (fun u39 hu39 => ?_)
        · exact ⟨_, vk1⟩  -- e24
        refine ex_some ?_ (fun u40 hu40 => ?_)
        · exact ⟨_, w1⟩  -- e25
        intro T41
        intro T42
        have eu : u39 = vU9 κ a0 a1.toNatClampNeg := Option.some.inj (hu39.symm.trans vk1)
        subst eu
        have ev : u40 = vU9 κ a0 x38.toNatClampNeg := Option.some.inj (hu40.symm.trans w1)
        subst ev
        have kt := k256 gs.2.2.2.1 v5
        have kb := k256 gs.2.2.2.2.1 v6
        refine Ra_copy_c W15 T41 T42 20 ?_ (fun κ_43 q44 => ?_)
        · exact ⟨gk.2.2.1, ⟨nuI_mono (by decide) gs.2.2.2.1, nuI_mono (by decide) gs.2.2.2.2.1, gs.2.2.2.2.2⟩, ⟨ro_n gk.2.1.1 gs.2.1.1 (by omega), ro_n gk.2.1.1 gs.2.1.2 (by omega), ro_n gk.2.1.2 gs.2.1.1 (by omega), ro_n gk.2.1.2 gs.2.1.2 (by omega)⟩, ⟨by omega, by omega⟩, by decide⟩  -- p26
        obtain ⟨Zc, Jc, Vc⟩ := q44
        have R4 := ra_w9 W Ta0 N0 S0 vk2 (by omega) (by omega) (by omega) Zc Jc
        have Z4 := R4.2 (zR κ soCalc a0)
        have X4 := svX9_f W Ta0 soF_fr Z4 X0
        have U4 := vU9_f W Ta0 Z4
        have T4 : zT κ_43 a0 = 12 := Z4.t Ta0 (by decide)
        have eb4 : zA κ_43 (zR κ_43 weBackFirsts (zR κ_43 soWeb a0)) = zA κ (zR κ weBackFirsts (zR κ soWeb a0)) := by rw [X4.2.1]; exact (we_f9 W soF_fr Z4 (ty_soWeb W Ta0) (f := weBackFirsts) (by decide)).2.1
        have g4 := bk_g9 X4.1 (t := a1.toNatClampNeg) (b := x15_3) (by omega) (by rw [eb4]; exact m1) (by rw [eb4]; exact m2)
        have g5 := eg_9 X4.1 g4.2
        have xv4 := X4.1.2.2.2
        intro W45
        intro M46
        refine ⟨?_, ?_⟩
        · rw [inb_iff]; omega  -- b27
        refine ⟨?_, ?_⟩
        · rw [inb_iff]; exact ⟨g4.1.1, g4.1.2.2.1⟩  -- b28
        refine ⟨?_, ?_⟩
        · rw [inb_iff]; exact g5.1  -- b29
        intro T47
        refine At_divisorOf_c W45 T47  ?_ (fun r48 q50 => ?_)
        · exact ⟨X4.1.2.2.1.1, gs1, by omega⟩  -- p30
        intro W51
        intro M52
        refine ex_some ?_ (fun u53 hu53 => ?_)
        · exact ⟨_, by rw [U4.1]; exact vk1⟩  -- e31
        intro T54
        have eu : u53 = vU9 κ a0 a1.toNatClampNeg := Option.some.inj (hu53.symm.trans (by rw [U4.1]; exact vk1))
        subst eu
        have kt4 := k256 Jc.1 (by rw [Vc.2.1]; exact v5)
        have kb4 := k256 Jc.2.1 (by rw [Vc.2.2]; exact v6)
        have rd : r48 = dvA κ (zR κ soAtlas a0) x38.toNatClampNeg := by
          have q := q50
          rw [X4.2.2.1] at q
          exact q.trans (dvA_f9 W soF_fr Z4 (ty_soAtlas W Ta0) _)
        refine Ra_scale_c2 W51 T54 20 ?_ (fun κ_55 q56 => ?_)
        · exact ⟨Jc, ⟨by omega, by omega⟩, by decide⟩  -- p32
        obtain ⟨Zd, Jd, Vd⟩ := q56
        have R5 := ra_w9 W45 T4 R4.1.1 R4.1.2 vk2 (by omega) (by omega) (by omega) Zd Jd
        have Z5 := Z4.tr (R5.2 (zR κ soCalc a0))
        have X5 := svX9_f W Ta0 soF_fr Z5 X0
        have U5 := vU9_f W Ta0 Z5
        have xv5 := X5.1.2.2.2
        intro W57
        intro M58
        refine ⟨?_, ?_⟩
        · rw [inb_iff]; omega  -- b33
        refine ex_some ?_ (fun u59 hu59 => ?_)
        · exact ⟨_, by rw [U5.1]; exact vk1⟩  -- e34
        intro T60
        have eu : u59 = vU9 κ a0 a1.toNatClampNeg := Option.some.inj (hu59.symm.trans (by rw [U5.1]; exact vk1))
        subst eu
        refine Ra_fits_c W57 T60  ?_ (fun r61 q63 => ?_)
        · exact ⟨nuI_mono (by decide) Jd.1, nuI_mono (by decide) Jd.2.1⟩  -- p35
        intro W64
        intro M65
        refine ⟨?_, h _ _ ?_⟩
        · exact q63.1  -- b36
        · have l9 := soF_B (c := 0) W (ty_soLess W Ta0) Z5 (by rw [S0.1.2.2.2.2.2.1]; omega)
          refine ⟨q63.1, ⟨soF_m (fun r z => Or.inr z) Z5, R5.1⟩, Nat.le_of_eq l9.2.1, fun z s => ?_⟩
          obtain ⟨f1, f2⟩ := q63.2 z
          have e5 : zR κ_55 raBottom (vU9 κ a0 a1.toNatClampNeg) = zR κ_43 raBottom (vU9 κ a0 a1.toNatClampNeg) := raF_r Zd (by decide) (by decide) (by decide)
          refine ⟨f1, f2, ?_⟩
          rcases Vd with Vd | ⟨⟨_, d2, _⟩, _, _, d3, d4⟩
          · exfalso
            have q : (zI κ_55 raSign (vU9 κ a0 a1.toNatClampNeg)).toInt = (0 : Int32).toInt := Vd.1
            exact s (Int32.toInt.inj q)
          · rw [e5]
            rw [Vc.2.2] at d3 d4
            have en : dvN9 κ (zR κ soAtlas a0) x38.toNatClampNeg = r48.toInt.toNat := by
              unfold dvN9
              rw [← rd]
              split <;> omega
            rw [en] at v7
            exact dz9_mul (dz9_of v7 d3 d4)
  · skip
    intro T66
    rw [i1.1, lei] at c35
    obtain ⟨i2, i3, i4⟩ := i15
    have ix := cn1 (x := x15_4) (by omega) (by omega)
    refine So_comesIn_c W15 T66 ρ m9 P9 ?_ (fun r67 q69 => ?_)
    · exact ⟨X0, V0, p1, i3.1, by omega⟩  -- p38
    intro W70
    intro M71
    refine ⟨fun c72 => ?_, fun c72 => ?_⟩
    · skip
      intro x73 hx73
      refine ⟨_, ?_, rfl, ?_⟩
      · rw [hn15, hx73, ix.2]; omega  -- d39
      · exact ⟨rfl, rfl, rfl, ⟨i2.1, by rw [hx73, ix.2]; omega⟩, ⟨by rw [hx73, ix.2]; omega, by rw [hx73, ix.2]; omega⟩, i4⟩  -- i40
    · skip
      intro x74 hx74
      intro x75 hx75
      have iy := cn1 (x := x15_2) (by omega) (by omega)
      refine ⟨_, ?_, rfl, ?_⟩
      · rw [hn15, hx75, ix.2]; omega  -- d41
      · exact ⟨rfl, rfl, rfl, ⟨by rw [hx74, iy.2]; omega, by rw [hx74, hx75, ix.2, iy.2]; omega⟩, ⟨by rw [hx75, ix.2]; omega, by rw [hx75, ix.2]; omega⟩, fun _ => ⟨⟨i3.1, by omega⟩, q69.2 c72⟩⟩  -- i42

end
section
set_option maxHeartbeats 1600000
/-! the mathematics of a ring's elimination -/
theorem sgI_ad9 {f g : Nat → Int} : ∀ {n : Nat}, sgI (fun i => f i + g i) n = sgI f n + sgI g n
  | 0 => rfl
  | n + 1 => by
    have a := sgI_ad9 (f := f) (g := g) (n := n)
    show sgI (fun i => f i + g i) n + (f n + g n) = (sgI f n + f n) + (sgI g n + g n)
    omega
theorem sgI_mu9 {f : Nat → Int} {c : Int} : ∀ {n : Nat}, sgI (fun i => c * f i) n = c * sgI f n
  | 0 => (Int.mul_zero c).symm
  | n + 1 => by
    have a := sgI_mu9 (f := f) (c := c) (n := n)
    show sgI (fun i => c * f i) n + c * f n = c * (sgI f n + f n)
    rw [a, Int.mul_add]
theorem sgI_le9 {f g : Nat → Int} : ∀ {n : Nat}, (∀ i, i < n → f i ≤ g i) → sgI f n ≤ sgI g n
  | 0, _ => Int.le_refl _
  | n + 1, h => by
    have a := sgI_le9 (f := f) (g := g) (n := n) (fun i hi => h i (Nat.lt_succ_of_lt hi))
    have b := h n (Nat.lt_succ_self n)
    show sgI f n + f n ≤ sgI g n + g n
    omega
theorem sgI_sw9 {f : Nat → Nat → Int} {m : Nat} : ∀ {n : Nat}, sgI (fun i => sgI (f i) m) n = sgI (fun j => sgI (fun i => f i j) n) m
  | 0 => (sgI_z (f := fun j => sgI (fun i => f i j) 0) (fun _ _ => rfl)).symm
  | n + 1 => by
    have a := sgI_sw9 (f := f) (m := m) (n := n)
    have b := sgI_ad9 (f := fun j => sgI (fun i => f i j) n) (g := f n) (n := m)
    show sgI (fun i => sgI (f i) m) n + sgI (f n) m = sgI (fun j => sgI (fun i => f i j) n + f n j) m
    rw [b, a]
theorem sgI_p9 {f : Nat → Int} {n : Nat} (h : ∀ i, i < n → 0 ≤ f i) : 0 ≤ sgI f n := by
  have a := sgI_le9 (f := fun _ => 0) (g := f) (n := n) h
  have b := sgI_z (f := fun _ => (0 : Int)) (n := n) (fun _ _ => rfl)
  omega
/-- one place alone -/
theorem sgI_i9 {j n : Nat} {c : Int} (h : j < n) : sgI (fun i => if i = j then c else 0) n = c := by
  have a := sgI_up (f := fun _ => (0 : Int)) (g := fun i => if i = j then c else 0) (d := c) h (fun i _ hne => if_neg hne) (by rw [if_pos rfl]; omega)
  have b := sgI_z (f := fun _ => (0 : Int)) (n := n) (fun _ _ => rfl)
  omega
theorem sgI_on9 {f : Nat → Int} {j n : Nat} (h : j < n) (p : ∀ i, i < n → 0 ≤ f i) : f j ≤ sgI f n := by
  have a := sgI_le9 (f := fun i => if i = j then f j else 0) (g := f) (n := n) (fun i hi => by
    by_cases e : i = j
    · rw [if_pos e, e]; exact Int.le_refl _
    · rw [if_neg e]; exact p i hi)
  rw [sgI_i9 h] at a
  exact a
/-- at most one place -/
theorem sgI_am9 {t : Nat → Nat} {m x : Nat} {c : Int} (c0 : 0 ≤ c) (inj : ∀ i j, i < m → j < m → t i = t j → i = j) : sgI (fun i => if x = t i then c else 0) m ≤ c := by
  by_cases h : ∃ i, i < m ∧ x = t i
  · obtain ⟨j, hj, e⟩ := h
    have a := sgI_eq (f := fun i => if x = t i then c else 0) (g := fun i => if i = j then c else 0) (n := m) (fun i hi => by
      by_cases z : i = j
      · rw [if_pos z, z, if_pos e]
      · rw [if_neg z, if_neg (fun q => z (inj i j hi hj (by rw [← q, e])))])
    rw [a, sgI_i9 hj]
    exact Int.le_refl _
  · have a := sgI_z (f := fun i => if x = t i then c else 0) (n := m) (fun i hi => if_neg (fun q => h ⟨i, hi, q⟩))
    rw [a]
    exact c0
/-- onto, so one to one -/
theorem inj_9 {n : Nat} {f : Nat → Nat} (hf : ∀ i, i < n → f i < n) (hs : ∀ s, s < n → ∃ i, i < n ∧ f i = s) (i j : Nat) (hi : i < n) (hj : j < n) (e : f i = f j) : i = j := by
  by_cases z : i = j
  · exact z
  exfalso
  have sw := sgI_sw9 (f := fun k s => if s = f k then (1 : Int) else 0) (m := n) (n := n)
  have l : sgI (fun k => sgI (fun s => if s = f k then (1 : Int) else 0) n) n = sgI (fun _ => (1 : Int)) n := sgI_eq (fun k hk => sgI_i9 (hf k hk))
  have r : sgI (fun s => 1 + if s = f i then (1 : Int) else 0) n ≤ sgI (fun s => sgI (fun k => if s = f k then (1 : Int) else 0) n) n := sgI_le9 (fun s hs9 => by
    by_cases q : s = f i
    · rw [if_pos q]
      have a := sgI_le9 (f := fun k => (if k = i then (1 : Int) else 0) + if k = j then 1 else 0) (g := fun k => if s = f k then (1 : Int) else 0) (n := n) (fun k hk => by
        by_cases k1 : k = i
        · rw [if_pos k1, if_neg (by omega), if_pos (by rw [k1, q])]
          decide
        · by_cases k2 : k = j
          · rw [if_neg k1, if_pos k2, if_pos (by rw [k2, q, e])]
            decide
          · rw [if_neg k1, if_neg k2]
            split <;> decide)
      rw [sgI_ad9, sgI_i9 hi, sgI_i9 hj] at a
      exact a
    · rw [if_neg q]
      obtain ⟨k0, h0, e0⟩ := hs s hs9
      have a := sgI_on9 (f := fun k => if s = f k then (1 : Int) else 0) h0 (fun k _ => by split <;> decide)
      rw [if_pos e0.symm] at a
      exact a)
  rw [sgI_ad9, sgI_i9 (hf i hi)] at r
  rw [l] at sw
  rw [← sw] at r
  omega
/-- what leads to different places weighs no more than all -/
theorem col_9 {m L : Nat} {c w : Nat → Int} {t g : Nat → Nat} (w0 : ∀ e, e < L → 0 ≤ w e) (inj : ∀ i j, i < m → j < m → t i = t j → i = j) (hc : ∀ i, i < m → c i = 0 ∨ ∃ e, e < L ∧ c i = w e ∧ g e = t i) : sgI c m ≤ sgI w L := by
  have a := sgI_le9 (f := c) (g := fun i => sgI (fun e => if g e = t i then w e else 0) L) (n := m) (fun i hi => by
    have p : ∀ e, e < L → 0 ≤ (if g e = t i then w e else 0) := fun e he => by
      split
      · exact w0 e he
      · exact Int.le_refl _
    rcases hc i hi with h | ⟨e, he, h1, h2⟩
    · rw [h]; exact sgI_p9 p
    · have q := sgI_on9 (f := fun e => if g e = t i then w e else 0) he p
      rw [if_pos h2] at q
      rw [h1]
      exact q)
  rw [sgI_sw9 (f := fun i e => if g e = t i then w e else 0)] at a
  exact Int.le_trans a (sgI_le9 (fun e he => sgI_am9 (w0 e he) inj))
/-- quotients of a sum -/
theorem sgI_dv9 {f : Nat → Int} {q : Int} (hq : 0 ≤ q) : ∀ {n : Nat}, sgI (fun i => f i / q) n ≤ sgI f n / q
  | 0 => by
    show (0 : Int) ≤ 0 / q
    rw [Int.zero_ediv]
    exact Int.le_refl _
  | n + 1 => by
    have a := sgI_dv9 (f := f) (q := q) hq (n := n)
    show sgI (fun i => f i / q) n + f n / q ≤ (sgI f n + f n) / q
    by_cases z : q = 0
    · subst z
      simp only [Int.ediv_zero] at a ⊢
      omega
    · refine Int.le_trans (Int.add_le_add_right a _) ?_
      refine Int.le_ediv_of_mul_le (by omega) ?_
      rw [Int.add_mul]
      exact Int.add_le_add (Int.ediv_mul_le _ z) (Int.ediv_mul_le _ z)
/-- what stands in a column but for its own place -/
def cS9 (M : Nat → Nat → Nat) (p m j : Nat) : Int := sgI (fun i => if p ≤ i ∧ i ≠ j then (M i j : Int) else 0) m
def nB9 (M : Nat → Nat → Nat) (p q i j : Nat) : Nat := (if i = j then M p p * M i j - M i p * M p j else M p p * M i j + M i p * M p j) / q
/-- one step -/
def eM9 (M : Nat → Nat → Nat) (m p q : Nat) : Nat → Nat → Nat := fun i j => if (p < i ∧ i < m) ∧ p < j ∧ (j < m ∨ j = 32) then nB9 M p q i j else M i j
theorem cS9_g {M : Nat → Nat → Nat} {p m j i : Nat} (h1 : p ≤ i) (h2 : i < m) (h3 : i ≠ j) : (M i j : Int) ≤ cS9 M p m j := by
  have a := sgI_on9 (f := fun i => if p ≤ i ∧ i ≠ j then (M i j : Int) else 0) h2 (fun k _ => by split <;> omega)
  rw [if_pos ⟨h1, h3⟩] at a
  exact a
theorem ab_9 {a b c d s t : Int} (a0 : 0 ≤ a) (b0 : 0 ≤ b) (hs : s + b ≤ d) (ht : t + c ≤ a) : a * s + b * t ≤ a * d - b * c := by
  have h1 : a * s ≤ a * (d - b) := Int.mul_le_mul_of_nonneg_left (by omega) a0
  have h2 : b * t ≤ b * (a - c) := Int.mul_le_mul_of_nonneg_left (by omega) b0
  rw [Int.mul_sub] at h1 h2
  rw [Int.mul_comm b a] at h2
  omega
theorem dom_9 {M : Nat → Nat → Nat} {m p q j : Nat} (H : ∀ j, p ≤ j → j < m → cS9 M p m j ≤ M j j) (h1 : p < j) (h2 : j < m) : cS9 (eM9 M m p q) (p + 1) m j ≤ eM9 M m p q j j ∧ M j p * M p j ≤ M p p * M j j := by
  have s1 : cS9 M p m j = sgI (fun i => if p + 1 ≤ i ∧ i ≠ j then (M i j : Int) else 0) m + M p j := sgI_up (j := p) (by omega) (fun i _ hne => by
    by_cases z : p + 1 ≤ i ∧ i ≠ j
    · rw [if_pos z, if_pos ⟨by omega, z.2⟩]
    · rw [if_neg z, if_neg (fun y => z ⟨by omega, y.2⟩)]) (by rw [if_pos ⟨by omega, by omega⟩, if_neg (by omega)]; omega)
  have s2 : cS9 M p m p = sgI (fun i => if p + 1 ≤ i ∧ i ≠ j then (M i p : Int) else 0) m + M j p := sgI_up (j := j) h2 (fun i _ hne => by
    by_cases z : p + 1 ≤ i ∧ i ≠ j
    · rw [if_pos z, if_pos ⟨by omega, by omega⟩]
    · rw [if_neg z, if_neg (fun y => z ⟨by omega, hne⟩)]) (by rw [if_pos ⟨by omega, by omega⟩, if_neg (by omega)]; omega)
  have Hj := H j (by omega) h2
  have Hp := H p (by omega) (by omega)
  have s3 : sgI (fun i => if p + 1 ≤ i ∧ i ≠ j then (((M p p * M i j + M i p * M p j : Nat) : Nat) : Int) else 0) m = (M p p : Int) * sgI (fun i => if p + 1 ≤ i ∧ i ≠ j then (M i j : Int) else 0) m + (M p j : Int) * sgI (fun i => if p + 1 ≤ i ∧ i ≠ j then (M i p : Int) else 0) m := by
    rw [← sgI_mu9, ← sgI_mu9, ← sgI_ad9]
    refine sgI_eq (fun i _ => ?_)
    by_cases z : p + 1 ≤ i ∧ i ≠ j
    · rw [if_pos z, if_pos z, if_pos z, Int.natCast_add, Int.natCast_mul, Int.natCast_mul, Int.mul_comm (M i p : Int)]
    · rw [if_neg z, if_neg z, if_neg z, Int.mul_zero, Int.mul_zero]; rfl
  have s4 := ab_9 (a := (M p p : Int)) (b := (M p j : Int)) (c := (M j p : Int)) (d := (M j j : Int)) (s := sgI (fun i => if p + 1 ≤ i ∧ i ≠ j then (M i j : Int) else 0) m) (t := sgI (fun i => if p + 1 ≤ i ∧ i ≠ j then (M i p : Int) else 0) m) (by omega) (by omega) (by omega) (by omega)
  rw [← s3] at s4
  have s5 : 0 ≤ sgI (fun i => if p + 1 ≤ i ∧ i ≠ j then (((M p p * M i j + M i p * M p j : Nat) : Nat) : Int) else 0) m := sgI_p9 (fun i _ => by split <;> omega)
  have le : M j p * M p j ≤ M p p * M j j := by
    have e1 : ((M j p * M p j : Nat) : Int) = (M p j : Int) * (M j p : Int) := by rw [Int.natCast_mul, Int.mul_comm]
    have e2 : ((M p p * M j j : Nat) : Int) = (M p p : Int) * (M j j : Int) := Int.natCast_mul _ _
    omega
  refine ⟨?_, le⟩
  have ej : eM9 M m p q j j = (M p p * M j j - M j p * M p j) / q := by
    unfold eM9 nB9
    rw [if_pos ⟨⟨h1, h2⟩, h1, Or.inl h2⟩, if_pos rfl]
  have ec : cS9 (eM9 M m p q) (p + 1) m j = sgI (fun i => (if p + 1 ≤ i ∧ i ≠ j then (((M p p * M i j + M i p * M p j : Nat) : Nat) : Int) else 0) / (q : Int)) m := by
    refine sgI_eq (fun i hi => ?_)
    by_cases z : p + 1 ≤ i ∧ i ≠ j
    · rw [if_pos z, if_pos z]
      unfold eM9 nB9
      rw [if_pos ⟨⟨by omega, hi⟩, h1, Or.inl h2⟩, if_neg z.2]
      exact Int.natCast_ediv _ _
    · rw [if_neg z, if_neg z, Int.zero_ediv]
  rw [ec, ej]
  refine Int.le_trans (sgI_dv9 (Int.natCast_nonneg q)) ?_
  rw [Int.natCast_ediv]
  by_cases z : q = 0
  · rw [z, show ((0 : Nat) : Int) = 0 from rfl, Int.ediv_zero, Int.ediv_zero]
    exact Int.le_refl _
  · refine Int.ediv_le_ediv (by omega) (Int.le_trans s4 ?_)
    rw [Int.ofNat_sub le, Int.natCast_mul, Int.natCast_mul, Int.mul_comm (M j p : Int)]
    exact Int.le_refl _
/-- an elimination on its way -/
def bz9 (M : Nat → Nat → Nat) (m p q X D : Nat) : Prop := q ≤ D ^ p ∧ (∀ j, p ≤ j → j < m → cS9 M p m j ≤ M j j ∧ M j j ≤ D * q) ∧ (∀ i, p ≤ i → i < m → M i 32 ≤ q * 2 ^ p * X) ∧ (∀ r c, r < p → r ≤ c → c < m → M r c ≤ D ^ (r + 1)) ∧ ∀ r, r < p → M r 32 ≤ D ^ r * 2 ^ r * X
theorem bz9_e {M : Nat → Nat → Nat} {m p q X D i j : Nat} (H : bz9 M m p q X D) (h1 : p ≤ i) (h2 : i < m) (h3 : p ≤ j) (h4 : j < m) : M i j ≤ M j j ∧ M j j ≤ D ^ (p + 1) := by
  obtain ⟨H1, H2, _⟩ := H
  have a := H2 j h3 h4
  refine ⟨?_, ?_⟩
  · by_cases z : i = j
    · rw [z]; exact Nat.le_refl _
    · have b := cS9_g (M := M) h1 h2 z
      omega
  · rw [Nat.pow_succ, Nat.mul_comm]
    exact Nat.le_trans a.2 (Nat.mul_le_mul_left _ H1)
theorem eM9_o {M : Nat → Nat → Nat} {m p q i j : Nat} (h : i ≤ p) : eM9 M m p q i j = M i j := by
  unfold eM9
  exact if_neg (fun z => by omega)
theorem bz9_s {M : Nat → Nat → Nat} {m p q X D : Nat} (hm : m ≤ 32) (hp : p < m) (H : bz9 M m p q X D) : bz9 (eM9 M m p q) m (p + 1) (M p p) X D := by
  have E := fun i j h1 h2 h3 h4 => bz9_e (i := i) (j := j) H h1 h2 h3 h4
  obtain ⟨H1, H2, H3, H4, H5⟩ := H
  have pp := (E p p (Nat.le_refl _) hp (Nat.le_refl _) hp).2
  refine ⟨pp, fun j h1 h2 => ⟨(dom_9 (q := q) (fun j a b => (H2 j a b).1) (by omega) h2).1, ?_⟩, fun i h1 h2 => ?_, fun r c h1 h2 h3 => ?_, fun r h1 => ?_⟩
  · unfold eM9 nB9
    rw [if_pos ⟨⟨by omega, h2⟩, by omega, Or.inl h2⟩, if_pos rfl]
    refine Nat.div_le_of_le_mul (Nat.le_trans (Nat.sub_le _ _) ?_)
    rw [← Nat.mul_assoc, Nat.mul_comm q D, Nat.mul_comm (M p p)]
    exact Nat.mul_le_mul_right _ (H2 j (by omega) h2).2
  · unfold eM9 nB9
    rw [if_pos ⟨⟨by omega, h2⟩, by omega, Or.inr rfl⟩, if_neg (by omega)]
    refine Nat.div_le_of_le_mul ?_
    have a1 : M p p * M i 32 ≤ M p p * (q * 2 ^ p * X) := Nat.mul_le_mul_left _ (H3 i (by omega) h2)
    have a2 : M i p * M p 32 ≤ M p p * (q * 2 ^ p * X) := Nat.mul_le_mul (E i p (by omega) h2 (Nat.le_refl _) hp).1 (H3 p (Nat.le_refl _) hp)
    have e : q * (M p p * 2 ^ (p + 1) * X) = M p p * (q * 2 ^ p * X) + M p p * (q * 2 ^ p * X) := by
      rw [← Nat.two_mul, Nat.pow_succ]
      simp only [Nat.mul_assoc, Nat.mul_comm, Nat.mul_left_comm]
    rw [e]
    exact Nat.add_le_add a1 a2
  · rw [eM9_o (by omega)]
    by_cases z : r = p
    · rw [z]
      have b := E p c (Nat.le_refl _) hp (by omega) h3
      exact Nat.le_trans b.1 b.2
    · exact H4 r c (by omega) h2 h3
  · rw [eM9_o (by omega)]
    by_cases z : r = p
    · rw [z]
      exact Nat.le_trans (H3 p (Nat.le_refl _) hp) (Nat.mul_le_mul_right _ (Nat.mul_le_mul_right _ H1))
    · exact H5 r (by omega)
/-- how long cells may be -/
theorem dp_9 {n : Nat} (h : n ≤ 32) : 8000000 ^ n < pB9 24 := by
  have a : 8000000 ^ n ≤ 8000000 ^ 32 := Nat.pow_le_pow_right (by decide) h
  have b : 8000000 ^ 32 < pB9 24 := by unfold pB9; decide
  exact Nat.lt_of_le_of_lt a b

end
