set_option maxHeartbeats 1600000
/-! the class: Ratio's scale -/
def scI (κ τ : zS) (a c : Nat) (l4 l5 l6 l7 a1 a2 : Int32) (b : Nat) : Prop := (zF (raF (zR κ raTop a) (zR κ raBottom a) a) κ τ ∧ zI τ raSign a = zI κ raSign a) ∧ (nuI τ (zR κ raTop a) c ∧ nuN τ (zR κ raTop a) ≤ nuN κ (zR κ raTop a)) ∧ (nuI τ (zR κ raBottom a) c ∧ nuN τ (zR κ raBottom a) = b) ∧ (0 < l4.toInt ∧ l4.toInt ≤ a1.toInt) ∧ (0 < l5.toInt ∧ l5.toInt.toNat ∣ a2.toInt.toNat) ∧ (0 < l6.toInt ∧ l6.toInt.toNat ∣ l5.toInt.toNat) ∧ 0 < l7.toInt ∧ l7.toInt.toNat ∣ nuN κ (zR κ raBottom a)
theorem sc_d {B S L F a : Nat} (h1 : S ∣ B) (h2 : F ∣ L) (h3 : L ∣ a) : B / S * (L / F) ∣ B * a := by
  refine Nat.mul_dvd_mul ?_ ?_
  · exact Nat.div_dvd_of_dvd h1
  · exact Nat.dvd_trans (Nat.div_dvd_of_dvd h2) h3
theorem dv_p {B S : Nat} (hB : 0 < B) (h : S ∣ B) : 0 < B / S := Nat.div_pos (Nat.le_of_dvd hB h) (Nat.pos_of_dvd_of_pos h hB)
theorem i_divn {x y : Int32} (h0 : 0 ≤ x.toInt) (hy : 0 < y.toInt) : (x / y).toInt = ((x.toInt.toNat / y.toInt.toNat : Nat) : Int) ∧ (x / y).toInt.toNat = x.toInt.toNat / y.toInt.toNat ∧ 0 ≤ (x / y).toInt := by
  have d := div_i h0 hy
  have e : (x / y).toInt = ((x.toInt.toNat / y.toInt.toNat : Nat) : Int) := by
    rw [d, Int.natCast_ediv]
    congr 1 <;> omega
  exact ⟨e, by rw [e]; exact Int.toNat_natCast _, by rw [e]; exact Int.natCast_nonneg _⟩
theorem i_n0 {x : Int32} (h : 0 < x.toInt) : ¬ x = 0 := fun z => by
  rw [z] at h
  exact absurd h (by decide)
theorem Ra_scale_c {C : zC} {n0 : Nat} {a0 : Nat} {a1 : Int32} {a2 : Int32} {κ : zS} {Q : zS → Prop} (W : zW C n0 κ) (Ta0 : zT κ a0 = 11) (c9 : Nat) (hp : raJ κ a0 c9 ∧ 0 < nuN κ (zR κ raBottom a0) ∧ (nuK κ (zR κ raTop a0) + 1 + (nuK κ (zR κ raTop a0) + 1) / 2 + 1 ≤ c9 ∧ nuK κ (zR κ raBottom a0) + 1 + (nuK κ (zR κ raBottom a0) + 1) / 2 + 1 ≤ c9) ∧ c9 ≤ 30000000) (h : ∀ (κ' : zS), (zF (raF (zR κ raTop a0) (zR κ raBottom a0) a0) κ κ' ∧ raJ κ' a0 c9 ∧ 0 < nuN κ' (zR κ raBottom a0) ∧ (raV κ' a0 0 0 1 ∨ ((0 < a1.toInt ∧ 0 < a2.toInt ∧ (zI κ raSign a0).toInt ≠ 0) ∧ zI κ' raSign a0 = zI κ raSign a0 ∧ nuN κ' (zR κ raTop a0) ≤ nuN κ (zR κ raTop a0) * a1.toInt.toNat ∧ nuN κ' (zR κ raBottom a0) ∣ nuN κ (zR κ raBottom a0) * a2.toInt.toNat))) → Q κ') : zRun C 4 mRa_scale [.ref a0, .int a1, .int a2] κ (oV Q noX) := by
  refine Ra_scale_run W Ta0 ?_
  replace W := W.lo (Nat.le_trans W.1.2.1 W.1.2.2) (Nat.le_refl (zn κ))
  unfold w_Ra_scale_0
  obtain ⟨⟨It, Ib, ne⟩, B0, ⟨p1, p2⟩, p3⟩ := hp
  have Tt := ty_raTop W Ta0
  have Tb := ty_raBottom W Ta0
  have zro : ∀ κ' : zS, (zF (raF (zR κ raTop a0) (zR κ raBottom a0) a0) κ κ' ∧ raJ κ' a0 c9 ∧ raV κ' a0 0 0 1) → zF (raF (zR κ raTop a0) (zR κ raBottom a0) a0) κ κ' ∧ raJ κ' a0 c9 ∧ 0 < nuN κ' (zR κ raBottom a0) ∧ (raV κ' a0 0 0 1 ∨ ((0 < a1.toInt ∧ 0 < a2.toInt ∧ (zI κ raSign a0).toInt ≠ 0) ∧ zI κ' raSign a0 = zI κ raSign a0 ∧ nuN κ' (zR κ raTop a0) ≤ nuN κ (zR κ raTop a0) * a1.toInt.toNat ∧ nuN κ' (zR κ raBottom a0) ∣ nuN κ (zR κ raBottom a0) * a2.toInt.toNat)) := fun κ' z => by
    have e : zR κ' raBottom a0 = (zR κ raBottom a0) := raF_r z.1 (by decide) (by decide) (by decide)
    have v := z.2.2.2.2
    rw [e] at v
    exact ⟨z.1, z.2.1, by rw [v]; decide, Or.inl z.2.2⟩
  have rC : raC κ a0 c9 := ⟨It.1.2.1, Ib.1.2.1, ne⟩
  have hj100 : ∀ (l0 : Nat) (l4 : Int32) (l5 : Int32) (l6 : Int32) (l7 : Int32) (τ : zS), zW C (zn κ) τ → zT τ l0 = 11 → (a0 = l0 ∧ scI κ τ a0 c9 l4 l5 l6 l7 a1 a2 (nuN κ (zR κ raBottom a0) / l7.toInt.toNat) ∧ (0 < a1.toInt ∧ 0 < a2.toInt ∧ (zI κ raSign a0).toInt ≠ 0)) → w_Ra_scale_100 C (zn κ) Q  l0 l4 l5 l6 l7 τ := by
    rintro _ y100_4 y100_5 y100_6 y100_7 τ100 W100 T100_0 ⟨rfl, j100⟩
    unfold w_Ra_scale_100
    obtain ⟨⟨⟨Z1, S1⟩, ⟨It1, Vt1⟩, ⟨Ib1, Vb1⟩, ⟨l41, l42⟩, ⟨l51, l52⟩, ⟨l61, l62⟩, l71, l72⟩, pos⟩ := j100
    have et1 : zR τ100 raTop a0 = (zR κ raTop a0) := raF_r Z1 (by decide) (by decide) (by decide)
    have eb1 : zR τ100 raBottom a0 = (zR κ raBottom a0) := raF_r Z1 (by decide) (by decide) (by decide)
    have Tt1 : zT τ100 (zR κ raTop a0) = 8 := Z1.t Tt (by decide)
    have Tb1 : zT τ100 (zR κ raBottom a0) = 8 := Z1.t Tb (by decide)
    have kt1 : nuK τ100 (zR κ raTop a0) ≤ nuK κ (zR κ raTop a0) := nuK_le (d := 0) It1 Vt1
    have kb1 : nuK τ100 (zR κ raBottom a0) ≤ nuK κ (zR κ raBottom a0) := nuK_le (d := 0) Ib1 (by rw [Vb1]; exact Nat.div_le_self _ _)
    have d4 := i_divn (x := y100_4) (y := y100_7) (by omega) l71
    have d5 := i_divn (x := y100_5) (y := y100_6) (by omega) l61
    have e4 : (y100_4 / y100_7).toInt64.toInt = (y100_4 / y100_7).toInt := Int32.toInt_toInt64 _
    have e5 : (y100_5 / y100_6).toInt64.toInt = (y100_5 / y100_6).toInt := Int32.toInt_toInt64 _
    have i4 := ihi (y100_4 / y100_7)
    have i5 := ihi (y100_5 / y100_6)
    refine ⟨?_, ?_⟩
    · exact i_n0 l71  -- b1
    intro T1
    refine Nu_times_c W100 T1 c9 ?_ (fun κ_2 q3 => ?_)
    · rw [et1]
      exact ⟨It1, ⟨by rw [e4]; exact d4.2.2, by rw [e4]; omega⟩, by omega, p3⟩
    rw [et1, e4, d4.2.1] at q3
    obtain ⟨F2, I2, V2⟩ := q3
    have eb2 : zR κ_2 raBottom a0 = (zR κ raBottom a0) := (nuF_r F2 (by decide) (by decide)).trans eb1
    have bb := nuB_z (c := c9) W100 Tb1 F2 (fun z => ne z.1.symm) (fun z => ne z.1.symm)
    have Tt2 : zT κ_2 (zR κ raTop a0) = 8 := F2.t Tt1 (by decide)
    intro W4
    intro M5
    refine ⟨?_, ?_⟩
    · exact i_n0 l61  -- b3
    intro T6
    refine Nu_times_c W4 T6 c9 ?_ (fun κ_7 q8 => ?_)
    · rw [eb2, bb.2.2.2]
      exact ⟨bb.2.1 Ib1, ⟨by rw [e5]; exact d5.2.2, by rw [e5]; omega⟩, by omega, p3⟩
    intro W9
    intro M10
    refine h _ ?_
    · rw [eb2, e5, d5.2.1, bb.2.2.1, Vb1] at q8
      obtain ⟨F7, I7, V7⟩ := q8
      have bt := nuB_z (c := c9) W4 Tt2 F7 (fun z => ne z.1) (fun z => ne z.1)
      have Zf := (Z1.tr (raF_1 F2)).tr (raF_2 F7)
      have et7 : zR κ_7 raTop a0 = (zR κ raTop a0) := raF_r Zf (by decide) (by decide) (by decide)
      have eb7 : zR κ_7 raBottom a0 = (zR κ raBottom a0) := raF_r Zf (by decide) (by decide) (by decide)
      have p5 : 0 < y100_5.toInt.toNat / y100_6.toInt.toNat := dv_p (by omega) l62
      have p7 : 0 < nuN κ (zR κ raBottom a0) / y100_7.toInt.toNat := dv_p B0 l72
      refine ⟨Zf, ?_, by rw [V7]; exact Nat.mul_pos p7 p5, Or.inr ⟨pos, (nuF_i F7).trans ((nuF_i F2).trans S1), ?_, by rw [V7]; exact sc_d l72 l62 l52⟩⟩
      · unfold raJ
        rw [et7, eb7]
        exact ⟨bt.2.1 I2, I7, ne⟩
      · rw [bt.2.2.1, V2]
        refine Nat.mul_le_mul Vt1 (Nat.le_trans (Nat.div_le_self _ _) ?_)
        omega
  have hj84 : ∀ (l0 : Nat) (l4 : Int32) (l5 : Int32) (l6 : Int32) (l7 : Int32) (τ : zS), zW C (zn κ) τ → zT τ l0 = 11 → (a0 = l0 ∧ scI κ τ a0 c9 l4 l5 l6 l7 a1 a2 (nuN κ (zR κ raBottom a0)) ∧ (0 < a1.toInt ∧ 0 < a2.toInt ∧ (zI κ raSign a0).toInt ≠ 0)) → w_Ra_scale_84 C (zn κ) Q  l0 l4 l5 l6 l7 τ := by
    rintro _ y84_4 y84_5 y84_6 y84_7 τ84 W84 T84_0 ⟨rfl, j84⟩
    unfold w_Ra_scale_84
    refine ⟨fun c11 => ?_, fun c11 => ?_⟩
    · skip
      refine hj100 _ _ _ _ _ _ W84 ?_ ?_
      · exact T84_0  -- t6
      · rw [lei, t1i] at c11
        obtain ⟨⟨Z1, ⟨It1, Vt1⟩, ⟨Ib1, Vb1⟩, l4, l5, l6, l71, l72⟩, pos⟩ := j84
        have e : y84_7.toInt.toNat = 1 := by omega
        exact ⟨rfl, ⟨Z1, ⟨It1, Vt1⟩, ⟨Ib1, by rw [Vb1, e, Nat.div_one]⟩, l4, l5, l6, l71, l72⟩, pos⟩
    · skip
      intro T12
      obtain ⟨⟨⟨Z1, S1⟩, ⟨It1, Vt1⟩, ⟨Ib1, Vb1⟩, l4, l5, l6, l71, l72⟩, pos⟩ := j84
      have eb1 : zR τ84 raBottom a0 = (zR κ raBottom a0) := raF_r Z1 (by decide) (by decide) (by decide)
      have Tt1 : zT τ84 (zR κ raTop a0) = 8 := Z1.t Tt (by decide)
      refine Nu_over_c W84 T12 c9 ?_ (fun r13 κ_14 q15 => ?_)
      · rw [eb1]
        exact ⟨Ib1, l71⟩
      rw [eb1, Vb1] at q15
      obtain ⟨F14, I14, V14, r14⟩ := q15
      have bt := nuB_z (c := c9) W84 Tt1 F14 (fun z => ne z.1) (fun z => ne z.1)
      intro W16
      intro M17
      refine hj100 _ _ _ _ _ _ W16 ?_ ?_
      · exact F14.t T84_0 (by decide)  -- t9
      · exact ⟨rfl, ⟨⟨Z1.tr (raF_2 F14), (nuF_i F14).trans S1⟩, ⟨bt.2.1 It1, by rw [bt.2.2.1]; exact Vt1⟩, ⟨I14, V14⟩, l4, l5, l6, l71, l72⟩, pos⟩  -- k10
  refine ⟨fun c18 => ?_, fun c18 => ?_⟩
  · skip
    intro T19
    refine Ra_putZero_c W T19 c9 ?_ (fun κ_20 q21 => ?_)
    · exact rC  -- p11
    intro W22
    intro M23
    refine h _ ?_
    · exact zro _ q21  -- q12
  · skip
    refine ⟨fun c24 => ?_, fun c24 => ?_⟩
    · skip
      intro T25
      refine Ra_putZero_c W T25 c9 ?_ (fun κ_26 q27 => ?_)
      · exact rC  -- p13
      intro W28
      intro M29
      refine h _ ?_
      · exact zro _ q27  -- q14
    · skip
      have pos : ¬ a1 ≤ 0 → ¬ a2 ≤ 0 → ¬ zI κ raSign a0 = 0 → (0 < a1.toInt ∧ 0 < a2.toInt ∧ (zI κ raSign a0).toInt ≠ 0) := fun x y z => by
        rw [lei, t0i] at x y
        exact ⟨by omega, by omega, fun w => z (Int32.toInt_inj.mp (w.trans t0i.symm))⟩
      refine ⟨fun c30 => ?_, fun c30 => ?_⟩
      · skip
        refine Ch_commonInt_c W   ?_ (fun r31 q33 => ?_)
        · have ps := pos c18 c24 c30
          exact ⟨by omega, by omega⟩
        intro W34
        intro M35
        have ps := pos c18 c24 c30
        have ps1 := ps.1
        have ps2 := ps.2.1
        clear pos
        have g1 : r31.toInt.toNat = Nat.gcd a1.toInt.toNat a2.toInt.toNat := by
          rcases q33.2 with z | z
          · exact z
          · omega
        have g0 := q33.1
        have ga : r31.toInt.toNat ∣ a1.toInt.toNat := by rw [g1]; exact Nat.gcd_dvd_left _ _
        have gb : r31.toInt.toNat ∣ a2.toInt.toNat := by rw [g1]; exact Nat.gcd_dvd_right _ _
        refine ⟨?_, ?_⟩
        · exact i_n0 (by omega)  -- b16
        intro x36 hx36
        have f4 := i_divn (x := a1) (y := r31) (by omega) (by omega)
        rw [← hx36] at f4
        have f4p := dv_p (show 0 < a1.toInt.toNat by omega) ga
        rw [← f4.2.1] at f4p
        have f4l : x36.toInt.toNat ≤ a1.toInt.toNat := by rw [f4.2.1]; exact Nat.div_le_self _ _
        refine ⟨?_, ?_⟩
        · exact i_n0 (by omega)  -- b17
        intro x37 hx37
        intro T38
        have f5 := i_divn (x := a2) (y := r31) (by omega) (by omega)
        rw [← hx37] at f5
        have f5p := dv_p (show 0 < a2.toInt.toNat by omega) gb
        rw [← f5.2.1] at f5p
        have f5d : x37.toInt.toNat ∣ a2.toInt.toNat := by rw [f5.2.1]; exact Nat.div_dvd_of_dvd gb
        refine Nu_rest_c W34 T38 c9 ?_ (fun r39 q41 => ?_)
        · exact ⟨It, by omega⟩  -- p18
        intro W42
        intro M43
        have r39p : 0 ≤ r39.toInt := by rw [q41]; exact Int.natCast_nonneg _
        refine Ch_commonInt_c W42   ?_ (fun r44 q46 => ?_)
        · exact ⟨by omega, r39p⟩  -- p19
        have g6 : r44.toInt.toNat ∣ x37.toInt.toNat := by
          rcases q46.2 with z | z
          · rw [z]; exact Nat.gcd_dvd_left _ _
          · omega
        have g6p := q46.1
        intro W47
        intro M48
        intro T49
        refine Nu_rest_c W47 T49 c9 ?_ (fun r50 q52 => ?_)
        · exact ⟨Ib, by omega⟩  -- p20
        intro W53
        intro M54
        have r50p : 0 ≤ r50.toInt := by rw [q52]; exact Int.natCast_nonneg _
        refine Ch_commonInt_c W53   ?_ (fun r55 q57 => ?_)
        · exact ⟨by omega, r50p⟩  -- p21
        have g7 : r55.toInt.toNat ∣ nuN κ (zR κ raBottom a0) := by
          have e50 : r50.toInt.toNat = nuN κ (zR κ raBottom a0) % x36.toInt.toNat := by rw [q52]; exact Int.toNat_natCast _
          rcases q57.2 with z | z
          · rw [z, e50, gc_m]; exact Nat.gcd_dvd_left _ _
          · omega
        have g7p := q57.1
        intro W58
        intro M59
        refine ⟨fun c60 => ?_, fun c60 => ?_⟩
        · skip
          refine hj84 _ _ _ _ _ _ W58 ?_ ?_
          · exact Ta0  -- t22
          · exact ⟨rfl, ⟨⟨zF.rf, rfl⟩, ⟨It, Nat.le_refl _⟩, ⟨Ib, rfl⟩, ⟨by omega, by omega⟩, ⟨by omega, f5d⟩, ⟨by omega, g6⟩, by omega, g7⟩, ps⟩  -- k23
        · skip
          intro T61
          refine Nu_over_c W58 T61 c9 ?_ (fun r62 κ_63 q64 => ?_)
          · exact ⟨It, by omega⟩  -- p24
          obtain ⟨F63, I63, V63, r63⟩ := q64
          have bb := nuB_z (c := c9) W Tb F63 (fun z => ne z.1.symm) (fun z => ne z.1.symm)
          intro W65
          intro M66
          refine hj84 _ _ _ _ _ _ W65 ?_ ?_
          · exact F63.t Ta0 (by decide)  -- t25
          · exact ⟨rfl, ⟨⟨raF_1 F63, nuF_i F63⟩, ⟨I63, by rw [V63]; exact Nat.div_le_self _ _⟩, ⟨bb.2.1 Ib, bb.2.2.1⟩, ⟨by omega, by omega⟩, ⟨by omega, f5d⟩, ⟨by omega, g6⟩, by omega, g7⟩, ps⟩  -- k26
      · skip
        intro T67
        refine Ra_putZero_c W T67 c9 ?_ (fun κ_68 q69 => ?_)
        · exact rC  -- p27
        intro W70
        intro M71
        refine h _ ?_
        · exact zro _ q69  -- q28
