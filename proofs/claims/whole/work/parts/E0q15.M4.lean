section
set_option maxHeartbeats 1600000
/-! worths are mixed: visits and what is shown stay -/
theorem So_mixWorths_q16 {C : zC} {n0 : Nat} {a0 : Nat} {a1 : Int32} {κ : zS} {Q : Int32 → zS → Prop} (W : zW C n0 κ) (Ta0 : zT κ a0 = 12) (ρ : Nat → Nat) (n9 P9 : Nat) (V9 : Nat → Rat) (hV9 : ∀ y, eW8 (tcW8 κ (zR κ soAtlas a0)) a1.toNatClampNeg y → rqW8 κ (wU9 κ a0 y) (V9 y)) (hp : pwI9 ρ κ κ a0 n9 P9 ∧ n9 ≤ 1000 ∧ (0 ≤ a1.toInt ∧ a1.toInt < n9) ∧ (0 < P9 ∧ P9 < pB9 1490) ∧ (1 ≤ (zA κ (zR κ atTotals (zR κ soAtlas a0)) a1.toNatClampNeg).toInt ∧ (zA κ (zR κ atTotals (zR κ soAtlas a0)) a1.toNatClampNeg).toInt ≤ 8000000)) (h : ∀ (v : Int32) (κ' : zS), ((nb v ∧ (zF (soF ρ (voS16 (104 + 8 * a1.toNatClampNeg)) (zR κ soCalc a0)) κ κ' ∧ nmI ρ κ' ∧ soI ρ κ' a0) ∧ nuN κ' (zR κ soLess a0) < pB9 4000 ∧ (v ≠ 0 → wsI9 ρ κ' a0 n9 (P9 * ((zA κ (zR κ atTotals (zR κ soAtlas a0)) a1.toNatClampNeg).toInt).toNat)) ∧ (∀ k, wU9 κ' a0 k = wU9 κ a0 k)) ∧ (((v ≠ 0 ↔ f2W8 (smW8 (fun j => bhW8 (tcW8 κ (zR κ soAtlas a0)) V9 (loW8 (tcW8 κ (zR κ soAtlas a0)) a1.toNatClampNeg + j) * mkRat (zA κ (zR κ atWeights (zR κ soAtlas a0)) (loW8 (tcW8 κ (zR κ soAtlas a0)) a1.toNatClampNeg + j)).toInt (zA κ (zR κ atTotals (zR κ soAtlas a0)) a1.toNatClampNeg).toInt.toNat) ((loW8 (tcW8 κ (zR κ soAtlas a0)) (a1.toNatClampNeg + 1)) - (loW8 (tcW8 κ (zR κ soAtlas a0)) a1.toNatClampNeg)))) ∧ (v ≠ 0 → rqW8 κ' (wU9 κ a0 a1.toNatClampNeg) (smW8 (fun j => bhW8 (tcW8 κ (zR κ soAtlas a0)) V9 (loW8 (tcW8 κ (zR κ soAtlas a0)) a1.toNatClampNeg + j) * mkRat (zA κ (zR κ atWeights (zR κ soAtlas a0)) (loW8 (tcW8 κ (zR κ soAtlas a0)) a1.toNatClampNeg + j)).toInt (zA κ (zR κ atTotals (zR κ soAtlas a0)) a1.toNatClampNeg).toInt.toNat) ((loW8 (tcW8 κ (zR κ soAtlas a0)) (a1.toNatClampNeg + 1)) - (loW8 (tcW8 κ (zR κ soAtlas a0)) a1.toNatClampNeg))))))) → Q v κ') : zRun C 7 mSo_mixWorths [.ref a0, .int a1] κ (oI Q noX) := by
  refine So_mixWorths_run W Ta0 ?_
  replace W := W.lo (Nat.le_trans W.1.2.1 W.1.2.2) (Nat.le_refl (zn κ))
  unfold w_So_mixWorths_0
  obtain ⟨J0, hn, p1, ⟨p2, p3⟩, p4⟩ := hp
  have kn := cnk p1.1
  have A0 := J0.2.1.1
  have wy := wy_9 A0 (k := a1.toNatClampNeg) (by omega)
  have i1 := cn1 p1.1 (by omega)
  have N0 := J0.1.1
  have S0 := J0.1.2
  have h1 : ρ (zR κ soWhole a0) = 1 := S0.1.1
  have h7 : ρ (zR κ soSum a0) = 7 := S0.1.2.2.2.2.1
  have h8 : ρ (zR κ soLess a0) = 8 := S0.1.2.2.2.2.2.1
  have h20 := S0.1.2.2.2.2.2.2
  have g1 := nm_g N0 h1 (Or.inl ⟨by decide, by decide⟩) (by decide)
  have o1 : (1 : Int64).toInt.toNat = 1 := rfl
  have h256 : 2 ^ 256 ≤ pB9 100 := by unfold pB9; decide
  intro T1
  refine Nu_put_c W T1 6500 ?_ (fun κ_2 q3 => ?_)
  · exact ⟨by decide, g1.2.2⟩  -- p1
  obtain ⟨Fp, ⟨Rp, Np⟩, Ip, Vp⟩ := q3
  have Zp : zF (soF ρ (fun r => r < 30) (zR κ soCalc a0)) κ κ_2 := soF_1 (by rw [h1]; decide) Fp
  have N2 : nmI ρ κ_2 := nm_1 W N0 Fp (by rw [h1]; exact Ip)
  have S2 : soI ρ κ_2 a0 := so_1 W Ta0 S0 Fp
  have Y2 := mw_9 W Ta0 hn J0 Zp (fun r h z => by omega) ⟨N2, S2⟩
  intro W4
  intro M5
  refine ⟨?_, ?_⟩
  · rw [Y2.2.2.1, inb_iff]; omega  -- b2
  intro x6 hx6
  unfold w_So_mixWorths_18
  refine ⟨fun n l0 l1 l2 τ => n = ((zA κ (zR κ atFirsts (zR κ soAtlas a0)) (a1.toNatClampNeg + 1)).toInt - l2.toInt).toNat ∧ ((a0 = l0 ∧ a1 = l1 ∧ (zF (soF ρ (fun r => r < 30) (zR κ soCalc a0)) κ τ ∧ nmI ρ τ ∧ soI ρ τ a0) ∧ dz9 (nuN τ (zR κ soWhole a0)) P9 ∧ (zA κ (zR κ atFirsts (zR κ soAtlas a0)) a1.toNatClampNeg).toInt ≤ l2.toInt) ∧ 0 < nuN τ (zR κ soWhole a0) ∧ ∀ i, (loW8 (tcW8 κ (zR κ soAtlas a0)) a1.toNatClampNeg) ≤ i → i < l2.toNatClampNeg → i < (loW8 (tcW8 κ (zR κ soAtlas a0)) (a1.toNatClampNeg + 1)) → zA κ (zR κ atSorts (zR κ soAtlas a0)) i = 0 → (V9 (zA κ (zR κ atNumbers (zR κ soAtlas a0)) i).toNatClampNeg).den ∣ nuN τ (zR κ soWhole a0)), ⟨_, rfl, ?_⟩, ?_⟩
  · refine and_5 ?_ (fun o9 => ?_)  -- j3
    · exact ⟨rfl, rfl, ⟨Zp, N2, S2⟩, by rw [Vp, o1]; exact Or.inr (Nat.one_dvd _), by rw [hx6, Y2.2.1]; exact Int.le_refl _⟩
    · have lo0 : ((loW8 (tcW8 κ (zR κ soAtlas a0)) a1.toNatClampNeg) : Int) = (zA κ (zR κ atFirsts (zR κ soAtlas a0)) a1.toNatClampNeg).toInt := cnk wy.2.1
      refine ⟨by rw [Vp, o1]; decide, fun i h1 h2 => ?_⟩
      rw [hx6, Y2.2.1] at h2
      exact absurd h2 (by have e : (loW8 (tcW8 κ (zR κ soAtlas a0)) a1.toNatClampNeg) = (zA κ (zR κ atFirsts (zR κ soAtlas a0)) a1.toNatClampNeg).toNatClampNeg := rfl; omega)
  rintro n18 _ _ x18_2 κ18 W18 T18_0 ⟨hn18, ⟨rfl, rfl, i18⟩, hE⟩
  obtain ⟨⟨Z1, N1, S1⟩, D1, lb1⟩ := i18
  obtain ⟨J1, eF1, nF1, ew1, es1, el1, ep1, ec1⟩ := mw_9 W Ta0 hn J0 Z1 (fun r h z => by omega) ⟨N1, S1⟩
  have tw : zT κ18 (zR κ soWhole a0) = 8 := Z1.t (ty_soWhole W Ta0) (by decide)
  refine ⟨?_, ?_⟩
  · rw [nF1, inb_iff, i1.2]; omega  -- b4
  refine ⟨fun c7 => ?_, fun c7 => ?_⟩
  · skip
    intro T8
    refine Nu_put_c W18 T8 6500 ?_ (fun κ_9 q10 => ?_)
    · exact ⟨by decide, (nm_g N1 S1.1.2.2.2.2.1 (Or.inl ⟨by decide, by decide⟩) (by decide)).2.2⟩  -- p5
    obtain ⟨Fs, ⟨Rs, Ns⟩, Is, Vs⟩ := q10
    have h71 : ρ (zR κ18 soSum a0) = 7 := S1.1.2.2.2.2.1
    have Zs : zF (soF ρ (fun r => r < 30) (zR κ soCalc a0)) κ18 κ_9 := soF_1 (by rw [h71]; decide) Fs
    have Nx : nmI ρ κ_9 := nm_1 W18 N1 Fs (by rw [h71]; exact Is)
    have Sx : soI ρ κ_9 a0 := so_1 W18 T18_0 S1 Fs
    have Tx : zT κ_9 a0 = 12 := Fs.t T18_0 (by decide)
    intro W11
    intro M12
    intro T13
    refine Nu_put_c W11 T13 6500 ?_ (fun κ_14 q15 => ?_)
    · exact ⟨by decide, (nm_g Nx Sx.1.2.2.2.2.2.1 (Or.inl ⟨by decide, by decide⟩) (by decide)).2.2⟩  -- p6
    obtain ⟨Fl, ⟨Rl, Nl⟩, Il, Vl⟩ := q15
    have h81 : ρ (zR κ_9 soLess a0) = 8 := Sx.1.2.2.2.2.2.1
    have Zl : zF (soF ρ (fun r => r < 30) (zR κ soCalc a0)) κ_9 κ_14 := soF_1 (by rw [h81]; decide) Fl
    have Ny : nmI ρ κ_14 := nm_1 W11 Nx Fl (by rw [h81]; exact Il)
    have Sy : soI ρ κ_14 a0 := so_1 W11 Tx Sx Fl
    have Zt : zF (soF ρ (fun r => r < 30) (zR κ soCalc a0)) κ κ_14 := (Z1.tr Zs).tr Zl
    have Y14 := mw_9 W Ta0 hn J0 Zt (fun r h z => by omega) ⟨Ny, Sy⟩
    have bw1 := nuB_z (c := 0) W18 tw Fs (fun z => ro_n h1 h71 (by decide) z.1) (fun z => ro_n h1 h71 (by decide) z.1)
    have bw2 := nuB_z (c := 0) W11 (Fs.t tw (by decide)) Fl (fun z => ro_n h1 h81 (by decide) z.1) (fun z => ro_n h1 h81 (by decide) z.1)
    have bs2 := nuB_z (c := 0) (y := (zR κ soSum a0)) W11 ((Z1.tr Zs).t (ty_soSum W Ta0) (by decide)) Fl (fun z => ro_n h7 h81 (by decide) z.1) (fun z => ro_n h7 h81 (by decide) z.1)
    rw [es1] at Vs
    rw [Rs, el1] at Vl
    intro W16
    intro M17
    refine ⟨?_, ?_⟩
    · rw [Y14.2.2.1, inb_iff]; omega  -- b7
    intro x18 hx18
    unfold w_So_mixWorths_90
    refine ⟨fun n l0 l1 l2 τ => n = ((zA κ (zR κ atFirsts (zR κ soAtlas a0)) (a1.toNatClampNeg + 1)).toInt - l2.toInt).toNat ∧ ((a0 = l0 ∧ a1 = l1 ∧ (zF (soF ρ (fun r => r < 30) (zR κ soCalc a0)) κ τ ∧ nmI ρ τ ∧ soI ρ τ a0) ∧ dz9 (nuN τ (zR κ soWhole a0)) P9 ∧ ((zA κ (zR κ atFirsts (zR κ soAtlas a0)) a1.toNatClampNeg).toInt ≤ l2.toInt ∧ l2.toInt ≤ (zA κ (zR κ atFirsts (zR κ soAtlas a0)) (a1.toNatClampNeg + 1)).toInt) ∧ nuN τ (zR κ soSum a0) ≤ (P9 + 1) * (1 + (l2.toInt - (zA κ (zR κ atFirsts (zR κ soAtlas a0)) a1.toNatClampNeg).toInt).toNat * sM9) ∧ nuN τ (zR κ soLess a0) ≤ (P9 + 1) * (1 + (l2.toInt - (zA κ (zR κ atFirsts (zR κ soAtlas a0)) a1.toNatClampNeg).toInt).toNat * sM9)) ∧ (0 < nuN τ (zR κ soWhole a0) ∧ ∀ i, (loW8 (tcW8 κ (zR κ soAtlas a0)) a1.toNatClampNeg) ≤ i → i < (loW8 (tcW8 κ (zR κ soAtlas a0)) (a1.toNatClampNeg + 1)) → zA κ (zR κ atSorts (zR κ soAtlas a0)) i = 0 → (V9 (zA κ (zR κ atNumbers (zR κ soAtlas a0)) i).toNatClampNeg).den ∣ nuN τ (zR κ soWhole a0)) ∧ ((((nuN τ (zR κ soSum a0) : Int) - (nuN τ (zR κ soLess a0) : Int) : Int)) : Rat) = smW8 (fun j => bhW8 (tcW8 κ (zR κ soAtlas a0)) V9 (loW8 (tcW8 κ (zR κ soAtlas a0)) a1.toNatClampNeg + j) * ((zA κ (zR κ atWeights (zR κ soAtlas a0)) (loW8 (tcW8 κ (zR κ soAtlas a0)) a1.toNatClampNeg + j)).toInt : Rat)) (l2.toNatClampNeg - (loW8 (tcW8 κ (zR κ soAtlas a0)) a1.toNatClampNeg)) * ((nuN τ (zR κ soWhole a0) : Nat) : Rat)), ⟨_, rfl, ?_⟩, ?_⟩
    · refine and_5 ?_ (fun o9 => ?_)  -- j8
      · refine ⟨rfl, rfl, ⟨Zt, Ny, Sy⟩, by rw [bw2.2.2.1, bw1.2.2.1]; exact D1, ⟨by rw [hx18, Y14.2.1]; exact Int.le_refl _, by rw [hx18, Y14.2.1]; omega⟩, ?_, ?_⟩
        · rw [bs2.2.2.1, Vs]; exact Nat.zero_le _
        · rw [Vl]; exact Nat.zero_le _
      · have lo1 : ((loW8 (tcW8 κ (zR κ soAtlas a0)) (a1.toNatClampNeg + 1)) : Int) = (zA κ (zR κ atFirsts (zR κ soAtlas a0)) (a1.toNatClampNeg + 1)).toInt := cnk (x := (zA κ (zR κ atFirsts (zR κ soAtlas a0)) (a1.toNatClampNeg + 1))) (by omega)
        rw [i1.1, eF1, lei] at c7
        have n18' := cnk (x := x18_2) (by omega)
        have ew : nuN κ_14 (zR κ soWhole a0) = nuN κ18 (zR κ soWhole a0) := by rw [bw2.2.2.1, bw1.2.2.1]
        refine ⟨⟨by rw [ew]; exact hE.1, fun i h1 h2 h3 => by rw [ew]; exact hE.2 i h1 (by omega) h2 h3⟩, ?_⟩
        have e0 : x18.toNatClampNeg - (loW8 (tcW8 κ (zR κ soAtlas a0)) a1.toNatClampNeg) = 0 := by rw [hx18, Y14.2.1]; exact Nat.sub_self _
        rw [e0, bs2.2.2.1, Vs, Vl]
        show (((0 : Nat) : Int) - ((0 : Nat) : Int) : Int) = (0 : Rat) * _
        rw [Rat.zero_mul]
        rfl
    rintro n90 _ _ x90_2 κ90 W90 T90_0 ⟨hn90, ⟨rfl, rfl, i90⟩, hE⟩
    obtain ⟨⟨Z2, Nb, Sb⟩, D2, lb, B1, B2⟩ := i90
    obtain ⟨J2, eF2, nF2, ew2, es2, el2, ep2, ec2⟩ := mw_9 W Ta0 hn J0 Z2 (fun r h z => by omega) ⟨Nb, Sb⟩
    have hw2 : nuN κ90 (zR κ soWhole a0) ≤ P9 := dz9_le D2 p2
    have tw2 : zT κ90 (zR κ soWhole a0) = 8 := Z2.t (ty_soWhole W Ta0) (by decide)
    have ts2 : zT κ90 (zR κ soSum a0) = 8 := Z2.t (ty_soSum W Ta0) (by decide)
    have tl2 : zT κ90 (zR κ soLess a0) = 8 := Z2.t (ty_soLess W Ta0) (by decide)
    have b11 : ∀ x, x ≤ (P9 + 1) * (1 + (x90_2.toInt - (zA κ (zR κ atFirsts (zR κ soAtlas a0)) a1.toNatClampNeg).toInt).toNat * sM9) → x < pB9 4000 := fun x hx => sB_9 p3 (by omega) hx
    have lw2 : nuN κ90 (zR κ soWhole a0) < pB9 1490 := Nat.lt_of_le_of_lt hw2 p3
    refine ⟨?_, ?_⟩
    · rw [nF2, inb_iff, i1.2]; omega  -- b9
    refine ⟨fun c19 => ?_, fun c19 => ?_⟩
    · skip
      refine ⟨?_, ?_⟩
      · rw [J2.2.1.2.1, inb_iff, J2.2.1.1.1.2.1]; omega  -- b10
      intro T20
      have eT2 : zA κ90 (zR κ90 atTotals (zR κ90 soAtlas a0)) = zA κ (zR κ atTotals (zR κ soAtlas a0)) := by rw [J2.2.1.2.1]; exact (at_f9 W soF_fr Z2 (ty_soAtlas W Ta0) (f := atTotals) (by decide)).2.1
      have ei := Int32.toInt_toInt64 (zA κ (zR κ atTotals (zR κ soAtlas a0)) a1.toNatClampNeg)
      have gw := nm_g Nb Sb.1.1 (Or.inl ⟨by decide, by decide⟩) (by decide)
      have lwz : nuN κ90 (zR κ90 soWhole a0) < pB9 1490 := by rw [ew2]; exact lw2
      have kw := nuK_lt gw.1 lwz
      refine Nu_times_c W90 T20 6500 ?_ (fun κ_21 q22 => ?_)
      · rw [eT2, ei]
        exact ⟨gw.1, ⟨by omega, by omega⟩, by omega, by decide⟩
      rw [eT2, ei, ew2] at q22
      obtain ⟨Ft, It, Vt⟩ := q22
      have Zx : zF (soF ρ (fun r => r < 30) (zR κ soCalc a0)) κ90 κ_21 := soF_1 (by rw [h1]; decide) Ft
      have N21 : nmI ρ κ_21 := nm_1 W90 Nb Ft (by rw [h1]; exact It)
      have S21 : soI ρ κ_21 a0 := so_1 W90 T90_0 Sb Ft
      have ew3 : zR κ_21 soWhole a0 = (zR κ soWhole a0) := (soF_r9 Zx (by decide)).1.trans ew2
      have es3 : zR κ_21 soSum a0 = (zR κ soSum a0) := (soF_r9 Zx (by decide)).1.trans es2
      have el3 : zR κ_21 soLess a0 = (zR κ soLess a0) := (soF_r9 Zx (by decide)).1.trans el2
      have ec3 : zR κ_21 soCalc a0 = (zR κ soCalc a0) := (soF_r9 Zx (by decide)).1.trans ec2
      have bs3 := nuB_z (c := 0) W90 ts2 Ft (fun z => ro_n h7 h1 (by decide) z.1) (fun z => ro_n h7 h1 (by decide) z.1)
      have bl3 := nuB_z (c := 0) W90 tl2 Ft (fun z => ro_n h8 h1 (by decide) z.1) (fun z => ro_n h8 h1 (by decide) z.1)
      have t1 : (zA κ (zR κ atTotals (zR κ soAtlas a0)) a1.toNatClampNeg).toInt.toNat < pB9 1 := Nat.lt_of_lt_of_le (show _ < 2147483648 by omega) (by unfold pB9; decide)
      have lw3 : nuN κ_21 (zR κ soWhole a0) < pB9 4000 := by
        have q := Nat.mul_lt_mul'' lw2 t1
        rw [← pB9_a] at q
        rw [Vt]
        exact Nat.lt_trans q (pB9_s (by decide))
      intro W23
      intro M24
      intro T25
      intro T26
      refine So_settle_q6 W23 T25 T26 ρ 1 ?_ (fun κ_27 q28 => ?_)
      · rw [ew3, es3, el3]
        exact ⟨⟨N21, S21⟩, ⟨h1, Or.inl rfl⟩, lw3, by rw [bs3.2.2.1]; exact b11 _ B1, by rw [bl3.2.2.1]; exact b11 _ B2⟩
      obtain ⟨q28, z9⟩ := q28
      have zs := z9
      rw [ew3, es3, el3, ec3] at q28
      obtain ⟨Zq, ⟨N27, S27⟩, O⟩ := q28
      have Z27 : zF (soF ρ (fun r => r < 30) (zR κ soCalc a0)) κ κ_27 := (Z2.tr Zx).tr (soF_m (fun r z => by rcases z with z | z | z | z <;> omega) Zq)
      obtain ⟨J27, _, _, _, _, _, _, ec27⟩ := mw_9 W Ta0 hn J0 Z27 (fun r h z => by omega) ⟨N27, S27⟩
      have T27 : zT κ_27 a0 = 12 := Z27.t Ta0 (by decide)
      obtain ⟨v1, v2, v3⟩ := J27.2.2.1.2 a1.toNatClampNeg (by omega)
      have vl := J27.2.2.1.1
      have l27 := soF_B (c := 0) (w := (zR κ soLess a0)) W23 (Ft.t tl2 (by decide)) Zq (by rw [h8]; unfold stR9; decide)
      intro W29
      intro M30
      refine ⟨?_, ?_⟩
      · rw [inb_iff]; omega  -- b13
      refine ex_some ?_ (fun u31 hu31 => ?_)
      · exact ⟨_, v1⟩  -- e14
      intro T32
      intro T33
      have eu : u31 = wU9 κ_27 a0 a1.toNatClampNeg := Option.some.inj (hu31.symm.trans v1)
      subst eu
      refine So_keepPart_q6 W29 T32 T33 ρ (104 + 8 * a1.toNatClampNeg) ?_ (fun r34 κ_35 q36 => ?_)
      · exact ⟨⟨N27, S27⟩, v2, by omega, by omega, by omega⟩  -- p15
      obtain ⟨q36, z9⟩ := q36
      have zk := z9
      intro W37
      intro M38
      refine ⟨?_, h _ _ ?_⟩
      · exact q36.1  -- b16
      · refine and_5 ?_ (fun o9 => ?_)  -- q17
        · obtain ⟨b, K0, K1⟩ := q36
          by_cases z : r34 = 0
          · rw [K0 z]
            exact ⟨b, ⟨soF_m (fun r y => Or.inl y) Z27, N27, S27⟩, by rw [l27.2.1, bl3.2.2.1]; exact b11 _ B2, fun y => absurd z y, J27.2.2.2.1⟩
          · obtain ⟨⟨Zk, Nk, Sk⟩, f2, Vk⟩ := K1 z
            rw [ec27] at Zk
            have l35 := soF_B (c := 0) (w := (zR κ soLess a0)) W29 (Z27.t (ty_soLess W Ta0) (by decide)) Zk (by rw [h8]; omega)
            have wu := wU9_f W29 T27 Zk
            have e4 : zR κ_27 soPart a0 = zR κ_21 soPart a0 := (soF_r9 Zq (by decide)).1
            have eb27 : zR κ_27 raBottom (zR κ_27 soPart a0) = zR κ_21 raBottom (zR κ_21 soPart a0) := by rw [e4, (soF_r9 Zq (f := raBottom) (by decide)).1]
            have dB : dz9 (nuN κ_27 (zR κ_27 raBottom (zR κ_27 soPart a0))) (P9 * (zA κ (zR κ atTotals (zR κ soAtlas a0)) a1.toNatClampNeg).toInt.toNat) := by
              rw [eb27]
              rcases O with ⟨_, _, _, o⟩ | ⟨_, _, _, o⟩
              · rw [o]; exact Or.inr (Nat.one_dvd _)
              · rw [o]; exact dz9_div (by rw [Vt]; exact dz9_mul D2) (Nat.gcd_dvd_right _ _)
            have sg : -1 ≤ (zI κ_27 raSign (zR κ_27 soPart a0)).toInt ∧ (zI κ_27 raSign (zR κ_27 soPart a0)).toInt ≤ 1 := by
              rw [e4]
              rcases O with ⟨_, o, _⟩ | ⟨_, o | o, _⟩ <;> omega
            have wk : wsK9 κ_35 (wU9 κ_27 a0 a1.toNatClampNeg) (P9 * (zA κ (zR κ atTotals (zR κ soAtlas a0)) a1.toNatClampNeg).toInt.toNat) := by
              unfold wsK9
              rw [Vk.2.1, Vk.2.2, Vk.1]
              exact ⟨f2, dB, sg⟩
            exact ⟨b, ⟨(soF_m (fun r y => Or.inl y) Z27).tr (soF_m (fun r y => Or.inr y) Zk), Nk, Sk⟩, by rw [l35.2.1, l27.2.1, bl3.2.2.1]; exact b11 _ B2, fun _ => ws_w9 W29 T27 N27 Zk hn (k := a1.toNatClampNeg) (fun r h y => y) (ws_m9 (Nat.dvd_mul_right _ _) J27.2.2.1) wk, fun i => (wu.2 i).trans (J27.2.2.2.1 i)⟩
        · have lo0 : ((loW8 (tcW8 κ (zR κ soAtlas a0)) a1.toNatClampNeg) : Int) = (zA κ (zR κ atFirsts (zR κ soAtlas a0)) a1.toNatClampNeg).toInt := cnk wy.2.1
          have lo1 : ((loW8 (tcW8 κ (zR κ soAtlas a0)) (a1.toNatClampNeg + 1)) : Int) = (zA κ (zR κ atFirsts (zR κ soAtlas a0)) (a1.toNatClampNeg + 1)).toInt := cnk (x := (zA κ (zR κ atFirsts (zR κ soAtlas a0)) (a1.toNatClampNeg + 1))) (by omega)
          rw [i1.1, eF2, lei] at c19
          have nx9 := cnk (x := x90_2) (by omega)
          have S := hE.2
          rw [show x90_2.toNatClampNeg - (loW8 (tcW8 κ (zR κ soAtlas a0)) a1.toNatClampNeg) = (loW8 (tcW8 κ (zR κ soAtlas a0)) (a1.toNatClampNeg + 1)) - (loW8 (tcW8 κ (zR κ soAtlas a0)) a1.toNatClampNeg) by omega] at S
          have e4 : zR κ_27 soPart a0 = zR κ_21 soPart a0 := (soF_r9 Zq (by decide)).1
          have et27 : zR κ_27 raTop (zR κ_21 soPart a0) = zR κ_21 raTop (zR κ_21 soPart a0) := (soF_r9 Zq (f := raTop) (by decide)).1
          have eb27 : zR κ_27 raBottom (zR κ_21 soPart a0) = zR κ_21 raBottom (zR κ_21 soPart a0) := (soF_r9 Zq (f := raBottom) (by decide)).1
          have T0 : 0 < (zA κ (zR κ atTotals (zR κ soAtlas a0)) a1.toNatClampNeg).toInt.toNat := by omega
          rw [es3, el3] at zs
          rw [← et27, ← eb27] at O
          have R := st_q8 (by rw [Vt]; exact Nat.mul_pos hE.1.1 T0) O zs
          rw [bs3.2.2.1, bl3.2.2.1, Vt, mk_d8 S hE.1.1, ← sm_d8] at R
          have R' : rqW8 κ_27 (zR κ_27 soPart a0) (smW8 (fun j => bhW8 (tcW8 κ (zR κ soAtlas a0)) V9 (loW8 (tcW8 κ (zR κ soAtlas a0)) a1.toNatClampNeg + j) * mkRat (zA κ (zR κ atWeights (zR κ soAtlas a0)) (loW8 (tcW8 κ (zR κ soAtlas a0)) a1.toNatClampNeg + j)).toInt (zA κ (zR κ atTotals (zR κ soAtlas a0)) a1.toNatClampNeg).toInt.toNat) ((loW8 (tcW8 κ (zR κ soAtlas a0)) (a1.toNatClampNeg + 1)) - (loW8 (tcW8 κ (zR κ soAtlas a0)) a1.toNatClampNeg))) := by rw [e4]; exact R
          have fe : (nuN κ_27 (zR κ_27 raTop (zR κ_27 soPart a0)) < 2 ^ 256 ∧ nuN κ_27 (zR κ_27 raBottom (zR κ_27 soPart a0)) < 2 ^ 256) ↔ f2W8 (smW8 (fun j => bhW8 (tcW8 κ (zR κ soAtlas a0)) V9 (loW8 (tcW8 κ (zR κ soAtlas a0)) a1.toNatClampNeg + j) * mkRat (zA κ (zR κ atWeights (zR κ soAtlas a0)) (loW8 (tcW8 κ (zR κ soAtlas a0)) a1.toNatClampNeg + j)).toInt (zA κ (zR κ atTotals (zR κ soAtlas a0)) a1.toNatClampNeg).toInt.toNat) ((loW8 (tcW8 κ (zR κ soAtlas a0)) (a1.toNatClampNeg + 1)) - (loW8 (tcW8 κ (zR κ soAtlas a0)) a1.toNatClampNeg))) := by
            unfold f2W8
            rw [R'.2.1, R'.2.2]
          refine ⟨by rw [zk]; exact fe, fun z => ?_⟩
          obtain ⟨_, f2, Vk⟩ := q36.2.2 z
          rw [← J27.2.2.2.1]
          exact ⟨Vk.1.trans R'.1, Vk.2.1.trans R'.2.1, Vk.2.2.trans R'.2.2⟩
    · skip
      intro T39
      rw [i1.1, eF2, lei] at c19
      have ix := cn1 (x := x90_2) (by omega) (by omega)
      have nx : ∀ x : Int32, x = x90_2 + 1 → (x.toInt - (zA κ (zR κ atFirsts (zR κ soAtlas a0)) a1.toNatClampNeg).toInt).toNat = (x90_2.toInt - (zA κ (zR κ atFirsts (zR κ soAtlas a0)) a1.toNatClampNeg).toInt).toNat + 1 := fun x e => by rw [e, ix.2]; omega
      refine So_worthBehind_q6 W90 T39 ρ n9 P9 a1.toNatClampNeg ?_ (fun r40 q42 => ?_)
      · exact ⟨by rw [J2.2.1.2.1]; exact J2.2.1.1, J2.2.2.1, by omega, by omega, by rw [eF2]; exact lb.1, by rw [eF2]; omega⟩  -- p18
      obtain ⟨q42, z9⟩ := q42
      have zb := z9
      intro W43
      intro M44
      intro T45
      refine ⟨fun c46 => ?_, fun uc46 c46 => ?_⟩
      · skip
        intro x47 hx47
        refine lp_b5 ?_ (fun d9 => ⟨rfl, ?_⟩)
        · rw [hn90, hx47, ix.2]; omega  -- d19
        · refine and_5 ?_ (fun o9 => ?_)  -- i20
          · exact ⟨rfl, rfl, ⟨Z2, Nb, Sb⟩, D2, ⟨by rw [hx47, ix.2]; omega, by rw [hx47, ix.2]; omega⟩, by rw [nx _ hx47]; exact sm_m9 B1, by rw [nx _ hx47]; exact sm_m9 B2⟩
          · have lo0 : ((loW8 (tcW8 κ (zR κ soAtlas a0)) a1.toNatClampNeg) : Int) = (zA κ (zR κ atFirsts (zR κ soAtlas a0)) a1.toNatClampNeg).toInt := cnk wy.2.1
            have lo1 : ((loW8 (tcW8 κ (zR κ soAtlas a0)) (a1.toNatClampNeg + 1)) : Int) = (zA κ (zR κ atFirsts (zR κ soAtlas a0)) (a1.toNatClampNeg + 1)).toInt := cnk (x := (zA κ (zR κ atFirsts (zR κ soAtlas a0)) (a1.toNatClampNeg + 1))) (by omega)
            have nx9 := cnk (x := x90_2) (by omega)
            have ov := fo_w8 W Ta0 hn J0 (by omega) (Z2.mono (fun f b z => Or.inl z)) (fun r h z => by omega) J2.2.2.2.1 J2.2.1.2.1 (by omega) (by omega) hV9 zb
            have xs : x47.toNatClampNeg - (loW8 (tcW8 κ (zR κ soAtlas a0)) a1.toNatClampNeg) = (x90_2.toNatClampNeg - (loW8 (tcW8 κ (zR κ soAtlas a0)) a1.toNatClampNeg)) + 1 := by rw [hx47, ix.1]; omega
            have g0 : (fun j => bhW8 (tcW8 κ (zR κ soAtlas a0)) V9 (loW8 (tcW8 κ (zR κ soAtlas a0)) a1.toNatClampNeg + j) * ((zA κ (zR κ atWeights (zR κ soAtlas a0)) (loW8 (tcW8 κ (zR κ soAtlas a0)) a1.toNatClampNeg + j)).toInt : Rat)) (x90_2.toNatClampNeg - (loW8 (tcW8 κ (zR κ soAtlas a0)) a1.toNatClampNeg)) = 0 := by
              show bhW8 (tcW8 κ (zR κ soAtlas a0)) V9 ((loW8 (tcW8 κ (zR κ soAtlas a0)) a1.toNatClampNeg) + (x90_2.toNatClampNeg - (loW8 (tcW8 κ (zR κ soAtlas a0)) a1.toNatClampNeg))) * _ = 0
              rw [show (loW8 (tcW8 κ (zR κ soAtlas a0)) a1.toNatClampNeg) + (x90_2.toNatClampNeg - (loW8 (tcW8 κ (zR κ soAtlas a0)) a1.toNatClampNeg)) = x90_2.toNatClampNeg by omega, ov.2 c46, Rat.zero_mul]
            refine ⟨hE.1, ?_⟩
            rw [xs]
            show _ = (smW8 (fun j => bhW8 (tcW8 κ (zR κ soAtlas a0)) V9 (loW8 (tcW8 κ (zR κ soAtlas a0)) a1.toNatClampNeg + j) * ((zA κ (zR κ atWeights (zR κ soAtlas a0)) (loW8 (tcW8 κ (zR κ soAtlas a0)) a1.toNatClampNeg + j)).toInt : Rat)) (x90_2.toNatClampNeg - (loW8 (tcW8 κ (zR κ soAtlas a0)) a1.toNatClampNeg)) + (fun j => bhW8 (tcW8 κ (zR κ soAtlas a0)) V9 (loW8 (tcW8 κ (zR κ soAtlas a0)) a1.toNatClampNeg + j) * ((zA κ (zR κ atWeights (zR κ soAtlas a0)) (loW8 (tcW8 κ (zR κ soAtlas a0)) a1.toNatClampNeg + j)).toInt : Rat)) (x90_2.toNatClampNeg - (loW8 (tcW8 κ (zR κ soAtlas a0)) a1.toNatClampNeg))) * _
            rw [g0, Rat.add_zero]
            exact hE.2
      · skip
        refine ex_some ?_ (fun u48 hu48 => ?_)
        · exact ⟨_, c46⟩  -- e21
        obtain ⟨j, hj, ej⟩ : ∃ j, j < n9 ∧ wU9 κ90 a0 j = u48 := by
          rcases q42 with z | ⟨j, hj, z⟩
          · rw [z] at hu48; cases hu48
          · exact ⟨j, hj, Option.some.inj (z.symm.trans hu48)⟩
        obtain ⟨_, y3, y4⟩ := J2.2.2.1.2 j hj
        rw [ej] at y3 y4
        refine ⟨fun c49 => ?_, fun c49 => ?_⟩
        · skip
          intro x50 hx50
          refine lp_b5 ?_ (fun d9 => ⟨rfl, ?_⟩)
          · rw [hn90, hx50, ix.2]; omega  -- d22
          · refine and_5 ?_ (fun o9 => ?_)  -- i23
            · exact ⟨rfl, rfl, ⟨Z2, Nb, Sb⟩, D2, ⟨by rw [hx50, ix.2]; omega, by rw [hx50, ix.2]; omega⟩, by rw [nx _ hx50]; exact sm_m9 B1, by rw [nx _ hx50]; exact sm_m9 B2⟩
            · have lo0 : ((loW8 (tcW8 κ (zR κ soAtlas a0)) a1.toNatClampNeg) : Int) = (zA κ (zR κ atFirsts (zR κ soAtlas a0)) a1.toNatClampNeg).toInt := cnk wy.2.1
              have lo1 : ((loW8 (tcW8 κ (zR κ soAtlas a0)) (a1.toNatClampNeg + 1)) : Int) = (zA κ (zR κ atFirsts (zR κ soAtlas a0)) (a1.toNatClampNeg + 1)).toInt := cnk (x := (zA κ (zR κ atFirsts (zR κ soAtlas a0)) (a1.toNatClampNeg + 1))) (by omega)
              have nx9 := cnk (x := x90_2) (by omega)
              have ov := fo_w8 W Ta0 hn J0 (by omega) (Z2.mono (fun f b z => Or.inl z)) (fun r h z => by omega) J2.2.2.2.1 J2.2.1.2.1 (by omega) (by omega) hV9 zb
              have xs : x50.toNatClampNeg - (loW8 (tcW8 κ (zR κ soAtlas a0)) a1.toNatClampNeg) = (x90_2.toNatClampNeg - (loW8 (tcW8 κ (zR κ soAtlas a0)) a1.toNatClampNeg)) + 1 := by rw [hx50, ix.1]; omega
              have g0 : (fun j => bhW8 (tcW8 κ (zR κ soAtlas a0)) V9 (loW8 (tcW8 κ (zR κ soAtlas a0)) a1.toNatClampNeg + j) * ((zA κ (zR κ atWeights (zR κ soAtlas a0)) (loW8 (tcW8 κ (zR κ soAtlas a0)) a1.toNatClampNeg + j)).toInt : Rat)) (x90_2.toNatClampNeg - (loW8 (tcW8 κ (zR κ soAtlas a0)) a1.toNatClampNeg)) = 0 := by
                show bhW8 (tcW8 κ (zR κ soAtlas a0)) V9 ((loW8 (tcW8 κ (zR κ soAtlas a0)) a1.toNatClampNeg) + (x90_2.toNatClampNeg - (loW8 (tcW8 κ (zR κ soAtlas a0)) a1.toNatClampNeg))) * _ = 0
                rw [show (loW8 (tcW8 κ (zR κ soAtlas a0)) a1.toNatClampNeg) + (x90_2.toNatClampNeg - (loW8 (tcW8 κ (zR κ soAtlas a0)) a1.toNatClampNeg)) = x90_2.toNatClampNeg by omega, ps_q8.2.1.mp ((ov.1 u48 hu48).1.symm.trans (by rw [c49]; rfl)), Rat.zero_mul]
              refine ⟨hE.1, ?_⟩
              rw [xs]
              show _ = (smW8 (fun j => bhW8 (tcW8 κ (zR κ soAtlas a0)) V9 (loW8 (tcW8 κ (zR κ soAtlas a0)) a1.toNatClampNeg + j) * ((zA κ (zR κ atWeights (zR κ soAtlas a0)) (loW8 (tcW8 κ (zR κ soAtlas a0)) a1.toNatClampNeg + j)).toInt : Rat)) (x90_2.toNatClampNeg - (loW8 (tcW8 κ (zR κ soAtlas a0)) a1.toNatClampNeg)) + (fun j => bhW8 (tcW8 κ (zR κ soAtlas a0)) V9 (loW8 (tcW8 κ (zR κ soAtlas a0)) a1.toNatClampNeg + j) * ((zA κ (zR κ atWeights (zR κ soAtlas a0)) (loW8 (tcW8 κ (zR κ soAtlas a0)) a1.toNatClampNeg + j)).toInt : Rat)) (x90_2.toNatClampNeg - (loW8 (tcW8 κ (zR κ soAtlas a0)) a1.toNatClampNeg))) * _
              rw [g0, Rat.add_zero]
              exact hE.2
        · skip
          refine ex_some ?_ (fun u51 hu51 => ?_)
          · exact ⟨_, c46⟩  -- e24
          intro T52
          intro T53
          have e51 : u51 = u48 := Option.some.inj (hu51.symm.trans hu48)
          rw [← e51] at y3 y4
          have gs := ra_g9 Nb y3 (by omega) (by omega) (by omega)
          have h2p : ρ (zR κ90 soPart a0) = 20 := by rw [ep2]; exact h20
          have go := ra_t9 Nb h2p (Or.inl rfl)
          have kt := nuK_c9 gs.2.2.2.1
          have kb := nuK_c9 gs.2.2.2.2.1
          refine Ra_copy_c W43 T52 T53 6500 ?_ (fun κ_54 q55 => ?_)
          · exact ⟨go.2.1, ⟨nuI_mono (by decide) gs.2.2.2.1, nuI_mono (by decide) gs.2.2.2.2.1, gs.2.2.2.2.2⟩, ⟨ro_n go.1.1 gs.2.1.1 (by omega), ro_n go.1.1 gs.2.1.2 (by omega), ro_n go.1.2 gs.2.1.1 (by omega), ro_n go.1.2 gs.2.1.2 (by omega)⟩, ⟨by omega, by omega⟩, by decide⟩  -- p25
          obtain ⟨Zc, Jc, Vc⟩ := q55
          have R5 := ra_s9 W43 T90_0 Nb Sb h2p (Or.inl rfl) Zc Jc
          have Z5 := R5.2 (zR κ soCalc a0)
          have Z25 : zF (soF ρ (fun r => r < 30) (zR κ soCalc a0)) κ κ_54 := Z2.tr (soF_m (fun r z => by omega) Z5)
          obtain ⟨J5, eF5, nF5, ew5, es5, el5, ep5, ec5⟩ := mw_9 W Ta0 hn J0 Z25 (fun r h z => by omega) R5.1
          have ep6 : zR κ_54 soPart a0 = zR κ90 soPart a0 := (soF_r9 Z5 (by decide)).1
          have w5 := soF_B (c := 0) (w := (zR κ soWhole a0)) W43 tw2 Z5 (by rw [h1]; decide)
          have s5 := soF_B (c := 0) (w := (zR κ soSum a0)) W43 ts2 Z5 (by rw [h7]; decide)
          have l5 := soF_B (c := 0) (w := (zR κ soLess a0)) W43 tl2 Z5 (by rw [h8]; decide)
          have r5 := ra_f9 W43 Nb Z5 y3 gs.1.2 ⟨by omega, by omega, by omega⟩
          have kx := cnk (x := x90_2) (by omega)
          have eG5 : zA κ_54 (zR κ_54 atFirsts (zR κ soAtlas a0)) = zA κ (zR κ atFirsts (zR κ soAtlas a0)) := by rw [J5.2.1.2.2.2]; exact J5.2.1.2.2.1
          have n5 := nx_9 J5.2.1.1 (k := a1.toNatClampNeg) (i := x90_2.toNatClampNeg) (by omega) (by rw [eG5]; omega) (by rw [eG5]; omega)
          have Rx : rqW8 κ90 u51 (bhW8 (tcW8 κ (zR κ soAtlas a0)) V9 x90_2.toNatClampNeg) := by
            have lo0 : ((loW8 (tcW8 κ (zR κ soAtlas a0)) a1.toNatClampNeg) : Int) = (zA κ (zR κ atFirsts (zR κ soAtlas a0)) a1.toNatClampNeg).toInt := cnk wy.2.1
            have lo1 : ((loW8 (tcW8 κ (zR κ soAtlas a0)) (a1.toNatClampNeg + 1)) : Int) = (zA κ (zR κ atFirsts (zR κ soAtlas a0)) (a1.toNatClampNeg + 1)).toInt := cnk (x := (zA κ (zR κ atFirsts (zR κ soAtlas a0)) (a1.toNatClampNeg + 1))) (by omega)
            have ov := fo_w8 W Ta0 hn J0 (by omega) (Z2.mono (fun f b z => Or.inl z)) (fun r h z => by omega) J2.2.2.2.1 J2.2.1.2.1 (by omega) (by omega) hV9 zb
            exact ov.1 u51 hu51
          intro W56
          intro M57
          refine ex_some ?_ (fun u58 hu58 => ?_)
          · exact ⟨_, c46⟩  -- e26
          refine ⟨?_, ?_⟩
          · rw [J5.2.1.2.1, inb_iff]; omega  -- b27
          intro T59
          have e58 : u58 = u51 := Option.some.inj (hu58.symm.trans hu51)
          subst e58
          have m28 := mz_9 (s := zI κ_54 raSign u58) (w := zA κ_54 (zR κ_54 atWeights (zR κ_54 soAtlas a0)) x90_2.toNatClampNeg) (by rw [r5.1]; exact y4.2.2.1) (by rw [r5.1]; exact y4.2.2.2) (by rw [J5.2.1.2.1]; exact n5.2.2)
          have tmb : ∀ y : Nat, y ≤ 2147483648 → nuN κ90 (zR κ90 raTop u58) * y * (nuN κ90 (zR κ soWhole a0) + 1) ≤ (P9 + 1) * sM9 := fun y hy => Nat.le_trans (tm_c9 y4.1.1 hy) (Nat.mul_le_mul_right _ (Nat.succ_le_succ hw2))
          refine So_addTerm_c W56 T59 ρ ?_ (fun κ_60 q61 => ?_)
          · rw [ep6, ew5, es5, el5, w5.2.1, s5.2.1, l5.2.1, Vc.2.1, Vc.2.2]
            exact ⟨R5.1, ⟨by omega, by omega⟩, ⟨Nat.lt_of_lt_of_le lw2 (pB9_l (by decide)), Nat.lt_of_lt_of_le y4.1.1 h256, by rw [Rx.2.2]; exact Nat.pos_of_ne_zero (Rat.den_nz _)⟩, b11 _ B1, b11 _ B2⟩
          rw [ep6, ew5, es5, el5, ec5, w5.2.1, s5.2.1, l5.2.1, Vc.2.1] at q61
          obtain ⟨Za, Na, A1, A2⟩ := q61
          have Zf : zF (soF ρ (fun r => r < 30) (zR κ soCalc a0)) κ κ_60 := Z25.tr (soF_m (fun r z => by rcases z with z | z | z | z | z | z <;> omega) Za)
          have w60 := soF_B (c := 0) (w := (zR κ soWhole a0)) W56 (Z5.t tw2 (by decide)) Za (by rw [h1]; unfold adR9; decide)
          intro W62
          intro M63
          intro x64 hx64
          refine lp_b5 ?_ (fun d9 => ⟨rfl, ?_⟩)
          · rw [hn90, hx64, ix.2]; omega  -- d29
          · refine and_5 ?_ (fun o9 => ?_)  -- i30
            · refine ⟨rfl, rfl, ⟨Zf, Na⟩, by rw [w60.2.1, w5.2.1]; exact D2, ⟨by rw [hx64, ix.2]; omega, by rw [hx64, ix.2]; omega⟩, ?_, ?_⟩
              · rw [nx _ hx64]
                by_cases z : 0 < (Int32.toInt64 (zI κ_54 raSign u58) * Int32.toInt64 (zA κ_54 (zR κ_54 atWeights (zR κ_54 soAtlas a0)) x90_2.toNatClampNeg)).toInt
                · rw [(A1 z).1]
                  exact Nat.le_trans (Nat.add_le_add_left (Nat.mul_le_mul_left _ (Nat.le_succ_of_le (Nat.div_le_self _ _))) _) (sm_s9 B1 (tmb _ (by omega)))
                · rw [(A2 z).2]; exact sm_m9 B1
              · rw [nx _ hx64]
                by_cases z : 0 < (Int32.toInt64 (zI κ_54 raSign u58) * Int32.toInt64 (zA κ_54 (zR κ_54 atWeights (zR κ_54 soAtlas a0)) x90_2.toNatClampNeg)).toInt
                · rw [(A1 z).2]; exact sm_m9 B2
                · rw [(A2 z).1]
                  exact Nat.le_trans (Nat.add_le_add_left (Nat.mul_le_mul_left _ (Nat.le_succ_of_le (Nat.div_le_self _ _))) _) (sm_s9 B2 (tmb _ (by omega)))
            · have lo0 : ((loW8 (tcW8 κ (zR κ soAtlas a0)) a1.toNatClampNeg) : Int) = (zA κ (zR κ atFirsts (zR κ soAtlas a0)) a1.toNatClampNeg).toInt := cnk wy.2.1
              have lo1 : ((loW8 (tcW8 κ (zR κ soAtlas a0)) (a1.toNatClampNeg + 1)) : Int) = (zA κ (zR κ atFirsts (zR κ soAtlas a0)) (a1.toNatClampNeg + 1)).toInt := cnk (x := (zA κ (zR κ atFirsts (zR κ soAtlas a0)) (a1.toNatClampNeg + 1))) (by omega)
              have nx9 := cnk (x := x90_2) (by omega)
              have ov := fo_w8 W Ta0 hn J0 (by omega) (Z2.mono (fun f b z => Or.inl z)) (fun r h z => by omega) J2.2.2.2.1 J2.2.1.2.1 (by omega) (by omega) hV9 zb
              have xs : x64.toNatClampNeg - (loW8 (tcW8 κ (zR κ soAtlas a0)) a1.toNatClampNeg) = (x90_2.toNatClampNeg - (loW8 (tcW8 κ (zR κ soAtlas a0)) a1.toNatClampNeg)) + 1 := by rw [hx64, ix.1]; omega
              have ew : nuN κ_60 (zR κ soWhole a0) = nuN κ90 (zR κ soWhole a0) := by rw [w60.2.1, w5.2.1]
              have dv : nuN κ90 (zR κ90 raBottom u58) ∣ nuN κ90 (zR κ soWhole a0) := by
                rcases zb with ⟨b1, b2⟩ | ⟨b1, b2⟩
                · have tz := congrFun (congrFun (tc_f8 W (ty_soAtlas W Ta0) Z2 (fun f hf => so_38 hf)) 1) x90_2.toNatClampNeg
                  have b1' : zA κ (zR κ atSorts (zR κ soAtlas a0)) x90_2.toNatClampNeg = 0 := by
                    rw [J2.2.1.2.1] at b1
                    exact tz.symm.trans b1
                  have bx : bhW8 (tcW8 κ (zR κ soAtlas a0)) V9 x90_2.toNatClampNeg = V9 (zA κ (zR κ atNumbers (zR κ soAtlas a0)) x90_2.toNatClampNeg).toNatClampNeg := if_pos b1'
                  rw [Rx.2.2, bx]
                  exact hE.1.2 _ (by omega) (by omega) b1'
                · rw [b2] at c46; cases c46
              have ewt : zA κ_54 (zR κ_54 atWeights (zR κ_54 soAtlas a0)) x90_2.toNatClampNeg = zA κ (zR κ atWeights (zR κ soAtlas a0)) x90_2.toNatClampNeg := by
                rw [J5.2.1.2.1]
                exact congrFun (congrFun (tc_f8 W (ty_soAtlas W Ta0) Z25 (fun f hf => so_38 hf)) 3) x90_2.toNatClampNeg
              rw [r5.1, ewt] at A1 A2 m28
              have mul : (Int32.toInt64 (zI κ90 raSign u58) * Int32.toInt64 (zA κ (zR κ atWeights (zR κ soAtlas a0)) x90_2.toNatClampNeg)).toInt = (zI κ90 raSign u58).toInt * (zA κ (zR κ atWeights (zR κ soAtlas a0)) x90_2.toNatClampNeg).toInt := ml_q8 y4.2.2.1 y4.2.2.2
              rw [mul, Vc.2.2] at A1 A2
              have K := tm_q8 (x := bhW8 (tcW8 κ (zR κ soAtlas a0)) V9 x90_2.toNatClampNeg) (w := (zA κ (zR κ atWeights (zR κ soAtlas a0)) x90_2.toNatClampNeg).toInt) Rx.1 Rx.2.1 Rx.2.2 dv
              refine ⟨⟨by rw [ew]; exact hE.1.1, fun i h1 h2 h3 => by rw [ew]; exact hE.1.2 i h1 h2 h3⟩, ?_⟩
              have gx : (fun j => bhW8 (tcW8 κ (zR κ soAtlas a0)) V9 (loW8 (tcW8 κ (zR κ soAtlas a0)) a1.toNatClampNeg + j) * ((zA κ (zR κ atWeights (zR κ soAtlas a0)) (loW8 (tcW8 κ (zR κ soAtlas a0)) a1.toNatClampNeg + j)).toInt : Rat)) (x90_2.toNatClampNeg - (loW8 (tcW8 κ (zR κ soAtlas a0)) a1.toNatClampNeg)) = bhW8 (tcW8 κ (zR κ soAtlas a0)) V9 x90_2.toNatClampNeg * ((zA κ (zR κ atWeights (zR κ soAtlas a0)) x90_2.toNatClampNeg).toInt : Rat) := by
                show bhW8 (tcW8 κ (zR κ soAtlas a0)) V9 ((loW8 (tcW8 κ (zR κ soAtlas a0)) a1.toNatClampNeg) + (x90_2.toNatClampNeg - (loW8 (tcW8 κ (zR κ soAtlas a0)) a1.toNatClampNeg))) * ((zA κ (zR κ atWeights (zR κ soAtlas a0)) ((loW8 (tcW8 κ (zR κ soAtlas a0)) a1.toNatClampNeg) + (x90_2.toNatClampNeg - (loW8 (tcW8 κ (zR κ soAtlas a0)) a1.toNatClampNeg)))).toInt : Rat) = _
                rw [show (loW8 (tcW8 κ (zR κ soAtlas a0)) a1.toNatClampNeg) + (x90_2.toNatClampNeg - (loW8 (tcW8 κ (zR κ soAtlas a0)) a1.toNatClampNeg)) = x90_2.toNatClampNeg by omega]
              rw [xs, ew]
              show _ = (smW8 (fun j => bhW8 (tcW8 κ (zR κ soAtlas a0)) V9 (loW8 (tcW8 κ (zR κ soAtlas a0)) a1.toNatClampNeg + j) * ((zA κ (zR κ atWeights (zR κ soAtlas a0)) (loW8 (tcW8 κ (zR κ soAtlas a0)) a1.toNatClampNeg + j)).toInt : Rat)) (x90_2.toNatClampNeg - (loW8 (tcW8 κ (zR κ soAtlas a0)) a1.toNatClampNeg)) + (fun j => bhW8 (tcW8 κ (zR κ soAtlas a0)) V9 (loW8 (tcW8 κ (zR κ soAtlas a0)) a1.toNatClampNeg + j) * ((zA κ (zR κ atWeights (zR κ soAtlas a0)) (loW8 (tcW8 κ (zR κ soAtlas a0)) a1.toNatClampNeg + j)).toInt : Rat)) (x90_2.toNatClampNeg - (loW8 (tcW8 κ (zR κ soAtlas a0)) a1.toNatClampNeg))) * _
              rw [gx, Rat.add_mul, ← hE.2]
              by_cases z : 0 < (zI κ90 raSign u58).toInt * (zA κ (zR κ atWeights (zR κ soAtlas a0)) x90_2.toNatClampNeg).toInt
              · rw [← K.1 z, ← Rat.intCast_add, (A1 z).1, (A1 z).2]
                congr 1
                omega
              · rw [← K.2 z, ← Rat.intCast_add, (A2 z).1, (A2 z).2]
                congr 1
                omega
  · skip
    intro T65
    rw [i1.1, eF1, lei] at c7
    have ix := cn1 (x := x18_2) (by omega) (by omega)
    refine So_worthBehind_q6 W18 T65 ρ n9 P9 a1.toNatClampNeg ?_ (fun r66 q68 => ?_)
    · exact ⟨by rw [J1.2.1.2.1]; exact J1.2.1.1, J1.2.2.1, by omega, by omega, by rw [eF1]; exact lb1, by rw [eF1]; omega⟩  -- p31
    obtain ⟨q68, z9⟩ := q68
    have zb := z9
    intro W69
    intro M70
    intro T71
    refine ⟨fun c72 => ?_, fun uc72 c72 => ?_⟩
    · skip
      intro x73 hx73
      refine lp_b5 ?_ (fun d9 => ⟨rfl, ?_⟩)
      · rw [hn18, hx73, ix.2]; omega  -- d32
      · refine and_5 ?_ (fun o9 => ?_)  -- i33
        · exact ⟨rfl, rfl, ⟨Z1, N1, S1⟩, D1, by rw [hx73, ix.2]; omega⟩
        · have lo0 : ((loW8 (tcW8 κ (zR κ soAtlas a0)) a1.toNatClampNeg) : Int) = (zA κ (zR κ atFirsts (zR κ soAtlas a0)) a1.toNatClampNeg).toInt := cnk wy.2.1
          have n18' := cnk (x := x18_2) (by omega)
          refine ⟨hE.1, fun i h1 h2 h3 h4 => ?_⟩
          rw [hx73, ix.1] at h2
          by_cases e : i = x18_2.toNatClampNeg
          · rcases zb with ⟨b1, b2⟩ | ⟨b1, b2⟩
            · rw [b2] at c72; cases c72
            · have tz := congrFun (congrFun (tc_f8 W (ty_soAtlas W Ta0) Z1 (fun f hf => so_38 hf)) 1) x18_2.toNatClampNeg
              rw [J1.2.1.2.1] at b1
              rw [e] at h4
              exact absurd (tz.trans h4) b1
          · exact hE.2 i h1 (by omega) h3 h4
    · skip
      refine ex_some ?_ (fun u74 hu74 => ?_)
      · exact ⟨_, c72⟩  -- e34
      intro T75
      intro T76
      intro T77
      obtain ⟨j, hj, ej⟩ : ∃ j, j < n9 ∧ wU9 κ18 a0 j = u74 := by
        rcases q68 with z | ⟨j, hj, z⟩
        · rw [z] at hu74; cases hu74
        · exact ⟨j, hj, Option.some.inj (z.symm.trans hu74)⟩
      obtain ⟨_, y3, y4⟩ := J1.2.2.1.2 j hj
      rw [ej] at y3 y4
      have gs := ra_g9 N1 y3 (by omega) (by omega) (by omega)
      have lwz : nuN κ18 (zR κ18 soWhole a0) < pB9 2000 := by
        rw [ew1]
        exact Nat.lt_of_le_of_lt (dz9_le D1 p2) (Nat.lt_of_lt_of_le p3 (pB9_l (by decide)))
      refine Ca_join_c W69 T75 T76 T77 6500 2000 6500 6500 ?_ (fun κ_78 q79 => ?_)
      · exact jn_p N1 S1 gs.2.1.2 (raR_n gs.1.2).2 ⟨by omega, by omega, by omega⟩ lwz (Nat.lt_of_lt_of_le y4.1.2 h256)  -- p35
      have Jq := jn_q W69 N1 S1 q79
      have Vj := q79.2.2.2
      rw [ew1] at Vj
      rw [ec1] at Jq
      have Zf : zF (soF ρ (fun r => r < 30) (zR κ soCalc a0)) κ κ_78 := Z1.tr (soF_m (fun r z => by rcases z with z | z | z <;> omega) Jq.2.1)
      intro W80
      intro M81
      intro x82 hx82
      refine lp_b5 ?_ (fun d9 => ⟨rfl, ?_⟩)
      · rw [hn18, hx82, ix.2]; omega  -- d36
      · refine and_5 ?_ (fun o9 => ?_)  -- i37
        · refine ⟨rfl, rfl, ⟨Zf, Jq.1⟩, ?_, by rw [hx82, ix.2]; omega⟩
          rw [Vj]
          exact dz9_lcm D1 y4.2.1
        · have lo0 : ((loW8 (tcW8 κ (zR κ soAtlas a0)) a1.toNatClampNeg) : Int) = (zA κ (zR κ atFirsts (zR κ soAtlas a0)) a1.toNatClampNeg).toInt := cnk wy.2.1
          have lo1 : ((loW8 (tcW8 κ (zR κ soAtlas a0)) (a1.toNatClampNeg + 1)) : Int) = (zA κ (zR κ atFirsts (zR κ soAtlas a0)) (a1.toNatClampNeg + 1)).toInt := cnk (x := (zA κ (zR κ atFirsts (zR κ soAtlas a0)) (a1.toNatClampNeg + 1))) (by omega)
          have n18' := cnk (x := x18_2) (by omega)
          have ov := fo_w8 W Ta0 hn J0 (by omega) (Z1.mono (fun f b z => Or.inl z)) (fun r h z => by omega) J1.2.2.2.1 J1.2.1.2.1 (by omega) (by omega) hV9 zb
          have Rx := ov.1 u74 hu74
          rw [Rx.2.2] at Vj
          have dp : 0 < (bhW8 (tcW8 κ (zR κ soAtlas a0)) V9 x18_2.toNatClampNeg).den := Nat.pos_of_ne_zero (Rat.den_nz _)
          refine ⟨by rw [Vj]; exact Nat.lcm_pos hE.1 dp, fun i h1 h2 h3 h4 => ?_⟩
          rw [hx82, ix.1] at h2
          rw [Vj]
          by_cases e : i = x18_2.toNatClampNeg
          · have bx : bhW8 (tcW8 κ (zR κ soAtlas a0)) V9 x18_2.toNatClampNeg = V9 (zA κ (zR κ atNumbers (zR κ soAtlas a0)) x18_2.toNatClampNeg).toNatClampNeg := if_pos (by rw [← e]; exact h4)
            rw [e, ← bx]
            exact Nat.dvd_lcm_right _ _
          · exact Nat.dvd_trans (hE.2 i h1 (by omega) h3 h4) (Nat.dvd_lcm_left _ _)

end
section
set_option maxHeartbeats 1600000
/-! the best plan: visits and what is shown stay -/
theorem So_makePlanz_q16 {C : zC} {n0 : Nat} {a0 : Nat} {κ : zS} {Q : Int32 → zS → Prop} (W : zW C n0 κ) (Ta0 : zT κ a0 = 12) (ρ : Nat → Nat) (n9 : Nat) (hA9 : zI κ atRings (zR κ soAtlas a0) ≤ 0 → ∀ x, x < n9 → ¬ Tr (el8 κ (zR κ soAtlas a0) 0 n9) x x) (hG9 : gnW8 (tcW8 κ (zR κ soAtlas a0)) n9) (hp : soR9 ρ κ a0 ∧ ((weU κ (zR κ soWeb a0) ∨ weM κ (zR κ soWeb a0)) ∧ weL κ (zR κ soWeb a0)) ∧ atW κ (zR κ soAtlas a0) n9 ∧ ((zN κ (zR κ soTaken a0)) = 0 ∨ (zN κ (zR κ soTaken a0)) = 1000)) (h : ∀ (v : Int32) (κ' : zS), ((mpP9 ρ κ κ' a0 n9 v) ∧ (mkW8 κ κ' a0 n9 v ∧ kq16 ρ κ κ')) → Q v κ') : zRun C 8 mSo_makePlan [.ref a0] κ (oI Q noX) := by
  refine So_makePlanz_run W Ta0 ?_
  replace W := W.lo (Nat.le_trans W.1.2.1 W.1.2.2) (Nat.le_refl (zn κ))
  unfold w_So_makePlanz_0
  obtain ⟨S0, ⟨U0, L0⟩, A0, T0⟩ := hp
  have tw := ty_soWeb W Ta0
  have tb := ty_soAtlas W Ta0
  have hh76 : ∀ (l0 : Nat) (l1 : Int32) (τ : zS), zW C (zn κ) τ → zT τ l0 = 12 → ((a0 = l0 ∧ (∃ ρ' P, mpJ9 ρ κ τ a0 n9 ρ' ∧ wsI9 ρ' τ a0 n9 P ∧ 0 < P ∧ P ≤ pD9 l1.toNatClampNeg) ∧ 0 ≤ l1.toInt ∧ l1.toInt ≤ n9) ∧ lpW8 κ τ a0 n9 l1.toNatClampNeg ∧ kq16 ρ κ τ) → w_So_makePlanz_76 C (zn κ) Q  l0 l1 τ := by
    intro z0 z1 τi Wi _ hinit
    unfold w_So_makePlanz_76
    refine ⟨fun n l0 l1 τ => n = ((n9 : Int) - l1.toInt).toNat ∧ ((a0 = l0 ∧ (∃ ρ' P, mpJ9 ρ κ τ a0 n9 ρ' ∧ wsI9 ρ' τ a0 n9 P ∧ 0 < P ∧ P ≤ pD9 l1.toNatClampNeg) ∧ 0 ≤ l1.toInt ∧ l1.toInt ≤ n9) ∧ lpW8 κ τ a0 n9 l1.toNatClampNeg ∧ kq16 ρ κ τ), ⟨_, rfl, hinit⟩, ?_⟩
    clear hinit
    rintro n76 _ x76_1 κ76 W76 T76_0 ⟨hn76, ⟨rfl, i76⟩, hE⟩
    obtain ⟨⟨ρ1, P1, J1, V1, P10, P11⟩, l11, l12⟩ := i76
    have hn := J1.2.2.1.1.2.1.2
    have ea := J1.2.2.2.2.2.2.2.1.1
    have ew := J1.2.2.2.2.2.2.2.1.2.1
    have tot : (zI κ76 weTotal (zR κ76 soWeb a0)).toInt = (n9 : Int) := by rw [ew]; exact J1.2.2.1.1.2.1.1
    have L76 := hE.1
    have kq76 := hE.2
    have ot76 := W76.o (show zr soTaken = some 20 by decide +kernel) (by decide) T76_0
    have nt76 : ∀ (t f w : Nat), zT κ76 w = t → t ≠ 12 → ¬ (f = soTaken ∧ w = a0) := fun t f w ht h12 z => by rw [z.2, T76_0] at ht; exact h12 ht.symm
    have kx0 := cnk l11
    have fix : ∀ k, k < n9 → wmW8 κ a0 n9 k = wsW8 (tcW8 κ (zR κ soAtlas a0)) (wmW8 κ a0 n9) k := fun k hk => fx_w8 A0 (hA9 hE.1.1.1) hk
    have hj141 : ∀ (l0 : Nat) (l1 : Int32) (s0 : Int32) (τ : zS), zW C (zn κ) τ → zT τ l0 = 12 → ((a0 = l0 ∧ (s0 ≠ 0 → ∃ ρ' P, mpJ9 ρ κ τ a0 n9 ρ' ∧ wsI9 ρ' τ a0 n9 P ∧ 0 < P ∧ P ≤ pD9 (l1.toNatClampNeg + 1)) ∧ (∃ ρ', mpJ9 ρ κ τ a0 n9 ρ') ∧ 0 ≤ l1.toInt ∧ l1.toInt < n9 ∧ x76_1 = l1) ∧ (s0 ≠ 0 → lpW8 κ τ a0 n9 (l1.toNatClampNeg + 1)) ∧ (s0 = 0 → (zI κ atRings (zR κ soAtlas a0) ≤ 0 ∧ kpW8 κ τ a0) ∧ ∃ k, k < n9 ∧ ¬ f2W8 (wmW8 κ a0 n9 k)) ∧ kq16 ρ κ τ) → w_So_makePlanz_141 C (zn κ) Q (fun (l0' : Nat) (l1' : Int32) (τ : zS) => ∃ k < n76, (fun (n : Nat) (l0 : Nat) (l1 : Int32) (τ : zS) => n = ((n9 : Int) - l1.toInt).toNat ∧ ((a0 = l0 ∧ (∃ ρ' P, mpJ9 ρ κ τ a0 n9 ρ' ∧ wsI9 ρ' τ a0 n9 P ∧ 0 < P ∧ P ≤ pD9 l1.toNatClampNeg) ∧ 0 ≤ l1.toInt ∧ l1.toInt ≤ n9) ∧ lpW8 κ τ a0 n9 l1.toNatClampNeg ∧ kq16 ρ κ τ)) k l0' l1' τ) l0 l1 s0 τ := by
      rintro _ y141_1 y141_s0 τ141 W141 T141_0 ⟨⟨rfl, j141⟩, hE⟩
      unfold w_So_makePlanz_141
      obtain ⟨k1, k2, l31, l32, l33⟩ := j141
      subst l33
      have ix := cn1 l31 (by omega)
      refine ⟨fun c1 => ?_, fun c1 => ?_⟩
      · skip
        intro x2 hx2
        refine lp_b5 ?_ (fun d9 => ⟨rfl, ?_⟩)
        · rw [hx2, ix.2, hn76]; omega  -- d1
        · refine and_5 ?_ (fun o9 => ?_)  -- i2
          · obtain ⟨ρ2, P2, J2, V2, P20, P21⟩ := k1 c1
            exact ⟨rfl, ⟨ρ2, P2, J2, V2, P20, by rw [hx2, ix.1]; exact P21⟩, by rw [hx2, ix.2]; omega, by rw [hx2, ix.2]; omega⟩
          · rw [hx2, ix.1]
            exact ⟨hE.1 c1, hE.2.2⟩
      · skip
        refine h _ _ ?_
        · refine and_5 ?_ (fun o9 => ?_)  -- q3
          · obtain ⟨ρ2, J2⟩ := k2
            exact mp_p9 J2
          · obtain ⟨z1, z2⟩ := hE.2.1 c1
            obtain ⟨ρ2, J2⟩ := k2
            exact ⟨Or.inr ⟨z1.1, Or.inl ⟨rfl, z2, z1.2, J2.2.2.2.2.2.2.1⟩⟩, hE.2.2⟩
    have hj128 : ∀ (l0 : Nat) (l1 : Int32) (l2 : Int32) (τ : zS), zW C (zn κ) τ → zT τ l0 = 12 → ((a0 = l0 ∧ τ = ua κ76 (zR κ76 soTaken a0) l2.toNatClampNeg 0 ∧ (0 ≤ l2.toInt ∧ l2.toInt < n9) ∧ l1.toInt < n9 ∧ x76_1 = l1) ∧ l2.toNatClampNeg = odC8 κ κ76 a0 x76_1.toNatClampNeg ∧ ((tcW8 κ (zR κ soAtlas a0)) 6 l2.toNatClampNeg ≠ 0 ∨ loW8 (tcW8 κ (zR κ soAtlas a0)) (l2.toNatClampNeg + 1) = loW8 (tcW8 κ (zR κ soAtlas a0)) l2.toNatClampNeg + 1)) → w_So_makePlanz_128 C (zn κ) Q (fun (l0' : Nat) (l1' : Int32) (τ : zS) => ∃ k < n76, (fun (n : Nat) (l0 : Nat) (l1 : Int32) (τ : zS) => n = ((n9 : Int) - l1.toInt).toNat ∧ ((a0 = l0 ∧ (∃ ρ' P, mpJ9 ρ κ τ a0 n9 ρ' ∧ wsI9 ρ' τ a0 n9 P ∧ 0 < P ∧ P ≤ pD9 l1.toNatClampNeg) ∧ 0 ≤ l1.toInt ∧ l1.toInt ≤ n9) ∧ lpW8 κ τ a0 n9 l1.toNatClampNeg ∧ kq16 ρ κ τ)) k l0' l1' τ) l0 l1 l2 τ := by
      rintro _ y128_1 y128_2 τ128 W128 T128_0 ⟨⟨rfl, j128⟩, hE⟩
      unfold w_So_makePlanz_128
      intro T3
      obtain ⟨e, hl2, hl1, hx⟩ := j128
      subst hx
      have kk := cnk hl2.1
      have U := mp_u9 W76 T76_0 J1 V1 (k := y128_2.toNatClampNeg) (by omega) e
      obtain ⟨⟨L9, hk9⟩, tz9, ea9, ec9, Tw9, Tb9⟩ := lp_c8 W76 T76_0 J1 V1 L76 (by omega) hE.1 e
      have hv9 : (∀ y, eW8 (tcW8 τ128 (zR τ128 soAtlas a0)) y128_2.toNatClampNeg y → rqW8 τ128 (wU9 τ128 a0 y) (wmW8 κ a0 n9 y)) ∧ rqW8 τ128 (wU9 τ128 a0 y128_2.toNatClampNeg) 0 ∧ zA τ128 (zR τ128 soTaken a0) y128_2.toNatClampNeg = 0 := by
        refine ⟨fun y z => ?_, ?_, tz9⟩
        · rw [ec9, hk9] at z
          exact lp_b8 L9 (by omega) z
        · rw [hk9]
          exact L9.2.2.2 _ (Nat.le_refl _) (by omega)
      refine So_findWorth_q6 W128 T3 ρ1 n9 P1 (wmW8 κ a0 n9) hv9 ?_ (fun r4 κ_5 q6 => ?_)
      · exact ⟨U.1, hn, ⟨hl2.1, hl2.2, U.2.1.2.2.2.1.1⟩, U.2.2.1, U.2.2.2.1⟩  -- p4
      obtain ⟨q6, z9⟩ := q6
      have zf := z9
      intro W7
      intro M8
      obtain ⟨nbv, ⟨Zf, Nf, Sf⟩, lf, tkf, wf, uf⟩ := q6
      have Jf := mp_s9 W128 T128_0 U.2.1 Zf (fun r h => fwR9_v h) ⟨Nf, Sf⟩ lf tkf.1
      refine hj141 _ _ _ _ W7 ?_ ?_
      · exact Zf.t T128_0 (by decide)  -- t5
      · refine and_5 ?_ (fun o9 => ?_)  -- k6
        · exact ⟨rfl, fun z => ⟨ρ1, P1, Jf, wf z, P10, Nat.le_trans P11 (pD9_l (by omega))⟩, ⟨ρ1, Jf⟩, by omega, hl1, rfl⟩
        · have k128 : kq16 ρ κ τ128 := kq_h16 kq76 W76 (F := fun f b => f = soTaken ∧ b = a0) (by rw [e]; exact zF_ua (by rw [ot76]; exact ⟨rfl, rfl⟩)) (fun f w h => nt76 8 f w h (by decide)) (fun f w h => nt76 11 f w h (by decide))
          have k5 : kq16 ρ κ κ_5 := kq_y16 k128 J1.1.1 W128 U.1.1.1 Zf (nf_p16 fw_s16)
          have hk : y128_2.toNatClampNeg < n9 := by omega
          have G := lp_g8 W128 Tw9 Tb9 hn U.1.1.1 U.1.2.2.1 L9 (by omega) hk9 Zf (fun j _ z => fw_k8 z) uf (fun i hi => by rw [tkf.1]; exact tkf.2.2 i hi)
          have fw := fw_w8 (V := wmW8 κ a0 n9) hG9 hk hE.2
          have eg : zA τ128 (zR τ128 atGains (zR τ128 soAtlas a0)) y128_2.toNatClampNeg = (tcW8 κ (zR κ soAtlas a0)) 5 y128_2.toNatClampNeg := congrFun (congrFun ec9 5) _
          rw [ec9, eg, fw.1, fw.2, ← fix _ hk] at zf
          exact ⟨fun z => lp_s8 L9.2.1 hk9 G ⟨by rw [uf]; exact zf.2.1, zf.1.mp z, by rw [tkf.1]; exact zf.2.2⟩, fun z => ⟨G.1, _, hk, fun y => (zf.1.mpr y) z⟩, k5⟩
    refine ⟨fun c9 => ?_, fun c9 => ?_⟩
    · skip
      refine ⟨?_, ?_⟩
      · have kt := cnk (x := zI κ76 weTotal (zR κ76 soWeb a0)) (by omega)
        have q := J1.2.2.2.1.1
        refine ⟨by decide, by decide, by rw [lei, t0i, tot]; omega, ?_, ?_⟩
        · show 0 + (zI κ76 weTotal (zR κ76 soWeb a0)).toNatClampNeg ≤ _
          omega
        · show 0 + (zI κ76 weTotal (zR κ76 soWeb a0)).toNatClampNeg ≤ _
          rw [ea, J1.2.2.1.2.2.1.2.2.2.1]
          omega
      intro κ_10 hκ_10
      intro W11
      intro κ_12 hκ_12
      intro W13
      intro κ_14 hκ_14
      intro W15
      refine h _ _ ?_
      · refine and_5 ?_ (fun o9 => ?_)  -- q8
        · exact mp_e9 W76 T76_0 J1 hκ_10 hκ_12 hκ_14
        · have kt := cnk (x := zI κ76 weTotal (zR κ76 soWeb a0)) (by omega)
          rw [lei, tot] at c9
          have tb76 := ty_soAtlas W76 T76_0
          have oP := W76.o (show zr atPlan = some 20 by decide +kernel) (by decide) tb76
          have Z14 : zF (fun f b => (f = atPlan ∧ b = zR κ76 soAtlas a0) ∨ (b = a0 ∧ (f = soPlanned ∨ f = soSolved))) κ76 κ_14 := by
            refine zF.tr (κ1 := κ_12) (zF.tr (κ1 := κ_10) ?_ ?_) ?_
            · rw [hκ_10]
              exact zF_uc (by rw [oP]; exact Or.inl ⟨rfl, rfl⟩)
            · rw [hκ_12]
              exact zF_ui (Or.inr ⟨rfl, Or.inl rfl⟩)
            · rw [hκ_14]
              exact zF_ui (Or.inr ⟨rfl, Or.inr rfl⟩)
          have n14 : ∀ (t f w : Nat), zT κ76 w = t → t ≠ 12 → t ≠ 3 → ¬ ((f = atPlan ∧ w = zR κ76 soAtlas a0) ∨ (w = a0 ∧ (f = soPlanned ∨ f = soSolved))) := fun t f w ht h12 h3 z => by
            rcases z with z | z
            · rw [z.2, tb76] at ht; exact h3 ht.symm
            · rw [z.1, T76_0] at ht; exact h12 ht.symm
          exact ⟨lp_e8 W76 T76_0 J1 V1 L76 (by omega) (by omega) hκ_10 hκ_12 hκ_14, kq_h16 kq76 W76 Z14 (fun f w h => n14 8 f w h (by decide) (by decide)) (fun f w h => n14 11 f w h (by decide) (by decide))⟩
    · skip
      rw [lei, tot] at c9
      have kx := cnk l11
      have wM := J1.2.2.1.1.1.1
      have kO := (J1.2.2.1.2.1.2.2.1 x76_1.toNatClampNeg (by omega)).1
      refine ⟨?_, ?_⟩
      · rw [ew, inb_iff, wM.2.2.2.2.2.1]; omega  -- b9
      intro x16 hx16
      rw [ew] at hx16
      rw [← hx16] at kO
      have kk := cnk kO.1
      refine ⟨?_, ?_⟩
      · have q := J1.2.2.2.1.1
        rw [inb_iff]; omega
      intro κ_17 hκ_17
      intro W18
      have U := mp_u9 W76 T76_0 J1 V1 (k := x16.toNatClampNeg) (by omega) hκ_17
      have A7 := U.1.2.1.1
      have T17 : zT κ_17 a0 = 12 := by rw [hκ_17]; exact T76_0
      have hk0 : x16.toNatClampNeg = odC8 κ κ76 a0 x76_1.toNatClampNeg := by
        show _ = (zA κ76 (zR κ76 weOrder (zR κ soWeb a0)) x76_1.toNatClampNeg).toNatClampNeg
        rw [hx16]
      obtain ⟨⟨L9, hk9⟩, tz9, ea9, et9, Tw9, Tb9⟩ := lp_c8 W76 T76_0 J1 V1 L76 (by omega) hk0 hκ_17
      have hk17 : x16.toNatClampNeg < n9 := by omega
      refine ⟨?_, ?_⟩
      · rw [inb_iff, A7.1.2.2.2.2.1]; omega  -- b11
      refine ⟨fun c19 => ?_, fun c19 => ?_⟩
      · skip
        refine hj128 _ _ _ _ W18 ?_ ?_
        · exact T17  -- t12
        · refine and_5 ?_ (fun o9 => ⟨hk0, Or.inl (fun z => c19 ((congrFun (congrFun et9 6) _).trans z))⟩)  -- k13
          exact ⟨rfl, hκ_17, kO, by omega, rfl⟩
      · skip
        intro T20
        refine At_waysOf_c W18 T20  ?_ (fun r21 q23 => ?_)
        · exact ⟨A7.1.1, kO.1, by omega⟩  -- p14
        intro W24
        intro M25
        obtain ⟨_, _, ⟨s1, s2⟩, ec9, _⟩ := A7.2.2.2.2.2 x16.toNatClampNeg (by omega)
        rw [ec9 c19] at s1 s2
        have hv9 : ∀ y, eW8 (tcW8 κ_17 (zR κ_17 soAtlas a0)) x16.toNatClampNeg y → rqW8 κ_17 (wU9 κ_17 a0 y) (wmW8 κ a0 n9 y) := fun y z => by
          rw [et9, hk9] at z
          exact lp_b8 L9 (by omega) z
        have w19 := wo_8 (κ := κ_17) (a := zR κ_17 soAtlas a0) A7 hk17
        rw [et9] at w19
        refine ⟨fun c26 => ?_, fun c26 => ?_⟩
        · skip
          intro T27
          refine So_mixWorths_q16 W24 T27 ρ1 n9 P1 (wmW8 κ a0 n9) hv9 ?_ (fun r28 κ_29 q30 => ?_)
          · exact ⟨U.1, hn, kO, ⟨P10, pD9_b P11 (by omega)⟩, s1, s2⟩  -- p15
          obtain ⟨q30, z9⟩ := q30
          have zm := z9
          intro W31
          intro M32
          obtain ⟨nbv, ⟨Zf, Nf, Sf⟩, lf, wf, uf⟩ := q30
          have Zg : zF (pwF9 ρ1 (voS16 (104 + 8 * x16.toNatClampNeg)) (zR κ_17 soCalc a0) a0) κ_17 κ_29 := Zf.mono (fun f b z => Or.inl z)
          have Jf := mp_s9 W24 T17 U.2.1 Zg (fun r h => voS16_w h) ⟨Nf, Sf⟩ lf (soF_r9 Zf (by decide)).1
          refine hj141 _ _ _ _ W31 ?_ ?_
          · exact Zf.t T17 (by decide)  -- t16
          · refine and_5 ?_ (fun o9 => ?_)  -- k17
            · exact ⟨rfl, fun z => ⟨ρ1, _, Jf, wf z, Nat.mul_pos P10 (by omega), Nat.le_trans (Nat.mul_le_mul P11 (by omega)) (Nat.le_of_eq pD9_s)⟩, ⟨ρ1, Jf⟩, by omega, by omega, rfl⟩
            · have k17q : kq16 ρ κ κ_17 := kq_h16 kq76 W76 (F := fun f b => f = soTaken ∧ b = a0) (by rw [hκ_17]; exact zF_ua (by rw [ot76]; exact ⟨rfl, rfl⟩)) (fun f w h => nt76 8 f w h (by decide)) (fun f w h => nt76 11 f w h (by decide))
              have k29 : kq16 ρ κ κ_29 := kq_y16 k17q J1.1.1 W24 U.1.1.1 Zg (nf_p16 vo_s16)
              have G := lp_g8 W24 Tw9 Tb9 hn U.1.1.1 U.1.2.2.1 L9 (by omega) hk9 Zg (fun j _ z => vo_k16 z) uf (fun i _ => congrFun (Zf.row W24 (show zr soTaken = some 20 by decide +kernel) (by decide) T17 so_t8).1 i)
              have mx := mx_w8 (V := wmW8 κ a0 n9) hG9 hk17 ((congrFun (congrFun et9 6) _).symm.trans c19) (fun z => c26 (q23.trans (w19.mpr z)))
              have e3 : zA κ_17 (zR κ_17 atWeights (zR κ_17 soAtlas a0)) = (tcW8 κ (zR κ soAtlas a0)) 3 := congrFun et9 3
              have e4 : zA κ_17 (zR κ_17 atTotals (zR κ_17 soAtlas a0)) = (tcW8 κ (zR κ soAtlas a0)) 4 := congrFun et9 4
              rw [et9, e3, e4, mx.1, ← fix _ hk17] at zm
              exact ⟨fun z => lp_s8 L9.2.1 hk9 G ⟨by rw [uf]; exact zm.2 z, zm.1.mp z, by rw [(Zf.row W24 (show zr soTaken = some 20 by decide +kernel) (by decide) T17 so_t8).1, tz9, mx.2]⟩, fun z => ⟨G.1, _, hk17, fun y => (zm.1.mpr y) z⟩, k29⟩
        · skip
          refine hj128 _ _ _ _ W24 ?_ ?_
          · exact T17  -- t18
          · refine and_5 ?_ (fun o9 => ⟨hk0, Or.inr (w19.mp (q23.symm.trans c26))⟩)  -- k19
            exact ⟨rfl, hκ_17, kO, by omega, rfl⟩
  refine ⟨fun c33 => ?_, fun c33 => ?_⟩
  · skip
    intro T34
    intro T35
    refine We_weave_q6 W T34 T35 n9 ?_ (fun κ_36 q37 => ?_)
    · exact ⟨U0, L0, A0⟩  -- p20
    obtain ⟨q37, z9⟩ := q37
    have zW := z9
    obtain ⟨Zw, G36, A36⟩ := q37
    have no : ∀ (t f w : Nat), zT κ w = t → t ≠ 14 → ¬ objF (zR κ soWeb a0) f w := fun t f w ht h14 z => by
      rw [show w = zR κ soWeb a0 from z, tw] at ht
      exact h14 ht.symm
    have S36 := rs_h9 W Ta0 S0 Zw (fun f w h => no 8 f w h (by decide)) (fun f w h => no 11 f w h (by decide)) (fun f w h => no 4 f w h (by decide)) (fun f _ _ => no 12 f a0 Ta0 (by decide))
    have T36 : zT κ_36 a0 = 12 := Zw.t Ta0 (by decide)
    have ew36 : zR κ_36 soWeb a0 = zR κ soWeb a0 := S36.2 soWeb (by decide) (by decide)
    have eb36 : zR κ_36 soAtlas a0 = zR κ soAtlas a0 := S36.2 soAtlas (by decide) (by decide)
    have ec36 : zR κ_36 soCalc a0 = zR κ soCalc a0 := S36.2 soCalc (by decide) (by decide)
    have V36 : ∀ i P, vsI9 ρ κ a0 i P → vsI9 ρ κ_36 a0 i P := fun i P V => vs_h9 W Ta0 Zw (fun f w h => no 8 f w h (by decide)) (fun f w h => no 11 f w h (by decide)) (fun f w h => no 3 f w h (by decide)) (fun f => no 12 f a0 Ta0 (by decide)) V
    have tk36 : (zN κ_36 (zR κ_36 soTaken a0)) = (zN κ (zR κ soTaken a0)) := by rw [S36.2 soTaken (by decide) (by decide)]; exact Zw.l (ty_soTaken W Ta0)
    intro W38
    intro M39
    intro T40
    refine We_knot_q6 W38 T40 n9 ?_ (fun κ_41 q42 => ?_)
    · rw [ew36]
      exact ⟨G36.1.1, G36.2.1, G36.2.2.1, G36.1.2.2.2⟩
    obtain ⟨q42, z9⟩ := q42
    have zK := z9
    have od9 : odW8 (tcW8 κ (zR κ soAtlas a0)) n9 (qN8 (zA κ_41 (zR κ_41 weOrder (zR κ soWeb a0)))) := by
      rw [ew36] at zK q42
      have Tw6 : zT κ_36 (zR κ soWeb a0) = 14 := by rw [← ew36]; exact T40
      have ar : ∀ f, f = atSorts ∨ f = atChooses ∨ f = atFirsts ∨ f = atPlan → zA κ_36 (zR κ_36 f (zR κ soAtlas a0)) = zA κ (zR κ f (zR κ soAtlas a0)) := fun f hf => (at_E W tw tb Zw (f := f) (by rcases hf with e | e | e | e <;> rw [e] <;> decide)).2.1
      have le : el8 κ_36 (zR κ soAtlas a0) 0 n9 = el8 κ (zR κ soAtlas a0) 0 n9 := el_E8 (ar atFirsts (by decide)) (lkD_E (p := 0) W tw tb Zw)
      exact od_k8 A0 q42.2 zK.1 zK.2 zW.2 (tjE_8 G36.2.2.1) le ⟨by rw [q42.1.2.1]; exact kn_r W38 Tw6 q42.1 (f := weFirsts) (by decide) (by decide), by rw [q42.1.2.1]; exact kn_r W38 Tw6 q42.1 (f := weTargets) (by decide) (by decide)⟩ (hA9 c33)
    intro W43
    intro M44
    intro T45
    rw [ew36] at q42 T40
    obtain ⟨Kn, KN⟩ := q42
    have tb36 : zT κ_36 (zR κ soAtlas a0) = 3 := by rw [← eb36]; exact ty_soAtlas W38 T36
    have Zk : zF (objF (zR κ soWeb a0)) κ_36 κ_41 := Kn.1.mono (fun f x z => z.1)
    have no2 : ∀ (t f w : Nat), zT κ_36 w = t → t ≠ 14 → ¬ objF (zR κ soWeb a0) f w := fun t f w ht h14 z => by
      rw [show w = zR κ soWeb a0 from z, T40] at ht
      exact h14 ht.symm
    have S41 := rs_h9 W38 T36 S36.1 Zk (fun f w h => no2 8 f w h (by decide)) (fun f w h => no2 11 f w h (by decide)) (fun f w h => no2 4 f w h (by decide)) (fun f _ _ => no2 12 f a0 T36 (by decide))
    have G41 := weG_K9 W38 T40 tb36 Kn G36
    have A41 := atW_E W38 T40 tb36 Zk A36
    have T41 : zT κ_41 a0 = 12 := Zk.t T36 (by decide)
    have ew41 : zR κ_41 soWeb a0 = zR κ soWeb a0 := by rw [S41.2 soWeb (by decide) (by decide)]; exact ew36
    have eb41 : zR κ_41 soAtlas a0 = zR κ soAtlas a0 := by rw [S41.2 soAtlas (by decide) (by decide)]; exact eb36
    have ec41 : zR κ_41 soCalc a0 = zR κ soCalc a0 := by rw [S41.2 soCalc (by decide) (by decide)]; exact ec36
    have V41 : ∀ i P, vsI9 ρ κ a0 i P → vsI9 ρ κ_41 a0 i P := fun i P V => vs_h9 W38 T36 Zk (fun f w h => no2 8 f w h (by decide)) (fun f w h => no2 11 f w h (by decide)) (fun f w h => no2 3 f w h (by decide)) (fun f => no2 12 f a0 T36 (by decide)) (V36 i P V)
    have tk41 : (zN κ_41 (zR κ_41 soTaken a0)) = (zN κ (zR κ soTaken a0)) := by
      rw [S41.2 soTaken (by decide) (by decide), ← tk36]
      exact Zk.l (ty_soTaken W38 T36)
    have hn := G41.2.1.2
    have sl41 : zI κ_41 soSolved a0 = zI κ soSolved a0 := (Zk.i (no2 12 _ a0 T36 (by decide))).trans (Zw.i (no 12 _ a0 Ta0 (by decide)))
    have pl41 : zI κ_41 soPlanned a0 = zI κ soPlanned a0 := (Zk.i (no2 12 _ a0 T36 (by decide))).trans (Zw.i (no 12 _ a0 Ta0 (by decide)))
    have F41 : zF (mpF9 ρ κ a0) κ κ_41 := (Zw.mono (fun f b z => Or.inr (Or.inl z))).tr (Zk.mono (fun f b z => Or.inr (Or.inl z)))
    have mn41 := F41.2.2.2.2.2.2
    have K41 : zK9 κ κ_41 a0 := (zK_w9 W Ta0 (ty_soWeb W Ta0) Zw).tr (zK_w9 W38 T36 T40 Zk)
    have tot := G41.2.1.1
    rw [← ew41] at tot
    refine So_fresh_c W43 T45 ρ a0 104 soWorths ?_ (fun r46 κ_47 q48 => ?_)
    · exact ⟨S41.1.1, T41, ⟨Or.inr rfl, Or.inr rfl, W43.o (show zr soWorths = some 25 by decide +kernel) (by decide) T41, fun _ => rfl⟩, S41.1.2.2.2.2.1.1, S41.1.2.2.2.2.1.2, ⟨by omega, by omega⟩⟩  -- p22
    intro W49
    intro M50
    intro T51
    have wo := fr_o9 (f9 := soWorths) (s := a0) (τ := κ_47) W43 (ty_soWorths W43 T41) T41 (W43.o (show zr soWorths = some 25 by decide +kernel) (by decide) T41) (Exists.choose_spec (Exists.choose_spec q48.1)).1 (Exists.choose_spec (Exists.choose_spec q48.1)).2.2.2.2.1.1
    refine ⟨?_, ?_⟩
    · rcases wo with y | y
      · exact Or.inr y.1
      · exact Or.inl y.1
    intro κ_52 hκ_52
    intro W53
    obtain ⟨Z52, K52, ρ8, h8, R8, V8, ⟨t8, n8⟩, vs8⟩ := fr_q9 (n := n9) W43 W49 W53 T41 S41.1 ⟨tot, hn⟩ q48.1 q48.2 hκ_52
    have T52 : zT κ_52 a0 = 12 := Z52.t T41 (by decide)
    have fv8 := frF9_v (ρ := ρ) (κ := κ_41) (s := a0) (Or.inr (rfl : soWorths = soWorths))
    have nf : ∀ f, f = soAtlas ∨ f = soWeb ∨ f = soCalc ∨ f = soSolved ∨ f = soPlanned → ¬ frF9 ρ κ_41 soWorths a0 f a0 := fun f hf z => by
      have la := (W43.2.1 a0 (by rw [T41]; decide)).2
      rcases z with z | z | z | z
      · rcases z with ⟨_, z | z | z⟩ | ⟨_, z | z | z | z⟩ <;> (rw [z] at hf; exact absurd hf (by decide))
      · rw [z.1] at hf; exact absurd hf (by decide)
      · rw [z] at hf; exact absurd hf (by decide)
      · omega
    have ea8 : zR κ_52 soAtlas a0 = zR κ soAtlas a0 := (Z52.r (nf _ (Or.inl rfl))).trans eb41
    have ew8 : zR κ_52 soWeb a0 = zR κ soWeb a0 := (Z52.r (nf _ (Or.inr (Or.inl rfl)))).trans ew41
    have ec8 : zR κ_52 soCalc a0 = zR κ soCalc a0 := (Z52.r (nf _ (Or.inr (Or.inr (Or.inl rfl))))).trans ec41
    have sl8 : zI κ_52 soSolved a0 = zI κ soSolved a0 := (Z52.i (nf _ (Or.inr (Or.inr (Or.inr (Or.inl rfl)))))).trans sl41
    have pl8 : zI κ_52 soPlanned a0 = zI κ soPlanned a0 := (Z52.i (nf _ (Or.inr (Or.inr (Or.inr (Or.inr rfl)))))).trans pl41
    have tw41 : zT κ_41 (zR κ soWeb a0) = 14 := by rw [← ew41]; exact ty_soWeb W43 T41
    have tb41 : zT κ_41 (zR κ soAtlas a0) = 3 := by rw [← eb41]; exact ty_soAtlas W43 T41
    have G8 := weG_v9 W43 fv8 Z52 tw41 tb41 G41
    have K8 := weKn_v9 W43 fv8 Z52 tw41 KN
    have A8 := atW_v9 W43 fv8 Z52 tb41 A41
    have F52 : zF (mpF9 ρ κ a0) κ κ_52 := F41.tr (Z52.mono (fun f b z => by
      rcases z with z | z | z | z
      · rcases z with z | z
        · exact Or.inl (Or.inl ⟨trivial, z.2⟩)
        · exact Or.inr (Or.inr (Or.inr (Or.inr (Or.inr (Or.inl z.1)))))
      · exact Or.inr (Or.inr (Or.inl ⟨z.2, Or.inr (Or.inr (Or.inr z.1))⟩))
      · exact Or.inr (Or.inr (Or.inr (Or.inr (Or.inl z))))
      · exact Or.inr (Or.inr (Or.inr (Or.inr (Or.inr (Or.inr (by omega))))))))
    have h8' : ∀ b, b < zn κ → ρ8 b = ρ b := fun b hb => h8 b (by omega)
    have tk8 : (zN κ_52 (zR κ_52 soTaken a0)) = (zN κ (zR κ soTaken a0)) := by rw [t8, n8]; exact tk41
    have tot8 : (zI κ_52 weTotal (zR κ_52 soWeb a0)).toInt = (n9 : Int) := by rw [ew8]; exact G8.2.1.1
    have T8 : (zN κ_52 (zR κ_52 soTaken a0)) = 0 ∨ (zN κ_52 (zR κ_52 soTaken a0)) = 1000 := by rw [tk8]; exact T0
    refine ⟨fun c54 => ?_, fun c54 => ?_⟩
    · skip
      refine hh76 _ _ _ W53 (by assumption) ?_
      · refine and_5 ?_ (fun o9 => ?_)  -- j24
        · rw [lei, tot8, ofn_i (by rcases T8 with y | y <;> rw [y] <;> decide)] at c54
          exact ⟨rfl, ⟨ρ8, 1, ⟨⟨h8', F52⟩, R8, ⟨G8, K8, A8⟩, ⟨by omega, T8⟩, fun i P hi V => vs8 i P hi (V41 i P V), ⟨V8.1, fun k hk => ⟨_, (V8.2 k hk).1⟩⟩, ⟨sl8, pl8⟩, ⟨ea8, ew8, ec8⟩, K41.tr K52⟩, V8, by decide, pD9_p⟩, by decide, by rw [t0i]; omega⟩
        · have kq41 : kq16 ρ κ κ_41 := kq_h16 (kq_h16 kq_r16 W Zw (fun f w h z => by rw [show w = zR κ soWeb a0 from z, tw] at h; exact absurd h (by decide)) (fun f w h z => by rw [show w = zR κ soWeb a0 from z, tw] at h; exact absurd h (by decide))) W38 Zk (fun f w h z => by rw [show w = zR κ soWeb a0 from z, T40] at h; exact absurd h (by decide)) (fun f w h z => by rw [show w = zR κ soWeb a0 from z, T40] at h; exact absurd h (by decide))
          have kq52 : kq16 ρ κ κ_52 := kq_y16 kq41 (fun _ _ => rfl) W43 S41.1.1.1 Z52 nf_f16
          have t41 := tc_E8 W (ty_soAtlas W Ta0) tw Zw
          have t42 := tc_E8 W38 tb36 T40 Zk
          have t52 := tc_v8 W43 tb41 fv8 Z52
          have wo9 := (we_v9 W43 fv8 Z52 tw41 (f := weOrder) (by decide)).2.1
          have oe : odC8 κ κ_52 a0 = qN8 (zA κ_41 (zR κ_41 weOrder (zR κ soWeb a0))) := by unfold odC8; rw [wo9]
          have od : odW8 (tcW8 κ (zR κ soAtlas a0)) n9 (odC8 κ κ_52 a0) := by rw [oe]; exact od9
          exact ⟨⟨⟨c33, t52.1.trans (t42.1.trans t41.1), t52.2.trans (t42.2.trans t41.2)⟩, od, fun i hi _ => absurd hi (Nat.not_lt_zero _), fun i _ hi => w0_8 q48.1 hκ_52 (by have := od.1 i hi; have := cnk (x := zI κ_41 weTotal (zR κ_41 soWeb a0)) (by omega); omega)⟩, kq52⟩
    · skip
      refine ⟨?_, ?_⟩
      · exact ⟨by decide, by decide⟩  -- b25
      intro κ_55 hκ_55
      intro W56
      refine ⟨?_, ?_⟩
      · rw [hκ_55]; exact if_pos rfl  -- b26
      intro κ_57 hκ_57
      intro W58
      rw [lei, tot8, ofn_i (by rcases T8 with y | y <;> rw [y] <;> decide)] at c54
      have l0 : (zN κ_52 (zR κ_52 soTaken a0)) = 0 := by
        rcases T8 with y | y
        · exact y
        · omega
      have n1k : (1000 : Int32).toNatClampNeg = 1000 := by decide
      rw [n1k] at hκ_55
      have G := we_gr (f := soTaken) (c := a0) W53 (show zr soTaken = some 20 by decide +kernel) (by decide) T52 hκ_55 hκ_57 (by rw [l0]; decide) (by rw [l0]; decide)
      have T57 : zT κ_57 a0 = 12 := G.1.t T52 (by decide)
      have n57 : zN κ_57 (zR κ_57 soTaken a0) = 1000 := by rw [G.2.2.2.1]; exact G.2.2.2.2.1
      have nt : ∀ (t f w : Nat), zT κ_52 w = t → t ≠ 12 → ¬ (f = soTaken ∧ w = a0) := fun t f w ht h12 z => by
        rw [z.2, T52] at ht
        exact h12 ht.symm
      have Z57 : zF (pwF9 ρ8 (fun _ => False) (zR κ_52 soCalc a0) a0) κ_52 κ_57 := G.1.mono (fun f b z => Or.inr z)
      have ls := (nuB_z (c := 0) W53 (ty_soLess W53 T52) G.1 (fun z => absurd z.1 (by decide)) (fun z => absurd z.1 (by decide))).2.2.1
      have I7 : soI ρ8 κ_57 a0 := so_x9 W53 T52 R8.1.2 G.1 (fun f b z => Or.inr ⟨by rw [z.1]; decide, by rw [z.1]; decide⟩) (fun _ _ => rfl)
      obtain ⟨r1, r2, r3, r4, r5⟩ := pw_r9 W53 T52 R8 Z57 (fun r h => h.elim) ⟨nm_h9 W53 R8.1.1 G.1 (fun f w h => nt 8 f w h (by decide)) (fun f w h => nt 11 f w h (by decide)), I7⟩ (by rw [ls]; exact R8.2.2.2.2.2.2)
      have V7 := (ws_g9 W53 T52 G.1 (fun f w h => nt 8 f w h (by decide)) (fun f w h => nt 11 f w h (by decide)) (fun z => absurd z.1 (by decide)) V8).1
      have tw52 : zT κ_52 (zR κ soWeb a0) = 14 := by rw [← ew8]; exact ty_soWeb W53 T52
      have tb52 : zT κ_52 (zR κ soAtlas a0) = 3 := by rw [← ea8]; exact ty_soAtlas W53 T52
      have F57 : zF (mpF9 ρ κ a0) κ κ_57 := F52.tr (G.1.mono (fun f b z => Or.inr (Or.inr (Or.inl ⟨z.2, Or.inr (Or.inr (Or.inl z.1))⟩))))
      refine hh76 _ _ _ W58 (by assumption) ?_
      · refine and_5 ?_ (fun o9 => ?_)  -- j27
        · exact ⟨rfl, ⟨ρ8, 1, ⟨⟨h8', F57⟩, r1, ⟨weG_v9 W53 pwF9_v Z57 tw52 tb52 G8, weKn_v9 W53 pwF9_v Z57 tw52 K8, atW_v9 W53 pwF9_v Z57 tb52 A8⟩, ⟨by rw [n57]; exact hn, Or.inr n57⟩, fun i P hi V => r3 i P hi (vs8 i P hi (V41 i P V)), ⟨V7.1, fun k hk => ⟨_, (V7.2 k hk).1⟩⟩, ⟨(r2 soSolved (by decide) (by decide)).2.trans sl8, (r2 soPlanned (by decide) (by decide)).2.trans pl8⟩, ⟨(r2 soAtlas (by decide) (by decide)).1.trans ea8, (r2 soWeb (by decide) (by decide)).1.trans ew8, (r2 soCalc (by decide) (by decide)).1.trans ec8⟩, (K41.tr K52).tr (zK_pw9 W53 T52 Z57)⟩, V7, by decide, pD9_p⟩, by decide, by rw [t0i]; omega⟩
        · have kq41 : kq16 ρ κ κ_41 := kq_h16 (kq_h16 kq_r16 W Zw (fun f w h z => by rw [show w = zR κ soWeb a0 from z, tw] at h; exact absurd h (by decide)) (fun f w h z => by rw [show w = zR κ soWeb a0 from z, tw] at h; exact absurd h (by decide))) W38 Zk (fun f w h z => by rw [show w = zR κ soWeb a0 from z, T40] at h; exact absurd h (by decide)) (fun f w h z => by rw [show w = zR κ soWeb a0 from z, T40] at h; exact absurd h (by decide))
          have kq52 : kq16 ρ κ κ_52 := kq_y16 kq41 (fun _ _ => rfl) W43 S41.1.1.1 Z52 nf_f16
          have kq57 := kq_h16 kq52 W53 G.1 (fun f w h => nt 8 f w h (by decide)) (fun f w h => nt 11 f w h (by decide))
          have t41 := tc_E8 W (ty_soAtlas W Ta0) tw Zw
          have t42 := tc_E8 W38 tb36 T40 Zk
          have t52 := tc_v8 W43 tb41 fv8 Z52
          have t57 := tc_v8 W53 tb52 pwF9_v Z57
          have wo9 := (we_v9 W43 fv8 Z52 tw41 (f := weOrder) (by decide)).2.1
          have wo7 := (we_v9 W53 pwF9_v Z57 tw52 (f := weOrder) (by decide)).2.1
          have oe : odC8 κ κ_57 a0 = qN8 (zA κ_41 (zR κ_41 weOrder (zR κ soWeb a0))) := by unfold odC8; rw [wo7, wo9]
          have od : odW8 (tcW8 κ (zR κ soAtlas a0)) n9 (odC8 κ κ_57 a0) := by rw [oe]; exact od9
          have U7 := (ws_g9 W53 T52 G.1 (fun f w h => nt 8 f w h (by decide)) (fun f w h => nt 11 f w h (by decide)) (fun z => absurd z.1 (by decide)) V8).2
          refine ⟨⟨⟨c33, t57.1.trans (t52.1.trans (t42.1.trans t41.1)), t57.2.trans (t52.2.trans (t42.2.trans t41.2))⟩, od, fun i hi _ => absurd hi (Nat.not_lt_zero _), fun i _ hi => ?_⟩, kq57⟩
          have l := od.1 i hi
          have q := w0_8 q48.1 hκ_52 (j := odC8 κ κ_57 a0 i) (by have := cnk (x := zI κ_41 weTotal (zR κ_41 soWeb a0)) (by omega); omega)
          rw [U7]
          exact rq_p8 W53 R8.1.1 Z57 (V8.2 _ l).2.1 (ws_r9 (by omega)) ⟨id, id, id⟩ q
  · skip
    refine h _ _ ?_
    · refine and_5 ?_ (fun o9 => ⟨Or.inl ⟨c33, rfl, rfl⟩, kq_r16⟩)  -- q28
      exact ⟨ρ, ⟨fun _ _ => rfl, zF.rf⟩, S0, ⟨⟨U0, L0⟩, A0⟩, T0, Or.inl (fun _ _ _ V => V), Or.inr rfl, Or.inl ⟨rfl, rfl⟩, ⟨rfl, rfl, rfl⟩, zK9.rf⟩

end
section
set_option maxHeartbeats 1600000
/-! what is kept: out of the frames of solve, best, show -/
section
variable {C : zC} {n0 a : Nat} {ρ : Nat → Nat} {κ κ' : zS}
/-- places of visits and worths -/
theorem vu_p16 {s k : Nat} {q : Rat} (W : zW C n0 κ) (S : soR9 ρ κ s) (hk : k < 1000) (z : fr16 κ (vU9 κ s k) q) : ρ (vU9 κ s k) = 100 + 8 * k := by
  unfold vU9 at z ⊢
  cases h : zQ κ (zR κ soVisits s) k with
  | none =>
    rw [h] at z
    exfalso
    have z1 : zT κ 0 = 11 := z.1
    have := (W.2.1 0 (by rw [z1]; decide)).1.1
    have := W.1.1.1
    omega
  | some u => exact S.2.2.2.1.1 k u hk h
theorem wu_p16 {s k : Nat} {q : Rat} (W : zW C n0 κ) (S : soR9 ρ κ s) (hk : k < 1000) (z : fr16 κ (wU9 κ s k) q) : ρ (wU9 κ s k) = 104 + 8 * k := by
  unfold wU9 at z ⊢
  cases h : zQ κ (zR κ soWorths s) k with
  | none =>
    rw [h] at z
    exfalso
    have z1 : zT κ 0 = 11 := z.1
    have := (W.2.1 0 (by rw [z1]; decide)).1.1
    have := W.1.1.1
    omega
  | some u => exact S.2.2.2.2.1.1 k u hk h
theorem fr_l16 {u : Nat} {q : Rat} (W : zW C n0 κ) (z : fr16 κ u q) : u < zn κ := (W.2.1 u (by rw [z.1]; decide)).2
/-- show keeps visits and worths -/
theorem sh_k16 {ca : Nat} (W : zW C n0 κ) (T : zT κ a = 15) (S : soR9 ρ κ (zR κ chSolver a)) (Z : zF (soF ρ shR9 ca) κ κ') : kV16 κ κ' a ∧ kW16 κ κ' a ∧ kD16 κ κ' a := by
  have ts := ty_chSolver W T
  have rs : zR κ' chSolver a = zR κ chSolver a := (soF_r9 Z (by decide)).1
  have nF : ∀ f b, f ≠ nuLimbs ∧ f ≠ nuLength ∧ f ≠ raSign ∧ f ≠ caRest ∧ f ≠ caX ∧ f ≠ caY ∧ f ≠ caFactors → ¬ soF ρ shR9 ca f b := fun f b h z => by
    obtain ⟨h1, h2, h3, h4, h5, h6, h7⟩ := h
    rcases z with ⟨_, z | z | z⟩ | ⟨_, z | z | z | z⟩
    · exact h1 z
    · exact h2 z
    · exact h3 z
    · exact h4 z
    · exact h5 z
    · exact h6 z
    · exact h7 z
  have kp : ∀ u q, (∃ r, 100 ≤ r ∧ r < 999990 ∧ r % 4 = 0 ∧ ρ u = r) → fr16 κ u q → fr16 κ' u q := fun u q h z => by
    obtain ⟨r, r0, r1, r2, e⟩ := h
    exact ⟨Z.t z.1 (by decide), rq_f15 W S.1.1 Z e (Or.inr (Or.inr ⟨r0, by omega, r2⟩)) ⟨fun y => by unfold shR9 at y; omega, fun y => by unfold shR9 at y; omega, fun y => by unfold shR9 at y; omega⟩ z.2⟩
  refine ⟨⟨by rw [rs]; exact (soF_r9 Z (by decide)).2, fun k q hk z => ?_⟩, ⟨by rw [rs]; exact (soF_r9 Z (by decide)).2, fun k q hk z => ?_⟩, dr_o16 W T Z (nF _ _ (by decide)) (nF _ _ (by decide))⟩
  · rw [rs, vw_z16 W ts Z (nF _ _ (by decide)) k]
    exact kp _ _ ⟨_, by omega, by omega, by omega, vu_p16 W S hk z⟩ z
  · rw [rs, ww_z16 W ts Z (nF _ _ (by decide)) k]
    exact kp _ _ ⟨_, by omega, by omega, by omega, wu_p16 W S hk z⟩ z
/-- solve keeps worths, what is shown, what was drawn -/
theorem sv_k16 (W : zW C n0 κ) (T : zT κ a = 15) (S : soR9 ρ κ (zR κ chSolver a)) (h30 : ρ (zR κ chShown a) = 30) (Z : zF (fvF9 ρ κ (zR κ chSolver a)) κ κ') (K : kr16 ρ κ κ') : zR κ' chSolver a = zR κ chSolver a ∧ kW16 κ κ' a ∧ kS16 κ κ' a ∧ kD16 κ κ' a := by
  have ts := ty_chSolver W T
  have tw := ty_soWeb W ts
  have lt : ∀ x, zT κ x ≠ 0 → 0 < x ∧ x < zn κ := fun x h => ⟨Nat.lt_of_lt_of_le W.1.1.1 (W.2.1 x h).1.1, (W.2.1 x h).2⟩
  have nF : ∀ f x, zT κ x ≠ 0 → zT κ x ≠ 14 → (f ≠ nuLimbs ∧ f ≠ nuLength ∧ f ≠ raSign) ∧ (f ≠ caRest ∧ f ≠ caX ∧ f ≠ caY ∧ f ≠ caFactors) ∧ (f ≠ soSolved ∧ f ≠ soCells ∧ f ≠ soRows ∧ f ≠ soVisits) ∧ f ≠ 0 → ¬ fvF9 ρ κ (zR κ chSolver a) f x := fun f x t0 t14 h z => by
    obtain ⟨⟨h1, h2, h3⟩, ⟨h4, h5, h6, h7⟩, ⟨h8, h9, h10, h11⟩, h12⟩ := h
    have l := lt x t0
    rcases z with z | z | z | z | z | z
    · rcases z with ⟨_, z | z | z⟩ | ⟨_, z | z | z | z⟩
      · exact h1 z
      · exact h2 z
      · exact h3 z
      · exact h4 z
      · exact h5 z
      · exact h6 z
      · exact h7 z
    · rw [z] at t14; exact t14 tw
    · rcases z.2 with y | y | y | y
      · exact h8 y
      · exact h9 y
      · exact h10 y
      · exact h11 y
    · exact h12 z
    · omega
    · omega
  have t0 : zT κ a ≠ 0 := by rw [T]; decide
  have t14 : zT κ a ≠ 14 := by rw [T]; decide
  have s0 : zT κ (zR κ chSolver a) ≠ 0 := by rw [ts]; decide
  have s14 : zT κ (zR κ chSolver a) ≠ 14 := by rw [ts]; decide
  have rs : zR κ' chSolver a = zR κ chSolver a := Z.r (nF _ _ t0 t14 (by decide))
  have rh : zR κ' chShown a = zR κ chShown a := Z.r (nF _ _ t0 t14 (by decide))
  refine ⟨rs, ⟨by rw [rs]; exact Z.i (nF _ _ s0 s14 (by decide)), fun k q hk z => ?_⟩, fun q z => ?_, dr_o16 W T Z (nF _ _ t0 t14 (by decide)) (nF _ _ t0 t14 (by decide))⟩
  · rw [rs, ww_z16 W ts Z (nF _ _ s0 s14 (by decide)) k]
    refine K _ _ (fr_l16 W z) ?_ z
    rw [wu_p16 W S hk z]
    unfold st16
    omega
  · rw [rh]
    exact K _ _ (fr_l16 W z) (by rw [h30]; exact Or.inl rfl) z
/-- best keeps visits, what is shown, what was drawn -/
theorem bt_k16 (W : zW C n0 κ) (T : zT κ a = 15) (S : soR9 ρ κ (zR κ chSolver a)) (h30 : ρ (zR κ chShown a) = 30) (Z : zF (mpF9 ρ κ (zR κ chSolver a)) κ κ') (K : kq16 ρ κ κ') : (zR κ' chSolver a = zR κ chSolver a ∧ ∀ k q, k < 1000 → fr16 κ (vU9 κ (zR κ chSolver a) k) q → fr16 κ' (vU9 κ' (zR κ' chSolver a) k) q) ∧ kS16 κ κ' a ∧ kD16 κ κ' a := by
  have ts := ty_chSolver W T
  have tw := ty_soWeb W ts
  have lt : ∀ x, zT κ x ≠ 0 → 0 < x ∧ x < zn κ := fun x h => ⟨Nat.lt_of_lt_of_le W.1.1.1 (W.2.1 x h).1.1, (W.2.1 x h).2⟩
  have nF : ∀ f x, zT κ x ≠ 0 → zT κ x ≠ 14 → (f ≠ nuLimbs ∧ f ≠ nuLength ∧ f ≠ raSign) ∧ (f ≠ caRest ∧ f ≠ caX ∧ f ≠ caY ∧ f ≠ caFactors) ∧ (f ≠ soSolved ∧ f ≠ soPlanned ∧ f ≠ soTaken ∧ f ≠ soWorths) ∧ f ≠ 0 ∧ f ≠ atPlan → ¬ mpF9 ρ κ (zR κ chSolver a) f x := fun f x t0 t14 h z => by
    obtain ⟨⟨h1, h2, h3⟩, ⟨h4, h5, h6, h7⟩, ⟨h8, h9, h10, h11⟩, h12, h13⟩ := h
    have l := lt x t0
    rcases z with z | z | z | z | z | z | z
    · rcases z with ⟨_, z | z | z⟩ | ⟨_, z | z | z | z⟩
      · exact h1 z
      · exact h2 z
      · exact h3 z
      · exact h4 z
      · exact h5 z
      · exact h6 z
      · exact h7 z
    · rw [z] at t14; exact t14 tw
    · rcases z.2 with y | y | y | y
      · exact h8 y
      · exact h9 y
      · exact h10 y
      · exact h11 y
    · exact h13 z.2
    · exact h12 z
    · omega
    · omega
  have t0 : zT κ a ≠ 0 := by rw [T]; decide
  have t14 : zT κ a ≠ 14 := by rw [T]; decide
  have s0 : zT κ (zR κ chSolver a) ≠ 0 := by rw [ts]; decide
  have s14 : zT κ (zR κ chSolver a) ≠ 14 := by rw [ts]; decide
  have rs : zR κ' chSolver a = zR κ chSolver a := Z.r (nF _ _ t0 t14 (by decide))
  have rh : zR κ' chShown a = zR κ chShown a := Z.r (nF _ _ t0 t14 (by decide))
  refine ⟨⟨rs, fun k q hk z => ?_⟩, fun q z => ?_, dr_o16 W T Z (nF _ _ t0 t14 (by decide)) (nF _ _ t0 t14 (by decide))⟩
  · rw [rs, vw_z16 W ts Z (nF _ _ s0 s14 (by decide)) k]
    refine K _ _ (fr_l16 W z) ?_ z
    rw [vu_p16 W S hk z]
    unfold su16
    omega
  · rw [rh]
    exact K _ _ (fr_l16 W z) (by rw [h30]; exact Or.inl rfl) z
end

end
section
set_option maxHeartbeats 1600000
/-! the class: how many words -/
theorem Nu_words_q6 {C : zC} {n0 : Nat} {a0 : Nat} {κ : zS} {Q : Int32 → zS → Prop} (W : zW C n0 κ) (Ta0 : zT κ a0 = 8) (c9 : Nat) (hp : nuI κ a0 c9 ∧ c9 ≤ 30000000) (h : ∀ (v : Int32), ((0 ≤ v.toInt) ∧ (wd17 (nuN κ a0) v.toNatClampNeg)) → Q v κ) : zRun C 1 mNu_words [.ref a0] κ (oI Q noX) := by
  refine Nu_words_run W Ta0 ?_
  replace W := W.lo (Nat.le_trans W.1.2.1 W.1.2.2) (Nat.le_refl (zn κ))
  unfold w_Nu_words_0
  intro T1
  refine Nu_bits_c W T1 c9 ?_ (fun r2 q4 => ?_)
  · exact hp  -- p1
  intro W5
  intro M6
  refine ⟨?_, ?_⟩
  · decide  -- b2
  refine h _ ?_
  · refine and_5 ?_ (fun o9 => ?_)  -- q3
    · have k := nuK_i hp.1.1
      have l1 := hp.1.1.1
      have l2 := hp.1.1.2.1
      have l3 := hp.2
      have l4 := q4.1
      have t31 : (31 : Int32).toInt = 31 := rfl
      have e : (r2 + 31).toInt = r2.toInt + 31 := by rw [add_i (by rw [t31]; omega) (by rw [t31]; omega), t31]
      rw [div_i (by rw [e]; omega) (by decide), e]
      exact Int.ediv_nonneg (by omega) (by decide)
    · have k := nuK_i hp.1.1
      have l1 := hp.1.1.1
      have l2 := hp.1.1.2.1
      have l3 := hp.2
      have l4 := q4.1
      have t31 : (31 : Int32).toInt = 31 := rfl
      have t32 : (32 : Int32).toInt = 32 := rfl
      have e : (r2 + 31).toInt = r2.toInt + 31 := by rw [add_i (by rw [t31]; omega) (by rw [t31]; omega), t31]
      have d : ((r2 + 31) / 32).toInt = (r2.toInt + 31) / 32 := by
        rw [div_i (by rw [e]; omega) (by decide), e, t32]
      have w : ((r2 + 31) / 32).toNatClampNeg = (r2.toInt.toNat + 31) / 32 := by
        have c := cnk (x := (r2 + 31) / 32) (by rw [d]; exact Int.ediv_nonneg (by omega) (by decide))
        omega
      rw [w]
      refine wd_c17 q4.2.1 (fun z => by have y := q4.2.2 z; exact ⟨by omega, y.2⟩) (fun z => ?_)
      have k0 : nuK κ a0 = 0 := by
        refine Decidable.byContradiction (fun c => ?_)
        have zt := hp.1.2 (by omega)
        have g := uV_ge (f := zA κ (zR κ nuLimbs a0)) (n := nuK κ a0 - 1) (by
          have e2 : ((zI κ nuLength a0).toInt - 1).toNat = nuK κ a0 - 1 := by omega
          rw [e2] at zt
          have := cnk (x := zA κ (zR κ nuLimbs a0) (nuK κ a0 - 1)) (by omega)
          omega)
        rw [show nuK κ a0 - 1 + 1 = nuK κ a0 by omega] at g
        have p : 0 < 2147483648 ^ (nuK κ a0 - 1) := Nat.pow_pos (by decide)
        have z2 : uV (zA κ (zR κ nuLimbs a0)) (nuK κ a0) = 0 := z
        omega
      omega

end
section
set_option maxHeartbeats 1600000
/-! the class: a word of 32 bits -/
theorem hw_18 {κ : zS} {x s : Nat} : ∃ T, nuN κ x / 2 ^ s = ((uP κ x (s / 31)).toNatClampNeg + ((uP κ x (s / 31 + 1)).toNatClampNeg * 2147483648 + T * (2147483648 * 2147483648))) / 2 ^ (s % 31) := by
  refine ⟨uV (uW (uP κ x) (s / 31 + 2)) (nuK κ x), ?_⟩
  have e : nuN κ x = uV (uP κ x) (s / 31) + ((uP κ x (s / 31)).toNatClampNeg + ((uP κ x (s / 31 + 1)).toNatClampNeg * 2147483648 + uV (uW (uP κ x) (s / 31 + 2)) (nuK κ x) * (2147483648 * 2147483648))) * 2147483648 ^ (s / 31) := by
    rw [← uP_v (κ := κ) (x := x) (m := s / 31 + 2 + nuK κ x) (by omega), uV_split]
    show uV _ (s / 31) + _ * 2147483648 ^ (s / 31) + _ * 2147483648 ^ (s / 31 + 1) + _ * 2147483648 ^ (s / 31 + 1 + 1) = _
    rw [p31_s (n := s / 31 + 1), p31_s (n := s / 31)]
    generalize 2147483648 ^ (s / 31) = B at *
    generalize uV (uP κ x) (s / 31) = A at *
    grind
  have l := uV_lt (f := uP κ x) (n := s / 31)
  have p : 0 < 2147483648 ^ (s / 31) := Nat.pow_pos (by decide)
  have es : 2 ^ s = 2147483648 ^ (s / 31) * 2 ^ (s % 31) := by
    rw [p31_2, ← Nat.pow_add]
    congr 1
    omega
  rw [es, ← Nat.div_div_eq_div_mul]
  congr 1
  rw [e, Nat.mul_comm _ (2147483648 ^ (s / 31)), Nat.add_mul_div_left _ _ p, Nat.div_eq_of_lt l, Nat.zero_add]
theorem l2i_18 {x : Int64} : x.toInt32 = Int32.ofInt x.toInt := by
  refine Int32.toInt_inj.mp ?_
  rw [Int64.toInt_toInt32, Int32.toInt_ofInt]
theorem Nu_word_q18 {C : zC} {n0 : Nat} {a0 : Nat} {a1 : Int32} {κ : zS} {Q : Int32 → zS → Prop} (W : zW C n0 κ) (Ta0 : zT κ a0 = 8) (c9 : Nat) (hp : nuI κ a0 c9 ∧ 0 ≤ a1.toInt ∧ a1.toInt ≤ 1000000) (h : ∀ (v : Int32), (v = lw18 (nuN κ a0) a1.toNatClampNeg) → Q v κ) : zRun C 0 mNu_word [.ref a0, .int a1] κ (oI Q noX) := by
  refine Nu_word_run W Ta0 ?_
  replace W := W.lo (Nat.le_trans W.1.2.1 W.1.2.2) (Nat.le_refl (zn κ))
  unfold w_Nu_word_0
  obtain ⟨I0, p0, p1⟩ := hp
  have k0 := nuK_i I0.1
  have lb := I0.1.1
  have t31 : (31 : Int32).toInt = 31 := rfl
  have t32 : (32 : Int32).toInt = 32 := rfl
  have ka1 := cnk p0
  have em : (a1 * 32).toInt = 32 * a1.toInt := by
    rw [mul_i (by rw [t32]; omega) (by rw [t32]; omega), t32]
    omega
  obtain ⟨S, hS⟩ : ∃ S, S = 32 * a1.toNatClampNeg := ⟨_, rfl⟩
  have g : ∀ j, (uP κ a0 j).toInt64.toInt = ((uP κ a0 j).toNatClampNeg : Int) ∧ (uP κ a0 j).toNatClampNeg < 2147483648 := fun j => by
    have e : (uP κ a0 j).toInt64.toInt = (uP κ a0 j).toInt := Int32.toInt_toInt64 _
    have k := cnk (uP_0 (j := j) I0.1)
    have l := lim31 (uP κ a0 j)
    omega
  have hj70 : ∀ (l3 : Int32), l3.toInt = ((S % 31 : Nat) : Int) → w_Nu_word_70 C (zn κ) Q a0 l3 (uP κ a0 (S / 31)).toInt64 (uP κ a0 (S / 31 + 1)).toInt64 κ := by
    intro y3 e3
    unfold w_Nu_word_70
    refine h _ ?_
    have g0 := g (S / 31)
    have g1 := g (S / 31 + 1)
    obtain ⟨T, hT⟩ := hw_18 (κ := κ) (x := a0) (s := S)
    have ar := hi_ar (o := S % 31) (t := T) (by omega) g0.2 g1.2
    have s3 := cnk (x := y3) (by omega)
    have ko : y3.toNatClampNeg = S % 31 := by omega
    have d1 : ((31 : Int32) - y3).toInt = 31 - y3.toInt := by rw [sub_i (by rw [t31]; omega) (by rw [t31]; omega), t31]
    have k1 := cnk (x := (31 : Int32) - y3) (by omega)
    have ko1 : ((31 : Int32) - y3).toNatClampNeg = 31 - S % 31 := by omega
    have n0 : (uP κ a0 (S / 31)).toInt64.toInt.toNat = (uP κ a0 (S / 31)).toNatClampNeg := by omega
    have n1 : (uP κ a0 (S / 31 + 1)).toInt64.toInt.toNat = (uP κ a0 (S / 31 + 1)).toNatClampNeg := by omega
    have b62 : 2 ^ (62 - S % 31) ≤ 4611686018427387904 := Nat.pow_le_pow_right (n := 2) (by decide) (show 62 - S % 31 ≤ 62 by omega)
    have b0 := j_shrv (x := (uP κ a0 (S / 31)).toInt64) (s := y3) (by omega) (by omega) (by omega)
    rw [n0, ko] at b0
    generalize hz9 : (uP κ a0 (S / 31)).toNatClampNeg / 2 ^ (S % 31) = z9 at ar b0
    have b1 := j_shl (x := (uP κ a0 (S / 31 + 1)).toInt64) (s := (31 : Int32) - y3) (by omega) (by omega) (by omega) (by rw [n1, ko1]; omega)
    rw [n1, ko1] at b1
    have c1 := j_orl (k := 31 - S % 31) (c := (uP κ a0 (S / 31 + 1)).toNatClampNeg) (a := ((uP κ a0 (S / 31)).toInt64.toUInt64 >>> (y3.toInt64.toUInt64 &&& Int64.toUInt64 63)).toInt64) (b := (uP κ a0 (S / 31 + 1)).toInt64 <<< (((31 : Int32) - y3).toInt64 &&& 63)) (by omega) (by rw [b0]; exact ar.2.1) (by omega) (by rw [b1]; rfl) (by rw [b0, b1]; omega)
    unfold lw18
    rw [l2i_18, c1, b0, b1, ← hS, hT, ar.1]
    refine oi_18 ?_
    have ep : 2 ^ (62 - S % 31) = 4294967296 * 2 ^ (30 - S % 31) := by
      rw [show 62 - S % 31 = 32 + (30 - S % 31) by omega, Nat.pow_add]
    rw [ep, Nat.mul_left_comm]
    generalize T * 2 ^ (30 - S % 31) = Y
    generalize (uP κ a0 (S / 31 + 1)).toNatClampNeg * 2 ^ (31 - S % 31) = X
    omega
  have hj39 : ∀ (l2 l3 : Int32), l2.toInt = ((S / 31 : Nat) : Int) → l3.toInt = ((S % 31 : Nat) : Int) → w_Nu_word_39 C (zn κ) Q a0 l2 l3 (uP κ a0 (S / 31)).toInt64 κ := by
    intro l2 l3 e2 e3
    unfold w_Nu_word_39
    have ea : (l2 + 1).toInt = l2.toInt + 1 := by rw [add_i (by rw [t1i]; omega) (by rw [t1i]; omega), t1i]
    have ka := cnk (x := l2 + 1) (by omega)
    have kn : (l2 + 1).toNatClampNeg = S / 31 + 1 := by omega
    have nul : ¬ S / 31 + 1 < nuK κ a0 → (0 : Int64) = (uP κ a0 (S / 31 + 1)).toInt64 := fun z => by
      have : uP κ a0 (S / 31 + 1) = 0 := if_neg z
      rw [this]
      rfl
    refine ⟨fun c1 => ?_, fun c1 => ?_⟩
    · rw [lti, t0i] at c1
      exact absurd c1 (by omega)
    · refine ⟨fun c2 => ?_, fun c2 => ?_⟩
      · rw [lei] at c2
        rw [nul (by omega)]
        exact hj70 _ e3
      · rw [lei] at c2
        refine ⟨by rw [inb_iff]; omega, ?_⟩
        rw [kn]
        have e : uP κ a0 (S / 31 + 1) = zA κ (zR κ nuLimbs a0) (S / 31 + 1) := if_pos (by omega)
        rw [← e]
        exact hj70 _ e3
  refine ⟨by decide, ?_⟩
  intro x3 hx3
  refine ⟨by decide, ?_⟩
  intro x4 hx4
  have e2 : x3.toInt = ((S / 31 : Nat) : Int) := by
    rw [hx3, div_i (by rw [em]; omega) (by decide), em, t31]
    omega
  have e3 : x4.toInt = ((S % 31 : Nat) : Int) := by
    have ed : ((a1 * 32) / 31 : Int32).toInt = ((S / 31 : Nat) : Int) := by rw [← hx3]; exact e2
    have e5 : ((a1 * 32) / 31 * 31 : Int32).toInt = ((S / 31 : Nat) : Int) * 31 := by rw [mul_i (by rw [ed, t31]; omega) (by rw [ed, t31]; omega), ed, t31]
    rw [hx4, sub_i (by rw [em, e5]; omega) (by rw [em, e5]; omega), em, e5]
    omega
  have k3 := cnk (x := x3) (by omega)
  have n3 : x3.toNatClampNeg = S / 31 := by omega
  have nul : ¬ S / 31 < nuK κ a0 → (0 : Int64) = (uP κ a0 (S / 31)).toInt64 := fun z => by
    have : uP κ a0 (S / 31) = 0 := if_neg z
    rw [this]
    rfl
  refine ⟨fun c1 => ?_, fun c1 => ?_⟩
  · rw [lti, t0i] at c1
    exact absurd c1 (by omega)
  · refine ⟨fun c2 => ?_, fun c2 => ?_⟩
    · rw [lei] at c2
      rw [nul (by omega)]
      exact hj39 _ _ e2 e3
    · rw [lei] at c2
      refine ⟨by rw [inb_iff]; omega, ?_⟩
      rw [n3]
      have e : uP κ a0 (S / 31) = zA κ (zR κ nuLimbs a0) (S / 31) := if_pos (by omega)
      rw [← e]
      exact hj39 _ _ e2 e3

end
section
set_option maxHeartbeats 1600000
/-! the class: ChanceWorks between calls; what is not touched stays -/
/-- no field of an object of this class is in the frame -/
def un9 (F : Nat → Nat → Prop) (x K : Nat) : Prop := ∀ f, f / 100 = K → ¬ F f x
theorem ta_u9 {C : zC} {n0 t : Nat} {F : Nat → Nat → Prop} {κ τ : zS} (Z : zF F κ τ) (W : zW C n0 κ) (T : zT κ t = 13) (h : un9 F t 13) (H : taI κ t ∧ tokI κ t) : (taI τ t ∧ tokI τ t) ∧ zI τ taLength t = zI κ taLength t := by
  have i : ∀ f, f / 100 = 13 → zI τ f t = zI κ f t := fun f hf => Z.i (h f hf)
  have r : ∀ f, f / 100 = 13 → zR τ f t = zR κ f t := fun f hf => Z.r (h f hf)
  have p := (Z.row W (show zr taPlaces = some 20 by decide +kernel) (by decide) T (h taPlaces (by decide))).1
  have l := (Z.row W (show zr taLengths = some 20 by decide +kernel) (by decide) T (h taLengths (by decide))).1
  refine ⟨⟨?_, ?_⟩, i _ (by decide)⟩
  · unfold taI
    rw [i taLength (by decide), i taTotal (by decide), r taBytes (by decide), r taKinds (by decide), r taPlaces (by decide), r taLengths (by decide), Z.l (ty_taBytes W T), Z.l (ty_taKinds W T), Z.l (ty_taPlaces W T), Z.l (ty_taLengths W T)]
    exact H.1
  · unfold tokI
    rw [p, l, r taBytes (by decide), r taKinds (by decide), Z.l (ty_taBytes W T), Z.l (ty_taKinds W T)]
    exact H.2
theorem co_u9 {C : zC} {n0 c : Nat} {F : Nat → Nat → Prop} {κ τ : zS} (Z : zF F κ τ) (W : zW C n0 κ) (T : zT κ c = 5) (n : un9 F c 5) : (coI κ c → coI τ c) ∧ zI τ coVars c = zI κ coVars c ∧ zI τ coCells c = zI κ coCells c := by
  have i5 : ∀ f, f ∈ coIf → f / 100 = 5 := by decide
  refine ⟨fun I => coI_g I (fun f hf => Z.i (n f (i5 f hf))) (fun f hf => Z.r (n f (coRf_r f hf).2)) (fun f hf => Z.l (coRf_t W T hf)) (fun f hf => ?_), Z.i (n _ (by decide)), Z.i (n _ (by decide))⟩
  have m : f ∈ coRf := by rcases hf with rfl | rfl <;> decide
  have r := (Z.row W (coRf_r f m).1 (by decide) (T.trans (coRf_r f m).2.symm) (n f (coRf_r f m).2)).1
  rw [Z.r (n f (coRf_r f m).2)] at r
  exact r
theorem pa_u9 {C : zC} {n0 p : Nat} {F : Nat → Nat → Prop} {κ τ : zS} (Z : zF F κ τ) (W : zW C n0 κ) (T : zT κ p = 10) (n : un9 F p 10) (H : paL κ p ∧ paC κ p) : (paL τ p ∧ paC τ p) ∧ zR τ paTape p = zR κ paTape p := by
  have i : ∀ f, f / 100 = 10 → zI τ f p = zI κ f p := fun f hf => Z.i (n f hf)
  have r : ∀ f, f / 100 = 10 → zR τ f p = zR κ f p := fun f hf => Z.r (n f hf)
  refine ⟨⟨?_, ?_⟩, r _ (by decide)⟩
  · unfold paL
    rw [r paVarNames (by decide), r paArrayNames (by decide), r paFunctionNames (by decide), r paOwnNames (by decide), r paOwners (by decide), r paLasts (by decide), r paElses (by decide), Z.l (ty_paVarNames W T), Z.l (ty_paArrayNames W T), Z.l (ty_paFunctionNames W T), Z.l (ty_paOwnNames W T), Z.l (ty_paOwners W T), Z.l (ty_paLasts W T), Z.l (ty_paElses W T)]
    exact H.1
  · unfold paC
    rw [i paOwns (by decide), i paBlocks (by decide), i paWaits (by decide), r paWaiting (by decide), Z.l (ty_paWaiting W T)]
    exact H.2
theorem ma_u9 {C : zC} {n0 m : Nat} {F : Nat → Nat → Prop} {κ τ : zS} (Z : zF F κ τ) (W : zW C n0 κ) (T : zT κ m = 7) (n : un9 F m 7) (H : maL κ m) : maL τ m := by
  have r : ∀ f, f / 100 = 7 → zR τ f m = zR κ f m := fun f hf => Z.r (n f hf)
  unfold maL
  rw [r maMemory (by decide), r maStack (by decide), r maWorked (by decide), r maValues (by decide), r maWeights (by decide), Z.l (ty_maMemory W T), Z.l (ty_maStack W T), Z.l (ty_maWorked W T), Z.l (ty_maValues W T), Z.l (ty_maWeights W T)]
  exact H
theorem ho_u9 {C : zC} {n0 h M D S : Nat} {F : Nat → Nat → Prop} {κ τ : zS} (Z : zF F κ τ) (W : zW C n0 κ) (T : zT κ h = 6) (n : un9 F h 6) : (hoI κ h M D S → hoI τ h M D S) ∧ pV9 τ h = pV9 κ h ∧ zI τ hoTotal h = zI κ hoTotal h := by
  have q : ∀ f, f = hoStarts ∨ f = hoTable ∨ f = hoPool → zR τ f h = zR κ f h ∧ zA τ (zR κ f h) = zA κ (zR κ f h) ∧ zN τ (zR κ f h) = zN κ (zR κ f h) := fun f hf => by
    have q : zr f = some 20 ∧ f / 100 = 6 := by rcases hf with rfl | rfl | rfl <;> decide +kernel
    have w := (Z.row W q.1 (by decide) (T.trans q.2.symm) (n f q.2)).1
    have e := Z.r (n f q.2)
    rw [e] at w
    exact ⟨e, w, Z.l (W.r q.1 (T.trans q.2.symm))⟩
  have t : zI τ hoTotal h = zI κ hoTotal h := Z.i (n hoTotal (by decide))
  refine ⟨fun I => hoI_f I (fun f hf => Z.i (n f hf)) q, ?_, t⟩
  funext k i
  have s := q hoStarts (Or.inl rfl)
  have p := q hoPool (Or.inr (Or.inr rfl))
  unfold pV9
  rw [t, s.1, p.1, s.2.1, p.2.1]
theorem we_u9 {C : zC} {n0 w : Nat} {F : Nat → Nat → Prop} {κ τ : zS} (Z : zF F κ τ) (W : zW C n0 κ) (T : zT κ w = 14) (n : un9 F w 14) : (weM κ w → weM τ w) ∧ (weU κ w → weU τ w) ∧ (weL κ w → weL τ w) := by
  have h : ∀ f, f ∈ weRf → zN τ (zR τ f w) = zN κ (zR κ f w) := fun f hf => by
    obtain ⟨⟨t, h1, h2⟩, h3⟩ := weRf_r f hf
    have ty := W.r h1 (T.trans h3.symm)
    have t1 : zT κ (zR κ f w) = (t - 1) + 1 := by omega
    rw [Z.r (n f h3)]
    exact Z.l t1
  refine ⟨fun M => ?_, fun M => ?_, fun M => ?_⟩
  · unfold weM
    rw [h weFirsts (by decide), h weBackFirsts (by decide), h weOpen (by decide), h weKnotFirsts (by decide), h weKnotOf (by decide), h weOrder (by decide), h weSeen (by decide), h weLow (by decide), h weCursor (by decide), h wePath (by decide), h weHeap (by decide)]
    exact M
  · unfold weU
    rw [h weFirsts (by decide), h weBackFirsts (by decide), h weOpen (by decide), h weKnotFirsts (by decide), h weKnotOf (by decide), h weOrder (by decide), h weSeen (by decide), h weLow (by decide), h weCursor (by decide), h wePath (by decide), h weHeap (by decide)]
    exact M
  · unfold weL
    rw [h weTargets (by decide), h weSources (by decide), h weEdges (by decide)]
    exact M
/-- an atlas's rows and numbers: the plan may be touched -/
theorem at_u9 {C : zC} {n0 a : Nat} {F : Nat → Nat → Prop} {κ τ : zS} (Z : zF F κ τ) (W : zW C n0 κ) (T : zT κ a = 3) (n : ∀ f, f / 100 = 3 → f ≠ atPlan → ¬ F f a) (hp : zR τ atPlan a = zR κ atPlan a) : (∀ f, f / 100 = 3 → zR τ f a = zR κ f a) ∧ (∀ f, f ∈ atRf → zN τ (zR κ f a) = zN κ (zR κ f a) ∧ (f ≠ atPlan → zA τ (zR κ f a) = zA κ (zR κ f a))) := by
  have r : ∀ f, f / 100 = 3 → zR τ f a = zR κ f a := fun f hf => by
    by_cases e : f = atPlan
    · rw [e]; exact hp
    · exact Z.r (n f hf e)
  refine ⟨r, fun f hf => ?_⟩
  obtain ⟨⟨t, h1, h2⟩, h3⟩ := atRf_r f hf
  have ty := W.r h1 (T.trans h3.symm)
  have t1 : zT κ (zR κ f a) = (t - 1) + 1 := by omega
  refine ⟨Z.l t1, fun e => ?_⟩
  have q := (Z.row W h1 h2 (T.trans h3.symm) (n f h3 e)).1
  rw [r f h3] at q
  exact q
theorem atM_u9 {a : Nat} {κ τ : zS} (g : (∀ f, f / 100 = 3 → zR τ f a = zR κ f a) ∧ (∀ f, f ∈ atRf → zN τ (zR κ f a) = zN κ (zR κ f a) ∧ (f ≠ atPlan → zA τ (zR κ f a) = zA κ (zR κ f a)))) : (atM κ a → atM τ a) ∧ (atU κ a → atU τ a) ∧ (atL κ a → atL τ a) := by
  obtain ⟨r, g⟩ := g
  refine ⟨fun A1 => ?_, fun A1 => ?_, fun A2 => ?_⟩
  · unfold atM
    rw [r atFirsts (by decide), r atTotals (by decide), r atGains (by decide), r atPlan (by decide), r atChooses (by decide), r atHopeless (by decide), (g atFirsts (by decide)).1, (g atTotals (by decide)).1, (g atGains (by decide)).1, (g atPlan (by decide)).1, (g atChooses (by decide)).1, (g atHopeless (by decide)).1]
    exact A1
  · unfold atU
    rw [r atFirsts (by decide), r atTotals (by decide), r atGains (by decide), r atPlan (by decide), r atChooses (by decide), r atHopeless (by decide), (g atFirsts (by decide)).1, (g atTotals (by decide)).1, (g atGains (by decide)).1, (g atPlan (by decide)).1, (g atChooses (by decide)).1, (g atHopeless (by decide)).1]
    exact A1
  · unfold atL
    rw [r atSorts (by decide), r atNumbers (by decide), r atWeights (by decide), (g atSorts (by decide)).1, (g atNumbers (by decide)).1, (g atWeights (by decide)).1]
    exact A2
/-- atW stays, both ways -/
theorem atW_u9 {a n : Nat} {κ τ : zS} (g : (∀ f, f / 100 = 3 → zR τ f a = zR κ f a) ∧ (∀ f, f ∈ atRf → zN τ (zR κ f a) = zN κ (zR κ f a) ∧ (f ≠ atPlan → zA τ (zR κ f a) = zA κ (zR κ f a)))) (ix : zI τ atNexts a = zI κ atNexts a) (is : zI τ hoTotal (zR κ atStates a) = zI κ hoTotal (zR κ atStates a)) (ie : zI τ hoTotal (zR κ atEndings a) = zI κ hoTotal (zR κ atEndings a)) : atW τ a n ↔ atW κ a n := by
  obtain ⟨r, g⟩ := g
  unfold atW atM atL exK
  rw [r atFirsts (by decide), r atTotals (by decide), r atGains (by decide), r atPlan (by decide), r atChooses (by decide), r atHopeless (by decide), r atSorts (by decide), r atNumbers (by decide), r atWeights (by decide), r atStates (by decide), r atEndings (by decide), is, ie, ix, (g atFirsts (by decide)).1, (g atTotals (by decide)).1, (g atGains (by decide)).1, (g atPlan (by decide)).1, (g atChooses (by decide)).1, (g atHopeless (by decide)).1, (g atSorts (by decide)).1, (g atNumbers (by decide)).1, (g atWeights (by decide)).1, (g atFirsts (by decide)).2 (by decide), (g atTotals (by decide)).2 (by decide), (g atChooses (by decide)).2 (by decide), (g atSorts (by decide)).2 (by decide), (g atNumbers (by decide)).2 (by decide), (g atWeights (by decide)).2 (by decide)]

end
