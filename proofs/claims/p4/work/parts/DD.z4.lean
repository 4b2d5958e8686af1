set_option maxHeartbeats 1600000
/-! the class: Solver's mixWorths -/
theorem ws_m9 {ρ : Nat → Nat} {κ : zS} {a n P P' : Nat} (d : P ∣ P') (V : wsI9 ρ κ a n P) : wsI9 ρ κ a n P' := ⟨V.1, fun k hk => by
  obtain ⟨h1, h2, h3, h4, h5⟩ := V.2 k hk
  exact ⟨h1, h2, h3, dz9_m h4 d, h5⟩⟩
/-- what is read of the atlas and the Solver while only numbers are touched -/
theorem mw_9 {C : zC} {n0 a n P : Nat} {ρ : Nat → Nat} {R : Nat → Prop} {κ τ : zS} (W : zW C n0 κ) (Ta : zT κ a = 12) (hn : n ≤ 1000) (J : pwI9 ρ κ κ a n P) (Z : zF (soF ρ R (zR κ soCalc a)) κ τ) (hR : ∀ r, 100 ≤ r → ¬ R r) (N : nmI ρ τ ∧ soI ρ τ a) : pwI9 ρ κ τ a n P ∧ zA τ (zR τ atFirsts (zR τ soAtlas a)) = zA κ (zR κ atFirsts (zR κ soAtlas a)) ∧ zN τ (zR τ atFirsts (zR τ soAtlas a)) = 1001 ∧ zR τ soWhole a = zR κ soWhole a ∧ zR τ soSum a = zR κ soSum a ∧ zR τ soLess a = zR κ soLess a ∧ zR τ soPart a = zR κ soPart a ∧ zR τ soCalc a = zR κ soCalc a := by
  have K := pw_so9 W Ta hn J Z hR N
  refine ⟨K, ?_, ?_, (soF_r9 Z (by decide)).1, (soF_r9 Z (by decide)).1, (soF_r9 Z (by decide)).1, (soF_r9 Z (by decide)).1, (soF_r9 Z (by decide)).1⟩
  · rw [K.2.1.2.1, K.2.1.2.2.2]
    exact K.2.1.2.2.1
  · rw [K.2.1.2.1]
    exact K.2.1.1.1.1
theorem mz_9 {s w : Int32} (h1 : -1 ≤ s.toInt) (h2 : s.toInt ≤ 1) (h0 : 0 ≤ w.toInt) : -2147483648 ≤ (Int32.toInt64 s * Int32.toInt64 w).toInt ∧ (Int32.toInt64 s * Int32.toInt64 w).toInt ≤ 2147483648 := by
  have e1 := Int32.toInt_toInt64 s
  have e2 := Int32.toInt_toInt64 w
  have u := ihi w
  have p : -2147483648 ≤ s.toInt * w.toInt ∧ s.toInt * w.toInt ≤ 2147483648 := by
    rcases (show s.toInt = -1 ∨ s.toInt = 0 ∨ s.toInt = 1 by omega) with z | z | z <;> rw [z] <;> omega
  have q : (Int32.toInt64 s * Int32.toInt64 w).toInt = s.toInt * w.toInt := by
    rw [jmul_i (by rw [e1, e2]; omega) (by rw [e1, e2]; omega), e1, e2]
  rw [q]
  exact p
theorem So_mixWorths_c {C : zC} {n0 : Nat} {a0 : Nat} {a1 : Int32} {κ : zS} {Q : Int32 → zS → Prop} (W : zW C n0 κ) (Ta0 : zT κ a0 = 12) (ρ : Nat → Nat) (n9 P9 : Nat) (hp : pwI9 ρ κ κ a0 n9 P9 ∧ n9 ≤ 1000 ∧ (0 ≤ a1.toInt ∧ a1.toInt < n9) ∧ (0 < P9 ∧ P9 < pB9 1490) ∧ (1 ≤ (zA κ (zR κ atTotals (zR κ soAtlas a0)) a1.toNatClampNeg).toInt ∧ (zA κ (zR κ atTotals (zR κ soAtlas a0)) a1.toNatClampNeg).toInt ≤ 8000000)) (h : ∀ (v : Int32) (κ' : zS), (nb v ∧ (zF (soF ρ (voR9 (104 + 8 * a1.toNatClampNeg)) (zR κ soCalc a0)) κ κ' ∧ nmI ρ κ' ∧ soI ρ κ' a0) ∧ nuN κ' (zR κ soLess a0) < pB9 4000 ∧ (v ≠ 0 → wsI9 ρ κ' a0 n9 (P9 * ((zA κ (zR κ atTotals (zR κ soAtlas a0)) a1.toNatClampNeg).toInt).toNat)) ∧ (∀ k, wU9 κ' a0 k = wU9 κ a0 k)) → Q v κ') : zRun C 7 mSo_mixWorths [.ref a0, .int a1] κ (oI Q noX) := by
  refine So_mixWorths_run W Ta0 ?_
  replace W := W.lo (Nat.le_trans W.1.2.1 W.1.2.2) (Nat.le_refl (zn κ))
  unfold w_So_mixWorths_0
  obtain ⟨J0, hn, p1, ⟨p2, p3⟩, p4⟩ := hp
  have kn := cnk p1.1
  have A0 := J0.2.1.1
  have wy := wy_9 A0 (k := a1.toNatClampNeg) (by omega)
  have i1 := cn1 p1.1 (by omega)
  have N0 := J0.1.1
  have S0 := J0.1.2
  have h1 : ρ (zR κ soWhole a0) = 1 := S0.1.1
  have h7 : ρ (zR κ soSum a0) = 7 := S0.1.2.2.2.2.1
  have h8 : ρ (zR κ soLess a0) = 8 := S0.1.2.2.2.2.2.1
  have h20 := S0.1.2.2.2.2.2.2
  have g1 := nm_g N0 h1 (Or.inl ⟨by decide, by decide⟩) (by decide)
  have o1 : (1 : Int64).toInt.toNat = 1 := rfl
  have h256 : 2 ^ 256 ≤ pB9 100 := by unfold pB9; decide
  intro T1
  refine Nu_put_c W T1 6500 ?_ (fun κ_2 q3 => ?_)
  · exact ⟨by decide, g1.2.2⟩  -- p1
  obtain ⟨Fp, ⟨Rp, Np⟩, Ip, Vp⟩ := q3
  have Zp : zF (soF ρ (fun r => r < 100) (zR κ soCalc a0)) κ κ_2 := soF_1 (by rw [h1]; decide) Fp
  have N2 : nmI ρ κ_2 := nm_1 W N0 Fp (by rw [h1]; exact Ip)
  have S2 : soI ρ κ_2 a0 := so_1 W Ta0 S0 Fp
  have Y2 := mw_9 W Ta0 hn J0 Zp (fun r h z => by omega) ⟨N2, S2⟩
  intro W4
  intro M5
  refine ⟨?_, ?_⟩
  · rw [Y2.2.2.1, inb_iff]; omega  -- b2
  intro x6 hx6
  unfold w_So_mixWorths_18
  refine ⟨fun n l0 l1 l2 τ => n = ((zA κ (zR κ atFirsts (zR κ soAtlas a0)) (a1.toNatClampNeg + 1)).toInt - l2.toInt).toNat ∧ (a0 = l0 ∧ a1 = l1 ∧ (zF (soF ρ (fun r => r < 100) (zR κ soCalc a0)) κ τ ∧ nmI ρ τ ∧ soI ρ τ a0) ∧ dz9 (nuN τ (zR κ soWhole a0)) P9 ∧ (zA κ (zR κ atFirsts (zR κ soAtlas a0)) a1.toNatClampNeg).toInt ≤ l2.toInt), ⟨_, rfl, ?_⟩, ?_⟩
  · exact ⟨rfl, rfl, ⟨Zp, N2, S2⟩, by rw [Vp, o1]; exact Or.inr (Nat.one_dvd _), by rw [hx6, Y2.2.1]; exact Int.le_refl _⟩  -- j3
  rintro n18 _ _ x18_2 κ18 W18 T18_0 ⟨hn18, rfl, rfl, i18⟩
  obtain ⟨⟨Z1, N1, S1⟩, D1, lb1⟩ := i18
  obtain ⟨J1, eF1, nF1, ew1, es1, el1, ep1, ec1⟩ := mw_9 W Ta0 hn J0 Z1 (fun r h z => by omega) ⟨N1, S1⟩
  have tw : zT κ18 (zR κ soWhole a0) = 8 := Z1.t (ty_soWhole W Ta0) (by decide)
  refine ⟨?_, ?_⟩
  · rw [nF1, inb_iff, i1.2]; omega  -- b4
  refine ⟨fun c7 => ?_, fun c7 => ?_⟩
  · skip
    intro T8
    refine Nu_put_c W18 T8 6500 ?_ (fun κ_9 q10 => ?_)
    · exact ⟨by decide, (nm_g N1 S1.1.2.2.2.2.1 (Or.inl ⟨by decide, by decide⟩) (by decide)).2.2⟩  -- p5
    obtain ⟨Fs, ⟨Rs, Ns⟩, Is, Vs⟩ := q10
    have h71 : ρ (zR κ18 soSum a0) = 7 := S1.1.2.2.2.2.1
    have Zs : zF (soF ρ (fun r => r < 100) (zR κ soCalc a0)) κ18 κ_9 := soF_1 (by rw [h71]; decide) Fs
    have Nx : nmI ρ κ_9 := nm_1 W18 N1 Fs (by rw [h71]; exact Is)
    have Sx : soI ρ κ_9 a0 := so_1 W18 T18_0 S1 Fs
    have Tx : zT κ_9 a0 = 12 := Fs.t T18_0 (by decide)
    intro W11
    intro M12
    intro T13
    refine Nu_put_c W11 T13 6500 ?_ (fun κ_14 q15 => ?_)
    · exact ⟨by decide, (nm_g Nx Sx.1.2.2.2.2.2.1 (Or.inl ⟨by decide, by decide⟩) (by decide)).2.2⟩  -- p6
    obtain ⟨Fl, ⟨Rl, Nl⟩, Il, Vl⟩ := q15
    have h81 : ρ (zR κ_9 soLess a0) = 8 := Sx.1.2.2.2.2.2.1
    have Zl : zF (soF ρ (fun r => r < 100) (zR κ soCalc a0)) κ_9 κ_14 := soF_1 (by rw [h81]; decide) Fl
    have Ny : nmI ρ κ_14 := nm_1 W11 Nx Fl (by rw [h81]; exact Il)
    have Sy : soI ρ κ_14 a0 := so_1 W11 Tx Sx Fl
    have Zt : zF (soF ρ (fun r => r < 100) (zR κ soCalc a0)) κ κ_14 := (Z1.tr Zs).tr Zl
    have Y14 := mw_9 W Ta0 hn J0 Zt (fun r h z => by omega) ⟨Ny, Sy⟩
    have bw1 := nuB_z (c := 0) W18 tw Fs (fun z => ro_n h1 h71 (by decide) z.1) (fun z => ro_n h1 h71 (by decide) z.1)
    have bw2 := nuB_z (c := 0) W11 (Fs.t tw (by decide)) Fl (fun z => ro_n h1 h81 (by decide) z.1) (fun z => ro_n h1 h81 (by decide) z.1)
    have bs2 := nuB_z (c := 0) (y := (zR κ soSum a0)) W11 ((Z1.tr Zs).t (ty_soSum W Ta0) (by decide)) Fl (fun z => ro_n h7 h81 (by decide) z.1) (fun z => ro_n h7 h81 (by decide) z.1)
    rw [es1] at Vs
    rw [Rs, el1] at Vl
    intro W16
    intro M17
    refine ⟨?_, ?_⟩
    · rw [Y14.2.2.1, inb_iff]; omega  -- b7
    intro x18 hx18
    unfold w_So_mixWorths_90
    refine ⟨fun n l0 l1 l2 τ => n = ((zA κ (zR κ atFirsts (zR κ soAtlas a0)) (a1.toNatClampNeg + 1)).toInt - l2.toInt).toNat ∧ (a0 = l0 ∧ a1 = l1 ∧ (zF (soF ρ (fun r => r < 100) (zR κ soCalc a0)) κ τ ∧ nmI ρ τ ∧ soI ρ τ a0) ∧ dz9 (nuN τ (zR κ soWhole a0)) P9 ∧ ((zA κ (zR κ atFirsts (zR κ soAtlas a0)) a1.toNatClampNeg).toInt ≤ l2.toInt ∧ l2.toInt ≤ (zA κ (zR κ atFirsts (zR κ soAtlas a0)) (a1.toNatClampNeg + 1)).toInt) ∧ nuN τ (zR κ soSum a0) ≤ (P9 + 1) * (1 + (l2.toInt - (zA κ (zR κ atFirsts (zR κ soAtlas a0)) a1.toNatClampNeg).toInt).toNat * sM9) ∧ nuN τ (zR κ soLess a0) ≤ (P9 + 1) * (1 + (l2.toInt - (zA κ (zR κ atFirsts (zR κ soAtlas a0)) a1.toNatClampNeg).toInt).toNat * sM9)), ⟨_, rfl, ?_⟩, ?_⟩
    · refine ⟨rfl, rfl, ⟨Zt, Ny, Sy⟩, by rw [bw2.2.2.1, bw1.2.2.1]; exact D1, ⟨by rw [hx18, Y14.2.1]; exact Int.le_refl _, by rw [hx18, Y14.2.1]; omega⟩, ?_, ?_⟩
      · rw [bs2.2.2.1, Vs]; exact Nat.zero_le _
      · rw [Vl]; exact Nat.zero_le _
    rintro n90 _ _ x90_2 κ90 W90 T90_0 ⟨hn90, rfl, rfl, i90⟩
    obtain ⟨⟨Z2, Nb, Sb⟩, D2, lb, B1, B2⟩ := i90
    obtain ⟨J2, eF2, nF2, ew2, es2, el2, ep2, ec2⟩ := mw_9 W Ta0 hn J0 Z2 (fun r h z => by omega) ⟨Nb, Sb⟩
    have hw2 : nuN κ90 (zR κ soWhole a0) ≤ P9 := dz9_le D2 p2
    have tw2 : zT κ90 (zR κ soWhole a0) = 8 := Z2.t (ty_soWhole W Ta0) (by decide)
    have ts2 : zT κ90 (zR κ soSum a0) = 8 := Z2.t (ty_soSum W Ta0) (by decide)
    have tl2 : zT κ90 (zR κ soLess a0) = 8 := Z2.t (ty_soLess W Ta0) (by decide)
    have b11 : ∀ x, x ≤ (P9 + 1) * (1 + (x90_2.toInt - (zA κ (zR κ atFirsts (zR κ soAtlas a0)) a1.toNatClampNeg).toInt).toNat * sM9) → x < pB9 4000 := fun x hx => sB_9 p3 (by omega) hx
    have lw2 : nuN κ90 (zR κ soWhole a0) < pB9 1490 := Nat.lt_of_le_of_lt hw2 p3
    refine ⟨?_, ?_⟩
    · rw [nF2, inb_iff, i1.2]; omega  -- b9
    refine ⟨fun c19 => ?_, fun c19 => ?_⟩
    · skip
      refine ⟨?_, ?_⟩
      · rw [J2.2.1.2.1, inb_iff, J2.2.1.1.1.2.1]; omega  -- b10
      intro T20
      have eT2 : zA κ90 (zR κ90 atTotals (zR κ90 soAtlas a0)) = zA κ (zR κ atTotals (zR κ soAtlas a0)) := by rw [J2.2.1.2.1]; exact (at_f9 W soF_fr Z2 (ty_soAtlas W Ta0) (f := atTotals) (by decide)).2.1
      have ei := Int32.toInt_toInt64 (zA κ (zR κ atTotals (zR κ soAtlas a0)) a1.toNatClampNeg)
      have gw := nm_g Nb Sb.1.1 (Or.inl ⟨by decide, by decide⟩) (by decide)
      have lwz : nuN κ90 (zR κ90 soWhole a0) < pB9 1490 := by rw [ew2]; exact lw2
      have kw := nuK_lt gw.1 lwz
      refine Nu_times_c W90 T20 6500 ?_ (fun κ_21 q22 => ?_)
      · rw [eT2, ei]
        exact ⟨gw.1, ⟨by omega, by omega⟩, by omega, by decide⟩
      rw [eT2, ei, ew2] at q22
      obtain ⟨Ft, It, Vt⟩ := q22
      have Zx : zF (soF ρ (fun r => r < 100) (zR κ soCalc a0)) κ90 κ_21 := soF_1 (by rw [h1]; decide) Ft
      have N21 : nmI ρ κ_21 := nm_1 W90 Nb Ft (by rw [h1]; exact It)
      have S21 : soI ρ κ_21 a0 := so_1 W90 T90_0 Sb Ft
      have ew3 : zR κ_21 soWhole a0 = (zR κ soWhole a0) := (soF_r9 Zx (by decide)).1.trans ew2
      have es3 : zR κ_21 soSum a0 = (zR κ soSum a0) := (soF_r9 Zx (by decide)).1.trans es2
      have el3 : zR κ_21 soLess a0 = (zR κ soLess a0) := (soF_r9 Zx (by decide)).1.trans el2
      have ec3 : zR κ_21 soCalc a0 = (zR κ soCalc a0) := (soF_r9 Zx (by decide)).1.trans ec2
      have bs3 := nuB_z (c := 0) W90 ts2 Ft (fun z => ro_n h7 h1 (by decide) z.1) (fun z => ro_n h7 h1 (by decide) z.1)
      have bl3 := nuB_z (c := 0) W90 tl2 Ft (fun z => ro_n h8 h1 (by decide) z.1) (fun z => ro_n h8 h1 (by decide) z.1)
      have t1 : (zA κ (zR κ atTotals (zR κ soAtlas a0)) a1.toNatClampNeg).toInt.toNat < pB9 1 := Nat.lt_of_lt_of_le (show _ < 2147483648 by omega) (by unfold pB9; decide)
      have lw3 : nuN κ_21 (zR κ soWhole a0) < pB9 4000 := by
        have q := Nat.mul_lt_mul'' lw2 t1
        rw [← pB9_a] at q
        rw [Vt]
        exact Nat.lt_trans q (pB9_s (by decide))
      intro W23
      intro M24
      intro T25
      intro T26
      refine So_settle_c W23 T25 T26 ρ 1 ?_ (fun κ_27 q28 => ?_)
      · rw [ew3, es3, el3]
        exact ⟨⟨N21, S21⟩, ⟨h1, Or.inl rfl⟩, lw3, by rw [bs3.2.2.1]; exact b11 _ B1, by rw [bl3.2.2.1]; exact b11 _ B2⟩
      rw [ew3, es3, el3, ec3] at q28
      obtain ⟨Zq, ⟨N27, S27⟩, O⟩ := q28
      have Z27 : zF (soF ρ (fun r => r < 100) (zR κ soCalc a0)) κ κ_27 := (Z2.tr Zx).tr (soF_m (fun r z => by rcases z with z | z | z | z <;> omega) Zq)
      obtain ⟨J27, _, _, _, _, _, _, ec27⟩ := mw_9 W Ta0 hn J0 Z27 (fun r h z => by omega) ⟨N27, S27⟩
      have T27 : zT κ_27 a0 = 12 := Z27.t Ta0 (by decide)
      obtain ⟨v1, v2, v3⟩ := J27.2.2.1.2 a1.toNatClampNeg (by omega)
      have vl := J27.2.2.1.1
      have l27 := soF_B (c := 0) (w := (zR κ soLess a0)) W23 (Ft.t tl2 (by decide)) Zq (by rw [h8]; unfold stR9; decide)
      intro W29
      intro M30
      refine ⟨?_, ?_⟩
      · rw [inb_iff]; omega  -- b13
      refine ex_some ?_ (fun u31 hu31 => ?_)
      · exact ⟨_, v1⟩  -- e14
      intro T32
      intro T33
      have eu : u31 = wU9 κ_27 a0 a1.toNatClampNeg := Option.some.inj (hu31.symm.trans v1)
      subst eu
      refine So_keepPart_c W29 T32 T33 ρ (104 + 8 * a1.toNatClampNeg) ?_ (fun r34 κ_35 q36 => ?_)
      · exact ⟨⟨N27, S27⟩, v2, by omega, by omega, by omega⟩  -- p15
      intro W37
      intro M38
      refine ⟨?_, h _ _ ?_⟩
      · exact q36.1  -- b16
      · obtain ⟨b, K0, K1⟩ := q36
        by_cases z : r34 = 0
        · rw [K0 z]
          exact ⟨b, ⟨soF_m (fun r y => Or.inl y) Z27, N27, S27⟩, by rw [l27.2.1, bl3.2.2.1]; exact b11 _ B2, fun y => absurd z y, J27.2.2.2.1⟩
        · obtain ⟨⟨Zk, Nk, Sk⟩, f2, Vk⟩ := K1 z
          rw [ec27] at Zk
          have l35 := soF_B (c := 0) (w := (zR κ soLess a0)) W29 (Z27.t (ty_soLess W Ta0) (by decide)) Zk (by rw [h8]; omega)
          have wu := wU9_f W29 T27 Zk
          have e4 : zR κ_27 soPart a0 = zR κ_21 soPart a0 := (soF_r9 Zq (by decide)).1
          have eb27 : zR κ_27 raBottom (zR κ_27 soPart a0) = zR κ_21 raBottom (zR κ_21 soPart a0) := by rw [e4, (soF_r9 Zq (f := raBottom) (by decide)).1]
          have dB : dz9 (nuN κ_27 (zR κ_27 raBottom (zR κ_27 soPart a0))) (P9 * (zA κ (zR κ atTotals (zR κ soAtlas a0)) a1.toNatClampNeg).toInt.toNat) := by
            rw [eb27]
            rcases O with ⟨_, _, _, o⟩ | ⟨_, _, _, o⟩
            · rw [o]; exact Or.inr (Nat.one_dvd _)
            · rw [o]; exact dz9_div (by rw [Vt]; exact dz9_mul D2) (Nat.gcd_dvd_right _ _)
          have sg : -1 ≤ (zI κ_27 raSign (zR κ_27 soPart a0)).toInt ∧ (zI κ_27 raSign (zR κ_27 soPart a0)).toInt ≤ 1 := by
            rw [e4]
            rcases O with ⟨_, o, _⟩ | ⟨_, o | o, _⟩ <;> omega
          have wk : wsK9 κ_35 (wU9 κ_27 a0 a1.toNatClampNeg) (P9 * (zA κ (zR κ atTotals (zR κ soAtlas a0)) a1.toNatClampNeg).toInt.toNat) := by
            unfold wsK9
            rw [Vk.2.1, Vk.2.2, Vk.1]
            exact ⟨f2, dB, sg⟩
          exact ⟨b, ⟨(soF_m (fun r y => Or.inl y) Z27).tr (soF_m (fun r y => Or.inr y) Zk), Nk, Sk⟩, by rw [l35.2.1, l27.2.1, bl3.2.2.1]; exact b11 _ B2, fun _ => ws_w9 W29 T27 N27 Zk hn (k := a1.toNatClampNeg) (fun r h y => y) (ws_m9 (Nat.dvd_mul_right _ _) J27.2.2.1) wk, fun i => (wu.2 i).trans (J27.2.2.2.1 i)⟩
    · skip
      intro T39
      rw [i1.1, eF2, lei] at c19
      have ix := cn1 (x := x90_2) (by omega) (by omega)
      have nx : ∀ x : Int32, x = x90_2 + 1 → (x.toInt - (zA κ (zR κ atFirsts (zR κ soAtlas a0)) a1.toNatClampNeg).toInt).toNat = (x90_2.toInt - (zA κ (zR κ atFirsts (zR κ soAtlas a0)) a1.toNatClampNeg).toInt).toNat + 1 := fun x e => by rw [e, ix.2]; omega
      refine So_worthBehind_c W90 T39 ρ n9 P9 a1.toNatClampNeg ?_ (fun r40 q42 => ?_)
      · exact ⟨by rw [J2.2.1.2.1]; exact J2.2.1.1, J2.2.2.1, by omega, by omega, by rw [eF2]; exact lb.1, by rw [eF2]; omega⟩  -- p18
      intro W43
      intro M44
      intro T45
      refine ⟨fun c46 => ?_, fun uc46 c46 => ?_⟩
      · skip
        intro x47 hx47
        refine ⟨_, ?_, rfl, ?_⟩
        · rw [hn90, hx47, ix.2]; omega  -- d19
        · exact ⟨rfl, rfl, ⟨Z2, Nb, Sb⟩, D2, ⟨by rw [hx47, ix.2]; omega, by rw [hx47, ix.2]; omega⟩, by rw [nx _ hx47]; exact sm_m9 B1, by rw [nx _ hx47]; exact sm_m9 B2⟩  -- i20
      · skip
        refine ex_some ?_ (fun u48 hu48 => ?_)
        · exact ⟨_, c46⟩  -- e21
        obtain ⟨j, hj, ej⟩ : ∃ j, j < n9 ∧ wU9 κ90 a0 j = u48 := by
          rcases q42 with z | ⟨j, hj, z⟩
          · rw [z] at hu48; cases hu48
          · exact ⟨j, hj, Option.some.inj (z.symm.trans hu48)⟩
        obtain ⟨_, y3, y4⟩ := J2.2.2.1.2 j hj
        rw [ej] at y3 y4
        refine ⟨fun c49 => ?_, fun c49 => ?_⟩
        · skip
          intro x50 hx50
          refine ⟨_, ?_, rfl, ?_⟩
          · rw [hn90, hx50, ix.2]; omega  -- d22
          · exact ⟨rfl, rfl, ⟨Z2, Nb, Sb⟩, D2, ⟨by rw [hx50, ix.2]; omega, by rw [hx50, ix.2]; omega⟩, by rw [nx _ hx50]; exact sm_m9 B1, by rw [nx _ hx50]; exact sm_m9 B2⟩  -- i23
        · skip
          refine ex_some ?_ (fun u51 hu51 => ?_)
          · exact ⟨_, c46⟩  -- e24
          intro T52
          intro T53
          have e51 : u51 = u48 := Option.some.inj (hu51.symm.trans hu48)
          rw [← e51] at y3 y4
          have gs := ra_g9 Nb y3 (by omega) (by omega) (by omega)
          have h2p : ρ (zR κ90 soPart a0) = 20 := by rw [ep2]; exact h20
          have go := ra_t9 Nb h2p (Or.inl rfl)
          have kt := nuK_c9 gs.2.2.2.1
          have kb := nuK_c9 gs.2.2.2.2.1
          refine Ra_copy_c W43 T52 T53 6500 ?_ (fun κ_54 q55 => ?_)
          · exact ⟨go.2.1, ⟨nuI_mono (by decide) gs.2.2.2.1, nuI_mono (by decide) gs.2.2.2.2.1, gs.2.2.2.2.2⟩, ⟨ro_n go.1.1 gs.2.1.1 (by omega), ro_n go.1.1 gs.2.1.2 (by omega), ro_n go.1.2 gs.2.1.1 (by omega), ro_n go.1.2 gs.2.1.2 (by omega)⟩, ⟨by omega, by omega⟩, by decide⟩  -- p25
          obtain ⟨Zc, Jc, Vc⟩ := q55
          have R5 := ra_s9 W43 T90_0 Nb Sb h2p (Or.inl rfl) Zc Jc
          have Z5 := R5.2 (zR κ soCalc a0)
          have Z25 : zF (soF ρ (fun r => r < 100) (zR κ soCalc a0)) κ κ_54 := Z2.tr (soF_m (fun r z => by omega) Z5)
          obtain ⟨J5, eF5, nF5, ew5, es5, el5, ep5, ec5⟩ := mw_9 W Ta0 hn J0 Z25 (fun r h z => by omega) R5.1
          have ep6 : zR κ_54 soPart a0 = zR κ90 soPart a0 := (soF_r9 Z5 (by decide)).1
          have w5 := soF_B (c := 0) (w := (zR κ soWhole a0)) W43 tw2 Z5 (by rw [h1]; decide)
          have s5 := soF_B (c := 0) (w := (zR κ soSum a0)) W43 ts2 Z5 (by rw [h7]; decide)
          have l5 := soF_B (c := 0) (w := (zR κ soLess a0)) W43 tl2 Z5 (by rw [h8]; decide)
          have r5 := ra_f9 W43 Nb Z5 y3 gs.1.2 ⟨by omega, by omega, by omega⟩
          have kx := cnk (x := x90_2) (by omega)
          have eG5 : zA κ_54 (zR κ_54 atFirsts (zR κ soAtlas a0)) = zA κ (zR κ atFirsts (zR κ soAtlas a0)) := by rw [J5.2.1.2.2.2]; exact J5.2.1.2.2.1
          have n5 := nx_9 J5.2.1.1 (k := a1.toNatClampNeg) (i := x90_2.toNatClampNeg) (by omega) (by rw [eG5]; omega) (by rw [eG5]; omega)
          intro W56
          intro M57
          refine ex_some ?_ (fun u58 hu58 => ?_)
          · exact ⟨_, c46⟩  -- e26
          refine ⟨?_, ?_⟩
          · rw [J5.2.1.2.1, inb_iff]; omega  -- b27
          intro T59
          have e58 : u58 = u51 := Option.some.inj (hu58.symm.trans hu51)
          subst e58
          have m28 := mz_9 (s := zI κ_54 raSign u58) (w := zA κ_54 (zR κ_54 atWeights (zR κ_54 soAtlas a0)) x90_2.toNatClampNeg) (by rw [r5.1]; exact y4.2.2.1) (by rw [r5.1]; exact y4.2.2.2) (by rw [J5.2.1.2.1]; exact n5.2.2)
          have tmb : ∀ y : Nat, y ≤ 2147483648 → nuN κ90 (zR κ90 raTop u58) * y * (nuN κ90 (zR κ soWhole a0) + 1) ≤ (P9 + 1) * sM9 := fun y hy => Nat.le_trans (tm_c9 y4.1.1 hy) (Nat.mul_le_mul_right _ (Nat.succ_le_succ hw2))
          refine So_addTerm_c2 W56 T59 ρ ?_ (fun κ_60 q61 => ?_)
          · rw [ep6, ew5, es5, el5, w5.2.1, s5.2.1, l5.2.1, Vc.2.1]
            exact ⟨R5.1, ⟨by omega, by omega⟩, ⟨Nat.lt_of_lt_of_le lw2 (pB9_l (by decide)), Nat.lt_of_lt_of_le y4.1.1 h256⟩, b11 _ B1, b11 _ B2⟩
          rw [ep6, ew5, es5, el5, ec5, w5.2.1, s5.2.1, l5.2.1, Vc.2.1] at q61
          obtain ⟨Za, Na, A1, A2⟩ := q61
          have Zf : zF (soF ρ (fun r => r < 100) (zR κ soCalc a0)) κ κ_60 := Z25.tr (soF_m (fun r z => by rcases z with z | z | z | z | z | z <;> omega) Za)
          have w60 := soF_B (c := 0) (w := (zR κ soWhole a0)) W56 (Z5.t tw2 (by decide)) Za (by rw [h1]; unfold adR9; decide)
          intro W62
          intro M63
          intro x64 hx64
          refine ⟨_, ?_, rfl, ?_⟩
          · rw [hn90, hx64, ix.2]; omega  -- d29
          · refine ⟨rfl, rfl, ⟨Zf, Na⟩, by rw [w60.2.1, w5.2.1]; exact D2, ⟨by rw [hx64, ix.2]; omega, by rw [hx64, ix.2]; omega⟩, ?_, ?_⟩
            · rw [nx _ hx64]
              by_cases z : 0 < (Int32.toInt64 (zI κ_54 raSign u58) * Int32.toInt64 (zA κ_54 (zR κ_54 atWeights (zR κ_54 soAtlas a0)) x90_2.toNatClampNeg)).toInt
              · exact Nat.le_trans (A1 z).1 (sm_s9 B1 (tmb _ (by omega)))
              · rw [(A2 z).2]; exact sm_m9 B1
            · rw [nx _ hx64]
              by_cases z : 0 < (Int32.toInt64 (zI κ_54 raSign u58) * Int32.toInt64 (zA κ_54 (zR κ_54 atWeights (zR κ_54 soAtlas a0)) x90_2.toNatClampNeg)).toInt
              · rw [(A1 z).2]; exact sm_m9 B2
              · exact Nat.le_trans (A2 z).1 (sm_s9 B2 (tmb _ (by omega)))
  · skip
    intro T65
    rw [i1.1, eF1, lei] at c7
    have ix := cn1 (x := x18_2) (by omega) (by omega)
    refine So_worthBehind_c W18 T65 ρ n9 P9 a1.toNatClampNeg ?_ (fun r66 q68 => ?_)
    · exact ⟨by rw [J1.2.1.2.1]; exact J1.2.1.1, J1.2.2.1, by omega, by omega, by rw [eF1]; exact lb1, by rw [eF1]; omega⟩  -- p31
    intro W69
    intro M70
    intro T71
    refine ⟨fun c72 => ?_, fun uc72 c72 => ?_⟩
    · skip
      intro x73 hx73
      refine ⟨_, ?_, rfl, ?_⟩
      · rw [hn18, hx73, ix.2]; omega  -- d32
      · exact ⟨rfl, rfl, ⟨Z1, N1, S1⟩, D1, by rw [hx73, ix.2]; omega⟩  -- i33
    · skip
      refine ex_some ?_ (fun u74 hu74 => ?_)
      · exact ⟨_, c72⟩  -- e34
      intro T75
      intro T76
      intro T77
      obtain ⟨j, hj, ej⟩ : ∃ j, j < n9 ∧ wU9 κ18 a0 j = u74 := by
        rcases q68 with z | ⟨j, hj, z⟩
        · rw [z] at hu74; cases hu74
        · exact ⟨j, hj, Option.some.inj (z.symm.trans hu74)⟩
      obtain ⟨_, y3, y4⟩ := J1.2.2.1.2 j hj
      rw [ej] at y3 y4
      have gs := ra_g9 N1 y3 (by omega) (by omega) (by omega)
      have lwz : nuN κ18 (zR κ18 soWhole a0) < pB9 2000 := by
        rw [ew1]
        exact Nat.lt_of_le_of_lt (dz9_le D1 p2) (Nat.lt_of_lt_of_le p3 (pB9_l (by decide)))
      refine Ca_join_c W69 T75 T76 T77 6500 2000 6500 6500 ?_ (fun κ_78 q79 => ?_)
      · exact jn_p N1 S1 gs.2.1.2 (raR_n gs.1.2).2 ⟨by omega, by omega, by omega⟩ lwz (Nat.lt_of_lt_of_le y4.1.2 h256)  -- p35
      have Jq := jn_q W69 N1 S1 q79
      have Vj := q79.2.2.2
      rw [ew1] at Vj
      rw [ec1] at Jq
      have Zf : zF (soF ρ (fun r => r < 100) (zR κ soCalc a0)) κ κ_78 := Z1.tr (soF_m (fun r z => by rcases z with z | z | z <;> omega) Jq.2.1)
      intro W80
      intro M81
      intro x82 hx82
      refine ⟨_, ?_, rfl, ?_⟩
      · rw [hn18, hx82, ix.2]; omega  -- d36
      · refine ⟨rfl, rfl, ⟨Zf, Jq.1⟩, ?_, by rw [hx82, ix.2]; omega⟩
        rw [Vj]
        exact dz9_lcm D1 y4.2.1
