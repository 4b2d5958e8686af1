set_option maxHeartbeats 1600000
/-! the class: Solver's visitOne -/
def voR9 (w : Nat) : Nat → Prop := fun r => r < 100 ∨ r = w ∨ r = w + 1 ∨ r = w + 2
theorem voR9_j {w r : Nat} (h : jiR9 r) : voR9 w r := by
  left
  rcases h with (z | z | z) | (z | z | z) <;> omega
theorem voR9_s {w r : Nat} (h : suR9 r) : voR9 w r := by
  left
  rcases h with (z | z | z) | (z | z | z | z | z | z) <;> omega
theorem voR9_k {w r : Nat} (h : kpR9 w r) : voR9 w r := by
  rcases h with (z | z | z | z) | z
  · left; omega
  · left; omega
  · left; omega
  · left; omega
  · exact Or.inr z
theorem vsK9_m {κ : zS} {u d P P' : Nat} (h : P ∣ P') (V : vsK9 κ u d P) : vsK9 κ u d P' := fun s => by
  obtain ⟨h2, h3, h4⟩ := V s
  exact ⟨h2, h3, dz9_m h4 h⟩
/-- a fraction of a role, in order -/
theorem ra_g9 {ρ : Nat → Nat} {κ : zS} {u r : Nat} (N : nmI ρ κ) (hu : ρ u = r) (h1 : 100 ≤ r) (h2 : r < 999990) (h3 : r % 4 = 0) : (zT κ u = 11 ∧ raR r) ∧ (ρ (zR κ raTop u) = r + 1 ∧ ρ (zR κ raBottom u) = r + 2) ∧ raC κ u 20 ∧ raJ κ u 20 := by
  have hr : raR r := Or.inr (Or.inr ⟨h1, by omega, h3⟩)
  have P := N.2 u (by rw [hu]; exact hr)
  have t : ρ (zR κ raTop u) = r + 1 := by rw [P.2.1, hu]
  have b : ρ (zR κ raBottom u) = r + 2 := by rw [P.2.2, hu]
  have gt := nm_g N t (raR_n hr).1 (by omega)
  have gb := nm_g N b (raR_n hr).2 (by omega)
  have c := cap_v h1 h2
  rw [c.2.1] at gt
  rw [c.2.2] at gb
  have ne := ro_n t b (by omega)
  exact ⟨⟨P.1, hr⟩, ⟨t, b⟩, ⟨gt.2.2, gb.2.2, ne⟩, gt.1, gb.1, ne⟩
/-- and written -/
theorem ra_w9 {C : zC} {n0 a p r : Nat} {ρ : Nat → Nat} {κ τ : zS} (W : zW C n0 κ) (Ta : zT κ a = 12) (N : nmI ρ κ) (I : soI ρ κ a) (hp : ρ p = r) (h1 : 100 ≤ r) (h2 : r < 999990) (h3 : r % 4 = 0) (Z : zF (raF (zR κ raTop p) (zR κ raBottom p) p) κ τ) (J : raJ τ p 20) : (nmI ρ τ ∧ soI ρ τ a) ∧ ∀ ca, zF (soF ρ (fun q => q = r ∨ q = r + 1 ∨ q = r + 2) ca) κ τ := by
  have c := cap_v h1 h2
  have e1 : zR τ raTop p = zR κ raTop p := raF_r Z (by decide) (by decide) (by decide)
  have e2 : zR τ raBottom p = zR κ raBottom p := raF_r Z (by decide) (by decide) (by decide)
  have j1 := J.1
  have j2 := J.2.1
  rw [e1] at j1
  rw [e2] at j2
  exact nm_ra W Ta N I hp (Or.inr (Or.inr ⟨h1, by omega, h3⟩)) Z (by rw [c.2.1]; exact j1) (by rw [c.2.2]; exact j2)
theorem So_visitOne_c {C : zC} {n0 : Nat} {a0 : Nat} {a1 : Int32} {κ : zS} {Q : Int32 → zS → Prop} (W : zW C n0 κ) (Ta0 : zT κ a0 = 12) (ρ : Nat → Nat) (m9 P9 : Nat) (hp : (nmI ρ κ ∧ soI ρ κ a0) ∧ svX9 κ a0 m9 ∧ vsI9 ρ κ a0 m9 P9 ∧ (0 ≤ a1.toInt ∧ a1.toInt < m9) ∧ (0 < P9 ∧ P9 < pB9 1900) ∧ nuN κ (zR κ soLess a0) < pB9 4000) (h : ∀ (v : Int32) (κ' : zS), (nb v ∧ (zF (soF ρ (voR9 (100 + 8 * a1.toNatClampNeg)) (zR κ soCalc a0)) κ κ' ∧ nmI ρ κ' ∧ soI ρ κ' a0) ∧ nuN κ' (zR κ soLess a0) ≤ nuN κ (zR κ soLess a0) ∧ (v ≠ 0 → vsK9 κ' (vU9 κ a0 a1.toNatClampNeg) (dvN9 κ (zR κ soAtlas a0) a1.toNatClampNeg) (P9 * dvN9 κ (zR κ soAtlas a0) a1.toNatClampNeg))) → Q v κ') : zRun C 7 mSo_visitOne [.ref a0, .int a1] κ (oI Q noX) := by
  refine So_visitOne_run W Ta0 ?_
  replace W := W.lo (Nat.le_trans W.1.2.1 W.1.2.2) (Nat.le_refl (zn κ))
  unfold w_So_visitOne_0
  obtain ⟨⟨N0, S0⟩, X0, V0, p1, ⟨p2, p3⟩, p4⟩ := hp
  have kn := cnk p1.1
  have r0 := bk_r9 X0 (t := a1.toNatClampNeg) (by omega)
  obtain ⟨vk1, vk2, vk3⟩ := V0 a1.toNatClampNeg (by omega)
  have xv := X0.2.2.2
  have g1 := nm_g N0 S0.1.1 (Or.inl ⟨by decide, by decide⟩) (by decide)
  have gk := ra_g9 N0 vk2 (by omega) (by omega) (by omega)
  have i1 := cn1 p1.1 (by omega)
  have o1 : (1 : Int64).toInt.toNat = 1 := rfl
  have hj134 : ∀ (l0 : Nat) (l1 : Int32) (l2 : Int32) (τ : zS), zW C (zn κ) τ → zT τ l0 = 12 → (κ = τ ∧ a0 = l0 ∧ a1 = l1 ∧ True) → w_So_visitOne_134 C (zn κ) Q  l0 l1 l2 τ := by
    rintro _ _ y134_2 _ W134 T134_0 ⟨rfl, rfl, rfl, j134⟩
    unfold w_So_visitOne_134
    refine ⟨fun c1 => ?_, fun c1 => ?_⟩
    · skip
      intro T2
      refine Nu_put_c W134 T2 6500 ?_ (fun κ_3 q4 => ?_)
      · exact ⟨by decide, g1.2.2⟩  -- p1
      obtain ⟨Fp, ⟨Rp, Np⟩, Ip, Vp⟩ := q4
      have Zp : zF (soF ρ (fun r => r = 1) (zR κ soCalc a0)) κ κ_3 := soF_1 S0.1.1 Fp
      have N3 : nmI ρ κ_3 := nm_1 W N0 Fp (by rw [S0.1.1]; exact Ip)
      have S3 : soI ρ κ_3 a0 := so_1 W Ta0 S0 Fp
      have T3' : zT κ_3 a0 = 12 := Fp.t Ta0 (by decide)
      have X3 := svX9_f W Ta0 soF_fr Zp X0
      have V3 := vsI9_f W Ta0 N0 Zp r0.1.2.2 (fun r h e => by omega) V0
      intro W5
      intro M6
      intro T7
      refine So_joinInflow_c W5 T7 ρ m9 P9 ?_ (fun κ_8 q9 => ?_)
      · refine ⟨⟨N3, S3⟩, X3.1, V3, p1, ?_, p2, Nat.lt_of_lt_of_le p3 (pB9_l (by decide))⟩
        rw [Rp, Vp, o1]
        exact Or.inr (Nat.one_dvd _)
      obtain ⟨Zj, ⟨N8, S8⟩, Dj⟩ := q9
      have X8 := svX9_f W5 T3' soF_fr Zj X3.1
      have V8 := vsI9_f W5 T3' N3 Zj r0.1.2.2 jiR9_l V3
      rw [Rp] at Zj Dj
      have Zt8 : zF (soF ρ (fun r => r < 100) (zR κ soCalc a0)) κ κ_8 := (soF_m (fun r z => by omega) Zp).tr (soF_m (fun r z => by rcases z with (z | z | z) | (z | z | z) <;> omega) Zj)
      have ew8 : zR κ_8 soWhole a0 = (zR κ soWhole a0) := (soF_r9 Zt8 (by decide)).1
      have el8 : zR κ_8 soLess a0 = (zR κ soLess a0) := (soF_r9 Zt8 (by decide)).1
      have es8 : zR κ_8 soSum a0 = (zR κ soSum a0) := (soF_r9 Zt8 (by decide)).1
      have ec8 : zR κ_8 soCalc a0 = (zR κ soCalc a0) := (soF_r9 Zt8 (by decide)).1
      have l3 := soF_B (c := 0) W (ty_soLess W Ta0) Zp (by rw [S0.1.2.2.2.2.2.1]; decide)
      have l8 := soF_B (c := 0) W5 (w := (zR κ soLess a0)) (Fp.t (ty_soLess W Ta0) (by decide)) Zj (by rw [S0.1.2.2.2.2.2.1]; unfold jiR9 unR9 jnR9; decide)
      have w8 : nuN κ_8 (zR κ soWhole a0) < pB9 1900 := Nat.lt_of_le_of_lt (dz9_le Dj p2) p3
      intro W10
      intro M11
      intro T12
      refine So_sumInflow_c W10 T12 ρ m9 P9 ?_ (fun κ_13 q14 => ?_)
      · refine ⟨⟨N8, S8⟩, X8.1, V8, p1, by rw [ew8]; exact w8, ?_⟩
        rw [el8, l8.2.1, l3.2.1]
        exact p4
      rw [ec8, es8, ew8, el8, l8.2.1, l3.2.1] at q14
      obtain ⟨Zs, ⟨N13, S13⟩, Ds, Es⟩ := q14
      have Zt : zF (soF ρ (fun r => r < 100) (zR κ soCalc a0)) κ κ_13 := Zt8.tr (soF_m (fun r z => by rcases z with (z | z | z) | (z | z | z | z | z | z) <;> omega) Zs)
      have X13 := svX9_f W Ta0 soF_fr Zt X0
      have U13 := vU9_f W Ta0 Zt
      have xv13 := X13.1.2.2.2
      have ew13 : zR κ_13 soWhole a0 = (zR κ soWhole a0) := (soF_r9 Zt (by decide)).1
      have es13 : zR κ_13 soSum a0 = (zR κ soSum a0) := (soF_r9 Zt (by decide)).1
      have ec13 : zR κ_13 soCalc a0 = (zR κ soCalc a0) := (soF_r9 Zt (by decide)).1
      have w13 := soF_B (c := 0) W10 (w := (zR κ soWhole a0)) (by rw [← ew8]; exact ty_soWhole W10 (Zt8.t Ta0 (by decide))) Zs (by rw [S0.1.1]; unfold suR9 unR9 adR9; decide)
      have lsu : nuN κ_13 (zR κ soSum a0) < pB9 4000 := by
        have q2 : (nuN κ_8 (zR κ soWhole a0) + 1) * pB9 11 ≤ pB9 1900 * pB9 11 := Nat.mul_le_mul_right _ w8
        rw [← pB9_a] at q2
        exact Nat.lt_of_le_of_lt (Nat.le_trans Ds q2) (pB9_s (by decide))
      intro W15
      intro M16
      refine ⟨?_, ?_⟩
      · rw [inb_iff]; omega  -- b4
      refine ex_some ?_ (fun u17 hu17 => ?_)
      · exact ⟨_, by rw [U13.1]; exact vk1⟩  -- e5
      intro T18
      intro T19
      intro T20
      intro T21
      have eu : u17 = vU9 κ a0 a1.toNatClampNeg := Option.some.inj (hu17.symm.trans (by rw [U13.1]; exact vk1))
      subst eu
      refine So_keep_c W15 T18 T19 T20 T21 ρ (100 + 8 * a1.toNatClampNeg) 7 1 ?_ (fun r22 κ_23 q24 => ?_)
      · refine ⟨⟨N13, S13⟩, ⟨vk2, by omega, by omega, by omega⟩, ⟨S13.1.2.2.2.2.1, Or.inl ⟨by decide, by decide⟩, by decide⟩, ⟨S13.1.1, Or.inl ⟨by decide, by decide⟩, by decide⟩, by rw [es13]; exact lsu, ?_⟩
        rw [ew13, w13.2.1]
        exact Nat.lt_of_lt_of_le w8 (pB9_l (by decide))
      intro W25
      intro M26
      refine ⟨?_, h _ _ ?_⟩
      · exact q24.1  -- b7
      · rw [ew13, es13, ec13, w13.2.1] at q24
        obtain ⟨b, ⟨Zk, N23, S23⟩, _, K⟩ := q24
        have l23 := soF_B (c := 0) W15 (w := (zR κ soLess a0)) (Zt.t (ty_soLess W Ta0) (by decide)) Zk (by rw [S0.1.2.2.2.2.2.1]; unfold kpR9 stR9; omega)
        refine ⟨b, ⟨(soF_m (fun r z => Or.inl z) Zt).tr (soF_m (fun r z => voR9_k z) Zk), N23, S23⟩, by rw [l23.2.1]; exact Es, fun z => ?_⟩
        obtain ⟨⟨k1, k2⟩, k3, k4, k5⟩ := K z
        intro _
        rw [k4, k5]
        have gd := Nat.gcd_dvd_right (nuN κ_13 (zR κ soSum a0)) (nuN κ_8 (zR κ soWhole a0))
        exact ⟨k1, k2, dz9_mul (dz9_div Dj gd)⟩
    · skip
      refine ⟨fun c27 => ?_, fun c27 => ?_⟩
      · skip
        refine h _ _ ?_
        · exact ⟨Or.inr rfl, ⟨zF.rf, N0, S0⟩, Nat.le_refl _, fun _ => vsK9_m (Nat.dvd_mul_right _ _) vk3⟩  -- q9
      · skip
        refine ⟨?_, ?_⟩
        · rw [inb_iff]; omega  -- b10
        refine ex_some ?_ (fun u28 hu28 => ?_)
        · exact ⟨_, vk1⟩  -- e11
        intro T29
        have eu : u28 = vU9 κ a0 a1.toNatClampNeg := Option.some.inj (hu28.symm.trans vk1)
        subst eu
        refine Ra_putOne_c W134 T29 20 ?_ (fun κ_30 q31 => ?_)
        · exact gk.2.2.1  -- p12
        intro W32
        intro M33
        refine h _ _ ?_
        · obtain ⟨Zo, Jo, Vo⟩ := q31
          have R := ra_w9 W134 Ta0 N0 S0 vk2 (by omega) (by omega) (by omega) Zo Jo
          have Z9 : zF (soF ρ (voR9 (100 + 8 * a1.toNatClampNeg)) (zR κ soCalc a0)) κ κ_30 := soF_m (fun r z => Or.inr z) (R.2 _)
          have l9 := soF_B (c := 0) W134 (ty_soLess W134 Ta0) (R.2 (zR κ soCalc a0)) (by rw [S0.1.2.2.2.2.2.1]; omega)
          refine ⟨Or.inr rfl, ⟨Z9, R.1⟩, Nat.le_of_eq l9.2.1, fun _ _ => ?_⟩
          rw [Vo.2.1, Vo.2.2]
          refine ⟨by decide, by decide, ?_⟩
          rw [Nat.one_mul]
          exact Or.inr (Nat.dvd_mul_left _ _)
  refine ⟨?_, ?_⟩
  · rw [inb_iff]; omega  -- b14
  intro x34 hx34
  unfold w_So_visitOne_15
  refine ⟨fun n l0 l1 l2 l3 l4 τ => n = ((zA κ (zR κ weBackFirsts (zR κ soWeb a0)) (a1.toNatClampNeg + 1)).toInt - l4.toInt).toNat ∧ (κ = τ ∧ a0 = l0 ∧ a1 = l1 ∧ (0 ≤ l2.toInt ∧ l2.toInt ≤ l4.toInt) ∧ ((zA κ (zR κ weBackFirsts (zR κ soWeb a0)) a1.toNatClampNeg).toInt ≤ l4.toInt ∧ l4.toInt ≤ (zA κ (zR κ weBackFirsts (zR κ soWeb a0)) (a1.toNatClampNeg + 1)).toInt) ∧ (l2.toInt ≠ 0 → ((zA κ (zR κ weBackFirsts (zR κ soWeb a0)) a1.toNatClampNeg).toInt ≤ l3.toInt ∧ l3.toInt < (zA κ (zR κ weBackFirsts (zR κ soWeb a0)) (a1.toNatClampNeg + 1)).toInt) ∧ zI κ raSign (vU9 κ a0 (zA κ (zR κ weSources (zR κ soWeb a0)) l3.toNatClampNeg).toNatClampNeg) ≠ 0 ∧ (zA κ (zR κ weSources (zR κ soWeb a0)) l3.toNatClampNeg).toNatClampNeg ≠ a1.toNatClampNeg)), ⟨_, rfl, ?_⟩, ?_⟩
  · exact ⟨rfl, rfl, rfl, ⟨by decide, by rw [hx34, t0i]; omega⟩, ⟨by rw [hx34]; exact Int.le_refl _, by rw [hx34]; exact r0.2.2.1⟩, fun z => absurd rfl z⟩  -- j15
  rintro n15 _ _ x15_2 x15_3 x15_4 _ W15 T15_0 ⟨hn15, rfl, rfl, rfl, i15⟩
  refine ⟨?_, ?_⟩
  · rw [inb_iff, i1.2]; omega  -- b16
  refine ⟨fun c35 => ?_, fun c35 => ?_⟩
  · skip
    refine ⟨fun c36 => ?_, fun c36 => ?_⟩
    · skip
      refine hj134 _ _ _ _ W15 ?_ ?_
      · exact Ta0  -- t17
      · exact ⟨rfl, rfl, rfl, trivial⟩  -- k18
    · skip
      refine ⟨fun c37 => ?_, fun c37 => ?_⟩
      · skip
        refine hj134 _ _ _ _ W15 ?_ ?_
        · exact Ta0  -- t19
        · exact ⟨rfl, rfl, rfl, trivial⟩  -- k20
      · skip
        obtain ⟨_, _, i3⟩ := i15
        obtain ⟨⟨m1, m2⟩, m3, m4⟩ := i3 (by rw [c36]; decide)
        have g2 := bk_g9 X0 (t := a1.toNatClampNeg) (b := x15_3) (by omega) m1 m2
        have g3 := eg_9 X0 g2.2
        refine ⟨?_, ?_⟩
        · rw [inb_iff]; exact ⟨g2.1.1, g2.1.2.1⟩  -- b21
        intro x38 hx38
        obtain ⟨gs1, gs2⟩ := g2.2.1
        rw [← hx38] at gs1 gs2 m3 m4
        have ks := cnk gs1
        obtain ⟨w1, w2, w3⟩ := V0 x38.toNatClampNeg (by omega)
        obtain ⟨v5, v6, v7⟩ := w3 m3
        have gs := ra_g9 N0 w2 (by omega) (by omega) (by omega)
        refine ⟨?_, ?_⟩
        · rw [inb_iff]; omega  -- b22
        refine ⟨?_, ?_⟩
        · rw [inb_iff]; omega  -- b23
        refine ex_some ?_ (fun u39 hu39 => ?_)
        · exact ⟨_, vk1⟩  -- e24
        refine ex_some ?_ (fun u40 hu40 => ?_)
        · exact ⟨_, w1⟩  -- e25
        intro T41
        intro T42
        have eu : u39 = vU9 κ a0 a1.toNatClampNeg := Option.some.inj (hu39.symm.trans vk1)
        subst eu
        have ev : u40 = vU9 κ a0 x38.toNatClampNeg := Option.some.inj (hu40.symm.trans w1)
        subst ev
        have kt := k256 gs.2.2.2.1 v5
        have kb := k256 gs.2.2.2.2.1 v6
        refine Ra_copy_c W15 T41 T42 20 ?_ (fun κ_43 q44 => ?_)
        · exact ⟨gk.2.2.1, ⟨nuI_mono (by decide) gs.2.2.2.1, nuI_mono (by decide) gs.2.2.2.2.1, gs.2.2.2.2.2⟩, ⟨ro_n gk.2.1.1 gs.2.1.1 (by omega), ro_n gk.2.1.1 gs.2.1.2 (by omega), ro_n gk.2.1.2 gs.2.1.1 (by omega), ro_n gk.2.1.2 gs.2.1.2 (by omega)⟩, ⟨by omega, by omega⟩, by decide⟩  -- p26
        obtain ⟨Zc, Jc, Vc⟩ := q44
        have R4 := ra_w9 W Ta0 N0 S0 vk2 (by omega) (by omega) (by omega) Zc Jc
        have Z4 := R4.2 (zR κ soCalc a0)
        have X4 := svX9_f W Ta0 soF_fr Z4 X0
        have U4 := vU9_f W Ta0 Z4
        have T4 : zT κ_43 a0 = 12 := Z4.t Ta0 (by decide)
        have eb4 : zA κ_43 (zR κ_43 weBackFirsts (zR κ_43 soWeb a0)) = zA κ (zR κ weBackFirsts (zR κ soWeb a0)) := by rw [X4.2.1]; exact (we_f9 W soF_fr Z4 (ty_soWeb W Ta0) (f := weBackFirsts) (by decide)).2.1
        have g4 := bk_g9 X4.1 (t := a1.toNatClampNeg) (b := x15_3) (by omega) (by rw [eb4]; exact m1) (by rw [eb4]; exact m2)
        have g5 := eg_9 X4.1 g4.2
        have xv4 := X4.1.2.2.2
        intro W45
        intro M46
        refine ⟨?_, ?_⟩
        · rw [inb_iff]; omega  -- b27
        refine ⟨?_, ?_⟩
        · rw [inb_iff]; exact ⟨g4.1.1, g4.1.2.2.1⟩  -- b28
        refine ⟨?_, ?_⟩
        · rw [inb_iff]; exact g5.1  -- b29
        intro T47
        refine At_divisorOf_c W45 T47  ?_ (fun r48 q50 => ?_)
        · exact ⟨X4.1.2.2.1.1, gs1, by omega⟩  -- p30
        intro W51
        intro M52
        refine ex_some ?_ (fun u53 hu53 => ?_)
        · exact ⟨_, by rw [U4.1]; exact vk1⟩  -- e31
        intro T54
        have eu : u53 = vU9 κ a0 a1.toNatClampNeg := Option.some.inj (hu53.symm.trans (by rw [U4.1]; exact vk1))
        subst eu
        have kt4 := k256 Jc.1 (by rw [Vc.2.1]; exact v5)
        have kb4 := k256 Jc.2.1 (by rw [Vc.2.2]; exact v6)
        have rd : r48 = dvA κ (zR κ soAtlas a0) x38.toNatClampNeg := by
          have q := q50
          rw [X4.2.2.1] at q
          exact q.trans (dvA_f9 W soF_fr Z4 (ty_soAtlas W Ta0) _)
        refine Ra_scale_c2 W51 T54 20 ?_ (fun κ_55 q56 => ?_)
        · exact ⟨Jc, ⟨by omega, by omega⟩, by decide⟩  -- p32
        obtain ⟨Zd, Jd, Vd⟩ := q56
        have R5 := ra_w9 W45 T4 R4.1.1 R4.1.2 vk2 (by omega) (by omega) (by omega) Zd Jd
        have Z5 := Z4.tr (R5.2 (zR κ soCalc a0))
        have X5 := svX9_f W Ta0 soF_fr Z5 X0
        have U5 := vU9_f W Ta0 Z5
        have xv5 := X5.1.2.2.2
        intro W57
        intro M58
        refine ⟨?_, ?_⟩
        · rw [inb_iff]; omega  -- b33
        refine ex_some ?_ (fun u59 hu59 => ?_)
        · exact ⟨_, by rw [U5.1]; exact vk1⟩  -- e34
        intro T60
        have eu : u59 = vU9 κ a0 a1.toNatClampNeg := Option.some.inj (hu59.symm.trans (by rw [U5.1]; exact vk1))
        subst eu
        refine Ra_fits_c W57 T60  ?_ (fun r61 q63 => ?_)
        · exact ⟨nuI_mono (by decide) Jd.1, nuI_mono (by decide) Jd.2.1⟩  -- p35
        intro W64
        intro M65
        refine ⟨?_, h _ _ ?_⟩
        · exact q63.1  -- b36
        · have l9 := soF_B (c := 0) W (ty_soLess W Ta0) Z5 (by rw [S0.1.2.2.2.2.2.1]; omega)
          refine ⟨q63.1, ⟨soF_m (fun r z => Or.inr z) Z5, R5.1⟩, Nat.le_of_eq l9.2.1, fun z s => ?_⟩
          obtain ⟨f1, f2⟩ := q63.2 z
          have e5 : zR κ_55 raBottom (vU9 κ a0 a1.toNatClampNeg) = zR κ_43 raBottom (vU9 κ a0 a1.toNatClampNeg) := raF_r Zd (by decide) (by decide) (by decide)
          refine ⟨f1, f2, ?_⟩
          rcases Vd with Vd | ⟨⟨_, d2, _⟩, _, _, d3, d4⟩
          · exfalso
            have q : (zI κ_55 raSign (vU9 κ a0 a1.toNatClampNeg)).toInt = (0 : Int32).toInt := Vd.1
            exact s (Int32.toInt.inj q)
          · rw [e5]
            rw [Vc.2.2] at d3 d4
            have en : dvN9 κ (zR κ soAtlas a0) x38.toNatClampNeg = r48.toInt.toNat := by
              unfold dvN9
              rw [← rd]
              split <;> omega
            rw [en] at v7
            exact dz9_mul (dz9_of v7 d3 d4)
  · skip
    intro T66
    rw [i1.1, lei] at c35
    obtain ⟨i2, i3, i4⟩ := i15
    have ix := cn1 (x := x15_4) (by omega) (by omega)
    refine So_comesIn_c W15 T66 ρ m9 P9 ?_ (fun r67 q69 => ?_)
    · exact ⟨X0, V0, p1, i3.1, by omega⟩  -- p38
    intro W70
    intro M71
    refine ⟨fun c72 => ?_, fun c72 => ?_⟩
    · skip
      intro x73 hx73
      refine ⟨_, ?_, rfl, ?_⟩
      · rw [hn15, hx73, ix.2]; omega  -- d39
      · exact ⟨rfl, rfl, rfl, ⟨i2.1, by rw [hx73, ix.2]; omega⟩, ⟨by rw [hx73, ix.2]; omega, by rw [hx73, ix.2]; omega⟩, i4⟩  -- i40
    · skip
      intro x74 hx74
      intro x75 hx75
      have iy := cn1 (x := x15_2) (by omega) (by omega)
      refine ⟨_, ?_, rfl, ?_⟩
      · rw [hn15, hx75, ix.2]; omega  -- d41
      · exact ⟨rfl, rfl, rfl, ⟨by rw [hx74, iy.2]; omega, by rw [hx74, hx75, ix.2, iy.2]; omega⟩, ⟨by rw [hx75, ix.2]; omega, by rw [hx75, ix.2]; omega⟩, fun _ => ⟨⟨i3.1, by omega⟩, q69.2 c72⟩⟩  -- i42
