section
set_option maxHeartbeats 1600000
/-! a state's visits: worths and what is shown stay -/
theorem So_visitOne_q16 {C : zC} {n0 : Nat} {a0 : Nat} {a1 : Int32} {κ : zS} {Q : Int32 → zS → Prop} (W : zW C n0 κ) (Ta0 : zT κ a0 = 12) (ρ : Nat → Nat) (m9 P9 : Nat) (V9 : Nat → Rat) (hV9 : vV15 κ a0 m9 V9) (hz9 : V9 a1.toNatClampNeg = 0) (hK9 : ∀ s, s < m9 → zA κ (zR κ weKnotOf (zR κ soWeb a0)) s = zA κ (zR κ weKnotOf (zR κ soWeb a0)) a1.toNatClampNeg → V9 s = 0) (hP9 : ∀ b, bl15 κ a0 a1.toNatClampNeg ≤ b → b < bl15 κ a0 (a1.toNatClampNeg + 1) → 0 < bw15 κ a0 b) (hp : (nmI ρ κ ∧ soI ρ κ a0) ∧ svX9 κ a0 m9 ∧ vsI9 ρ κ a0 m9 P9 ∧ (0 ≤ a1.toInt ∧ a1.toInt < m9) ∧ (0 < P9 ∧ P9 < pB9 1900) ∧ nuN κ (zR κ soLess a0) < pB9 4000) (h : ∀ (v : Int32) (κ' : zS), ((nb v ∧ (zF (soF ρ (voS16 (100 + 8 * a1.toNatClampNeg)) (zR κ soCalc a0)) κ κ' ∧ nmI ρ κ' ∧ soI ρ κ' a0) ∧ nuN κ' (zR κ soLess a0) ≤ nuN κ (zR κ soLess a0) ∧ (v ≠ 0 → vsK9 κ' (vU9 κ a0 a1.toNatClampNeg) (dvN9 κ (zR κ soAtlas a0) a1.toNatClampNeg) (P9 * dvN9 κ (zR κ soAtlas a0) a1.toNatClampNeg))) ∧ ((v ≠ 0 ↔ f2W8 (in15 κ a0 V9 a1)) ∧ (v ≠ 0 → rqW8 κ' (vU9 κ a0 a1.toNatClampNeg) (in15 κ a0 V9 a1)))) → Q v κ') : zRun C 7 mSo_visitOne [.ref a0, .int a1] κ (oI Q noX) := by
  refine So_visitOne_run W Ta0 ?_
  replace W := W.lo (Nat.le_trans W.1.2.1 W.1.2.2) (Nat.le_refl (zn κ))
  unfold w_So_visitOne_0
  obtain ⟨⟨N0, S0⟩, X0, V0, p1, ⟨p2, p3⟩, p4⟩ := hp
  have kn := cnk p1.1
  have r0 := bk_r9 X0 (t := a1.toNatClampNeg) (by omega)
  obtain ⟨vk1, vk2, vk3⟩ := V0 a1.toNatClampNeg (by omega)
  have xv := X0.2.2.2
  have g1 := nm_g N0 S0.1.1 (Or.inl ⟨by decide, by decide⟩) (by decide)
  have gk := ra_g9 N0 vk2 (by omega) (by omega) (by omega)
  have i1 := cn1 p1.1 (by omega)
  have o1 : (1 : Int64).toInt.toNat = 1 := rfl
  have hj134 : ∀ (l0 : Nat) (l1 : Int32) (l2 : Int32) (τ : zS), zW C (zn κ) τ → zT τ l0 = 12 → ((κ = τ ∧ a0 = l0 ∧ a1 = l1 ∧ True) ∧ (l2 = 0 → bi15 κ a0 V9 (bl15 κ a0 a1.toNatClampNeg) (bl15 κ a0 (a1.toNatClampNeg + 1) - bl15 κ a0 a1.toNatClampNeg) = 0) ∧ (¬ l2 = 0 → 0 < bi15 κ a0 V9 (bl15 κ a0 a1.toNatClampNeg) (bl15 κ a0 (a1.toNatClampNeg + 1) - bl15 κ a0 a1.toNatClampNeg))) → w_So_visitOne_134 C (zn κ) Q  l0 l1 l2 τ := by
    rintro _ _ y134_2 _ W134 T134_0 ⟨⟨rfl, rfl, rfl, j134⟩, hE⟩
    unfold w_So_visitOne_134
    refine ⟨fun c1 => ?_, fun c1 => ?_⟩
    · skip
      intro T2
      refine Nu_put_c W134 T2 6500 ?_ (fun κ_3 q4 => ?_)
      · exact ⟨by decide, g1.2.2⟩  -- p1
      obtain ⟨Fp, ⟨Rp, Np⟩, Ip, Vp⟩ := q4
      have Zp : zF (soF ρ (fun r => r = 1) (zR κ soCalc a0)) κ κ_3 := soF_1 S0.1.1 Fp
      have N3 : nmI ρ κ_3 := nm_1 W N0 Fp (by rw [S0.1.1]; exact Ip)
      have S3 : soI ρ κ_3 a0 := so_1 W Ta0 S0 Fp
      have T3' : zT κ_3 a0 = 12 := Fp.t Ta0 (by decide)
      have X3 := svX9_f W Ta0 soF_fr Zp X0
      have V3 := vsI9_f W Ta0 N0 Zp r0.1.2.2 (fun r h e => by omega) V0
      intro W5
      intro M6
      intro T7
      refine So_joinInflow_q6 W5 T7 ρ m9 P9 V9 (vV_f15 W Ta0 N0 Zp r0.1.2.2 (fun r h e => by omega) V0 hV9) ?_ (fun κ_8 q9 => ?_)
      · refine ⟨⟨N3, S3⟩, X3.1, V3, p1, ?_, p2, Nat.lt_of_lt_of_le p3 (pB9_l (by decide))⟩
        rw [Rp, Vp, o1]
        exact Or.inr (Nat.one_dvd _)
      obtain ⟨q9, z9⟩ := q9
      have zj := z9
      obtain ⟨Zj, ⟨N8, S8⟩, Dj⟩ := q9
      have X8 := svX9_f W5 T3' soF_fr Zj X3.1
      have V8 := vsI9_f W5 T3' N3 Zj r0.1.2.2 jiR9_l V3
      rw [Rp] at Zj Dj
      have Zt8 : zF (soF ρ (fun r => r < 30) (zR κ soCalc a0)) κ κ_8 := (soF_m (fun r z => by omega) Zp).tr (soF_m (fun r z => by rcases z with (z | z | z) | (z | z | z) <;> omega) Zj)
      have ew8 : zR κ_8 soWhole a0 = (zR κ soWhole a0) := (soF_r9 Zt8 (by decide)).1
      have el8 : zR κ_8 soLess a0 = (zR κ soLess a0) := (soF_r9 Zt8 (by decide)).1
      have es8 : zR κ_8 soSum a0 = (zR κ soSum a0) := (soF_r9 Zt8 (by decide)).1
      have ec8 : zR κ_8 soCalc a0 = (zR κ soCalc a0) := (soF_r9 Zt8 (by decide)).1
      have l3 := soF_B (c := 0) W (ty_soLess W Ta0) Zp (by rw [S0.1.2.2.2.2.2.1]; decide)
      have l8 := soF_B (c := 0) W5 (w := (zR κ soLess a0)) (Fp.t (ty_soLess W Ta0) (by decide)) Zj (by rw [S0.1.2.2.2.2.2.1]; unfold jiR9 unR9 jnR9; decide)
      have w8 : nuN κ_8 (zR κ soWhole a0) < pB9 1900 := Nat.lt_of_le_of_lt (dz9_le Dj p2) p3
      have B3 := bx_f15 W Ta0 Zp X0
      have B8 := bx_f15 W Ta0 Zt8 X0
      rw [Rp, Vp, o1] at zj
      have hB8 : ∀ b, bl15 κ_8 a0 a1.toNatClampNeg ≤ b → b < bl15 κ_8 a0 (a1.toNatClampNeg + 1) → V9 (bs15 κ_8 a0 b) ≠ 0 → (un15 κ_8 a0 V9 (bs15 κ_8 a0 b)).den ∣ nuN κ_8 (zR κ_8 soWhole a0) := fun b h1 h2 h3 => by
        rw [B8.2.2.1] at h1 h2
        rw [B8.1] at h3 ⊢
        rw [B8.2.2.2.1, ew8]
        have y := zj.2.2 b (by rw [B3.2.2.1]; exact h1) (by rw [B3.2.2.1]; exact h2)
        have kO3 := B3.2.2.2.2.1
        rw [Rp] at kO3
        rw [B3.1, kO3, kO3, B3.2.2.2.1] at y
        refine y (fun e => h3 (hK9 _ ?_ e)) h3
        have g := bk_g9 X0 (t := a1.toNatClampNeg) (b := Int32.ofNat b) (by omega) (by
          have k := cnk r0.2.1
          rw [ofn_i (by have := cnk (x := zA κ (zR κ weBackFirsts (zR κ soWeb a0)) (a1.toNatClampNeg + 1)) (by omega); have h2 : b < (zA κ (zR κ weBackFirsts (zR κ soWeb a0)) (a1.toNatClampNeg + 1)).toNatClampNeg := h2; omega)]
          have h1 : (zA κ (zR κ weBackFirsts (zR κ soWeb a0)) a1.toNatClampNeg).toNatClampNeg ≤ b := h1
          omega) (by
          have k := cnk (x := zA κ (zR κ weBackFirsts (zR κ soWeb a0)) (a1.toNatClampNeg + 1)) (by omega)
          have h2 : b < (zA κ (zR κ weBackFirsts (zR κ soWeb a0)) (a1.toNatClampNeg + 1)).toNatClampNeg := h2
          rw [ofn_i (by omega)]
          omega)
        have gs := g.2.1
        have ob : (Int32.ofNat b).toNatClampNeg = b := cl_5 (by
          have k := cnk (x := zA κ (zR κ weBackFirsts (zR κ soWeb a0)) (a1.toNatClampNeg + 1)) (by omega)
          have h2 : b < (zA κ (zR κ weBackFirsts (zR κ soWeb a0)) (a1.toNatClampNeg + 1)).toNatClampNeg := h2
          omega)
        rw [ob] at gs
        have ks := cnk gs.1
        show (zA κ _ _).toNatClampNeg < m9
        omega
      have w80 : 0 < nuN κ_8 (zR κ soWhole a0) := zj.1 (by decide)
      intro W10
      intro M11
      intro T12
      refine So_sumInflow_q6 W10 T12 ρ m9 P9 V9 (vV_f15 W Ta0 N0 Zt8 r0.1.2.2 (fun r h e => by omega) V0 hV9) (fun s hs y => hK9 s hs (by have B := bx_f15 W Ta0 Zt8 X0; rw [B.2.2.2.2.1, B.2.2.2.2.1] at y; exact y)) hB8 ?_ (fun κ_13 q14 => ?_)
      · refine ⟨⟨N8, S8⟩, X8.1, V8, p1, by rw [ew8]; exact w8, ?_⟩
        rw [el8, l8.2.1, l3.2.1]
        exact p4
      obtain ⟨q14, z9⟩ := q14
      have zs := z9
      rw [ec8, es8, ew8, el8, l8.2.1, l3.2.1] at q14
      obtain ⟨Zs, ⟨N13, S13⟩, Ds, Es⟩ := q14
      have Zt : zF (soF ρ (fun r => r < 30) (zR κ soCalc a0)) κ κ_13 := Zt8.tr (soF_m (fun r z => by rcases z with (z | z | z) | (z | z | z | z | z | z) <;> omega) Zs)
      have X13 := svX9_f W Ta0 soF_fr Zt X0
      have U13 := vU9_f W Ta0 Zt
      have xv13 := X13.1.2.2.2
      have ew13 : zR κ_13 soWhole a0 = (zR κ soWhole a0) := (soF_r9 Zt (by decide)).1
      have es13 : zR κ_13 soSum a0 = (zR κ soSum a0) := (soF_r9 Zt (by decide)).1
      have ec13 : zR κ_13 soCalc a0 = (zR κ soCalc a0) := (soF_r9 Zt (by decide)).1
      have w13 := soF_B (c := 0) W10 (w := (zR κ soWhole a0)) (by rw [← ew8]; exact ty_soWhole W10 (Zt8.t Ta0 (by decide))) Zs (by rw [S0.1.1]; unfold suR9 unR9 adR9; decide)
      have lsu : nuN κ_13 (zR κ soSum a0) < pB9 4000 := by
        have q2 : (nuN κ_8 (zR κ soWhole a0) + 1) * pB9 11 ≤ pB9 1900 * pB9 11 := Nat.mul_le_mul_right _ w8
        rw [← pB9_a] at q2
        exact Nat.lt_of_le_of_lt (Nat.le_trans Ds q2) (pB9_s (by decide))
      intro W15
      intro M16
      refine ⟨?_, ?_⟩
      · rw [inb_iff]; omega  -- b4
      refine ex_some ?_ (fun u17 hu17 => ?_)
      · exact ⟨_, by rw [U13.1]; exact vk1⟩  -- e5
      intro T18
      intro T19
      intro T20
      intro T21
      have eu : u17 = vU9 κ a0 a1.toNatClampNeg := Option.some.inj (hu17.symm.trans (by rw [U13.1]; exact vk1))
      subst eu
      refine So_keep_q6 W15 T18 T19 T20 T21 ρ (100 + 8 * a1.toNatClampNeg) 7 1 ?_ (fun r22 κ_23 q24 => ?_)
      · refine ⟨⟨N13, S13⟩, ⟨vk2, by omega, by omega, by omega⟩, ⟨S13.1.2.2.2.2.1, Or.inl ⟨by decide, by decide⟩, by decide⟩, ⟨S13.1.1, Or.inl ⟨by decide, by decide⟩, by decide⟩, by rw [es13]; exact lsu, ?_⟩
        rw [ew13, w13.2.1]
        exact Nat.lt_of_lt_of_le w8 (pB9_l (by decide))
      obtain ⟨q24, z9⟩ := q24
      have zk := z9
      intro W25
      intro M26
      refine ⟨?_, h _ _ ?_⟩
      · exact q24.1  -- b7
      · refine and_5 ?_ (fun o9 => ?_)  -- q8
        · rw [ew13, es13, ec13, w13.2.1] at q24
          obtain ⟨b, ⟨Zk, N23, S23⟩, _, K⟩ := q24
          have l23 := soF_B (c := 0) W15 (w := (zR κ soLess a0)) (Zt.t (ty_soLess W Ta0) (by decide)) Zk (by rw [S0.1.2.2.2.2.2.1]; unfold kpR9 stR9; omega)
          refine ⟨b, ⟨(soF_m (fun r z => Or.inl z) Zt).tr (soF_m (fun r z => voS16_k z) Zk), N23, S23⟩, by rw [l23.2.1]; exact Es, fun z => ?_⟩
          obtain ⟨⟨k1, k2⟩, k3, k4, k5⟩ := K z
          intro _
          rw [k4, k5]
          have gd := Nat.gcd_dvd_right (nuN κ_13 (zR κ soSum a0)) (nuN κ_8 (zR κ soWhole a0))
          exact ⟨k1, k2, dz9_mul (dz9_div Dj gd)⟩
        · rw [ew13, es13, ec13, w13.2.1] at q24
          obtain ⟨b, ⟨Zk, N23, S23⟩, _, K⟩ := q24
          rw [es8, ew8, B8.2.2.1, B8.2.2.1, bi_f15 W Ta0 Zt8 X0] at zs
          rw [es13, ew13, w13.2.1] at zk
          have x0 : 0 < in15 κ a0 V9 a1 := by
            have y := hE.2 c1
            unfold in15
            split <;> grind
          exact kp_15 w80 x0 zs zk (fun z => (K z).2)
    · skip
      refine ⟨fun c27 => ?_, fun c27 => ?_⟩
      · skip
        refine h _ _ ?_
        · refine and_5 ?_ (fun o9 => ?_)  -- q9
          · exact ⟨Or.inr rfl, ⟨zF.rf, N0, S0⟩, Nat.le_refl _, fun _ => vsK9_m (Nat.dvd_mul_right _ _) vk3⟩
          · have e : in15 κ a0 V9 a1 = 0 := by
              unfold in15
              rw [if_neg c27, hE.1 c1, Rat.add_zero]
            rw [e]
            have v := (hV9 a1.toNatClampNeg (by omega)).1
            rw [hz9] at v
            exact ⟨⟨fun _ => by unfold f2W8; decide, fun _ z => absurd z (by decide)⟩, fun _ => v⟩
      · skip
        refine ⟨?_, ?_⟩
        · rw [inb_iff]; omega  -- b10
        refine ex_some ?_ (fun u28 hu28 => ?_)
        · exact ⟨_, vk1⟩  -- e11
        intro T29
        have eu : u28 = vU9 κ a0 a1.toNatClampNeg := Option.some.inj (hu28.symm.trans vk1)
        subst eu
        refine Ra_putOne_c W134 T29 20 ?_ (fun κ_30 q31 => ?_)
        · exact gk.2.2.1  -- p12
        intro W32
        intro M33
        refine h _ _ ?_
        · refine and_5 ?_ (fun o9 => ?_)  -- q13
          · obtain ⟨Zo, Jo, Vo⟩ := q31
            have R := ra_w9 W134 Ta0 N0 S0 vk2 (by omega) (by omega) (by omega) Zo Jo
            have Z9 : zF (soF ρ (voS16 (100 + 8 * a1.toNatClampNeg)) (zR κ soCalc a0)) κ κ_30 := soF_m (fun r z => Or.inr z) (R.2 _)
            have l9 := soF_B (c := 0) W134 (ty_soLess W134 Ta0) (R.2 (zR κ soCalc a0)) (by rw [S0.1.2.2.2.2.2.1]; omega)
            refine ⟨Or.inr rfl, ⟨Z9, R.1⟩, Nat.le_of_eq l9.2.1, fun _ _ => ?_⟩
            rw [Vo.2.1, Vo.2.2]
            refine ⟨by decide, by decide, ?_⟩
            rw [Nat.one_mul]
            exact Or.inr (Nat.dvd_mul_left _ _)
          · have e : in15 κ a0 V9 a1 = 1 := by
              unfold in15
              rw [if_pos c27, hE.1 c1, Rat.add_zero]
            rw [e]
            obtain ⟨Zo, Jo, Vo⟩ := q31
            exact ⟨⟨fun _ => by unfold f2W8; decide, fun _ z => absurd z (by decide)⟩, fun _ => ⟨Vo.1, Vo.2.1, Vo.2.2⟩⟩
  refine ⟨?_, ?_⟩
  · rw [inb_iff]; omega  -- b14
  intro x34 hx34
  unfold w_So_visitOne_15
  refine ⟨fun n l0 l1 l2 l3 l4 τ => n = ((zA κ (zR κ weBackFirsts (zR κ soWeb a0)) (a1.toNatClampNeg + 1)).toInt - l4.toInt).toNat ∧ ((κ = τ ∧ a0 = l0 ∧ a1 = l1 ∧ (0 ≤ l2.toInt ∧ l2.toInt ≤ l4.toInt) ∧ ((zA κ (zR κ weBackFirsts (zR κ soWeb a0)) a1.toNatClampNeg).toInt ≤ l4.toInt ∧ l4.toInt ≤ (zA κ (zR κ weBackFirsts (zR κ soWeb a0)) (a1.toNatClampNeg + 1)).toInt) ∧ (l2.toInt ≠ 0 → ((zA κ (zR κ weBackFirsts (zR κ soWeb a0)) a1.toNatClampNeg).toInt ≤ l3.toInt ∧ l3.toInt < (zA κ (zR κ weBackFirsts (zR κ soWeb a0)) (a1.toNatClampNeg + 1)).toInt) ∧ zI κ raSign (vU9 κ a0 (zA κ (zR κ weSources (zR κ soWeb a0)) l3.toNatClampNeg).toNatClampNeg) ≠ 0 ∧ (zA κ (zR κ weSources (zR κ soWeb a0)) l3.toNatClampNeg).toNatClampNeg ≠ a1.toNatClampNeg)) ∧ (l2.toInt = 0 → bi15 κ a0 V9 (bl15 κ a0 a1.toNatClampNeg) (l4.toNatClampNeg - bl15 κ a0 a1.toNatClampNeg) = 0) ∧ (l2.toInt = 1 → bi15 κ a0 V9 (bl15 κ a0 a1.toNatClampNeg) (l4.toNatClampNeg - bl15 κ a0 a1.toNatClampNeg) = un15 κ a0 V9 (bs15 κ a0 l3.toNatClampNeg) * (bw15 κ a0 l3.toNatClampNeg : Rat)) ∧ (0 < l2.toInt → 0 < bi15 κ a0 V9 (bl15 κ a0 a1.toNatClampNeg) (l4.toNatClampNeg - bl15 κ a0 a1.toNatClampNeg))), ⟨_, rfl, ?_⟩, ?_⟩
  · refine and_5 ?_ (fun o9 => ?_)  -- j15
    · exact ⟨rfl, rfl, rfl, ⟨by decide, by rw [hx34, t0i]; omega⟩, ⟨by rw [hx34]; exact Int.le_refl _, by rw [hx34]; exact r0.2.2.1⟩, fun z => absurd rfl z⟩
    · have e : x34.toNatClampNeg - bl15 κ a0 a1.toNatClampNeg = 0 := by rw [hx34]; exact Nat.sub_self _
      rw [e]
      exact ⟨fun _ => rfl, fun z => absurd z (by decide), fun z => absurd z (by decide)⟩
  rintro n15 _ _ x15_2 x15_3 x15_4 _ W15 T15_0 ⟨hn15, ⟨rfl, rfl, rfl, i15⟩, hE⟩
  refine ⟨?_, ?_⟩
  · rw [inb_iff, i1.2]; omega  -- b16
  refine ⟨fun c35 => ?_, fun c35 => ?_⟩
  · skip
    refine ⟨fun c36 => ?_, fun c36 => ?_⟩
    · skip
      refine hj134 _ _ _ _ W15 ?_ ?_
      · exact Ta0  -- t17
      · refine and_5 ?_ (fun o9 => ?_)  -- k18
        · exact ⟨rfl, rfl, rfl, trivial⟩
        · rw [i1.1, lei] at c35
          have k1 := cnk (x := zA κ (zR κ weBackFirsts (zR κ soWeb a0)) (a1.toNatClampNeg + 1)) (by omega)
          have k2 := cnk (x := x15_4) (by omega)
          have ek : bl15 κ a0 (a1.toNatClampNeg + 1) = x15_4.toNatClampNeg := by show (zA κ _ _).toNatClampNeg = _; omega
          rw [ek]
          refine ⟨fun z => hE.1 (by rw [z]; rfl), fun z => hE.2.2 ?_⟩
          have ne : x15_2.toInt ≠ 0 := fun y => z (Int32.toInt_inj.mp y)
          omega
    · skip
      refine ⟨fun c37 => ?_, fun c37 => ?_⟩
      · skip
        refine hj134 _ _ _ _ W15 ?_ ?_
        · exact Ta0  -- t19
        · refine and_5 ?_ (fun o9 => ?_)  -- k20
          · exact ⟨rfl, rfl, rfl, trivial⟩
          · rw [i1.1, lei] at c35
            have k1 := cnk (x := zA κ (zR κ weBackFirsts (zR κ soWeb a0)) (a1.toNatClampNeg + 1)) (by omega)
            have k2 := cnk (x := x15_4) (by omega)
            have ek : bl15 κ a0 (a1.toNatClampNeg + 1) = x15_4.toNatClampNeg := by show (zA κ _ _).toNatClampNeg = _; omega
            rw [ek]
            refine ⟨fun z => hE.1 (by rw [z]; rfl), fun z => hE.2.2 ?_⟩
            have ne : x15_2.toInt ≠ 0 := fun y => z (Int32.toInt_inj.mp y)
            omega
      · skip
        obtain ⟨_, _, i3⟩ := i15
        obtain ⟨⟨m1, m2⟩, m3, m4⟩ := i3 (by rw [c36]; decide)
        have g2 := bk_g9 X0 (t := a1.toNatClampNeg) (b := x15_3) (by omega) m1 m2
        have g3 := eg_9 X0 g2.2
        refine ⟨?_, ?_⟩
        · rw [inb_iff]; exact ⟨g2.1.1, g2.1.2.1⟩  -- b21
        intro x38 hx38
        obtain ⟨gs1, gs2⟩ := g2.2.1
        rw [← hx38] at gs1 gs2 m3 m4
        have ks := cnk gs1
        obtain ⟨w1, w2, w3⟩ := V0 x38.toNatClampNeg (by omega)
        obtain ⟨v5, v6, v7⟩ := w3 m3
        have gs := ra_g9 N0 w2 (by omega) (by omega) (by omega)
        refine ⟨?_, ?_⟩
        · rw [inb_iff]; omega  -- b22
        refine ⟨?_, ?_⟩
        · rw [inb_iff]; omega  -- b23
        refine ex_some ?_ (fun u39 hu39 => ?_)
        · exact ⟨_, vk1⟩  -- e24
        refine ex_some ?_ (fun u40 hu40 => ?_)
        · exact ⟨_, w1⟩  -- e25
        intro T41
        intro T42
        have eu : u39 = vU9 κ a0 a1.toNatClampNeg := Option.some.inj (hu39.symm.trans vk1)
        subst eu
        have ev : u40 = vU9 κ a0 x38.toNatClampNeg := Option.some.inj (hu40.symm.trans w1)
        subst ev
        have kt := k256 gs.2.2.2.1 v5
        have kb := k256 gs.2.2.2.2.1 v6
        refine Ra_copy_c W15 T41 T42 20 ?_ (fun κ_43 q44 => ?_)
        · exact ⟨gk.2.2.1, ⟨nuI_mono (by decide) gs.2.2.2.1, nuI_mono (by decide) gs.2.2.2.2.1, gs.2.2.2.2.2⟩, ⟨ro_n gk.2.1.1 gs.2.1.1 (by omega), ro_n gk.2.1.1 gs.2.1.2 (by omega), ro_n gk.2.1.2 gs.2.1.1 (by omega), ro_n gk.2.1.2 gs.2.1.2 (by omega)⟩, ⟨by omega, by omega⟩, by decide⟩  -- p26
        obtain ⟨Zc, Jc, Vc⟩ := q44
        have R4 := ra_w9 W Ta0 N0 S0 vk2 (by omega) (by omega) (by omega) Zc Jc
        have Z4 := R4.2 (zR κ soCalc a0)
        have X4 := svX9_f W Ta0 soF_fr Z4 X0
        have U4 := vU9_f W Ta0 Z4
        have T4 : zT κ_43 a0 = 12 := Z4.t Ta0 (by decide)
        have eb4 : zA κ_43 (zR κ_43 weBackFirsts (zR κ_43 soWeb a0)) = zA κ (zR κ weBackFirsts (zR κ soWeb a0)) := by rw [X4.2.1]; exact (we_f9 W soF_fr Z4 (ty_soWeb W Ta0) (f := weBackFirsts) (by decide)).2.1
        have g4 := bk_g9 X4.1 (t := a1.toNatClampNeg) (b := x15_3) (by omega) (by rw [eb4]; exact m1) (by rw [eb4]; exact m2)
        have g5 := eg_9 X4.1 g4.2
        have xv4 := X4.1.2.2.2
        intro W45
        intro M46
        refine ⟨?_, ?_⟩
        · rw [inb_iff]; omega  -- b27
        refine ⟨?_, ?_⟩
        · rw [inb_iff]; exact ⟨g4.1.1, g4.1.2.2.1⟩  -- b28
        refine ⟨?_, ?_⟩
        · rw [inb_iff]; exact g5.1  -- b29
        intro T47
        refine At_divisorOf_c W45 T47  ?_ (fun r48 q50 => ?_)
        · exact ⟨X4.1.2.2.1.1, gs1, by omega⟩  -- p30
        intro W51
        intro M52
        refine ex_some ?_ (fun u53 hu53 => ?_)
        · exact ⟨_, by rw [U4.1]; exact vk1⟩  -- e31
        intro T54
        have eu : u53 = vU9 κ a0 a1.toNatClampNeg := Option.some.inj (hu53.symm.trans (by rw [U4.1]; exact vk1))
        subst eu
        have kt4 := k256 Jc.1 (by rw [Vc.2.1]; exact v5)
        have kb4 := k256 Jc.2.1 (by rw [Vc.2.2]; exact v6)
        have rd : r48 = dvA κ (zR κ soAtlas a0) x38.toNatClampNeg := by
          have q := q50
          rw [X4.2.2.1] at q
          exact q.trans (dvA_f9 W soF_fr Z4 (ty_soAtlas W Ta0) _)
        refine Ra_scale_q6 W51 T54 20 ?_ (fun κ_55 q56 => ?_)
        · exact ⟨Jc, ⟨by omega, by omega⟩, by decide⟩  -- p32
        obtain ⟨q56, z9⟩ := q56
        have zsc := z9
        obtain ⟨Zd, Jd, Vd⟩ := q56
        have R5 := ra_w9 W45 T4 R4.1.1 R4.1.2 vk2 (by omega) (by omega) (by omega) Zd Jd
        have Z5 := Z4.tr (R5.2 (zR κ soCalc a0))
        have X5 := svX9_f W Ta0 soF_fr Z5 X0
        have U5 := vU9_f W Ta0 Z5
        have xv5 := X5.1.2.2.2
        intro W57
        intro M58
        refine ⟨?_, ?_⟩
        · rw [inb_iff]; omega  -- b33
        refine ex_some ?_ (fun u59 hu59 => ?_)
        · exact ⟨_, by rw [U5.1]; exact vk1⟩  -- e34
        intro T60
        have eu : u59 = vU9 κ a0 a1.toNatClampNeg := Option.some.inj (hu59.symm.trans (by rw [U5.1]; exact vk1))
        subst eu
        refine Ra_fits_q6 W57 T60  ?_ (fun r61 q63 => ?_)
        · exact ⟨nuI_mono (by decide) Jd.1, nuI_mono (by decide) Jd.2.1⟩  -- p35
        obtain ⟨q63, z9⟩ := q63
        have zf := z9
        intro W64
        intro M65
        refine ⟨?_, h _ _ ?_⟩
        · exact q63.1  -- b36
        · refine and_5 ?_ (fun o9 => ?_)  -- q37
          · have l9 := soF_B (c := 0) W (ty_soLess W Ta0) Z5 (by rw [S0.1.2.2.2.2.2.1]; omega)
            refine ⟨q63.1, ⟨soF_m (fun r z => Or.inr z) Z5, R5.1⟩, Nat.le_of_eq l9.2.1, fun z s => ?_⟩
            obtain ⟨f1, f2⟩ := q63.2 z
            have e5 : zR κ_55 raBottom (vU9 κ a0 a1.toNatClampNeg) = zR κ_43 raBottom (vU9 κ a0 a1.toNatClampNeg) := raF_r Zd (by decide) (by decide) (by decide)
            refine ⟨f1, f2, ?_⟩
            rcases Vd with Vd | ⟨⟨_, d2, _⟩, _, _, d3, d4⟩
            · exfalso
              have q : (zI κ_55 raSign (vU9 κ a0 a1.toNatClampNeg)).toInt = (0 : Int32).toInt := Vd.1
              exact s (Int32.toInt.inj q)
            · rw [e5]
              rw [Vc.2.2] at d3 d4
              have en : dvN9 κ (zR κ soAtlas a0) x38.toNatClampNeg = r48.toInt.toNat := by
                unfold dvN9
                rw [← rd]
                split <;> omega
              rw [en] at v7
              exact dz9_mul (dz9_of v7 d3 d4)
          · rw [i1.1, lei] at c35
            have k1 := cnk (x := zA κ (zR κ weBackFirsts (zR κ soWeb a0)) (a1.toNatClampNeg + 1)) (by omega)
            have k2 := cnk (x := x15_4) (by omega)
            have k3 := cnk (x := x15_3) (by omega)
            have kl := cnk r0.2.1
            have ek : bl15 κ a0 (a1.toNatClampNeg + 1) = x15_4.toNatClampNeg := by show (zA κ _ _).toNatClampNeg = _; omega
            have e1 := hE.2.1 (by rw [c36]; rfl)
            have es : bs15 κ a0 x15_3.toNatClampNeg = x38.toNatClampNeg := by rw [hx38]
            have wp := hP9 x15_3.toNatClampNeg (by show (zA κ _ _).toNatClampNeg ≤ _; omega) (by rw [ek]; omega)
            have B4 := bx_f15 W Ta0 Z4 X0
            have ew : (zA κ_43 (zR κ_43 atWeights (zR κ_43 soAtlas a0)) (zA κ_43 (zR κ_43 weEdges (zR κ_43 soWeb a0)) x15_3.toNatClampNeg).toNatClampNeg).toInt = bw15 κ a0 x15_3.toNatClampNeg := B4.2.1 x15_3.toNatClampNeg
            have dv := dv_9 X0 (k := x38.toNatClampNeg) (by omega)
            rw [← rd] at dv
            have dN : dvN9 κ (zR κ soAtlas a0) x38.toNatClampNeg = r48.toInt.toNat := by
              unfold dvN9
              rw [← rd]
              split <;> omega
            have vs := hV9 x38.toNatClampNeg (by omega)
            have c43 : rqW8 κ_43 (vU9 κ a0 a1.toNatClampNeg) (V9 x38.toNatClampNeg) := ⟨Vc.1.trans vs.1.1, Vc.2.1.trans vs.1.2.1, Vc.2.2.trans vs.1.2.2⟩
            have r55 := zsc _ c43 vs.2 (by rw [ew]; exact wp) (by omega)
            have ex : V9 x38.toNatClampNeg * mkRat (zA κ_43 (zR κ_43 atWeights (zR κ_43 soAtlas a0)) (zA κ_43 (zR κ_43 weEdges (zR κ_43 soWeb a0)) x15_3.toNatClampNeg).toNatClampNeg).toInt r48.toInt.toNat = in15 κ a0 V9 a1 := by
              unfold in15
              rw [if_neg (fun z => by rw [z] at c37; exact c37 (by decide)), ek, e1, es, ew]
              unfold un15
              rw [dN, mk_d, mk_d]
              show _ = 0 + _ * (1 * _) * _
              generalize ((r48.toInt.toNat : Nat) : Rat)⁻¹ = d
              grind
            rw [ex] at r55
            have fe : f2W8 (in15 κ a0 V9 a1) ↔ (nuN κ_55 (zR κ_55 raTop (vU9 κ a0 a1.toNatClampNeg)) < 2 ^ 256 ∧ nuN κ_55 (zR κ_55 raBottom (vU9 κ a0 a1.toNatClampNeg)) < 2 ^ 256) := by
              unfold f2W8
              rw [r55.2.1, r55.2.2]
            exact ⟨zf.trans fe.symm, fun _ => r55⟩
  · skip
    intro T66
    rw [i1.1, lei] at c35
    obtain ⟨i2, i3, i4⟩ := i15
    have ix := cn1 (x := x15_4) (by omega) (by omega)
    refine So_comesIn_q6 W15 T66 ρ m9 P9 ?_ (fun r67 q69 => ?_)
    · exact ⟨X0, V0, p1, i3.1, by omega⟩  -- p38
    obtain ⟨q69, z9⟩ := q69
    have zc := z9
    intro W70
    intro M71
    refine ⟨fun c72 => ?_, fun c72 => ?_⟩
    · skip
      intro x73 hx73
      refine lp_b5 ?_ (fun d9 => ⟨rfl, ?_⟩)
      · rw [hn15, hx73, ix.2]; omega  -- d39
      · refine and_5 ?_ (fun o9 => ?_)  -- i40
        · exact ⟨rfl, rfl, rfl, ⟨i2.1, by rw [hx73, ix.2]; omega⟩, ⟨by rw [hx73, ix.2]; omega, by rw [hx73, ix.2]; omega⟩, i4⟩
        · have g := bk_g9 X0 (t := a1.toNatClampNeg) (b := x15_4) (by omega) i3.1 (by omega)
          have gs := g.2.1
          have ks := cnk gs.1
          have k2 := cnk (x := x15_4) (by omega)
          have kl := cnk r0.2.1
          have z0 : V9 (bs15 κ a0 x15_4.toNatClampNeg) = 0 := by
            refine Decidable.byContradiction (fun ne => ?_)
            have hs : bs15 κ a0 x15_4.toNatClampNeg < m9 := by show (zA κ _ _).toNatClampNeg < m9; omega
            exact zc.mpr ⟨fun y => ne (hK9 _ hs y), (rq_015 (hV9 _ hs).1).mpr ne⟩ c72
          have e : x73.toNatClampNeg - bl15 κ a0 a1.toNatClampNeg = (x15_4.toNatClampNeg - bl15 κ a0 a1.toNatClampNeg) + 1 := by
            have : bl15 κ a0 a1.toNatClampNeg = (zA κ (zR κ weBackFirsts (zR κ soWeb a0)) a1.toNatClampNeg).toNatClampNeg := rfl
            rw [hx73, ix.1]; omega
          have e2 : bl15 κ a0 a1.toNatClampNeg + (x15_4.toNatClampNeg - bl15 κ a0 a1.toNatClampNeg) = x15_4.toNatClampNeg := by
            have : bl15 κ a0 a1.toNatClampNeg = (zA κ (zR κ weBackFirsts (zR κ soWeb a0)) a1.toNatClampNeg).toNatClampNeg := rfl
            omega
          rw [e, bi_s15, e2, un_015 z0, Rat.zero_mul, Rat.add_zero]
          exact hE
    · skip
      intro x74 hx74
      intro x75 hx75
      have iy := cn1 (x := x15_2) (by omega) (by omega)
      refine lp_b5 ?_ (fun d9 => ⟨rfl, ?_⟩)
      · rw [hn15, hx75, ix.2]; omega  -- d41
      · refine and_5 ?_ (fun o9 => ?_)  -- i42
        · exact ⟨rfl, rfl, rfl, ⟨by rw [hx74, iy.2]; omega, by rw [hx74, hx75, ix.2, iy.2]; omega⟩, ⟨by rw [hx75, ix.2]; omega, by rw [hx75, ix.2]; omega⟩, fun _ => ⟨⟨i3.1, by omega⟩, q69.2 c72⟩⟩
        · have g := bk_g9 X0 (t := a1.toNatClampNeg) (b := x15_4) (by omega) i3.1 (by omega)
          have gs := g.2.1
          have ks := cnk gs.1
          have k2 := cnk (x := x15_4) (by omega)
          have kl := cnk r0.2.1
          have kh := cnk (x := zA κ (zR κ weBackFirsts (zR κ soWeb a0)) (a1.toNatClampNeg + 1)) (by omega)
          have hs : bs15 κ a0 x15_4.toNatClampNeg < m9 := by show (zA κ _ _).toNatClampNeg < m9; omega
          have vv := hV9 _ hs
          have ne := (rq_015 vv.1).mp (zc.mp c72).2
          have bl : bl15 κ a0 a1.toNatClampNeg = (zA κ (zR κ weBackFirsts (zR κ soWeb a0)) a1.toNatClampNeg).toNatClampNeg := rfl
          have bh : bl15 κ a0 (a1.toNatClampNeg + 1) = (zA κ (zR κ weBackFirsts (zR κ soWeb a0)) (a1.toNatClampNeg + 1)).toNatClampNeg := rfl
          have wp := hP9 x15_4.toNatClampNeg (by omega) (by omega)
          have up := Rat.mul_pos (un_l15 (κ := κ) (a := a0) vv.2 ne) (Rat.intCast_pos.mpr wp)
          have e : x75.toNatClampNeg - bl15 κ a0 a1.toNatClampNeg = (x15_4.toNatClampNeg - bl15 κ a0 a1.toNatClampNeg) + 1 := by rw [hx75, ix.1]; omega
          have e2 : bl15 κ a0 a1.toNatClampNeg + (x15_4.toNatClampNeg - bl15 κ a0 a1.toNatClampNeg) = x15_4.toNatClampNeg := by omega
          rw [e, bi_s15, e2, hx74, iy.2]
          refine ⟨fun z => ?_, fun z => ?_, fun z => ?_⟩
          · exfalso
            omega
          · rw [hE.1 (by omega), Rat.zero_add]
          · by_cases c : x15_2.toInt = 0
            · rw [hE.1 c, Rat.zero_add]
              exact up
            · have y := hE.2.2 (by omega)
              grind

end
section
set_option maxHeartbeats 1600000
/-! fresh fractions: worths and what is shown stay where visits are made anew -/
theorem So_fresh_q16 {C : zC} {n0 : Nat} {a0 : Nat} {a1 : Int32} {κ : zS} {Q : Nat → zS → Prop} (W : zW C n0 κ) (Ta0 : zT κ a0 = 25) (ρ : Nat → Nat) (s9 b9 f9 : Nat) (hp : (nmI ρ κ ∧ soI ρ κ s9) ∧ zT κ s9 = 12 ∧ ((b9 = 100 ∨ b9 = 104) ∧ (f9 = soVisits ∨ f9 = soWorths) ∧ zO κ a0 = (f9, s9) ∧ (f9 = soWorths → b9 = 104)) ∧ (∀ j u, j < 1000 → zQ κ a0 j = some u → ρ u = b9 + 8 * j) ∧ zN κ a0 ≤ 1000 ∧ (0 ≤ a1.toInt ∧ a1.toInt ≤ 1000)) (h : ∀ (v : Nat) (κ' : zS), ((frX9 ρ s9 b9 f9 κ κ' a0 v a1 a1.toNatClampNeg (fun _ => True) ∧ frC9 κ κ' a0 a1.toNatClampNeg a1.toNatClampNeg) ∧ (b9 = 100 → kr16 ρ κ κ')) → Q v κ') : zRun C 3 mSo_fresh [.ref a0, .int a1] κ (oR 25 Q noX) := by
  refine So_fresh_run W Ta0 ?_
  replace W := W.lo (Nat.le_trans W.1.2.1 W.1.2.2) (Nat.le_refl (zn κ))
  unfold w_So_fresh_0
  obtain ⟨⟨N0, S0⟩, hs, ⟨hb, hf, ho, hw0⟩, p4, p5, p6⟩ := hp
  have hw : id (f9 = soWorths → b9 = 104) := hw0
  clear hw0
  have ka1 := cnk p6.1
  have ls := (W.2.1 s9 (by rw [hs]; decide)).2
  have lo := (W.2.1 a0 (by rw [Ta0]; decide)).2
  have hh23 : ∀ (l0 : Nat) (l1 : Int32) (l2 : Nat) (l3 : Int32) (τ : zS), zW C (zn κ) τ → zT τ l0 = 25 → zT τ l2 = 25 → ((a0 = l0 ∧ a1 = l1 ∧ frX9 ρ s9 b9 f9 κ τ a0 l2 a1 l3.toNatClampNeg (fun _ => True) ∧ 0 ≤ l3.toInt ∧ l3.toInt ≤ a1.toInt ∧ frC9 κ τ a0 l3.toNatClampNeg l3.toNatClampNeg) ∧ (b9 = 100 → kr16 ρ κ τ)) → w_So_fresh_23 C (zn κ) Q  l0 l1 l2 l3 τ := by
    intro z0 z1 z2 z3 τi Wi _ _ hinit
    unfold w_So_fresh_23
    refine ⟨fun n l0 l1 l2 l3 τ => n = (a1.toInt - l3.toInt).toNat ∧ ((a0 = l0 ∧ a1 = l1 ∧ frX9 ρ s9 b9 f9 κ τ a0 l2 a1 l3.toNatClampNeg (fun _ => True) ∧ 0 ≤ l3.toInt ∧ l3.toInt ≤ a1.toInt ∧ frC9 κ τ a0 l3.toNatClampNeg l3.toNatClampNeg) ∧ (b9 = 100 → kr16 ρ κ τ)), ⟨_, rfl, hinit⟩, ?_⟩
    clear hinit
    rintro n23 _ _ x23_2 x23_3 κ23 W23 T23_0 T23_1 ⟨hn23, ⟨rfl, rfl, i23⟩, hE⟩
    obtain ⟨J1, l1, l2, C1⟩ := i23
    obtain ⟨κa, ρa, Ha, Ra, Na, Za, Oa, A1, A2, A3, _⟩ := id J1
    have La := fr_l9 W Ta0 p6 p5 Ha Za
    have kc := cnk l1
    have tN : ∀ x, zN κ23 x ≤ 1000 → (Int32.ofNat (zN κ23 x)).toInt = (zN κ23 x : Int) := fun x h => ofn_i (by omega)
    have hj63 : ∀ (l0 : Nat) (l1 : Int32) (l2 : Nat) (l3 : Int32) (s0 : Nat) (s1 : Int32) (s2 : Option Nat) (τ : zS), zW C (zn κ) τ → zT τ l0 = 25 → zT τ l2 = 25 → zT τ s0 = 25 → (∀ v, s2 = some v → zT τ v = 11) → ((a0 = l0 ∧ a1 = l1 ∧ (∃ u, s2 = some u ∧ frX9 ρ s9 b9 f9 κ τ a0 l2 a1 l3.toNatClampNeg (fun ρ' => ρ' u = b9 + 8 * l3.toNatClampNeg)) ∧ (0 ≤ l3.toInt ∧ l3.toInt < a1.toInt ∧ x23_3 = l3) ∧ (l2 = s0 ∧ l3 = s1) ∧ frC9 κ τ a0 (l3.toNatClampNeg + 1) l3.toNatClampNeg) ∧ (b9 = 100 → kr16 ρ κ τ)) → w_So_fresh_63 C (zn κ) Q (fun (l0' : Nat) (l1' : Int32) (l2' : Nat) (l3' : Int32) (τ : zS) => ∃ k < n23, (fun (n : Nat) (l0 : Nat) (l1 : Int32) (l2 : Nat) (l3 : Int32) (τ : zS) => n = (a1.toInt - l3.toInt).toNat ∧ ((a0 = l0 ∧ a1 = l1 ∧ frX9 ρ s9 b9 f9 κ τ a0 l2 a1 l3.toNatClampNeg (fun _ => True) ∧ 0 ≤ l3.toInt ∧ l3.toInt ≤ a1.toInt ∧ frC9 κ τ a0 l3.toNatClampNeg l3.toNatClampNeg) ∧ (b9 = 100 → kr16 ρ κ τ))) k l0' l1' l2' l3' τ) l0 l1 l2 l3 s0 s1 s2 τ := by
      rintro _ _ y63_2 y63_3 y63_s0 y63_s1 y63_s2 τ63 W63 T63_0 T63_1 T63_2 T63_3 ⟨⟨rfl, rfl, j63⟩, hE⟩
      unfold w_So_fresh_63
      obtain ⟨⟨u9, e2, J2⟩, ⟨l31, l32, l33⟩, ⟨e0, e1⟩, C3⟩ := j63
      subst l33
      subst e0
      subst e1
      obtain ⟨κb, ρb, Hb, Rb, ⟨Nb, Sb⟩, Zb, Ob, B1, B2, B3, Bu⟩ := J2
      have Lb := fr_l9 W Ta0 p6 p5 Hb Zb
      have kd := cnk l31
      have wo := fr_o9 W Ta0 hs ho Hb Ob.1
      refine ex_some ?_ (fun u1 hu1 => ?_)
      · exact ⟨u9, e2⟩  -- e1
      refine ⟨?_, ?_⟩
      · rw [inb_iff]; omega  -- b2
      intro κ_2 hκ_2
      intro W3
      have eu : u1 = u9 := Option.some.inj (hu1.symm.trans e2)
      subst eu
      have qn : zN κ_2 = zN τ63 := by rw [hκ_2]; rfl
      have qq : zQ κ_2 y63_2 = va_up (zQ τ63 y63_2) x23_3.toNatClampNeg (some u1) := by rw [hκ_2]; exact if_pos rfl
      refine ⟨?_, ?_⟩
      · rw [inb_iff, qn]; omega  -- b3
      refine ex_some ?_ (fun u4 hu4 => ?_)
      · exact ⟨u1, by rw [qq]; exact if_pos rfl⟩  -- e4
      intro T5
      have eu : u4 = u1 := by
        rw [qq] at hu4
        have q : va_up (zQ τ63 y63_2) x23_3.toNatClampNeg (some u1) x23_3.toNatClampNeg = some u1 := if_pos rfl
        exact Option.some.inj (hu4.symm.trans q)
      subst eu
      have N2 : nmI ρb κ_2 := by rw [hκ_2]; exact Nb
      have S2 : soI ρb κ_2 s9 := by rw [hκ_2]; exact Sb
      have g2 := ra_g9 N2 Bu (by omega) (by omega) (by omega)
      refine Ra_putZero_c W3 T5 20 ?_ (fun κ_6 q7 => ?_)
      · exact g2.2.2.1  -- p5
      intro W8
      intro M9
      intro x10 hx10
      obtain ⟨Zp, Jp, Vp⟩ := q7
      have ts63 : zT τ63 s9 = 12 := by
        rcases Hb with ⟨_, q, _⟩ | ⟨_, q, _⟩
        · rw [q] at Zb; exact Zb.t hs (by decide)
        · refine Zb.t ?_ (by decide)
          rw [q]
          exact (if_neg (Nat.ne_of_lt ls)).trans hs
      have ts2 : zT κ_2 s9 = 12 := by rw [hκ_2]; exact ts63
      have Rp := ra_w9 W3 ts2 N2 S2 Bu (by omega) (by omega) (by omega) Zp Jp
      have ix := cn1 (x := x23_3) (by omega) (by omega)
      have o2 : zO κ_2 = zO τ63 := by rw [hκ_2]; rfl
      have t2 : ∀ x, zT κ_2 x = zT τ63 x := fun x => by rw [hκ_2]; rfl
      have nf : ∀ x, zO τ63 x = (f9, s9) ∨ zO τ63 x = (0, 0) → ¬ raF (zR κ_2 raTop u4) (zR κ_2 raBottom u4) u4 (zO κ_2 x).1 (zO κ_2 x).2 := fun x hx => by
        rw [o2]
        rcases hx with hx | hx
        · rw [hx]
          show ¬ raF (zR κ_2 raTop u4) (zR κ_2 raBottom u4) u4 f9 s9
          rcases hf with q | q <;> rw [q] <;> exact raF_q (by decide) (by decide) (by decide)
        · rw [hx]; exact raF_0
      have qr6 := Zp.2.1 y63_2 (by rw [t2, T63_1]; decide) (nf _ (wo.elim (fun y => Or.inl y.1) (fun y => Or.inr y.1)))
      have qo6 := Zp.2.1 a0 (by rw [t2, T63_0]; decide) (nf _ (Or.inl (by rw [Ob.2.1]; exact ho)))
      have Zu : zF (frF9 ρ κ f9 s9) τ63 κ_2 := by
        rw [hκ_2]
        refine zF_uq ?_
        rcases wo with y | y
        · rw [y.1]; exact Or.inr (Or.inl ⟨rfl, rfl⟩)
        · rw [y.1]; exact Or.inr (Or.inr (Or.inl rfl))
      have Zf : zF (frF9 ρ κ f9 s9) κb κ_6 := (Zb.tr Zu).tr ((Rp.2 0).mono (fun f b z => by
        by_cases l : b < zn κ
        · left
          rcases z with ⟨z, y⟩ | z
          · left
            refine ⟨?_, y⟩
            rw [Rb b l] at z
            rcases z with z | z | z <;> (rw [z]; exact ⟨by omega, by omega, fun y => by have q : b9 = 104 := hw y; omega⟩)
          · exact Or.inr z
        · exact Or.inr (Or.inr (Or.inr (by omega)))))
      refine lp_b5 ?_ (fun d9 => ⟨rfl, ?_⟩)
      · rw [hn23, hx10, ix.2]; omega  -- d6
      · refine and_5 ?_ (fun o9 => ?_)  -- i7
        · refine ⟨rfl, rfl, ⟨κb, ρb, Hb, Rb, Rp.1, Zf, ⟨?_, ?_, ?_⟩, fun j u hj hu => ?_, fun j u hj hu => ?_, fun j hj => ?_, trivial⟩, by rw [hx10, ix.2]; omega, by rw [hx10, ix.2]; omega, ⟨?_, ?_⟩, fun j hj => ?_⟩
          · rw [qr6.2.2.2, o2]; exact Ob.1
          · rw [qo6.2.2.2, o2]; exact Ob.2.1
          · rw [raF_r Zp (by rcases hf with q | q <;> rw [q] <;> decide) (by rcases hf with q | q <;> rw [q] <;> decide) (by rcases hf with q | q <;> rw [q] <;> decide), hκ_2]
            exact Ob.2.2
          · rw [qr6.2.2.1, qq] at hu
            unfold va_up at hu
            by_cases e : j = x23_3.toNatClampNeg
            · rw [if_pos e] at hu
              rw [← Option.some.inj hu, e]
              exact Bu
            · rw [if_neg e] at hu
              exact B1 j u hj hu
          · rw [qo6.2.2.1] at hu
            by_cases er : a0 = y63_2
            · rw [er, qq] at hu
              unfold va_up at hu
              by_cases e : j = x23_3.toNatClampNeg
              · rw [if_pos e] at hu
                rw [← Option.some.inj hu, e]
                exact Bu
              · rw [if_neg e] at hu
                exact B1 j u hj hu
            · have qa : zQ κ_2 a0 = zQ τ63 a0 := by rw [hκ_2]; exact if_neg er
              rw [qa] at hu
              exact B2 j u hj hu
          · rw [hx10, ix.1] at hj
            rw [qr6.2.2.1, qq]
            unfold va_up
            by_cases e : j = x23_3.toNatClampNeg
            · exact ⟨u4, if_pos e, Int32.toInt.inj Vp.1, Vp.2.1, Vp.2.2⟩
            · obtain ⟨u, hu, hz, ht, hb9⟩ := B3 j (by omega)
              refine ⟨u, by rw [if_neg e]; exact hu, ?_⟩
              have ru := B1 j u (by omega) hu
              have i6 := Zp.i (f := raSign) (a := u) (fun z => by
                rcases z with ⟨_, z | z⟩ | ⟨z, _⟩
                · exact absurd z (by decide)
                · exact absurd z (by decide)
                · rw [z, Bu] at ru
                  omega)
              have gu := ra_g9 N2 ru (by omega) (by omega) (by omega)
              have f9' := ra_f9 W3 N2 (Rp.2 0) ru gu.1.2 ⟨by omega, by omega, by omega⟩
              rw [i6, f9'.2.1.1, f9'.2.1.2, f9'.2.2.1, f9'.2.2.2, hκ_2]
              exact ⟨hz, ht, hb9⟩
          · have q2 : nT9 11 κ_2 = nT9 11 τ63 := nT_09 (by rw [hκ_2]; rfl) (fun b _ => t2 b)
            have q6 := nT_z9 W3 Zp (fun b _ => raF_0) (t := 11) (by decide)
            have q3 := C3.1.1
            rw [hx10, ix.1]
            omega
          · have q2 : nT9 8 κ_2 = nT9 8 τ63 := nT_09 (by rw [hκ_2]; rfl) (fun b _ => t2 b)
            have q6 := nT_z9 W3 Zp (fun b _ => raF_0) (t := 8) (by decide)
            have q3 := C3.1.2
            rw [hx10, ix.1]
            omega
          · rw [hx10, ix.1] at hj
            rw [qo6.2.2.1, ← C3.2 j (by omega)]
            by_cases er : a0 = y63_2
            · rw [er, qq]
              exact if_neg (by omega)
            · rw [hκ_2]
              exact congrFun (if_neg er) j
        · intro e9
          have k2 : kr16 ρ κ κ_2 := kr_e16 (hE e9) (by rw [hκ_2]; rfl) (by rw [hκ_2]; rfl) (by rw [hκ_2]; rfl) (fun g b _ _ => by rw [hκ_2]; rfl)
          refine kr_f16 k2 Rb W3 N2 (Rp.2 0) (fun r h z => ?_)
          unfold sh16 at h
          rcases z with z | z | z <;> omega
    have hj54 : ∀ (l0 : Nat) (l1 : Int32) (l2 : Nat) (l3 : Int32) (s0 : Nat) (s1 : Int32) (τ : zS), zW C (zn κ) τ → zT τ l0 = 25 → zT τ l2 = 25 → zT τ s0 = 25 → ((a0 = l0 ∧ a1 = l1 ∧ frX9 ρ s9 b9 f9 κ τ a0 l2 a1 l3.toNatClampNeg (fun _ => True) ∧ (0 ≤ l3.toInt ∧ l3.toInt < a1.toInt ∧ x23_3 = l3) ∧ (l2 = s0 ∧ l3 = s1) ∧ frC9 κ τ a0 l3.toNatClampNeg l3.toNatClampNeg ∧ (zN κ a0 ≤ l3.toNatClampNeg ∨ zQ κ a0 l3.toNatClampNeg = none)) ∧ (b9 = 100 → kr16 ρ κ τ)) → w_So_fresh_54 C (zn κ) Q (fun (l0' : Nat) (l1' : Int32) (l2' : Nat) (l3' : Int32) (τ : zS) => ∃ k < n23, (fun (n : Nat) (l0 : Nat) (l1 : Int32) (l2 : Nat) (l3 : Int32) (τ : zS) => n = (a1.toInt - l3.toInt).toNat ∧ ((a0 = l0 ∧ a1 = l1 ∧ frX9 ρ s9 b9 f9 κ τ a0 l2 a1 l3.toNatClampNeg (fun _ => True) ∧ 0 ≤ l3.toInt ∧ l3.toInt ≤ a1.toInt ∧ frC9 κ τ a0 l3.toNatClampNeg l3.toNatClampNeg) ∧ (b9 = 100 → kr16 ρ κ τ))) k l0' l1' l2' l3' τ) l0 l1 l2 l3 s0 s1 τ := by
      rintro _ _ y54_2 y54_3 y54_s0 y54_s1 τ54 W54 T54_0 T54_1 T54_2 ⟨⟨rfl, rfl, j54⟩, hE⟩
      unfold w_So_fresh_54
      intro κ_11 hκ_11
      intro W12
      intro T13
      obtain ⟨J4, ⟨l31, l32, l33⟩, ⟨e0, e1⟩, C4, D4⟩ := j54
      subst l33
      subst e0
      subst e1
      obtain ⟨κb, ρb, Hb, Rb, ⟨Nb, Sb⟩, Zb, Ob, B1, B2, B3, _⟩ := J4
      have Lb := fr_l9 W Ta0 p6 p5 Hb Zb
      have kd := cnk l31
      have wo := fr_o9 W Ta0 hs ho Hb Ob.1
      have n11 : zn κ_11 = zn τ54 + 1 := by rw [hκ_11]; rfl
      have T54_51 : zT κ_11 (zn τ54) = 51 := by rw [hκ_11]; exact if_pos rfl
      refine Ra_init_c W12 T13  ?_ (fun κ_14 q15 => ?_)
      · exact ⟨by decide, by omega⟩  -- p8
      intro W16
      intro M17
      obtain ⟨Zi, ⟨rt, rb⟩, ⟨tt, tb, ta⟩, ⟨it, ib⟩, nt8, nt11⟩ := q15
      rw [n11] at rt rb tt tb it ib
      have n9 : (if (11 : Int32) < (2 : Int32) then (2 : Int32) else 11).toNatClampNeg = 11 := by decide
      rw [n9] at it ib
      refine ⟨?_, ?_⟩
      · refine zOk_11 ?_ ?_
        · rw [rt]; exact tt
        · rw [rb]; exact tb
      intro κ_18 hκ_18
      intro W19
      have A := mk_Ra9 W54 W12 W16 hκ_11 (Zi.mono (fun _ b z => by
        rcases z with z | z <;> omega)) ta hκ_18
      obtain ⟨A1', A2', A3'⟩ := A
      have x18 : κ_18.2 = κ_14.2 := by rw [hκ_18]; rfl
      have ts54 : zT τ54 s9 = 12 := by
        rcases Hb with ⟨_, q, _⟩ | ⟨_, q, _⟩
        · rw [q] at Zb; exact Zb.t hs (by decide)
        · refine Zb.t ?_ (by decide)
          rw [q]
          exact (if_neg (Nat.ne_of_lt ls)).trans hs
      have zp : 0 < zn τ54 := by omega
      have nf : ∀ x, zO τ54 x = (f9, s9) ∨ zO τ54 x = (0, 0) → ¬ zn τ54 ≤ (zO τ54 x).2 := fun x hx => by
        rcases hx with hx | hx
        · rw [hx]; show ¬ zn τ54 ≤ s9; omega
        · rw [hx]; show ¬ zn τ54 ≤ 0; omega
      have qr8 := A1'.2.1 y54_2 (by rw [T54_1]; decide) (nf _ (wo.elim (fun y => Or.inl y.1) (fun y => Or.inr y.1)))
      have qo8 := A1'.2.1 a0 (by rw [T54_0]; decide) (nf _ (Or.inl (by rw [Ob.2.1]; exact ho)))
      have t18 : zT κ_18 (zn τ54 + 1) = 8 := by rw [A3' _ (by omega)]; exact tt
      have b18 : zT κ_18 (zn τ54 + 1 + 2) = 8 := by rw [A3' _ (by omega)]; exact tb
      have i18 : nuI κ_18 (zn τ54 + 1) 20 := by
        have q := nuI_mono (show 11 ≤ 20 by decide) it
        rw [hκ_18]
        exact q
      have j18 : nuI κ_18 (zn τ54 + 1 + 2) 20 := by
        have q := nuI_mono (show 11 ≤ 20 by decide) ib
        rw [hκ_18]
        exact q
      have rt18 : zR κ_18 raTop (zn τ54) = zn τ54 + 1 := by rw [hκ_18]; exact rt
      have rb18 : zR κ_18 raBottom (zn τ54) = zn τ54 + 1 + 2 := by rw [hκ_18]; exact rb
      have cp := cap_v (r := b9 + 8 * x23_3.toNatClampNeg) (by omega) (by omega)
      have N18 : nmI (fun x => if x = zn τ54 then b9 + 8 * x23_3.toNatClampNeg else if x = zn τ54 + 1 then b9 + 8 * x23_3.toNatClampNeg + 1 else if x = zn τ54 + 1 + 2 then b9 + 8 * x23_3.toNatClampNeg + 2 else ρb x) κ_18 := by
        refine nm_x9 W54 Nb A1' (fun f b z => Or.inl z) (fun b hb9 => by rw [if_neg (by omega), if_neg (by omega), if_neg (by omega)]) (fun w hw hr => ?_) (fun v hv hr => ?_)
        · by_cases z1 : w = zn τ54
          · rw [if_pos z1] at hr
            exfalso
            rcases hr with q | q | q | q | q | q | q <;> omega
          · rw [if_neg z1] at hr ⊢
            by_cases z2 : w = zn τ54 + 1
            · rw [if_pos z2, cp.2.1, z2]
              exact ⟨t18, i18.1.2.1, fun _ => i18⟩
            · rw [if_neg z2] at hr ⊢
              by_cases z3 : w = zn τ54 + 1 + 2
              · rw [if_pos z3, cp.2.2, z3]
                exact ⟨b18, j18.1.2.1, fun _ => j18⟩
              · rw [if_neg z3] at hr
                exact absurd hr (nm_no9 W54 Nb hw).1
        · by_cases z1 : v = zn τ54
          · rw [z1, rt18, rb18, if_pos rfl, if_neg (by omega), if_pos rfl, if_neg (by omega), if_neg (by omega), if_pos rfl]
            exact ⟨A2', rfl, rfl⟩
          · rw [if_neg z1] at hr
            exfalso
            by_cases z2 : v = zn τ54 + 1
            · rw [if_pos z2] at hr
              rcases hr with q | q | q <;> omega
            · rw [if_neg z2] at hr
              by_cases z3 : v = zn τ54 + 1 + 2
              · rw [if_pos z3] at hr
                rcases hr with q | q | q <;> omega
              · rw [if_neg z3] at hr
                exact absurd hr (nm_no9 W54 Nb hv).2
      have S18 : soI (fun x => if x = zn τ54 then b9 + 8 * x23_3.toNatClampNeg else if x = zn τ54 + 1 then b9 + 8 * x23_3.toNatClampNeg + 1 else if x = zn τ54 + 1 + 2 then b9 + 8 * x23_3.toNatClampNeg + 2 else ρb x) κ_18 s9 := so_x9 W54 ts54 Sb A1' (fun f b z => Or.inl z) (fun b hb9 => by rw [if_neg (by omega), if_neg (by omega), if_neg (by omega)])
      have tq : ∀ (o : Nat) (j u : Nat), zT τ54 o = 25 → zQ τ54 o j = some u → u < zn τ54 ∧ u ≠ zn τ54 := fun o j u to hu => by
        have t := W54.2.2.2.2.1 _ _ _ to hu
        have l := (W54.2.1 u (by rw [t]; decide)).2
        exact ⟨l, Nat.ne_of_lt l⟩
      refine hj63 _ _ _ _ _ _ _ _ W19 ?_ ?_ ?_ ?_ ?_
      · exact A1'.t T54_0 (by decide)  -- t10
      · exact A1'.t T54_1 (by decide)  -- t11
      · exact A1'.t T54_2 (by decide)  -- t12
      · exact fun v hv => by
          rw [← Option.some.inj hv]
          exact A2'
      · refine and_5 ?_ (fun o9 => fun e => kr_h16 (hE e) W54 A1' (fun f w h z => by have := (W54.2.1 w (by rw [h]; decide)).2; omega) (fun f w h z => by have := (W54.2.1 w (by rw [h]; decide)).2; omega))  -- k14
        refine ⟨rfl, rfl, ⟨zn τ54, rfl, κb, _, Hb, fun x hx => ?_, ⟨N18, S18⟩, Zb.tr (A1'.mono (fun f b z => Or.inr (Or.inr (Or.inr (by omega))))), ⟨by rw [qr8.2.2.2]; exact Ob.1, by rw [qo8.2.2.2]; exact Ob.2.1, by rw [A1'.r (show ¬ zn τ54 ≤ s9 by omega)]; exact Ob.2.2⟩, fun j u hj hu => ?_, fun j u hj hu => ?_, fun j hj => ?_, if_pos rfl⟩, ⟨l31, l32, rfl⟩, ⟨rfl, rfl⟩, ⟨?_, ?_⟩, fun j hj => ?_⟩
        · rw [if_neg (by omega), if_neg (by omega), if_neg (by omega)]
          exact Rb x hx
        · rw [qr8.2.2.1] at hu
          have l := tq _ _ _ T54_1 hu
          rw [if_neg (by omega), if_neg (by omega), if_neg (by omega)]
          exact B1 j u hj hu
        · rw [qo8.2.2.1] at hu
          have l := tq _ _ _ T54_0 hu
          rw [if_neg (by omega), if_neg (by omega), if_neg (by omega)]
          exact B2 j u hj hu
        · obtain ⟨u, hu, hz, ht, hb9⟩ := B3 j hj
          have l := tq _ _ _ T54_1 hu
          refine ⟨u, by rw [qr8.2.2.1]; exact hu, ?_⟩
          have tu := W54.2.2.2.2.1 _ _ _ T54_1 hu
          have tt1 := ty_raTop W54 tu
          have tb1 := ty_raBottom W54 tu
          have lt1 := (W54.2.1 _ (show zT τ54 (zR τ54 raTop u) ≠ 0 by rw [tt1]; decide)).2
          have lb1 := (W54.2.1 _ (show zT τ54 (zR τ54 raBottom u) ≠ 0 by rw [tb1]; decide)).2
          rw [A1'.i (show ¬ zn τ54 ≤ u by omega), A1'.r (show ¬ zn τ54 ≤ u by omega), A1'.r (show ¬ zn τ54 ≤ u by omega), (nuB_z (c := 0) W54 tt1 A1' (show ¬ zn τ54 ≤ _ by omega) (show ¬ zn τ54 ≤ _ by omega)).2.2.1, (nuB_z (c := 0) W54 tb1 A1' (show ¬ zn τ54 ≤ _ by omega) (show ¬ zn τ54 ≤ _ by omega)).2.2.1]
          exact ⟨hz, ht, hb9⟩
        · have q0 := nk_n9 D4
          have q1 := nT_19 (t := 11) n11 (fun b hb => by rw [hκ_11]; exact if_neg (Nat.ne_of_lt hb))
          have q2 := nT_d9 (t := 11) (κ := κ_14) (τ := κ_18) (a := zn τ54) (by rw [hκ_18]; rfl) (W16.2.1 _ (by rw [ta]; decide)).2 A3'
          rw [T54_51] at q1
          rw [ta, A2'] at q2
          simp at q1 q2
          have q3 := C4.1.1
          omega
        · have q0 := nk_n9 D4
          have q1 := nT_19 (t := 8) n11 (fun b hb => by rw [hκ_11]; exact if_neg (Nat.ne_of_lt hb))
          have q2 := nT_d9 (t := 8) (κ := κ_14) (τ := κ_18) (a := zn τ54) (by rw [hκ_18]; rfl) (W16.2.1 _ (by rw [ta]; decide)).2 A3'
          rw [T54_51] at q1
          rw [ta, A2'] at q2
          simp at q1 q2
          have q3 := C4.1.2
          omega
        · rw [qo8.2.2.1]
          exact C4.2 j hj
    refine ⟨fun c20 => ?_, fun c20 => ?_⟩
    · skip
      refine h _ _ ?_
      · refine and_5 ?_ (fun o9 => hE)  -- q15
        rw [lei] at c20
        have e : x23_3.toNatClampNeg = a1.toNatClampNeg := by omega
        rw [e] at J1 C1
        exact ⟨J1, C1⟩
    · skip
      refine ⟨fun c21 => ?_, fun c21 => ?_⟩
      · skip
        refine h _ _ ?_
        · refine and_5 ?_ (fun o9 => hE)  -- q16
          rw [lei] at c20
          rw [lei, tN _ La.2.1] at c21
          omega
      · skip
        refine ⟨fun c22 => ?_, fun c22 => ?_⟩
        · skip
          refine hj54 _ _ _ _ _ _ _ W23 ?_ ?_ ?_ ?_
          · assumption  -- t17
          · assumption  -- t18
          · assumption  -- t19
          · refine and_5 ?_ (fun o9 => hE)  -- k20
            rw [lei] at c20
            rw [lei, tN _ (by omega)] at c22
            exact ⟨rfl, rfl, J1, ⟨l1, by omega, rfl⟩, ⟨rfl, rfl⟩, C1, Or.inl (by omega)⟩
        · skip
          refine ⟨?_, ?_⟩
          · rw [lei] at c20
            rw [lei, tN _ (by omega)] at c22
            rw [inb_iff]; omega
          refine ⟨fun c23 => ?_, fun uc23 c23 => ?_⟩
          · skip
            refine hj54 _ _ _ _ _ _ _ W23 ?_ ?_ ?_ ?_
            · assumption  -- t22
            · assumption  -- t23
            · assumption  -- t24
            · refine and_5 ?_ (fun o9 => hE)  -- k25
              rw [lei] at c20
              exact ⟨rfl, rfl, J1, ⟨l1, by omega, rfl⟩, ⟨rfl, rfl⟩, C1, Or.inr (by rw [← C1.2 _ (Nat.le_refl _)]; exact c23)⟩
          · skip
            refine ⟨?_, ?_⟩
            · rw [lei, tN _ (by omega)] at c22
              rw [inb_iff]; omega
            refine hj63 _ _ _ _ _ _ _ _ W23 ?_ ?_ ?_ ?_ ?_
            · assumption  -- t27
            · assumption  -- t28
            · assumption  -- t29
            · exact fun v hv => W23.2.2.2.2.1 _ _ _ T23_0 hv  -- t30
            · refine and_5 ?_ (fun o9 => hE)  -- k31
              rw [lei] at c20
              exact ⟨rfl, rfl, ⟨uc23, c23, κa, ρa, Ha, Ra, Na, Za, Oa, A1, A2, A3, A2 _ _ (by omega) c23⟩, ⟨l1, by omega, rfl⟩, ⟨rfl, rfl⟩, ⟨by have q := C1.1.1; have q2 := nk_s9 (κ := κ) (o := a0) (k := x23_3.toNatClampNeg); omega, by have q := C1.1.2; have q2 := nk_s9 (κ := κ) (o := a0) (k := x23_3.toNatClampNeg); omega⟩, C1.2⟩
  refine ⟨fun c24 => ?_, fun c24 => ?_⟩
  · skip
    refine hh23 _ _ _ _ _ W (by assumption) (by assumption) ?_
    · refine and_5 ?_ (fun o9 => fun _ => kr_r16)  -- j32
      rw [lei, ofn_i (by omega)] at c24
      exact ⟨rfl, rfl, ⟨κ, ρ, Or.inl ⟨rfl, rfl, c24⟩, fun _ _ => rfl, ⟨N0, S0⟩, zF.rf, ⟨rfl, rfl, rfl⟩, p4, p4, fun j hj => absurd hj (Nat.not_lt_zero j), trivial⟩, by decide, by rw [t0i]; exact p6.1, ⟨Nat.le_of_eq (congrArg (nT9 11 κ + ·) frC_09), Nat.le_of_eq (congrArg (nT9 8 κ + 2 * ·) frC_09)⟩, fun _ _ => rfl⟩
  · skip
    refine ⟨?_, ?_⟩
    · have v := frN9_v p6
      unfold frN9 at v
      have t2 : (2 : Int32).toInt = 2 := rfl
      have t1 : (1000 : Int32).toInt = 1000 := rfl
      have m : ((2 : Int32) * a1).toInt = 2 * a1.toInt := by
        have q := mul_i (x := 2) (y := a1) (by rw [t2]; omega) (by rw [t2]; omega)
        rw [t2] at q
        exact q
      refine ⟨?_, by omega⟩
      split
      · decide
      · rw [lei, t0i, m]; omega
    intro κ_25 hκ_25
    intro W26
    intro x27 hx27
    rw [lei, ofn_i (by omega)] at c24
    have Ta25 : zT κ_25 a0 = 25 := by rw [hκ_25]; exact (if_neg (Nat.ne_of_lt lo)).trans Ta0
    have Tn25 : zT κ_25 x27 = 25 := by rw [hκ_25, hx27]; exact if_pos rfl
    refine hh23 _ _ _ _ _ W26 (by assumption) (by assumption) ?_
    · refine and_5 ?_ (fun o9 => fun _ => kr_n16 W hκ_25)  -- j34
      refine ⟨rfl, rfl, ⟨κ_25, ρ, Or.inr ⟨hx27, hκ_25, by omega⟩, fun _ _ => rfl, ⟨nm_na9 W N0 hκ_25, so_na9 W hs S0 hκ_25⟩, zF.rf, ⟨rfl, ?_, by rw [hκ_25]; rfl⟩, fun j u _ hu => ?_, fun j u hj hu => ?_, fun j hj => absurd hj (Nat.not_lt_zero j), trivial⟩, by decide, by rw [t0i]; exact p6.1, ⟨?_, ?_⟩, fun j hj => ?_⟩
      · rw [hκ_25]; exact if_neg (Nat.ne_of_lt lo)
      · exfalso
        rw [hκ_25, hx27] at hu
        have e : zQ (na κ 25 (if (1000 : Int32) < (2 : Int32) * a1 then (1000 : Int32) else (2 : Int32) * a1).toNatClampNeg) (zn κ) j = none := by
          show (if zn κ = zn κ then fun _ => none else _) j = none
          rw [if_pos rfl]
        rw [e] at hu
        cases hu
      · have e : zQ κ_25 a0 = zQ κ a0 := by rw [hκ_25]; exact if_neg (Nat.ne_of_lt lo)
        rw [e] at hu
        exact p4 j u hj hu
      · have q1 := nT_19 (t := 11) (κ := κ) (τ := κ_25) (by rw [hκ_25]; rfl) (fun b hb => by rw [hκ_25]; exact if_neg (Nat.ne_of_lt hb))
        have q2 : zT κ_25 (zn κ) = 25 := by rw [hκ_25]; exact if_pos rfl
        rw [q2] at q1
        simp at q1
        show nT9 11 κ_25 + nk9 κ a0 0 ≤ nT9 11 κ + 0
        rw [frC_09, q1]
        exact Nat.le_refl _
      · have q1 := nT_19 (t := 8) (κ := κ) (τ := κ_25) (by rw [hκ_25]; rfl) (fun b hb => by rw [hκ_25]; exact if_neg (Nat.ne_of_lt hb))
        have q2 : zT κ_25 (zn κ) = 25 := by rw [hκ_25]; exact if_pos rfl
        rw [q2] at q1
        simp at q1
        show nT9 8 κ_25 + 2 * nk9 κ a0 0 ≤ nT9 8 κ + 2 * 0
        rw [frC_09, q1]
        exact Nat.le_refl _
      · rw [hκ_25]
        exact congrFun (if_neg (Nat.ne_of_lt lo)) j

end
section
set_option maxHeartbeats 1600000
/-! visits are found: worths and what is shown stay -/
theorem So_findVisitz_q16 {C : zC} {n0 : Nat} {a0 : Nat} {κ : zS} {Q : Int32 → zS → Prop} (W : zW C n0 κ) (Ta0 : zT κ a0 = 12) (ρ : Nat → Nat) (n9 : Nat) (σ9 : rS) (hT9 : tbl15 κ (zR κ soAtlas a0) n9 σ9) (hp : soR9 ρ κ a0 ∧ ((weU κ (zR κ soWeb a0) ∨ weM κ (zR κ soWeb a0)) ∧ weL κ (zR κ soWeb a0)) ∧ atW κ (zR κ soAtlas a0) n9) (h : ∀ (v : Int32) (κ' : zS), ((fvP9 ρ κ κ' a0 n9) ∧ (fX15 κ' a0 n9 σ9 v ∧ kr16 ρ κ κ' ∧ (v = 0 ↔ zI κ' soSolved a0 ≠ 0))) → Q v κ') : zRun C 8 mSo_findVisits [.ref a0] κ (oI Q noX) := by
  refine So_findVisitz_run W Ta0 ?_
  replace W := W.lo (Nat.le_trans W.1.2.1 W.1.2.2) (Nat.le_refl (zn κ))
  unfold w_So_findVisitz_0
  obtain ⟨S0, ⟨U0, L0⟩, A0⟩ := hp
  have tw := ty_soWeb W Ta0
  have tb := ty_soAtlas W Ta0
  have hj129 : ∀ (l0 : Nat) (τ : zS), zW C (zn κ) τ → zT τ l0 = 12 → ((a0 = l0 ∧ ∃ ρ', fvJ9 ρ κ τ a0 n9 ρ' ∧ vsI9 ρ' τ a0 n9 1) ∧ (wg15 τ a0 n9 σ9 ∧ ∀ k, k < n9 → rqW8 τ (vU9 τ a0 k) 0) ∧ kr16 ρ κ τ) → w_So_findVisitz_129 C (zn κ) Q  l0 τ := by
    rintro _ τ129 W129 T129_0 ⟨⟨rfl, j129⟩, hE⟩
    unfold w_So_findVisitz_129
    intro x1 hx1
    obtain ⟨ρ1, J1, V1⟩ := j129
    have X1 := J1.2.2.2.1
    have kK := X1.2.1.1
    have hn := X1.1.2.1.2
    have hx : x1.toInt = (zI τ129 weKnots (zR τ129 soWeb a0)).toInt - 1 := by
      rw [hx1]
      have q := sub_i (x := zI τ129 weKnots (zR τ129 soWeb a0)) (y := 1) (by rw [t1i]; omega) (by rw [t1i]; omega)
      rw [t1i] at q
      exact q
    unfold w_So_findVisitz_139
    refine ⟨fun n l0 l1 τ => n = (l1.toInt + 1).toNat ∧ ((a0 = l0 ∧ (∃ ρ' P, fvJ9 ρ κ τ a0 n9 ρ' ∧ vsI9 ρ' τ a0 n9 P ∧ 0 < P ∧ P ≤ pD9 (2 * (n9 - ((zA τ (zR τ weKnotFirsts (zR τ soWeb a0)) (l1.toInt + 1).toNat).toInt).toNat))) ∧ -1 ≤ l1.toInt ∧ l1.toInt < (zI τ weKnots (zR τ soWeb a0)).toInt) ∧ (wg15 τ a0 n9 σ9 ∧ fO15 τ a0 n9 σ9 (fun k => cnE σ9 k ∧ l1.toInt < (kO15 τ a0 k).toInt)) ∧ kr16 ρ κ τ), ⟨_, rfl, ?_⟩, ?_⟩
    · refine and_5 ?_ (fun o9 => ?_)  -- j1
      · exact ⟨rfl, ⟨ρ1, 1, J1, V1, by decide, pD9_p⟩, by omega, by omega⟩
      · obtain ⟨hE, hk9⟩ := hE
        refine ⟨⟨hE.1, fun _ => 0, fun k hk => ⟨hE.2 k hk, Rat.le_refl⟩, ⟨fun _ _ _ => rfl, fun j hj s => ?_, fun k j hk hj s _ => ?_⟩, fun _ _ => f2_015⟩, hk9⟩
        · have K := kK_15 X1.2.1 hE.1
          have l := ko_88 K hj
          have l : (kO15 τ129 a0 j).toNatClampNeg < (zI τ129 weKnots (zR τ129 soWeb a0)).toInt.toNat := l
          have s2 := s.2
          rw [hx] at s2
          have c := cnk (x := kO15 τ129 a0 j) (by omega)
          omega
        · have K := kK_15 X1.2.1 hE.1
          have l := ko_88 K hj
          have l : (kO15 τ129 a0 j).toNatClampNeg < (zI τ129 weKnots (zR τ129 soWeb a0)).toInt.toNat := l
          have s2 := s.2
          rw [hx] at s2
          have c := cnk (x := kO15 τ129 a0 j) (by omega)
          omega
    rintro n139 _ x139_1 κ139 W139 T139_0 ⟨hn139, ⟨rfl, i139⟩, hE⟩
    obtain ⟨⟨ρ1, P1, J1, V1, P10, P11⟩, l11, l12⟩ := i139
    have X1 := J1.2.2.2.1
    have hn := X1.1.2.1.2
    have wM := X1.1.1.1
    have kK := X1.2.1.1
    have PB : P1 < pB9 1490 := pD9_b P11 (by omega)
    have hj214 : ∀ (l0 : Nat) (l1 : Int32) (l2 : Int32) (τ : zS), zW C (zn κ) τ → zT τ l0 = 12 → ((a0 = l0 ∧ ((l2 ≠ 0 → ∃ ρ' P, fvJ9 ρ κ τ a0 n9 ρ' ∧ vsI9 ρ' τ a0 n9 P ∧ 0 < P ∧ P ≤ pD9 (2 * (n9 - ((zA τ (zR τ weKnotFirsts (zR τ soWeb a0)) l1.toNatClampNeg).toInt).toNat))) ∧ (l2 = 0 → ∃ ρ', fvJ9 ρ κ τ a0 n9 ρ') ∧ zI τ weKnots (zR τ soWeb a0) = zI κ139 weKnots (zR κ139 soWeb a0)) ∧ 0 ≤ l1.toInt ∧ x139_1 = l1) ∧ (wg15 τ a0 n9 σ9 ∧ (l2 ≠ 0 → fO15 τ a0 n9 σ9 (fun k => cnE σ9 k ∧ l1.toInt ≤ (kO15 τ a0 k).toInt)) ∧ (l2 = 0 → ¬ bg15 σ9 ∧ fN15 n9 σ9)) ∧ kr16 ρ κ τ) → w_So_findVisitz_214 C (zn κ) Q (fun (l0' : Nat) (l1' : Int32) (τ : zS) => ∃ k < n139, (fun (n : Nat) (l0 : Nat) (l1 : Int32) (τ : zS) => n = (l1.toInt + 1).toNat ∧ ((a0 = l0 ∧ (∃ ρ' P, fvJ9 ρ κ τ a0 n9 ρ' ∧ vsI9 ρ' τ a0 n9 P ∧ 0 < P ∧ P ≤ pD9 (2 * (n9 - ((zA τ (zR τ weKnotFirsts (zR τ soWeb a0)) (l1.toInt + 1).toNat).toInt).toNat))) ∧ -1 ≤ l1.toInt ∧ l1.toInt < (zI τ weKnots (zR τ soWeb a0)).toInt) ∧ (wg15 τ a0 n9 σ9 ∧ fO15 τ a0 n9 σ9 (fun k => cnE σ9 k ∧ l1.toInt < (kO15 τ a0 k).toInt)) ∧ kr16 ρ κ τ)) k l0' l1' τ) l0 l1 l2 τ := by
      rintro _ y214_1 y214_2 τ214 W214 T214_0 ⟨⟨rfl, j214⟩, hE⟩
      unfold w_So_findVisitz_214
      obtain ⟨⟨k1, k2, k3⟩, l31, l33⟩ := j214
      subst l33
      have hm := dd_9 l31 hn139
      refine ⟨fun c2 => ?_, fun c2 => ?_⟩
      · skip
        intro x3 hx3
        refine lp_b5 ?_ (fun d9 => ⟨rfl, ?_⟩)
        · rw [hx3]; exact hm.1  -- d2
        · refine and_5 ?_ (fun o9 => ?_)  -- i3
          · obtain ⟨ρ2, P2, J2, V2, P20, P21⟩ := k1 c2
            refine ⟨rfl, ⟨ρ2, P2, J2, V2, P20, ?_⟩, by rw [hx3]; exact hm.2.1, by rw [hx3, k3]; exact Int.lt_trans hm.2.2.2 l12⟩
            rw [hx3, hm.2.2.1]
            exact P21
          · obtain ⟨⟨g1, g2, g3⟩, hk9⟩ := hE
            obtain ⟨V, v1, v2, v3⟩ := g2 c2
            refine ⟨⟨g1, V, v1, vE_c15 v2 (fun k hk => ?_) (fun _ _ => rfl), v3⟩, hk9⟩
            have e : x3.toInt = x139_1.toInt - 1 := by rw [hx3]; exact dm_9 l31
            rw [e]
            exact ⟨fun z => ⟨z.1, by omega⟩, fun z => ⟨z.1, by omega⟩⟩
      · skip
        refine h _ _ ?_
        · refine and_5 ?_ (fun o9 => ?_)  -- q4
          · obtain ⟨ρ2, J2⟩ := k2 c2
            exact fv_p9 J2
          · have z := hE.1.2.2 c2
            have sl9 := Exists.elim (k2 c2) (fun ρ2 J2 => J2.2.2.2.2.2.2.1)
            exact ⟨Or.inr (Or.inl ⟨rfl, z.1, z.2⟩), hE.2, fun z => absurd z (by decide), fun z => absurd sl9 z⟩
    refine ⟨fun c4 => ?_, fun c4 => ?_⟩
    · skip
      intro κ_5 hκ_5
      intro W6
      refine h _ _ ?_
      · refine and_5 ?_ (fun o9 => ?_)  -- q5
        · obtain ⟨j1, j2, j3, j4, j5, j6, j7, j8, j9, j10, j11⟩ := J1
          have F5 : zF (fvF9 ρ κ a0) κ139 κ_5 := by
            rw [hκ_5]
            exact zF_ui (Or.inr (Or.inr (Or.inl ⟨rfl, Or.inl rfl⟩)))
          have Zs : zF (fun f b => f = soSolved ∧ b = a0) κ139 κ_5 := by
            rw [hκ_5]
            exact zF_ui ⟨rfl, rfl⟩
          have nt : ∀ (t f w : Nat), zT κ139 w = t → t ≠ 12 → ¬ (f = soSolved ∧ w = a0) := fun t f w ht h12 z => by
            rw [z.2, T139_0] at ht
            exact h12 ht.symm
          have R5 := rs_h9 W139 T139_0 j3 Zs (fun f w h => nt 8 f w h (by decide)) (fun f w h => nt 11 f w h (by decide)) (fun f w h => nt 4 f w h (by decide)) (fun f h1 _ z => h1 z.1)
          have er : zR κ_5 = zR κ139 := by rw [hκ_5]; rfl
          have eA : zA κ_5 = zA κ139 := by rw [hκ_5]; rfl
          have eN : zN κ_5 = zN κ139 := by rw [hκ_5]; rfl
          have eQ : zQ κ_5 = zQ κ139 := by rw [hκ_5]; rfl
          have V5 : frV9 (zn κ139) (fun f b => f = soSolved ∧ b = a0) := fun f b z => by
            rw [z.1]
            exact Or.inr (Or.inr (Or.inr (Or.inr (Or.inl (by decide)))))
          have tb1 := ty_soAtlas W139 T139_0
          have A5 := atW_v9 W139 V5 Zs tb1 X1.2.2.1
          refine ⟨ρ1, j1, j2.tr F5, R5.1, by rw [← j8]; exact A5, ?_, ⟨by rw [er]; exact j8, by rw [er]; exact j9, by rw [er]; exact j10⟩, fun _ => ⟨P1, fun k hk => ?_, ⟨P10, PB⟩, by rw [er, eN]; exact X1.2.2.2⟩, j11.tr (zK_z9 W139 T139_0 Zs (fun b _ z => absurd z.1 (by decide)) (fun z => absurd z.1 (by decide)) (fun z => absurd z.1 (by decide)) (fun z => absurd z.1 (by decide)))⟩
          · have q := X1.1.1
            rw [j9] at q
            unfold weM weL
            rw [er, eN]
            exact q
          · have q := V1 k hk
            have vu : vU9 κ_5 a0 k = vU9 κ139 a0 k := by unfold vU9; rw [er, eQ]
            have sg : ∀ u, zI κ_5 raSign u = zI κ139 raSign u := fun u => by rw [hκ_5]; rfl
            have nn : ∀ u, nuN κ_5 u = nuN κ139 u := fun u => by
              unfold nuN
              rw [er, eA]
              have l : zI κ_5 nuLength u = zI κ139 nuLength u := by rw [hκ_5]; rfl
              rw [l]
            unfold vsK9 dvN9 dvA at q ⊢
            rw [vu, er, eQ, eA, sg, nn, nn]
            exact q
        · obtain ⟨⟨Wg, V, v1, v2, v3⟩, hk9⟩ := hE
          have Zs5 : zF (fun f b => f = soSolved ∧ b = a0) κ139 κ_5 := by
            rw [hκ_5]
            exact zF_ui ⟨rfl, rfl⟩
          have nt5 : ∀ (t f w : Nat), zT κ139 w = t → t ≠ 12 → ¬ (f = soSolved ∧ w = a0) := fun t f w ht h12 z => by
            rw [z.2, T139_0] at ht
            exact h12 ht.symm
          have kr5 := kr_h16 hk9 W139 Zs5 (fun f w h => nt5 8 f w h (by decide)) (fun f w h => nt5 11 f w h (by decide))
          have eq9 : ∀ k q, rqW8 κ139 (vU9 κ139 a0 k) q → rqW8 κ_5 (vU9 κ_5 a0 k) q := fun k q z => by
            have er : zR κ_5 = zR κ139 := by rw [hκ_5]; rfl
            have eA : zA κ_5 = zA κ139 := by rw [hκ_5]; rfl
            have eQ : zQ κ_5 = zQ κ139 := by rw [hκ_5]; rfl
            have vu : vU9 κ_5 a0 k = vU9 κ139 a0 k := by unfold vU9; rw [er, eQ]
            have sg : ∀ u, zI κ_5 raSign u = zI κ139 raSign u := fun u => by rw [hκ_5]; rfl
            have nn : ∀ u, nuN κ_5 u = nuN κ139 u := fun u => by
              unfold nuN
              rw [er, eA]
              have l : zI κ_5 nuLength u = zI κ139 nuLength u := by rw [hκ_5]; rfl
              rw [l]
            rw [vu]
            unfold rqW8
            rw [sg, er, nn, nn]
            exact z
          rw [lti, t0i] at c4
          refine ⟨Or.inl ⟨rfl, bg_n15 X1.2.1 Wg J1.2.2.2.2.2.1, V, fun k hk => ⟨eq9 k _ (v1 k hk).1, (v1 k hk).2⟩, vE_c15 v2 (fun k hk => ⟨fun z => z.1, fun z => ⟨z, ?_⟩⟩) (fun _ _ => rfl), v3⟩, kr5, fun _ => by rw [hκ_5]; show (if _ then _ else _) ≠ _; rw [if_pos ⟨rfl, rfl⟩]; decide, fun _ => rfl⟩
          obtain ⟨i, i1, i2⟩ := X1.2.1.2.2.2 k hk
          have q := (X1.2.1.2.2.1 i i1).2.1.1
          rw [i2] at q
          have q : 0 ≤ (kO15 κ139 a0 k).toInt := q
          omega
    · skip
      rw [lti, t0i] at c4
      have kl := cnk (x := x139_1) (by omega)
      have kA := X1.2.1.2.1 x139_1.toNatClampNeg (by omega)
      have kO := (X1.2.1.2.2.1 ((zA κ139 (zR κ139 weKnotFirsts (zR κ139 soWeb a0)) x139_1.toNatClampNeg).toInt).toNat (by omega)).1
      have kf := cnk kA.1
      have e26 : ((zA κ139 (zR κ139 weKnotFirsts (zR κ139 soWeb a0)) x139_1.toNatClampNeg).toInt).toNat = (zA κ139 (zR κ139 weKnotFirsts (zR κ139 soWeb a0)) x139_1.toNatClampNeg).toNatClampNeg := by omega
      rw [e26] at kO
      have ko := cnk kO.1
      rw [show (x139_1.toInt + 1).toNat = x139_1.toNatClampNeg + 1 by omega] at P11
      obtain ⟨⟨Wg, V9, hV9, hE9, hF9⟩, hk9⟩ := hE
      have f9 : ((zA κ139 (zR κ139 weKnotFirsts (zR κ139 soWeb a0)) x139_1.toNatClampNeg).toInt).toNat = (zA κ139 (zR κ139 weKnotFirsts (zR κ139 soWeb a0)) x139_1.toNatClampNeg).toNatClampNeg := e26
      have kn9 := kn_15 X1 (c := x139_1.toNatClampNeg) (f := ((zA κ139 (zR κ139 weKnotFirsts (zR κ139 soWeb a0)) x139_1.toNatClampNeg).toInt).toNat) (m := ((zA κ139 (zR κ139 weKnotFirsts (zR κ139 soWeb a0)) (x139_1.toNatClampNeg + 1)).toInt).toNat - ((zA κ139 (zR κ139 weKnotFirsts (zR κ139 soWeb a0)) x139_1.toNatClampNeg).toInt).toNat) (by omega) (by omega) (by omega)
      have hd9 := kn9.2.1 0 kn9.1.2
      rw [Nat.add_zero, f9] at hd9
      have lc : x139_1.toInt = (x139_1.toNatClampNeg : Int) := by omega
      have mz9 : ∀ s, s < n9 → (kO15 κ139 a0 s).toInt = (x139_1.toNatClampNeg : Int) → V9 s = 0 := fun s hs e => hE9.1 s hs (fun z => by omega)
      have op9 : ∀ k, k < n9 → (kO15 κ139 a0 k).toInt = (x139_1.toNatClampNeg : Int) → zA κ139 (zR κ139 weOpen (zR κ139 soWeb a0)) (od15 κ139 a0 (zA κ139 (zR κ139 weKnotFirsts (zR κ139 soWeb a0)) x139_1.toNatClampNeg).toNatClampNeg) ≠ 0 → cnE σ9 k := fun k hk e z => wg_k15 Wg hk hd9.1 (Int32.toInt.inj (e.trans hd9.2.symm)) ((Wg.2.1 _ hd9.1).mp z)
      have ng9 : ¬ bg15 σ9 := bg_n15 X1.2.1 Wg J1.2.2.2.2.2.1
      refine ⟨?_, ?_⟩
      · rw [inb_iff, wM.2.2.2.1]; omega  -- b6
      refine ⟨?_, ?_⟩
      · rw [inb_iff, wM.2.2.2.2.2.1]; omega  -- b7
      refine ⟨?_, ?_⟩
      · rw [inb_iff, wM.2.2.1]; omega  -- b8
      refine ⟨fun c7 => ?_, fun c7 => ?_⟩
      · skip
        refine hj214 _ _ _ _ W139 ?_ ?_
        · exact T139_0  -- t9
        · refine and_5 ?_ (fun o9 => ?_)  -- k10
          · refine ⟨rfl, ⟨fun _ => ⟨ρ1, P1, J1, V1, P10, Nat.le_trans P11 (pD9_l (by omega))⟩, fun z => absurd z (by decide), rfl⟩, by omega, rfl⟩
          · refine ⟨⟨Wg, fun _ => ⟨V9, hV9, ?_, hF9⟩, fun z => absurd z (by decide)⟩, hk9⟩
            have no : ∀ k, k < n9 → (kO15 κ139 a0 k).toInt = (x139_1.toNatClampNeg : Int) → ¬ cnE σ9 k := fun k hk e z => by
              have y := wg_k15 Wg hd9.1 hk (Int32.toInt.inj (hd9.2.trans e.symm)) z
              exact (Wg.2.1 _ hd9.1).mpr y c7
            rw [lc] at hE9 ⊢
            exact vs_n15 hE9 no
      · skip
        intro T8
        refine We_isRing_q6 W139 T8 n9 ?_ (fun r9 q11 => ?_)
        · exact ⟨wM, hn, X1.2.1, ⟨by omega, l12⟩, X1.1.2.2.1, X1.1.1.2.2.2⟩  -- p11
        obtain ⟨q11, z9⟩ := q11
        have zi := z9
        intro W12
        intro M13
        refine ⟨fun c14 => ?_, fun c14 => ?_⟩
        · skip
          refine ⟨?_, ?_⟩
          · rw [inb_iff, wM.2.2.2.1]; omega  -- b12
          refine ⟨?_, ?_⟩
          · rw [inb_iff, wM.2.2.2.2.2.1]; omega  -- b13
          intro T15
          refine So_visitOne_q16 W12 T15 ρ1 n9 P1 V9 hV9 (mz9 _ hd9.1 hd9.2) (fun s hs y => mz9 s hs ((congrArg Int32.toInt y).trans hd9.2)) (fun b h1 h2 => bW_p15 X1 Wg.1.1 Wg.1.2 hd9.1 h1 h2) ?_ (fun r16 κ_17 q18 => ?_)
          · exact ⟨J1.2.2.1.1, X1, V1, kO, ⟨P10, Nat.lt_of_lt_of_le PB (pB9_l (by decide))⟩, J1.2.2.1.2.2.2.2.2.2⟩  -- p14
          obtain ⟨q18, z9⟩ := q18
          have zo := z9
          intro W19
          intro M20
          obtain ⟨nbv, ⟨Zv, Nv, Sv⟩, lv, kv⟩ := q18
          have R1 := J1.2.2.1
          have Ev : rgE9 (fun _ => True) ρ1 κ139 κ_17 a0 ρ1 := rg_so9 W139 T139_0 R1.2.1 R1.2.2.1 Zv (fun _ _ => trivial) ⟨Nv, Sv⟩
          have Jv := fv_s9 W139 T139_0 J1 Ev (Nat.lt_of_le_of_lt lv R1.2.2.2.2.2.2) (soF_r9 Zv (by decide)).1
          have wv := rg_w9 W139 T139_0 Ev X1
          have T17 : zT κ_17 a0 = 12 := Zv.t T139_0 (by decide)
          refine hj214 _ _ _ _ W19 ?_ ?_
          · exact T17  -- t15
          · refine and_5 ?_ (fun o9 => ?_)  -- k16
            · refine ⟨rfl, ⟨fun z => ⟨ρ1, P1 * dvN9 κ139 (zR κ139 soAtlas a0) (zA κ139 (zR κ139 weOrder (zR κ139 soWeb a0)) (zA κ139 (zR κ139 weKnotFirsts (zR κ139 soWeb a0)) x139_1.toNatClampNeg).toNatClampNeg).toNatClampNeg, Jv, fun k hk => ?_, Nat.mul_pos P10 dvN9_p, ?_⟩, fun _ => ⟨ρ1, Jv⟩, wv.2.2.2.1⟩, by omega, rfl⟩
              · obtain ⟨q1, q2, q3⟩ := V1 k hk
                obtain ⟨e3, e4⟩ := vU9_f W139 T139_0 Zv
                have ea : zR κ_17 soAtlas a0 = zR κ139 soAtlas a0 := (soF_r9 Zv (by decide)).1
                have dd := dvA_f9 W139 soF_fr Zv (ty_soAtlas W139 T139_0) k
                have dN : dvN9 κ_17 (zR κ139 soAtlas a0) k = dvN9 κ139 (zR κ139 soAtlas a0) k := by unfold dvN9; rw [dd]
                rw [e3, e4, ea, dN]
                refine ⟨q1, q2, ?_⟩
                by_cases y : k = (zA κ139 (zR κ139 weOrder (zR κ139 soWeb a0)) (zA κ139 (zR κ139 weKnotFirsts (zR κ139 soWeb a0)) x139_1.toNatClampNeg).toNatClampNeg).toNatClampNeg
                · rw [y]
                  exact kv z
                · refine vsK9_m (Nat.dvd_mul_right _ _) (vsK9_f W139 R1.1.1 Zv q2 (vs_r9 (by omega)) ⟨by unfold voS16; omega, by unfold voS16; omega, by unfold voS16; omega⟩ q3)
              · have d9 : dvN9 κ139 (zR κ139 soAtlas a0) (zA κ139 (zR κ139 weOrder (zR κ139 soWeb a0)) (zA κ139 (zR κ139 weKnotFirsts (zR κ139 soWeb a0)) x139_1.toNatClampNeg).toNatClampNeg).toNatClampNeg ≤ 8000000 := by
                  have d := dv_9 X1 (k := (zA κ139 (zR κ139 weOrder (zR κ139 soWeb a0)) (zA κ139 (zR κ139 weKnotFirsts (zR κ139 soWeb a0)) x139_1.toNatClampNeg).toNatClampNeg).toNatClampNeg) (by omega)
                  unfold dvN9
                  split <;> omega
                refine Nat.le_trans (Nat.mul_le_mul P11 d9) ?_
                rw [pD9_s, wv.2.2.1]
                exact pD9_l (by omega)
            · have B := bx_f15 W139 T139_0 Zv X1
              have Wg2 := wg_f15 W139 T139_0 soF_fr Zv X1 Wg
              have K0 := kO.1
              have ir := ir_15 X1 Wg (c := x139_1.toNatClampNeg) (f := ((zA κ139 (zR κ139 weKnotFirsts (zR κ139 soWeb a0)) x139_1.toNatClampNeg).toInt).toNat) (m := ((zA κ139 (zR κ139 weKnotFirsts (zR κ139 soWeb a0)) (x139_1.toNatClampNeg + 1)).toInt).toNat - ((zA κ139 (zR κ139 weKnotFirsts (zR κ139 soWeb a0)) x139_1.toNatClampNeg).toInt).toNat) (by omega) (by omega) (by omega) (fun z => zi.mpr z c14)
              rw [f9] at ir
              have one : ∀ k, k < n9 → (kO15 κ139 a0 k).toInt = (x139_1.toNatClampNeg : Int) → k = od15 κ139 a0 (zA κ139 (zR κ139 weKnotFirsts (zR κ139 soWeb a0)) x139_1.toNatClampNeg).toNatClampNeg := fun k hk e => by
                obtain ⟨j, j1, j2⟩ := kn9.2.2.2 k hk e
                rw [f9] at j1 j2
                rw [ir.1] at j1
                rw [← j2, show j = 0 by omega, Nat.add_zero]
              have V' : vE15 (pR15 σ9 n9) n9 (fun k => cnE σ9 k ∧ (x139_1.toNatClampNeg : Int) ≤ (kO15 κ139 a0 k).toInt) (fun k => if k = od15 κ139 a0 (zA κ139 (zR κ139 weKnotFirsts (zR κ139 soWeb a0)) x139_1.toNatClampNeg).toNatClampNeg then in15 κ139 a0 V9 (zA κ139 (zR κ139 weOrder (zR κ139 soWeb a0)) (zA κ139 (zR κ139 weKnotFirsts (zR κ139 soWeb a0)) x139_1.toNatClampNeg).toNatClampNeg) else V9 k) := by
                rw [lc] at hE9
                refine vs_15 Wg hE9 (fun k hk e => op9 k hk e c7) (fun k hk ne => if_neg (fun z => ne (by rw [z]; exact hd9.2))) (fun j hj e => ?_)
                rw [one j hj e, if_pos rfl]
                exact vo_15 X1 Wg K0 hd9.1 (mz9 _ hd9.1 hd9.2) ir.2
              have n0 := in_n15 (V := V9) (k := zA κ139 (zR κ139 weOrder (zR κ139 soWeb a0)) (zA κ139 (zR κ139 weKnotFirsts (zR κ139 soWeb a0)) x139_1.toNatClampNeg).toNatClampNeg) X1 hd9.1 (fun s hs => (hV9 s hs).2)
              have u17 := (vU9_f W139 T139_0 Zv).2
              refine ⟨⟨Wg2, fun z => ⟨_, fun k hk => ?_, vE_c15 V' (fun k hk => ?_) (fun _ _ => rfl), fun k hk => ?_⟩, fun z => ⟨ng9, _, _, V', od15 κ139 a0 (zA κ139 (zR κ139 weKnotFirsts (zR κ139 soWeb a0)) x139_1.toNatClampNeg).toNatClampNeg, hd9.1, ⟨op9 _ hd9.1 hd9.2 c7, by rw [hd9.2]; exact Int.le_refl _⟩, op9 _ hd9.1 hd9.2 c7, ?_⟩⟩, kr_f16 hk9 J1.1 W139 J1.2.2.1.1.1 Zv voS16_s⟩
              · by_cases e : k = od15 κ139 a0 (zA κ139 (zR κ139 weKnotFirsts (zR κ139 soWeb a0)) x139_1.toNatClampNeg).toNatClampNeg
                · rw [if_pos e, u17, e]
                  exact ⟨zo.2 z, n0⟩
                · have e' : ¬ k = (zA κ139 (zR κ139 weOrder (zR κ139 soWeb a0)) (zA κ139 (zR κ139 weKnotFirsts (zR κ139 soWeb a0)) x139_1.toNatClampNeg).toNatClampNeg).toNatClampNeg := e
                  rw [if_neg e, u17]
                  exact ⟨rq_f15 W139 J1.2.2.1.1.1 Zv (V1 k hk).2.1 (vs_r9 (by omega)) ⟨by unfold voS16; omega, by unfold voS16; omega, by unfold voS16; omega⟩ (hV9 k hk).1, (hV9 k hk).2⟩
              · have y : kO15 κ_17 a0 k = kO15 κ139 a0 k := B.2.2.2.2.1 k
                rw [lc, y]
              · split
                · exact zo.1.mp z
                · exact hF9 k hk
              · rw [if_pos rfl]
                exact fun y => zo.1.mpr y z
        · skip
          intro T21
          refine So_visitRing_q16 W12 T21 ρ1 n9 P1 ((zA κ139 (zR κ139 weKnotFirsts (zR κ139 soWeb a0)) x139_1.toNatClampNeg).toInt).toNat (((zA κ139 (zR κ139 weKnotFirsts (zR κ139 soWeb a0)) (x139_1.toNatClampNeg + 1)).toInt).toNat - ((zA κ139 (zR κ139 weKnotFirsts (zR κ139 soWeb a0)) x139_1.toNatClampNeg).toInt).toNat) V9 hV9 (fun s hs y => mz9 s hs ((congrArg Int32.toInt y).trans hd9.2)) (fun r hr => uB_15 X1 Wg.1.1 Wg.1.2 (kn9.2.1 r hr).1) (fun j hj => Exists.elim ((wg_g15 Wg).2.2 _ (kn9.2.1 j hj).1 (op9 _ (kn9.2.1 j hj).1 (kn9.2.1 j hj).2 c7)) (fun l hl => hE_15 X1 Wg (fun r hr => (kn9.2.1 r hr).1) kn9.2.2.1 l j hj hl)) (hC_15 X1 Wg (fun r hr => (kn9.2.1 r hr).1) kn9.2.2.1 (fun i j hi hj => Int32.toInt.inj ((kn9.2.1 i hi).2.trans (kn9.2.1 j hj).2.symm)) (fun s hs i hi e => kn9.2.2.2 s hs ((congrArg Int32.toInt e).trans (kn9.2.1 i hi).2))) ?_ (fun r22 κ_23 q24 => ?_)
          · have sz := J1.2.2.2.2.2.1 x139_1.toNatClampNeg (by omega) c7
            have R1 := J1.2.2.1
            exact ⟨⟨R1.1, R1.2.1, R1.2.2.1⟩, X1, V1, J1.2.2.2.2.1, ⟨by omega, l12⟩, ⟨by omega, by omega, by omega⟩, ⟨P10, PB⟩, R1.2.2.2.2.2.2⟩
          obtain ⟨q24, z9⟩ := q24
          have zr9 := z9
          intro W25
          intro M26
          obtain ⟨nbv, ρ2, Ev, lv, er, kv⟩ := q24
          have Jv := fv_s9 W139 T139_0 J1 Ev lv er
          have wv := rg_w9 W139 T139_0 Ev X1
          have T23 : zT κ_23 a0 = 12 := Ev.2.2.2.2.t T139_0 (by decide)
          refine hj214 _ _ _ _ W25 ?_ ?_
          · exact T23  -- t18
          · refine and_5 ?_ (fun o9 => ?_)  -- k19
            · refine ⟨rfl, ⟨fun z => ?_, fun _ => ⟨ρ2, Jv⟩, wv.2.2.2.1⟩, by omega, rfl⟩
              have ex : 2 * (n9 - ((zA κ139 (zR κ139 weKnotFirsts (zR κ139 soWeb a0)) (x139_1.toNatClampNeg + 1)).toInt).toNat) + 2 * (((zA κ139 (zR κ139 weKnotFirsts (zR κ139 soWeb a0)) (x139_1.toNatClampNeg + 1)).toInt).toNat - ((zA κ139 (zR κ139 weKnotFirsts (zR κ139 soWeb a0)) x139_1.toNatClampNeg).toInt).toNat) ≤ 2 * (n9 - ((zA κ139 (zR κ139 weKnotFirsts (zR κ139 soWeb a0)) x139_1.toNatClampNeg).toInt).toNat) := by omega
              obtain ⟨Q9, ⟨q1, q2⟩, q3⟩ := kv z
              refine ⟨ρ2, P1 * Q9, Jv, q3, Nat.mul_pos P10 q1, ?_⟩
              rw [wv.2.2.1]
              refine Nat.le_trans (Nat.mul_le_mul P11 q2) ?_
              exact Nat.le_trans (Nat.le_of_eq pD9_a) (pD9_l ex)
            · have B := bx_g15 W139 T139_0 rgF9_fr Ev.2.2.2.2 X1
              have Wg2 := wg_f15 W139 T139_0 rgF9_fr Ev.2.2.2.2 X1 Wg
              obtain ⟨⟨X, x1, x2, x3⟩, kr9⟩ := zr9
              have ex : ∀ k, ∃ q : Rat, ((kO15 κ139 a0 k).toInt = (x139_1.toNatClampNeg : Int) → ∀ i, i < ((zA κ139 (zR κ139 weKnotFirsts (zR κ139 soWeb a0)) (x139_1.toNatClampNeg + 1)).toInt).toNat - ((zA κ139 (zR κ139 weKnotFirsts (zR κ139 soWeb a0)) x139_1.toNatClampNeg).toInt).toNat → od15 κ139 a0 (((zA κ139 (zR κ139 weKnotFirsts (zR κ139 soWeb a0)) x139_1.toNatClampNeg).toInt).toNat + i) = k → q = X i) ∧ ((kO15 κ139 a0 k).toInt ≠ (x139_1.toNatClampNeg : Int) → q = V9 k) := fun k => by
                by_cases c : ∃ i, i < ((zA κ139 (zR κ139 weKnotFirsts (zR κ139 soWeb a0)) (x139_1.toNatClampNeg + 1)).toInt).toNat - ((zA κ139 (zR κ139 weKnotFirsts (zR κ139 soWeb a0)) x139_1.toNatClampNeg).toInt).toNat ∧ od15 κ139 a0 (((zA κ139 (zR κ139 weKnotFirsts (zR κ139 soWeb a0)) x139_1.toNatClampNeg).toInt).toNat + i) = k
                · obtain ⟨i, i1, i2⟩ := c
                  exact ⟨X i, fun _ j j1 j2 => by rw [kn9.2.2.1 j i j1 i1 (j2.trans i2.symm)], fun z => absurd (by rw [← i2]; exact (kn9.2.1 i i1).2) z⟩
                · exact ⟨V9 k, fun _ j j1 j2 => absurd ⟨j, j1, j2⟩ c, fun _ => rfl⟩
              obtain ⟨V', hV'⟩ := Classical.axiomOfChoice ex
              have mem : ∀ i, i < ((zA κ139 (zR κ139 weKnotFirsts (zR κ139 soWeb a0)) (x139_1.toNatClampNeg + 1)).toInt).toNat - ((zA κ139 (zR κ139 weKnotFirsts (zR κ139 soWeb a0)) x139_1.toNatClampNeg).toInt).toNat → V' (od15 κ139 a0 (((zA κ139 (zR κ139 weKnotFirsts (zR κ139 soWeb a0)) x139_1.toNatClampNeg).toInt).toNat + i)) = X i := fun i hi => (hV' _).1 (kn9.2.1 i hi).2 i hi rfl
              have VE : vE15 (pR15 σ9 n9) n9 (fun k => cnE σ9 k ∧ (x139_1.toNatClampNeg : Int) ≤ (kO15 κ139 a0 k).toInt) V' := by
                rw [lc] at hE9
                exact vs_15 Wg hE9 (fun k hk e => op9 k hk e c7) (fun k _ ne => (hV' k).2 ne) (vr_15 X1 Wg kn9 mz9 x1 (fun k _ ne => (hV' k).2 ne) mem)
              refine ⟨⟨Wg2, fun z => ⟨V', fun k hk => ?_, vE_c15 VE (fun k hk => by rw [lc, B.2.2.2.2.1]) (fun _ _ => rfl), fun k hk => ?_⟩, fun z => ?_⟩, kr_t16 hk9 J1.1 W139.1.2.2 kr9⟩
              · by_cases e : (kO15 κ139 a0 k).toInt = (x139_1.toNatClampNeg : Int)
                · obtain ⟨i, i1, i2⟩ := kn9.2.2.2 k hk e
                  rw [← i2, mem i i1]
                  exact ⟨((x2 z).1 i i1).1, (x1 i i1).1⟩
                · rw [(hV' k).2 e]
                  exact ⟨(x2 z).2 k hk (fun i hi q => e (by rw [← q]; exact (kn9.2.1 i hi).2)), (hV9 k hk).2⟩
              · by_cases e : (kO15 κ139 a0 k).toInt = (x139_1.toNatClampNeg : Int)
                · obtain ⟨i, i1, i2⟩ := kn9.2.2.2 k hk e
                  rw [← i2, mem i i1]
                  exact ((x2 z).1 i i1).2
                · rw [(hV' k).2 e]
                  exact hF9 k hk
              · obtain ⟨i, i1, i2⟩ := x3 z
                exact ⟨ng9, V', _, VE, _, (kn9.2.1 i i1).1, ⟨op9 _ (kn9.2.1 i i1).1 (kn9.2.1 i i1).2 c7, by rw [(kn9.2.1 i i1).2]; exact Int.le_refl _⟩, op9 _ (kn9.2.1 i i1).1 (kn9.2.1 i i1).2 c7, by rw [mem i i1]; exact i2⟩
  intro κ_27 hκ_27
  intro W28
  intro T29
  intro T30
  have Zs : zF (fun f b => f = soSolved ∧ b = a0) κ κ_27 := by
    rw [hκ_27]
    exact zF_ui ⟨rfl, rfl⟩
  have V27 : frV9 (zn κ) (fun f b => f = soSolved ∧ b = a0) := fun f b z => by
    rw [z.1]
    exact Or.inr (Or.inr (Or.inr (Or.inr (Or.inl (by decide)))))
  have A27 := atW_v9 W V27 Zs tb A0
  have er27 : zR κ_27 = zR κ := by rw [hκ_27]; rfl
  have nt : ∀ (t f w : Nat), zT κ w = t → t ≠ 12 → ¬ (f = soSolved ∧ w = a0) := fun t f w ht h12 z => by
    rw [z.2, Ta0] at ht
    exact h12 ht.symm
  have S27 := rs_h9 W Ta0 S0 Zs (fun f w h => nt 8 f w h (by decide)) (fun f w h => nt 11 f w h (by decide)) (fun f w h => nt 4 f w h (by decide)) (fun f h1 _ z => h1 z.1)
  have T27 : zT κ_27 a0 = 12 := Zs.t Ta0 (by decide)
  refine We_weave_q15 W28 T29 T30 n9 ?_ (fun κ_31 q32 => ?_)
  · rw [er27]
    refine ⟨?_, ?_, A27⟩
    · rw [hκ_27]; exact U0
    · rw [hκ_27]; exact L0
  obtain ⟨q32, zw⟩ := q32
  rw [er27] at q32 T29 T30
  obtain ⟨Zw, G31, A31⟩ := q32
  have no : ∀ (t f w : Nat), zT κ_27 w = t → t ≠ 14 → ¬ objF (zR κ soWeb a0) f w := fun t f w ht h14 z => by
    rw [show w = zR κ soWeb a0 from z, T29] at ht
    exact h14 ht.symm
  have S31 := rs_h9 W28 T27 S27.1 Zw (fun f w h => no 8 f w h (by decide)) (fun f w h => no 11 f w h (by decide)) (fun f w h => no 4 f w h (by decide)) (fun f _ _ => no 12 f a0 T27 (by decide))
  have T31 : zT κ_31 a0 = 12 := Zw.t T27 (by decide)
  have ew31 : zR κ_31 soWeb a0 = zR κ soWeb a0 := by rw [S31.2 soWeb (by decide) (by decide), er27]
  have eb31 : zR κ_31 soAtlas a0 = zR κ soAtlas a0 := by rw [S31.2 soAtlas (by decide) (by decide), er27]
  have ec31 : zR κ_31 soCalc a0 = zR κ soCalc a0 := by rw [S31.2 soCalc (by decide) (by decide), er27]
  intro W33
  intro M34
  intro T35
  refine We_knot_q6 W33 T35 n9 ?_ (fun κ_36 q37 => ?_)
  · rw [ew31]
    exact ⟨G31.1.1, G31.2.1, G31.2.2.1, G31.1.2.2.2⟩
  obtain ⟨q37, z9⟩ := q37
  have zk := z9
  intro W38
  intro M39
  rw [ew31] at q37 T35
  obtain ⟨Kn, KN⟩ := q37
  have tb31 : zT κ_31 (zR κ soAtlas a0) = 3 := by rw [← eb31]; exact ty_soAtlas W33 T31
  have Zk : zF (objF (zR κ soWeb a0)) κ_31 κ_36 := Kn.1.mono (fun f x z => z.1)
  have no2 : ∀ (t f w : Nat), zT κ_31 w = t → t ≠ 14 → ¬ objF (zR κ soWeb a0) f w := fun t f w ht h14 z => by
    rw [show w = zR κ soWeb a0 from z, T35] at ht
    exact h14 ht.symm
  have S36 := rs_h9 W33 T31 S31.1 Zk (fun f w h => no2 8 f w h (by decide)) (fun f w h => no2 11 f w h (by decide)) (fun f w h => no2 4 f w h (by decide)) (fun f _ _ => no2 12 f a0 T31 (by decide))
  have G36 := weG_K9 W33 T35 tb31 Kn G31
  have A36 := atW_E W33 T35 tb31 Zk A31
  have T36 : zT κ_36 a0 = 12 := Zk.t T31 (by decide)
  have ew36 : zR κ_36 soWeb a0 = zR κ soWeb a0 := by rw [S36.2 soWeb (by decide) (by decide)]; exact ew31
  have eb36 : zR κ_36 soAtlas a0 = zR κ soAtlas a0 := by rw [S36.2 soAtlas (by decide) (by decide)]; exact eb31
  have ec36 : zR κ_36 soCalc a0 = zR κ soCalc a0 := by rw [S36.2 soCalc (by decide) (by decide)]; exact ec31
  have hn := G36.2.1.2
  have kK := KN.1
  have sl36 : zI κ_36 soSolved a0 = 0 := by
    rw [Zk.i (no2 12 _ a0 T31 (by decide)), Zw.i (no 12 _ a0 T27 (by decide)), hκ_27]
    exact if_pos ⟨rfl, rfl⟩
  have F36 : zF (fvF9 ρ κ a0) κ κ_36 := ((Zs.mono (fun f b z => Or.inr (Or.inr (Or.inl ⟨z.2, Or.inl z.1⟩)))).tr (Zw.mono (fun f b z => Or.inr (Or.inl z)))).tr (Zk.mono (fun f b z => Or.inr (Or.inl z)))
  have K36 : zK9 κ κ_36 a0 := ((zK_z9 W Ta0 Zs (fun b _ z => absurd z.1 (by decide)) (fun z => absurd z.1 (by decide)) (fun z => absurd z.1 (by decide)) (fun z => absurd z.1 (by decide))).tr (zK_w9 W28 T27 T29 Zw)).tr (zK_w9 W33 T31 T35 Zk)
  have wM36 := G36.1.1
  have mn36 := F36.2.2.2.2.2.2
  have tb27 : zT κ_27 (zR κ soAtlas a0) = 3 := by rw [← er27]; exact ty_soAtlas W28 T27
  have wg36 : wgw15 κ_36 (zR κ soWeb a0) (zR κ soAtlas a0) n9 σ9 := by
    rw [er27] at zw
    rw [ew31] at zk
    refine wg_k015 W33 T35 tb31 (tb_E15 W28 T29 tb27 Zw (tb_v15 W V27 Zs tb hT9)) zw (fun j hj y z => ?_) Kn zk.1 zk.2
    obtain ⟨i, i1, i2, i3⟩ := z
    have o := G31.2.2.1
    have i2' : (i : Int) < (zA κ_31 (zR κ_31 weFirsts (zR κ soWeb a0)) (j + 1)).toInt := i2
    have i3' : (zA κ_31 (zR κ_31 weTargets (zR κ soWeb a0)) i).toNatClampNeg = y := i3
    have a1 := (o.1 (j + 1) (by omega)).2
    have a2 := o.2.2.2 i (by omega)
    have c := cnk a2.1
    omega
  have kr36 : kr16 ρ κ κ_36 := kr_h16 (kr_h16 (kr_h16 kr_r16 W Zs (fun f w h => nt 8 f w h (by decide)) (fun f w h => nt 11 f w h (by decide))) W28 Zw (fun f w h => no 8 f w h (by decide)) (fun f w h => no 11 f w h (by decide))) W33 Zk (fun f w h => no2 8 f w h (by decide)) (fun f w h => no2 11 f w h (by decide))
  unfold w_So_findVisitz_26
  refine ⟨fun n l0 l1 τ => n = ((zI κ_36 weKnots (zR κ_36 soWeb a0)).toInt - l1.toInt).toNat ∧ ((a0 = l0 ∧ κ_36 = τ ∧ (0 ≤ l1.toInt ∧ l1.toInt ≤ (zI κ_36 weKnots (zR κ_36 soWeb a0)).toInt) ∧ ∀ c : Nat, (c : Int) < l1.toInt → zA κ_36 (zR κ_36 weOpen (zR κ_36 soWeb a0)) (zA κ_36 (zR κ_36 weOrder (zR κ_36 soWeb a0)) (zA κ_36 (zR κ_36 weKnotFirsts (zR κ_36 soWeb a0)) c).toNatClampNeg).toNatClampNeg ≠ 0 → (zA κ_36 (zR κ_36 weKnotFirsts (zR κ_36 soWeb a0)) (c + 1)).toInt - (zA κ_36 (zR κ_36 weKnotFirsts (zR κ_36 soWeb a0)) c).toInt ≤ 32) ∧ kr16 ρ κ τ), ⟨_, rfl, ?_⟩, ?_⟩
  · refine and_5 ?_ (fun o9 => kr36)  -- j22
    exact ⟨rfl, rfl, ⟨by decide, by rw [ew36, t0i]; exact kK.1⟩, fun c hc => by rw [t0i] at hc; omega⟩
  rintro n26 _ x26_1 κ26 W26 T26_0 ⟨hn26, ⟨rfl, i26⟩, hE⟩
  obtain ⟨e26, l26, z26⟩ := i26
  subst e26
  have kl := cnk l26.1
  refine ⟨fun c40 => ?_, fun c40 => ?_⟩
  · skip
    intro T41
    refine So_fresh_q16 W26 T41 ρ a0 100 soVisits ?_ (fun r42 κ_43 q44 => ?_)
    · have tot := G36.2.1.1
      rw [← ew36] at tot
      exact ⟨S36.1.1, T36, ⟨Or.inl rfl, Or.inl rfl, W26.o (show zr soVisits = some 25 by decide +kernel) (by decide) T26_0, fun z => absurd z (by decide)⟩, S36.1.2.2.2.1.1, S36.1.2.2.2.1.2, ⟨by omega, by omega⟩⟩
    obtain ⟨q44, z9⟩ := q44
    have zf9 := z9
    intro W45
    intro M46
    intro T47
    have tot := G36.2.1.1
    rw [← ew36] at tot
    have wo := fr_o9 (f9 := soVisits) (s := a0) (τ := κ_43) W26 (ty_soVisits W26 T26_0) T26_0 (W26.o (show zr soVisits = some 25 by decide +kernel) (by decide) T26_0) (Exists.choose_spec (Exists.choose_spec q44.1)).1 (Exists.choose_spec (Exists.choose_spec q44.1)).2.2.2.2.1.1
    refine ⟨?_, ?_⟩
    · rcases wo with y | y
      · exact Or.inr y.1
      · exact Or.inl y.1
    intro κ_48 hκ_48
    intro W49
    obtain ⟨Z48, K48, ρ8, h8, R8, V8, L8⟩ := fr_r9 (n := n9) W26 W45 W49 T26_0 S36.1 ⟨tot, hn⟩ q44.1 q44.2 hκ_48
    have T48 : zT κ_48 a0 = 12 := Z48.t T26_0 (by decide)
    have fv8 := frF9_v (ρ := ρ) (κ := κ_36) (s := a0) (Or.inl (rfl : soVisits = soVisits))
    have nf : ∀ f, f = soAtlas ∨ f = soWeb ∨ f = soCalc ∨ f = soSolved → ¬ frF9 ρ κ_36 soVisits a0 f a0 := fun f hf z => by
      have la := (W26.2.1 a0 (by rw [T26_0]; decide)).2
      rcases z with z | z | z | z
      · rcases z with ⟨_, z | z | z⟩ | ⟨_, z | z | z | z⟩ <;> (rw [z] at hf; exact absurd hf (by decide))
      · rw [z.1] at hf; exact absurd hf (by decide)
      · rw [z] at hf; exact absurd hf (by decide)
      · omega
    have ea8 : zR κ_48 soAtlas a0 = zR κ soAtlas a0 := (Z48.r (nf _ (Or.inl rfl))).trans eb36
    have ew8 : zR κ_48 soWeb a0 = zR κ soWeb a0 := (Z48.r (nf _ (Or.inr (Or.inl rfl)))).trans ew36
    have ec8 : zR κ_48 soCalc a0 = zR κ soCalc a0 := (Z48.r (nf _ (Or.inr (Or.inr (Or.inl rfl))))).trans ec36
    have tw36 : zT κ_36 (zR κ soWeb a0) = 14 := by rw [← ew36]; exact ty_soWeb W26 T26_0
    have tb36 : zT κ_36 (zR κ soAtlas a0) = 3 := by rw [← eb36]; exact ty_soAtlas W26 T26_0
    have X8 : svX9 κ_48 a0 n9 := by
      unfold svX9
      rw [ew8, ea8]
      exact ⟨weG_v9 W26 fv8 Z48 tw36 tb36 G36, weKn_v9 W26 fv8 Z48 tw36 KN, atW_v9 W26 fv8 Z48 tb36 A36, L8⟩
    have g8 := fun f hf => we_v9 W26 fv8 Z48 tw36 (f := f) hf
    have ix8 : zI κ_48 weKnots (zR κ soWeb a0) = zI κ_36 weKnots (zR κ soWeb a0) := Z48.i (frV9_n W26 fv8 tw36 (by decide))
    rw [lei] at c40
    have sz8 : ∀ c : Nat, (c : Int) < (zI κ_48 weKnots (zR κ_48 soWeb a0)).toInt → zA κ_48 (zR κ_48 weOpen (zR κ_48 soWeb a0)) (zA κ_48 (zR κ_48 weOrder (zR κ_48 soWeb a0)) (zA κ_48 (zR κ_48 weKnotFirsts (zR κ_48 soWeb a0)) c).toNatClampNeg).toNatClampNeg ≠ 0 → (zA κ_48 (zR κ_48 weKnotFirsts (zR κ_48 soWeb a0)) (c + 1)).toInt - (zA κ_48 (zR κ_48 weKnotFirsts (zR κ_48 soWeb a0)) c).toInt ≤ 32 := by
      rw [ew8, ix8, (g8 weOpen (by decide)).2.1, (g8 weOrder (by decide)).2.1, (g8 weKnotFirsts (by decide)).2.1]
      rw [ew36] at z26 c40
      exact fun c hc => z26 c (by omega)
    have sl8 : zI κ_48 soSolved a0 = 0 := (Z48.i (nf _ (Or.inr (Or.inr (Or.inr rfl))))).trans sl36
    have F48 : zF (fvF9 ρ κ a0) κ κ_48 := F36.tr (Z48.mono (fun f b z => by
      rcases z with z | z | z | z
      · rcases z with z | z
        · exact Or.inl (Or.inl ⟨trivial, z.2⟩)
        · exact Or.inr (Or.inr (Or.inr (Or.inr (Or.inl z.1))))
      · exact Or.inr (Or.inr (Or.inl ⟨z.2, Or.inr (Or.inr (Or.inr z.1))⟩))
      · exact Or.inr (Or.inr (Or.inr (Or.inl z)))
      · exact Or.inr (Or.inr (Or.inr (Or.inr (Or.inr (by omega)))))))
    have h8' : ∀ b, b < zn κ → ρ8 b = ρ b := fun b hb => h8 b (by omega)
    have tot8 : (zI κ_48 weTotal (zR κ_48 soWeb a0)).toInt = (n9 : Int) := X8.1.2.1.1
    refine ⟨fun c50 => ?_, fun c50 => ?_⟩
    · skip
      refine hj129 _ _ W49 ?_ ?_
      · exact T48  -- t25
      · refine and_5 ?_ (fun o9 => ?_)  -- k26
        · rw [lei, tot8, ofn_i (by rcases R8.2.2.2.2.2.1 with y | y <;> rw [y] <;> decide)] at c50
          exact ⟨rfl, ρ8, ⟨h8', F48, R8, X8, by omega, sz8, sl8, ea8, ew8, ec8, K36.tr K48⟩, V8⟩
        · have kr48 : kr16 ρ κ κ_48 := kr_e16 (kr_t16 hE (fun _ _ => rfl) W26.1.2.2 (zf9 rfl)) (by rw [hκ_48]; rfl) (by rw [hκ_48]; rfl) (by rw [hκ_48]; rfl) (fun g b h _ => by rw [hκ_48]; exact if_neg (fun z => h z.1))
          refine ⟨⟨?_, fun k hk => fz_15 q44.1 hκ_48 (by have tot := G36.2.1.1; rw [← ew36] at tot; have c := cnk (x := zI κ_36 weTotal (zR κ_36 soWeb a0)) (by omega); omega)⟩, kr48⟩
          show wgw15 κ_48 (zR κ_48 soWeb a0) (zR κ_48 soAtlas a0) n9 σ9
          rw [ew8, ea8]
          exact wg_v15 W26 fv8 Z48 tw36 tb36 wg36
    · skip
      refine ⟨?_, ?_⟩
      · exact ⟨by decide, by decide⟩  -- b27
      intro κ_51 hκ_51
      intro W52
      refine ⟨?_, ?_⟩
      · rw [hκ_51]; exact if_pos rfl  -- b28
      intro κ_53 hκ_53
      intro W54
      rw [lei, tot8, ofn_i (by rcases R8.2.2.2.2.2.1 with y | y <;> rw [y] <;> decide)] at c50
      have l0 : (zN κ_48 (zR κ_48 soRows a0)) = 0 := by
        rcases R8.2.2.2.2.2.1 with y | y
        · exact y
        · omega
      have n1k : (1000 : Int32).toNatClampNeg = 1000 := by decide
      rw [n1k] at hκ_51
      have G := we_gr (f := soRows) (c := a0) W49 (show zr soRows = some 20 by decide +kernel) (by decide) T48 hκ_51 hκ_53 (by rw [l0]; decide) (by rw [l0]; decide)
      have E : rgE9 (fun _ => False) ρ8 κ_48 κ_53 a0 ρ8 := rg_rn9 W49 T48 R8.1.1 R8.1.2 R8.2.1 R8.2.2.1 G.1
      have n53 : zN κ_53 (zR κ_53 soRows a0) = 1000 := by rw [G.2.2.2.1]; exact G.2.2.2.2.1
      have X3 := rg_x9 W49 T48 E X8
      have w3 := rg_w9 W49 T48 E X8
      have wo3 := (we_f9 W49 rgF9_fr E.2.2.2.2 (ty_soWeb W49 T48) (f := weOpen) (by decide)).2.1
      have nl3 := rg_n9 (c := 0) W49 (ty_soLess W49 T48) E (fun z => z)
      have V3 := rg_v9 W49 T48 R8.1.1 hn (fun _ _ _ z => z) E V8
      have F53 : zF (fvF9 ρ κ a0) κ κ_53 := F48.tr (G.1.mono (fun f b z => Or.inr (Or.inr (Or.inl ⟨z.2, Or.inr (Or.inr (Or.inl z.1))⟩))))
      have R3 := rs_rg9 W49 T48 R8 E (by rw [nl3.2.1]; exact R8.2.2.2.2.2.2) (Or.inr n53)
      have e3 := fun f hf => rg_r9 W49 T48 E (f := f) hf
      refine hj129 _ _ W54 ?_ ?_
      · exact G.1.t T48 (by decide)  -- t29
      · refine and_5 ?_ (fun o9 => ?_)  -- k30
        · refine ⟨rfl, ρ8, ⟨h8', F53, R3, X3.1, by rw [n53]; exact hn, ?_, (e3 soSolved (by decide)).2.trans sl8, X3.2.2.1.trans ea8, X3.2.1.trans ew8, (e3 soCalc (by decide)).1.trans ec8, (K36.tr K48).tr E.2.2.2.1.2⟩, V3.1⟩
          rw [w3.2.2.1, w3.2.2.2.1, w3.1, X3.2.1, wo3]
          exact sz8
        · have kr48 : kr16 ρ κ κ_48 := kr_e16 (kr_t16 hE (fun _ _ => rfl) W26.1.2.2 (zf9 rfl)) (by rw [hκ_48]; rfl) (by rw [hκ_48]; rfl) (by rw [hκ_48]; rfl) (fun g b h _ => by rw [hκ_48]; exact if_neg (fun z => h z.1))
          have wg48 : wg15 κ_48 a0 n9 σ9 := by
            show wgw15 κ_48 (zR κ_48 soWeb a0) (zR κ_48 soAtlas a0) n9 σ9
            rw [ew8, ea8]
            exact wg_v15 W26 fv8 Z48 tw36 tb36 wg36
          refine ⟨⟨wg_f15 W49 T48 rgF9_fr E.2.2.2.2 X8 wg48, fun k hk => ?_⟩, kr_t16 kr48 (fun b hb => h8 b (by have := W26.1.2.2; omega)) W49.1.2.2 (kr_g16 W49 R8.1.1 (fun _ _ z => z) E)⟩
          exact rq_g15 W49 T48 R8.1.1 (fun _ _ _ z => z) E (V8 k hk).2.1 (by omega) (fz_15 q44.1 hκ_48 (by have tot := G36.2.1.1; rw [← ew36] at tot; have c := cnk (x := zI κ_36 weTotal (zR κ_36 soWeb a0)) (by omega); omega))
  · skip
    rw [lei] at c40
    have c40' := c40
    rw [ew36] at c40'
    have kA := KN.2.1 x26_1.toNatClampNeg (by omega)
    have kf := cnk kA.1
    have kO := (KN.2.2.1 (zA κ_36 (zR κ_36 weKnotFirsts (zR κ soWeb a0)) x26_1.toNatClampNeg).toNatClampNeg (by omega)).1
    have ix := cn1 (x := x26_1) l26.1 (by omega)
    refine ⟨?_, ?_⟩
    · rw [ew36, inb_iff, wM36.2.2.2.1]; omega  -- b31
    refine ⟨?_, ?_⟩
    · rw [ew36, inb_iff, wM36.2.2.2.2.2.1]; omega  -- b32
    refine ⟨?_, ?_⟩
    · rw [ew36, inb_iff, wM36.2.2.1]; omega  -- b33
    refine ⟨fun c55 => ?_, fun c55 => ?_⟩
    · skip
      intro x56 hx56
      refine lp_b5 ?_ (fun d9 => ⟨rfl, ?_⟩)
      · rw [hn26, hx56, ix.2]; omega  -- d34
      · refine and_5 ?_ (fun o9 => hE)  -- i35
        refine ⟨rfl, rfl, ⟨by rw [hx56, ix.2]; omega, by rw [hx56, ix.2]; omega⟩, fun c hc ho => ?_⟩
        rw [hx56, ix.2] at hc
        by_cases e : c = x26_1.toNatClampNeg
        · rw [e] at ho
          exact absurd c55 ho
        · exact z26 c (by omega) ho
    · skip
      intro T57
      refine We_sizeOf_c W26 T57 n9 ?_ (fun r58 q60 => ?_)
      · rw [ew36]
        exact ⟨wM36, hn, KN, ⟨l26.1, by omega⟩⟩
      intro W61
      intro M62
      refine ⟨fun c63 => ?_, fun c63 => ?_⟩
      · skip
        intro x64 hx64
        refine lp_b5 ?_ (fun d9 => ⟨rfl, ?_⟩)
        · rw [hn26, hx64, ix.2]; omega  -- d37
        · refine and_5 ?_ (fun o9 => hE)  -- i38
          refine ⟨rfl, rfl, ⟨by rw [hx64, ix.2]; omega, by rw [hx64, ix.2]; omega⟩, fun c hc ho => ?_⟩
          rw [hx64, ix.2] at hc
          by_cases e : c = x26_1.toNatClampNeg
          · rw [lei, show (32 : Int32).toInt = 32 from rfl] at c63
            rw [e]
            have q := q60.1
            omega
          · exact z26 c (by omega) ho
      · skip
        refine h _ _ ?_
        · refine and_5 ?_ (fun o9 => ?_)  -- q39
          · exact ⟨ρ, fun _ _ => rfl, F36, S36.1, A36, G36.1, ⟨eb36, ew36, ec36⟩, fun z => absurd sl36 z, K36⟩
          · rw [lei, show (32 : Int32).toInt = 32 from rfl] at c63
            rw [ew36] at q60 c55
            refine ⟨Or.inr (Or.inr ⟨rfl, bg_y15 KN wg36 (c := x26_1.toNatClampNeg) (by omega) c55 ?_⟩), hE, fun z => absurd z (by decide), fun z => absurd sl36 z⟩
            have q := q60.1
            omega

end
section
set_option maxHeartbeats 1600000
/-! visits and what is shown stay where the best plan is made -/
def sv16 (r : Nat) : Prop := (30 ≤ r ∧ r ≤ 32) ∨ (100 ≤ r ∧ r < 9000 ∧ 4 ≤ r % 8 ∧ r % 8 ≤ 6)
def su16 (r : Nat) : Prop := r = 30 ∨ (100 ≤ r ∧ r < 8990 ∧ r % 8 = 4)
theorem su_r16 {r : Nat} (h : su16 r) : raR r ∧ sv16 r ∧ sv16 (r + 1) ∧ sv16 (r + 2) := by
  unfold su16 at h
  unfold raR sv16
  omega
def kq16 (ρ : Nat → Nat) (κ τ : zS) : Prop := ∀ u q, u < zn κ → su16 (ρ u) → fr16 κ u q → fr16 τ u q
theorem kq_r16 {ρ : Nat → Nat} {κ : zS} : kq16 ρ κ κ := fun _ _ _ _ z => z
theorem kq_h16 {C : zC} {n0 : Nat} {ρ : Nat → Nat} {F : Nat → Nat → Prop} {κ τ τ' : zS} (h : kq16 ρ κ τ) (W : zW C n0 τ) (Z : zF F τ τ') (h8 : ∀ f w, zT τ w = 8 → ¬ F f w) (h11 : ∀ f v, zT τ v = 11 → ¬ F f v) : kq16 ρ κ τ' := fun u q hu hr z => fr_z16 W Z h8 h11 (h u q hu hr z)
theorem kq_y16 {C : zC} {n0 : Nat} {ρ ρ1 : Nat → Nat} {F : Nat → Nat → Prop} {κ τ τ' : zS} (h : kq16 ρ κ τ) (hρ : ∀ b, b < zn κ → ρ1 b = ρ b) (W : zW C n0 τ) (N : nmI ρ1 τ) (Z : zF F τ τ') (nf : ∀ f b, b < zn τ → sv16 (ρ1 b) → (f = nuLimbs ∨ f = nuLength ∨ f = raSign ∨ f = raTop ∨ f = raBottom) → ¬ F f b) : kq16 ρ κ τ' := fun u q hu hr z => by
  have z1 := h u q hu hr z
  have y := su_r16 hr
  rw [← hρ u hu] at y
  obtain ⟨tu, e1, e2⟩ := N.2 u y.1
  have lt : ∀ x, zT τ x ≠ 0 → x < zn τ := fun x h => (W.2.1 x h).2
  have lu := lt u (by rw [tu]; decide)
  have tt := ty_raTop W tu
  have tb := ty_raBottom W tu
  have lt1 := lt _ (show zT τ (zR τ raTop u) ≠ 0 by rw [tt]; decide)
  have lb1 := lt _ (show zT τ (zR τ raBottom u) ≠ 0 by rw [tb]; decide)
  have s1 : sv16 (ρ1 (zR τ raTop u)) := by rw [e1]; exact y.2.2.1
  have s2 : sv16 (ρ1 (zR τ raBottom u)) := by rw [e2]; exact y.2.2.2
  refine ⟨Z.t z1.1 (by decide), ?_⟩
  have z2 := z1.2
  unfold rqW8 at z2 ⊢
  rw [Z.i (nf raSign u lu y.2.1 (by decide)), Z.r (nf raTop u lu y.2.1 (by decide)), Z.r (nf raBottom u lu y.2.1 (by decide)), (nuB_z (c := 0) W tt Z (nf nuLimbs _ lt1 s1 (by decide)) (nf nuLength _ lt1 s1 (by decide))).2.2.1, (nuB_z (c := 0) W tb Z (nf nuLimbs _ lb1 s2 (by decide)) (nf nuLength _ lb1 s2 (by decide))).2.2.1]
  exact z2
theorem nf_p16 {ρ : Nat → Nat} {R : Nat → Prop} {ca a m : Nat} (hR : ∀ r, sv16 r → ¬ R r) : ∀ f b, b < m → sv16 (ρ b) → (f = nuLimbs ∨ f = nuLength ∨ f = raSign ∨ f = raTop ∨ f = raBottom) → ¬ pwF9 ρ R ca a f b := fun f b _ hr hf z => by
  rcases z with z | z
  · rcases z with ⟨z, _⟩ | ⟨_, z | z | z | z⟩
    · exact hR _ hr z
    · rw [z] at hf; exact absurd hf (by decide)
    · rw [z] at hf; exact absurd hf (by decide)
    · rw [z] at hf; exact absurd hf (by decide)
    · rw [z] at hf; exact absurd hf (by decide)
  · rw [z.1] at hf; exact absurd hf (by decide)
theorem nf_f16 {ρ : Nat → Nat} {κ : zS} {s : Nat} : ∀ f b, b < zn κ → sv16 (ρ b) → (f = nuLimbs ∨ f = nuLength ∨ f = raSign ∨ f = raTop ∨ f = raBottom) → ¬ frF9 ρ κ soWorths s f b := fun f b hb hr hf z => by
  rcases z with z | z | z | z
  · rcases z with ⟨⟨z1, z2, z3⟩, _⟩ | ⟨_, z | z | z | z⟩
    · have y := z3 rfl
      unfold sv16 at hr
      omega
    · rw [z] at hf; exact absurd hf (by decide)
    · rw [z] at hf; exact absurd hf (by decide)
    · rw [z] at hf; exact absurd hf (by decide)
    · rw [z] at hf; exact absurd hf (by decide)
  · rw [z.1] at hf; exact absurd hf (by decide)
  · rw [z] at hf; exact absurd hf (by decide)
  · omega
theorem fw_s16 {k : Nat} : ∀ r, sv16 r → ¬ fwR9 (104 + 8 * k) r := fun r h z => by
  unfold sv16 at h
  unfold fwR9 at z
  omega
theorem vo_s16 {k : Nat} : ∀ r, sv16 r → ¬ voS16 (104 + 8 * k) r := fun r h z => by
  unfold sv16 at h
  unfold voS16 at z
  omega
theorem voS16_w {k r : Nat} (h : voS16 (104 + 8 * k) r) : r < 100 ∨ 4 ≤ (r - 100) % 8 := by
  unfold voS16 at h
  omega
theorem vo_k16 {j k : Nat} (h : j ≠ k) : ¬ voS16 (104 + 8 * k) (104 + 8 * j) ∧ ¬ voS16 (104 + 8 * k) (104 + 8 * j + 1) ∧ ¬ voS16 (104 + 8 * k) (104 + 8 * j + 2) := by
  unfold voS16
  omega

end
