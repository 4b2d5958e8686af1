section
set_option maxHeartbeats 1600000
/-! the class: arrange -/
theorem Od_arrange_q6 {C : zC} {n0 : Nat} {a0 : Nat} {a1 : Int32} {a2 : Int32} {a3 : Int32} {κ : zS} {Q : Int32 → zS → Prop} (W : zW C n0 κ) (Ta0 : zT κ a0 = 9) (ρ : Nat → Nat) (n9 P9 : Nat) (hp : odX9 ρ κ a0 n9 P9 ∧ ((odU9 κ a0 ∨ tbL9 κ a0) ∧ (zN κ (zR κ odLinks a0)) ≤ 20000 ∧ 0 ≤ (zI κ atNexts (zR κ odAtlas a0)).toInt) ∧ (hoI κ (zR κ odGroups a0) 3000 3 8192 ∧ (zN κ (zR κ odKey a0)) = 3) ∧ (zR κ atStates (zR κ odAtlas a0) ≠ zR κ odGroups a0 ∧ zR κ atEndings (zR κ odAtlas a0) ≠ zR κ odGroups a0)) (h : ∀ (v : Int32) (κ' : zS), ((nb v ∧ zF (arO9 a0 (zR κ odGroups a0)) κ κ' ∧ (hoI κ' (zR κ odGroups a0) 3000 3 8192 ∧ (zN κ' (zR κ' odKey a0)) = 3) ∧ (tbL9 κ' a0 ∧ (zN κ' (zR κ' odLinks a0)) ≤ 20000) ∧ eO9 κ κ' a0 ∧ (v ≠ 0 → agP9 κ' a0 n9)) ∧ (st24 κ κ' a0 n9 a1 a2 a3 ∧ (v ≠ 0 ↔ full24 κ κ' a0 n9 a1 a2 a3) ∧ (v ≠ 0 → ar24 κ κ' a0 n9 a1 a2 a3))) → Q v κ') : zRun C 5 mOd_arrange [.ref a0, .int a1, .int a2, .int a3] κ (oI Q noX) := by
  refine Od_arrange_run W Ta0 ?_
  replace W := W.lo (Nat.le_trans W.1.2.1 W.1.2.2) (Nat.le_refl (zn κ))
  unfold w_Od_arrange_0
  obtain ⟨X0, ⟨U0, l20, nx0⟩, ⟨H0, k0⟩, hg⟩ := hp
  have A0 := X0.2.2.1.1
  have Tg := ty_odGroups W Ta0
  have ag : a0 ≠ zR κ odGroups a0 := fun z => by rw [← z, Ta0] at Tg; exact absurd Tg (by decide)
  have hE := X0.2.2.2.2.2.2.1.2
  intro T1
  refine Od_makeRows_c W T1  ?_ (fun κ_2 q3 => ?_)
  · exact ⟨U0, l20, nx0, by have := A0.2.2.2.2.1; have := A0.2.1.2.2; omega⟩  -- p1
  obtain ⟨Z2, L2, ⟨ln2, ll2⟩, Q2⟩ := q3
  have nm : ∀ f, f < 906 → ¬ mrF9 a0 f a0 := fun f hf z => by
    have := z.2.1
    omega
  have e2 : ∀ f, f < 906 → zR κ_2 f a0 = zR κ f a0 := fun f hf => Z2.r (nm f hf)
  have g2 : ∀ f b, b ≠ a0 → ¬ mrF9 a0 f b := fun f b hb z => hb z.1
  have H2 : hoI κ_2 (zR κ odGroups a0) 3000 3 8192 := hoI_zF Z2 W Tg (fun f => g2 f _ (Ne.symm ag)) H0
  have kl2 : zN κ_2 (zR κ_2 odKey a0) = 3 := by
    rw [e2 odKey (by decide), Z2.l (ty_odKey W Ta0)]
    exact k0
  intro W4
  intro M5
  intro T6
  refine Ho_clear_c W4 T6 3000 3 8192 ?_ (fun κ_7 q8 => ?_)
  · rw [e2 odGroups (by decide)]
    exact ⟨H2, Or.inr (Or.inr ⟨rfl, rfl, rfl⟩)⟩
  rw [e2 odGroups (by decide)] at q8
  obtain ⟨Z7, H7, A7, t7⟩ := q8
  have T2 : zT κ_2 a0 = 9 := Z2.t Ta0 (by decide)
  have r7 : ∀ f, zR κ_7 f a0 = zR κ_2 f a0 := fun f => Z7.r (fun z => ag z.1)
  have F7 : zF (arO9 a0 (zR κ odGroups a0)) κ κ_7 := (Z2.mono (fun f b z => Or.inl ⟨z.1, by have := z.2; omega⟩)).tr (Z7.mono (fun f b z => Or.inr z))
  have T7 : zT κ_7 a0 = 9 := F7.t Ta0 (by decide)
  obtain ⟨X7, _, e7, g7, s71, s72⟩ := od_t9 W Ta0 Tg arO9_t F7 hg.1 hg.2 X0
  have eg7 := e7 odGroups (by decide) (by decide)
  have eA7 := e7 odAtlas (by decide) (by decide)
  have hg7 : zR κ_7 atStates (zR κ_7 odAtlas a0) ≠ zR κ_7 odGroups a0 ∧ zR κ_7 atEndings (zR κ_7 odAtlas a0) ≠ zR κ_7 odGroups a0 := by
    rw [eA7, eg7, s71, s72]
    exact hg
  have L7 : tbL9 κ_7 a0 := by
    unfold tbL9
    rw [r7, r7, r7, r7, r7, r7, r7]
    rw [Z7.l (ty_odLefts W4 T2), Z7.l (ty_odRights W4 T2), Z7.l (ty_odBases W4 T2), Z7.l (ty_odRanks W4 T2), Z7.l (ty_odCellOf W4 T2), Z7.l (ty_odHeads W4 T2), Z7.l (ty_odEdges W4 T2)]
    exact L2
  have U7 : hoU9 κ_7 (zR κ odGroups a0) 8192 := fun i j hi hj h1 _ => by
    have q := A7.2.2.2.2.2 i hi
    rw [t7] at q
    exact absurd (Int32.toInt_inj.mp (show (zA κ_7 (zR κ_7 hoTable (zR κ odGroups a0)) i).toInt = (0 : Int32).toInt by rw [t0i]; omega)) h1
  have kl7 : zN κ_7 (zR κ_7 odKey a0) = 3 := by
    rw [r7, Z7.l (ty_odKey W4 T2)]
    exact kl2
  intro W9
  intro M10
  intro T11
  refine Od_markEndings_q6 W9 T11 ρ n9 P9 ?_ (fun r12 κ_13 q14 => ?_)
  · exact ⟨X7, L7.2.2.2.2.1, hg7⟩  -- p3
  obtain ⟨q14, z9⟩ := q14
  have zm := z9
  obtain ⟨⟨Z13, R13, N13, I13⟩, v12, m13, d13⟩ := q14
  have T13 : zT κ_13 a0 = 9 := Z13.t T7 (by decide)
  have F13 : zF (arO9 a0 (zR κ odGroups a0)) κ κ_13 := F7.tr (Z13.mono (fun f b z => Or.inl ⟨z.2, by rw [z.1]; decide⟩))
  obtain ⟨X13, _, e13, g13, s131, s132⟩ := od_t9 W Ta0 Tg arO9_t F13 hg.1 hg.2 X0
  have eg13 : zR κ_13 odGroups a0 = zR κ odGroups a0 := e13 odGroups (by decide) (by decide)
  have eA13 : zR κ_13 odAtlas a0 = (zR κ odAtlas a0) := e13 odAtlas (by decide) (by decide)
  have hg13 : zR κ_13 atStates (zR κ_13 odAtlas a0) ≠ zR κ_13 odGroups a0 ∧ zR κ_13 atEndings (zR κ_13 odAtlas a0) ≠ zR κ_13 odGroups a0 := by
    rw [eA13, eg13, s131, s132]
    exact hg
  have L13 : tbL9 κ_13 a0 := by
    unfold tbL9
    rw [R13, N13]
    exact L7
  have ag13 : a0 ≠ zR κ_13 odGroups a0 := by rw [eg13]; exact ag
  have Tg7 : zT κ_7 (zR κ odGroups a0) = 6 := F7.t Tg (by decide)
  have V13 := ho_t9 W9 Tg7 Z13 (fun f b z => by rw [z.1]; decide)
  have G13 : grI9 κ_13 a0 := by
    unfold grI9
    rw [eg13, R13, N13]
    have I := V13.2.2.2.2 _ _ _ H7
    refine ⟨⟨I, hoI_A I (Or.inr ?_), (V13.2.1 _).mpr U7⟩, kl7⟩
    rw [R13, N13, A7.1]
    decide
  have t13 : (zI κ_13 hoTotal (zR κ_13 odGroups a0)).toInt = 0 := by rw [eg13, V13.2.2.2.1]; exact t7
  have hE13 := X13.2.2.2.2.2.2.1
  have mk13 : ∀ e, e < 1000 → zA κ_13 (zR κ_13 odCellOf a0) e = -1 ∨ zA κ_13 (zR κ_13 odCellOf a0) e = 0 := fun e he => by rw [R13]; exact m13 e he
  have md13 : ∀ k i, k < n9 → (zA κ_13 (zR κ_13 atFirsts (zR κ_13 odAtlas a0)) k).toInt ≤ i.toInt → i.toInt < (zA κ_13 (zR κ_13 atFirsts (zR κ_13 odAtlas a0)) (k + 1)).toInt → cE9 κ_13 a0 k i → zA κ_13 (zR κ_13 odCellOf a0) (zA κ_13 (zR κ_13 atNumbers (zR κ_13 odAtlas a0)) i.toNatClampNeg).toNatClampNeg ≠ -1 := by
    obtain ⟨_, ce, _, g, _⟩ := od_t9 W9 T7 (by rw [eg7]; exact Tg7) (oneF_t9 (f := odCellOf) (by decide)) Z13 hg7.1 hg7.2 X7
    intro k i hk h1 h2 h3
    rw [(g atFirsts (by decide)).1] at h1 h2
    rw [(g atNumbers (by decide)).1, R13]
    exact d13 k i hk h1 h2 ((ce k i hk).mp h3)
  have Q13 : eO9 κ κ_13 a0 := eO_z9 W9 T7 Z13 (fun z => absurd z.1 (by decide)) (eO_z9 W4 T2 Z7 (fun z => ag z.1) Q2)
  have ll13 : zN κ_13 (zR κ_13 odLinks a0) = zN κ_2 (zR κ_2 odLinks a0) := by
    rw [R13, N13, r7, Z7.l (ty_odLinks W4 T2)]
  have ix13 : zI κ_13 atNexts (zR κ_13 odAtlas a0) = zI κ atNexts (zR κ odAtlas a0) := by
    rw [eA13]
    exact F13.i (frT9_n W Ta0 Tg arO9_t (ty_odAtlas W Ta0) ⟨Or.inl (by decide), Or.inl (by decide)⟩)
  intro W15
  intro M16
  unfold w_Od_arrange_20
  refine ⟨fun n l0 l1 l2 l3 l4 l5 τ => n = ((zI κ_13 hoTotal (zR κ_13 atEndings (zR κ_13 odAtlas a0))).toInt - l5.toInt).toNat ∧ ((a0 = l0 ∧ a1 = l1 ∧ a2 = l2 ∧ a3 = l3 ∧ tbJ9 κ_13 τ a0 ∧ gI9 τ a0 l5.toInt l5.toInt ∧ (zI τ hoTotal (zR κ_13 odGroups a0)).toInt ≤ 3 * l5.toInt ∧ (r12 = l4 ∧ 0 ≤ l5.toInt ∧ l5.toInt ≤ (zI κ_13 hoTotal (zR κ_13 atEndings (zR κ_13 odAtlas a0))).toInt) ∧ ∀ e : Int32, 0 ≤ e.toInt → e.toInt < l5.toInt → zA κ_13 (zR κ_13 odCellOf a0) e.toNatClampNeg ≠ -1 → pr9 κ_13 τ a0 a1 a2 a3 e) ∧ gr24 τ a0 ∧ us24 κ_13 τ a0 a1 a2 a3 l5.toInt), ⟨_, rfl, ?_⟩, ?_⟩
  · refine and_5 ?_ (fun o9 => ?_)  -- j4
    · refine ⟨rfl, rfl, rfl, rfl, ⟨zF.rf, fun _ _ => rfl, G13⟩, fun x x0 x1 => ?_, ?_, ⟨rfl, by decide, by rw [t0i]; exact hE13.1⟩, fun e e0 e1 => ?_⟩
      · rw [t13] at x1; omega
      · rw [t13, t0i]; decide
      · rw [t0i] at e1; omega
    · refine ⟨⟨fun x y hx => absurd hx (by rw [t13]; omega), fun g hg => absurd hg (by rw [t13]; omega)⟩, fun x hx => absurd hx (by rw [t13]; omega)⟩
  rintro n20 _ _ _ _ x20_4 x20_5 κ20 W20 T20_0 ⟨hn20, ⟨rfl, rfl, rfl, rfl, i20⟩, hE⟩
  obtain ⟨J1, I1, t1, ⟨rfl, l50, l51⟩, D1⟩ := i20
  obtain ⟨X1, H1, V1, E1, T1', L1, _, _⟩ := tb_c9 W15 T13 X13 hg13 tbF9_t J1.1 J1.2.1
  have L1 := L1 L13
  have k5 := cnk l50
  have eg1 := J1.2.1 odGroups (by decide)
  have ec1 : zA κ20 (zR κ20 odCellOf a0) = zA κ_13 (zR κ_13 odCellOf a0) := (J1.1.row W15 (f := odCellOf) (t := 20) (by decide +kernel) (by decide) T13 (fun z => by
  rcases z with ⟨_, z⟩ | z
  · exact absurd z (by decide)
  · exact ag13 z.1)).1
  refine ⟨fun c17 => ?_, fun c17 => ?_⟩
  · skip
    intro T18
    refine Od_placeTables_q6 W20 T18  ?_ (fun r19 κ_20 q21 => ?_)
    · rw [lei, E1] at c17
      exact ⟨⟨J1.2.2, L1, gp_m9 I1 (by omega) (by omega)⟩, v12.1, v12.2⟩
    obtain ⟨q21, z9⟩ := q21
    have zp := z9
    have O7 := od_t9 W Ta0 Tg arO9_t F7 hg.1 hg.2 X0
    have O13 := od_t9 W Ta0 Tg arO9_t F13 hg.1 hg.2 X0
    have M13 : ∀ e, mk24 κ_13 a0 (zI κ_13 hoTotal (zR κ_13 atEndings (zR κ_13 odAtlas a0))).toInt e ↔ he24 κ a0 n9 e := fun e => by
      have hE2 := hE13.2
      constructor
      · rintro ⟨h1, h2, h3⟩
        have ke := cnk h1
        refine ⟨⟨h1, by omega⟩, ?_⟩
        have y := zm.2 e.toNatClampNeg (by omega) (by rw [← R13]; exact h3)
        exact (hm_e24 (O7.2.2.2.1 atFirsts (by decide)).1 (O7.2.2.2.1 atNumbers (by decide)).1 O7.2.1).mp y
      · rintro ⟨⟨h1, h2⟩, h3⟩
        obtain ⟨k, i, y1, y2, y3, y4, y5⟩ := (hm_e24 (O13.2.2.2.1 atFirsts (by decide)).1 (O13.2.2.2.1 atNumbers (by decide)).1 O13.2.1).mpr h3
        have md := md13 k i y1 y2 y3 y4
        obtain ⟨⟨f0, _, _⟩, nx, _⟩ := X13.2.2.1.1.2.2.2.2.2 k y1
        have ki := cnk (x := i) (by omega)
        have nb3 := (nx i.toNatClampNeg (by omega) (by omega)).2.1 y4.1
        have ke := cnk nb3.1
        have ke2 := cnk h1
        exact ⟨h1, by omega, by rw [← y5]; exact md⟩
    rw [lei, E1] at c17
    obtain ⟨⟨Zp, Rp, Np, Ip⟩, vp, dp⟩ := q21
    have Z20 : zF (arF9 a0 (zR κ_13 odGroups a0)) κ_13 κ_20 := (J1.1.mono (fun f b z => tbF9_a z)).tr (Zp.mono (fun f b z => Or.inl ⟨z.2, by rw [z.1]; decide⟩))
    have e20 : ∀ f, f / 100 = 9 → zR κ_20 f a0 = zR κ_13 f a0 := fun f hf => by rw [Rp]; exact J1.2.1 f hf
    have Tg20 : zT κ20 (zR κ20 odGroups a0) = 6 := ty_odGroups W20 T20_0
    have V20 := ho_t9 W20 Tg20 Zp (fun f b z => by rw [z.1]; decide)
    have G20 : grI9 κ_20 a0 := by
      obtain ⟨⟨g1, g2, g3⟩, g4⟩ := J1.2.2
      unfold grI9
      rw [Rp, Np]
      have I := V20.2.2.2.2 _ _ _ g1
      refine ⟨⟨I, hoI_A I (Or.inr ?_), (V20.2.1 _).mpr g3⟩, g4⟩
      rw [Rp, Np, g2.1]
      decide
    have row20 : ∀ f, zr f = some 20 → f / 100 = 9 → f ≠ odBases → zA κ_20 (zR κ_20 f a0) = zA κ20 (zR κ20 f a0) := fun f h1 h2 h3 => (Zp.row W20 h1 (by decide) (T20_0.trans h2.symm) (fun z => h3 z.1)).1
    have I20 : gI9 κ_20 a0 1000 1000 := by
      unfold gI9
      rw [row20 odLefts (by decide +kernel) (by decide) (by decide), row20 odRights (by decide +kernel) (by decide) (by decide), row20 odRanks (by decide +kernel) (by decide) (by decide), Rp, V20.2.2.1, V20.2.2.2.1]
      exact gp_m9 I1 (by omega) (by omega)
    obtain ⟨_, _, _, _, T20', L20, _, _⟩ := tb_c9 W15 T13 X13 hg13 arF9_t Z20 e20
    have ec20 : zA κ_20 (zR κ_20 odCellOf a0) = zA κ_13 (zR κ_13 odCellOf a0) := (row20 odCellOf (by decide +kernel) (by decide) (by decide)).trans ec1
    intro W22
    intro M23
    refine ⟨fun c24 => ?_, fun c24 => ?_⟩
    · skip
      unfold w_Od_arrange_131
      refine ⟨fun n l0 l1 l2 l3 l5 l6 τ => n = ((zI κ_13 hoTotal (zR κ_13 atEndings (zR κ_13 odAtlas a0))).toInt - l6.toInt).toNat ∧ ((a0 = l0 ∧ a1 = l1 ∧ a2 = l2 ∧ a3 = l3 ∧ arJ9 κ_13 τ a0 a1 a2 a3 l6.toInt l5.toInt ∧ (r19 = l5 ∧ 0 ≤ l6.toInt ∧ l6.toInt ≤ (zI κ_13 hoTotal (zR κ_13 atEndings (zR κ_13 odAtlas a0))).toInt)) ∧ (gr24 τ a0 ∧ us24 κ_13 τ a0 a1 a2 a3 (zI κ_13 hoTotal (zR κ_13 atEndings (zR κ_13 odAtlas a0))).toInt ∧ pl24 κ_13 τ a0 ∧ l5.toInt = sI (bt24 τ a0) (zI τ hoTotal (zR τ odGroups a0)).toInt.toNat) ∧ xc24 κ_13 τ a0 a1 a2 a3 l6.toInt), ⟨_, rfl, ?_⟩, ?_⟩
      · refine and_5 ?_ (fun o9 => ?_)  -- j6
        · rw [lei] at c24
          refine ⟨rfl, rfl, rfl, rfl, ⟨⟨Z20, e20, G20⟩, ⟨I20, fun x x0 x1 xt => ?_⟩, fun e e0 e1 em => pr9_m (fun K L x H => ?_) (D1 e e0 (by omega) em), fun e he => ⟨?_, fun h => by rw [t0i] at h; omega⟩⟩, ⟨rfl, by decide, by rw [t0i]; exact hE13.1⟩⟩
          · rw [Rp, V20.2.2.2.1] at x1
            rw [Rp, V20.2.2.1] at xt
            rw [row20 odLefts (by decide +kernel) (by decide) (by decide), row20 odRights (by decide +kernel) (by decide) (by decide), Rp]
            exact dp c24 x x0 x1 xt
          · rw [← eg1] at H ⊢
            exact (V20.1 _ _ _ _).mpr H
          · rw [← e20 odCellOf (by decide), ec20, e20 odCellOf (by decide)]
        · have Fp := fz_z24 (P := fun f => f = odCellOf) W20 T20_0 Zp Rp (fun f b z => by rw [z.1]; decide) (fun f b z y => by rw [z.1] at y; revert y; decide) (fun f h => by rw [h]; exact ⟨by decide +kernel, by decide⟩)
          have c24' := lei.mp c24
          have g20 := G20.1.1.2.1.2
          refine ⟨⟨gr_f24 Fp hE.1, ?_, fun x x0 x1 xt => ?_, ?_⟩, fun e he => absurd he.2.1 (by rw [t0i]; have := he.1; omega)⟩
          · have U := us_f24 eg1 Fp hE.2
            rw [show x20_5.toInt = (zI κ_13 hoTotal (zR κ_13 atEndings (zR κ_13 odAtlas a0))).toInt by omega] at U
            exact U
          · rw [← e20 odGroups (by decide), Rp] at x1 xt
            rw [V20.2.2.2.1] at x1
            rw [V20.2.2.1] at xt
            have q := (zp.1 c24').2 x x0 x1 xt
            rw [Rp]
            refine q.trans (sI_c (fun y hy => (bt_f24 Fp J1.2.2.1.1.2.1.2 ?_).symm))
            have := cnk x0
            omega
          · rw [si_f24 J1.2.2.1.1.2.1.2 Fp]
            exact (zp.1 c24').1
      rintro n131 _ _ _ _ x131_5 x131_6 κ131 W131 T131_0 ⟨hn131, ⟨rfl, rfl, rfl, rfl, i131⟩, hE⟩
      obtain ⟨J2, ⟨rfl, l60, l61⟩⟩ := i131
      obtain ⟨⟨Z2, e2, G2⟩, ⟨I2, D2⟩, p2, C2⟩ := id J2
      obtain ⟨X2, H2, V2, E2, T2', L2, ce2, hg2⟩ := tb_c9 W15 T13 X13 hg13 arF9_t Z2 e2
      have L2 := L2 L13
      have k6 := cnk l60
      have eg2 := e2 odGroups (by decide)
      have hj240 : ∀ (l0 : Nat) (l1 : Int32) (l2 : Int32) (l3 : Int32) (l5 : Int32) (l6 : Int32) (l7 : Int32) (l8 : Int32) (l9 : Int32) (s0 : Int32) (τ : zS), zW C (zn κ) τ → zT τ l0 = 9 → ((a0 = l0 ∧ a1 = l1 ∧ a2 = l2 ∧ a3 = l3 ∧ arJ9 κ_13 τ a0 a1 a2 a3 l6.toInt l5.toInt ∧ (r19 = l5 ∧ x131_6 = l6 ∧ l6.toInt < (zI κ_13 hoTotal (zR κ_13 atEndings (zR κ_13 odAtlas a0))).toInt ∧ zA κ_13 (zR κ_13 odCellOf a0) l6.toNatClampNeg ≠ -1) ∧ (0 ≤ l7.toInt ∧ l7.toInt < (zI τ hoTotal (zR τ odGroups a0)).toInt ∧ pV9 τ (zR τ odGroups a0) l7 0 = 0) ∧ (0 ≤ l8.toInt ∧ l8.toInt < (zA τ (zR τ odLefts a0) l7.toNatClampNeg).toInt) ∧ (0 ≤ l9.toInt ∧ l9.toInt < (zA τ (zR τ odRights a0) l7.toNatClampNeg).toInt)) ∧ (gr24 τ a0 ∧ us24 κ_13 τ a0 a1 a2 a3 (zI κ_13 hoTotal (zR κ_13 atEndings (zR κ_13 odAtlas a0))).toInt ∧ pl24 κ_13 τ a0 ∧ l5.toInt = sI (bt24 τ a0) (zI τ hoTotal (zR τ odGroups a0)).toInt.toNat) ∧ xc24 κ_13 τ a0 a1 a2 a3 l6.toInt ∧ (s0 = 0 ↔ (zA τ (zR τ odLefts a0) l7.toNatClampNeg).toInt < (zA τ (zR τ odRights a0) l7.toNatClampNeg).toInt) ∧ ∃ L R, ro24 κ_13 τ a0 a1 a2 a3 l6 l7 L R ∧ l8 = zA τ (zR τ odRanks a0) L ∧ l9 = zA τ (zR τ odRanks a0) R) → w_Od_arrange_240 C (zn κ) Q (fun (l0' : Nat) (l1' : Int32) (l2' : Int32) (l3' : Int32) (l5' : Int32) (l6' : Int32) (τ : zS) => ∃ k < n131, (fun (n : Nat) (l0 : Nat) (l1 : Int32) (l2 : Int32) (l3 : Int32) (l5 : Int32) (l6 : Int32) (τ : zS) => n = ((zI κ_13 hoTotal (zR κ_13 atEndings (zR κ_13 odAtlas a0))).toInt - l6.toInt).toNat ∧ ((a0 = l0 ∧ a1 = l1 ∧ a2 = l2 ∧ a3 = l3 ∧ arJ9 κ_13 τ a0 a1 a2 a3 l6.toInt l5.toInt ∧ (r19 = l5 ∧ 0 ≤ l6.toInt ∧ l6.toInt ≤ (zI κ_13 hoTotal (zR κ_13 atEndings (zR κ_13 odAtlas a0))).toInt)) ∧ (gr24 τ a0 ∧ us24 κ_13 τ a0 a1 a2 a3 (zI κ_13 hoTotal (zR κ_13 atEndings (zR κ_13 odAtlas a0))).toInt ∧ pl24 κ_13 τ a0 ∧ l5.toInt = sI (bt24 τ a0) (zI τ hoTotal (zR τ odGroups a0)).toInt.toNat) ∧ xc24 κ_13 τ a0 a1 a2 a3 l6.toInt)) k l0' l1' l2' l3' l5' l6' τ) l0 l1 l2 l3 l5 l6 l7 l8 l9 s0 τ := by
        rintro _ _ _ _ y240_5 y240_6 y240_7 y240_8 y240_9 y240_s0 τ240 W240 T240_0 ⟨⟨rfl, rfl, rfl, rfl, j240⟩, hE⟩
        unfold w_Od_arrange_240
        obtain ⟨J4, ⟨rfl, rfl, l6e, mk⟩, ⟨u0, u1, ut⟩, ⟨w0, w1⟩, y0, y1⟩ := j240
        obtain ⟨⟨Z4, e4, G4⟩, ⟨I4, D4⟩, _, _⟩ := id J4
        have L4 := (tb_c9 W15 T13 X13 hg13 arF9_t Z4 e4).2.2.2.2.2.1 L13
        have tM := G4.1.1.2.1.2
        obtain ⟨⟨l0, l1⟩, r0, r1⟩ := (I4 y240_7 u0 u1).1 ut
        have d := D4 y240_7 u0 u1 ut
        have k7 := cnk u0
        have hE2 := hE13.2
        have c24' := lei.mp c24
        have v122 := v12.2
        have cm := Int.mul_comm ((zA τ240 (zR τ240 odLefts a0) y240_7.toNatClampNeg).toInt) ((zA τ240 (zR τ240 odRights a0) y240_7.toNatClampNeg).toInt)
        have ix := cn1 (x := x131_6) l60 (by omega)
        refine ⟨?_, ?_⟩
        · rw [inb_iff, L4.2.2.1]; omega  -- b7
        refine ⟨fun c25 => ?_, fun c25 => ?_⟩
        · skip
          refine ⟨?_, ?_⟩
          · rw [inb_iff, L4.1]; omega  -- b8
          refine ⟨?_, ?_⟩
          · rw [inb_iff, L4.2.2.2.2.1]; omega  -- b9
          intro κ_26 hκ_26
          intro W27
          intro x28 hx28
          have f := lf_9 (x := y240_9) (y := y240_8) (z := zA τ240 (zR τ240 odLefts a0) y240_7.toNatClampNeg) (w := zA τ240 (zR τ240 odBases a0) y240_7.toNatClampNeg) rfl y0 y1 w0 w1 r1 l1 d.1 (by omega)
          have J5 := arJ_u9 W240 T240_0 J4 hκ_26 l60 mk f.2.1 (by omega)
          refine lp_b5 ?_ (fun d9 => ⟨rfl, ?_⟩)
          · rw [hn131, hx28, ix.2]; omega  -- d10
          · refine and_5 ?_ (fun o9 => ?_)  -- i11
            · exact ⟨rfl, rfl, rfl, rfl, by rw [hx28, ix.2]; exact J5, ⟨rfl, by rw [hx28, ix.2]; omega, by rw [hx28, ix.2]; omega⟩⟩
            · obtain ⟨⟨g1, g2, g3, g4⟩, g5, g6, Lx, Rx, g7, g8, g9⟩ := hE
              have R26 : zR κ_26 = zR τ240 := by rw [hκ_26]; rfl
              have o26 := W240.o (show zr odCellOf = some 20 by decide +kernel) (by decide) T240_0
              have Z26 : zF (oneF odCellOf a0) τ240 κ_26 := by rw [hκ_26]; exact zF_ua (by rw [o26]; exact ⟨rfl, rfl⟩)
              have F26 := fz_z24 (P := fun f => f = odBases) W240 T240_0 Z26 R26 (fun f b z => by rw [z.1]; decide) (fun f b z y => by rw [z.1] at y; revert y; decide) (fun f h => by rw [h]; exact ⟨by decide +kernel, by decide⟩)
              have eg4 := e4 odGroups (by decide)
              refine ⟨⟨gr_f24 F26 g1, us_f24 eg4 F26 g2, pl_f24 eg4 G4.1.1.2.1.2 F26 rfl g3, by rw [si_f24 G4.1.1.2.1.2 F26]; exact g4⟩, ?_⟩
              rw [hx28, ix.2]
              refine xc_u24 eg4 F26 rfl l60 (by rw [R26, hκ_26]; exact if_pos rfl) g7 ?_ g5
              unfold ce24 ci24
              rw [if_pos (g6.mp c25), f.1, g8, g9]
        · skip
          refine ⟨?_, ?_⟩
          · rw [inb_iff, L4.2.1]; omega  -- b12
          refine ⟨?_, ?_⟩
          · rw [inb_iff, L4.2.2.2.2.1]; omega  -- b13
          intro κ_29 hκ_29
          intro W30
          intro x31 hx31
          have f := lf_9 (x := y240_8) (y := y240_9) (z := zA τ240 (zR τ240 odRights a0) y240_7.toNatClampNeg) (w := zA τ240 (zR τ240 odBases a0) y240_7.toNatClampNeg) rfl w0 w1 y0 y1 l1 r1 d.1 (by omega)
          have J5 := arJ_u9 W240 T240_0 J4 hκ_29 l60 mk f.2.1 (by omega)
          refine lp_b5 ?_ (fun d9 => ⟨rfl, ?_⟩)
          · rw [hn131, hx31, ix.2]; omega  -- d14
          · refine and_5 ?_ (fun o9 => ?_)  -- i15
            · exact ⟨rfl, rfl, rfl, rfl, by rw [hx31, ix.2]; exact J5, ⟨rfl, by rw [hx31, ix.2]; omega, by rw [hx31, ix.2]; omega⟩⟩
            · obtain ⟨⟨g1, g2, g3, g4⟩, g5, g6, Lx, Rx, g7, g8, g9⟩ := hE
              have R29 : zR κ_29 = zR τ240 := by rw [hκ_29]; rfl
              have o29 := W240.o (show zr odCellOf = some 20 by decide +kernel) (by decide) T240_0
              have Z29 : zF (oneF odCellOf a0) τ240 κ_29 := by rw [hκ_29]; exact zF_ua (by rw [o29]; exact ⟨rfl, rfl⟩)
              have F29 := fz_z24 (P := fun f => f = odBases) W240 T240_0 Z29 R29 (fun f b z => by rw [z.1]; decide) (fun f b z y => by rw [z.1] at y; revert y; decide) (fun f h => by rw [h]; exact ⟨by decide +kernel, by decide⟩)
              have eg4 := e4 odGroups (by decide)
              refine ⟨⟨gr_f24 F29 g1, us_f24 eg4 F29 g2, pl_f24 eg4 G4.1.1.2.1.2 F29 rfl g3, by rw [si_f24 G4.1.1.2.1.2 F29]; exact g4⟩, ?_⟩
              rw [hx31, ix.2]
              refine xc_u24 eg4 F29 rfl l60 (by rw [R29, hκ_29]; exact if_pos rfl) g7 ?_ g5
              unfold ce24 ci24
              rw [if_neg (fun z => c25 (g6.mpr z)), f.1, g8, g9]
      obtain ⟨_, ceq, _, gq, sq1, sq2⟩ := od_t9 W15 T13 (ty_odGroups W15 T13) arF9_t Z2 hg13.1 hg13.2 X13
      have eA2 := e2 odAtlas (by decide)
      have ix2 : zI κ131 atNexts (zR κ131 odAtlas a0) = zI κ atNexts (zR κ odAtlas a0) := by
        rw [eA2, ← ix13]
        exact Z2.i (frT9_n W15 T13 (ty_odGroups W15 T13) arF9_t (ty_odAtlas W15 T13) ⟨Or.inl (by decide), Or.inl (by decide)⟩)
      have ll2' : zN κ131 (zR κ131 odLinks a0) = zN κ_2 (zR κ_2 odLinks a0) := by
        rw [e2 odLinks (by decide), Z2.l (ty_odLinks W15 T13)]
        exact ll13
      refine ⟨fun c32 => ?_, fun c32 => ?_⟩
      · skip
        intro T33
        refine Od_linkCells_q6 W131 T33 ρ n9 P9 ?_ (fun r34 κ_35 q36 => ?_)
        · rw [lei, E2] at c32
          refine ⟨⟨X2, L2, hg2⟩, ⟨by rw [ix2, ll2']; exact ln2, by have := lei.mp c24; have := v12.2; omega⟩, fun k i hk h1 h2 h3 => ?_⟩
          rw [(gq atFirsts (by decide)).1] at h1 h2
          have ce := (ceq k i hk).mp h3
          have m := md13 k i hk h1 h2 ce
          obtain ⟨⟨f0, _, _⟩, nx, _⟩ := X13.2.2.1.1.2.2.2.2.2 k hk
          have ki := cnk (x := i) (by omega)
          have nb3 := (nx i.toNatClampNeg (by omega) (by omega)).2.1 ce.1
          have ke := cnk nb3.1
          have hE2 := hE13.2
          rw [(gq atNumbers (by decide)).1, e2 odCellOf (by decide)]
          have q := C2 (zA κ_13 (zR κ_13 atNumbers (zR κ_13 odAtlas a0)) i.toNatClampNeg).toNatClampNeg (by omega)
          exact q.2 (by omega) (fun y => m (q.1.mp y))
        obtain ⟨q36, z9⟩ := q36
        have zk := z9
        intro W37
        intro M38
        refine ⟨?_, h _ _ ?_⟩
        · exact q36.1  -- b17
        · refine and_5 ?_ (fun o9 => ?_)  -- q18
          · obtain ⟨vb, ⟨Z5, R5, N5, I5⟩, D5⟩ := q36
            have Tg2 : zT κ131 (zR κ131 odGroups a0) = 6 := ty_odGroups W131 T131_0
            have V5 := ho_t9 W131 Tg2 Z5 (fun f b z => by rcases z.2 with y | y <;> rw [y] <;> decide)
            have row5 : ∀ f, zr f = some 20 → f / 100 = 9 → f ≠ odHeads → f ≠ odLinks → zA κ_35 (zR κ_35 f a0) = zA κ131 (zR κ131 f a0) := fun f h1 h2 h3 h4 => (Z5.row W131 h1 (by decide) (T131_0.trans h2.symm) (fun z => z.2.elim h3 h4)).1
            obtain ⟨X5, ce5, _, g5, _⟩ := od_t9 W131 T131_0 Tg2 hlF9_t Z5 hg2.1 hg2.2 X2
            have Z2' := Z2
            rw [eg13] at Z2'
            have I9 := V5.2.2.2.2 _ _ _ G2.1.1
            have eg3 : zR κ131 odGroups a0 = zR κ odGroups a0 := eg2.trans eg13
            refine ⟨vb, (F13.tr (Z2'.mono (fun f b z => arO9_m z))).tr (Z5.mono (fun f b z => Or.inl ⟨z.1, by rcases z.2 with y | y <;> rw [y] <;> decide⟩)), ⟨by rw [← eg3]; exact I9, by rw [R5, N5]; exact G2.2⟩, ⟨by unfold tbL9; rw [R5, N5]; exact L2, by rw [R5, N5, ll2']; exact ll2⟩, ?_, fun _ => ⟨⟨?_, by unfold tbL9; rw [R5, N5]; exact L2, ?_⟩, ?_, ⟨fun c hc => ?_, fun x hx _ => ?_⟩, r19.toInt, by have := lei.mp c24; have := v12.2; omega, fun x x0 x1 xt => ?_⟩⟩
            · exact eO_z9 W131 T131_0 Z5 (fun z => absurd z.2 (by decide)) (eO_z9 W15 T13 Z2 (fun z => by
                rcases z with ⟨_, _, z⟩ | z
                · exact absurd z (by decide)
                · exact ag13 z.1) Q13)
            · obtain ⟨⟨g1, g2', g3⟩, g4⟩ := G2
              unfold grI9
              rw [R5, N5]
              refine ⟨⟨I9, hoI_A I9 (Or.inr ?_), (V5.2.1 _).mpr g3⟩, g4⟩
              rw [R5, N5, g2'.1]
              decide
            · unfold gI9
              rw [row5 odLefts (by decide +kernel) (by decide) (by decide) (by decide), row5 odRights (by decide +kernel) (by decide) (by decide) (by decide), row5 odRanks (by decide +kernel) (by decide) (by decide) (by decide), R5, V5.2.2.1, V5.2.2.2.1]
              exact I2
            · rw [R5, N5, I5, ix2, ll2']
              exact ln2
            · rw [R5]
              rcases D5.1 c hc with y | y
              · exact Or.inl y
              · exact Or.inr ⟨(lkN_e9 (g5 atFirsts (by decide)).1 ce5).mpr y.1, y.2⟩
            · rw [R5]
              have y := (lkN_e9 (g5 atFirsts (by decide)).1 ce5).mp hx
              have x0 : 0 ≤ x.toInt := by
                obtain ⟨k, h1, h2, _⟩ := y
                have f9 := (X2.2.2.1.1.2.2.2.2.2 k h1).1.1
                omega
              rcases D5.2 x y x0 with w | w
              · exact Or.inl w
              · exact Or.inr ⟨(lkN_e9 (g5 atFirsts (by decide)).1 ce5).mpr w.1, w.2⟩
            · rw [R5, V5.2.2.2.1] at x1
              rw [R5, V5.2.2.1] at xt
              rw [row5 odLefts (by decide +kernel) (by decide) (by decide) (by decide), row5 odRights (by decide +kernel) (by decide) (by decide) (by decide), row5 odBases (by decide +kernel) (by decide) (by decide) (by decide)]
              exact D2 x x0 x1 xt
          · obtain ⟨vb, ⟨Z5, R5, N5, I5⟩, D5⟩ := q36
            obtain ⟨⟨g1, g2, g3, g4⟩, g5⟩ := hE
            have F5 := fz_z24 (P := fun f => f = odBases ∨ f = odCellOf) W131 T131_0 Z5 R5 (fun f b z => by rcases z.2 with y | y <;> rw [y] <;> decide) (fun f b z y => by rcases z.2 with w | w <;> rw [w] at y <;> revert y <;> decide) (fun f h => by rcases h with h | h <;> rw [h] <;> exact ⟨by decide +kernel, by decide⟩)
            have c32' := lei.mp c32
            rw [E2] at c32'
            have t3 := G2.1.1.2.1.2
            have TB := tb_c9 W131 T131_0 X2 hg2 hlF9_t Z5 (fun f _ => by rw [R5])
            have eg35 : zR κ_35 odGroups a0 = zR κ_13 odGroups a0 := by rw [R5]; exact eg2
            have ep35 := TB.2.2.1.trans V2
            have t5 : (zI κ_35 hoTotal (zR κ_35 odGroups a0)).toInt ≤ 3000 := by rw [R5, F5.2.1]; exact t3
            have I35 := gi_f24 F5 I2
            have m61 : x131_6.toInt = (zI κ_13 hoTotal (zR κ_13 atEndings (zR κ_13 odAtlas a0))).toInt := by omega
            have P35 : pl24 κ_35 κ_35 a0 := by
              have y := pl_f24 eg2 t3 F5 (Or.inl rfl) g3
              unfold pl24 at *
              rw [eg35]
              exact y
            have S35 := si_f24 t3 F5
            have X35 := xc_f24 eg2 F5 (Or.inl rfl) (Or.inr rfl) g5
            rw [m61] at X35
            have X36 : ∀ e, he24 κ a0 n9 e → ∃ T L R, ro24 κ_35 κ_35 a0 a1 a2 a3 e T L R ∧ (zA κ_35 (zR κ_35 odCellOf a0) e.toNatClampNeg).toInt = ce24 κ_35 a0 T L R := fun e he => by
              obtain ⟨T, L, R, h1, h2⟩ := X35 e ((M13 e).mpr he)
              exact ⟨T, L, R, ro_b24 eg35 ep35 h1, h2⟩
            have S : st24 κ κ_35 a0 n9 a1 a2 a3 := st_b24 eg35 ep35 M13 (gr_f24 F5 g1) I35 t5 (us_f24 eg2 F5 g2) (fun e he => pr9_m (by have f := F5.2.2.1; rw [eg2] at f; exact f) (p2 e he.1 he.2.1 he.2.2))
            obtain ⟨_, ce5, _, g5', _⟩ := od_t9 W131 T131_0 (ty_odGroups W131 T131_0) hlF9_t Z5 hg2.1 hg2.2 X2
            have HM : ∀ e, hm24 κ131 a0 n9 e ↔ hm24 κ a0 n9 e := fun e => (hm_e24 (gq atFirsts (by decide)).1 (gq atNumbers (by decide)).1 ceq).trans (hm_e24 (O13.2.2.2.1 atFirsts (by decide)).1 (O13.2.2.2.1 atNumbers (by decide)).1 O13.2.1)
            have c24' := lei.mp c24
            have v122 := v12.2
            have r19e : r19.toInt = sI (bt24 κ_35 a0) (zI κ_35 hoTotal (zR κ_35 odGroups a0)).toInt.toNat := by rw [S35]; exact g4
            have ec5 := F5.2.2.2.2 odCellOf (Or.inr (Or.inr (Or.inr (Or.inr rfl))))
            have hE2 := hE13.2
            refine ⟨S, (zk.2.trans ?_).trans (fx_24 I35 t5).symm, fun _ => ⟨P35, X36, lx_e24 (fun x => lkN_e9 (g5' atFirsts (by decide)).1 ce5) (fun x => by unfold cx24; rw [ec5, (g5' atNumbers (by decide)).1]) R5 zk.1⟩⟩
            constructor
            · intro H x hx
              have hd := H x (by omega)
              have q := (zk.1.1 x (by omega)).2 hd
              obtain ⟨⟨k, h1, h2, h3, h4⟩, _⟩ := (D5.1 x (by omega)).resolve_left hd
              obtain ⟨⟨f0, _, _⟩, nx, _⟩ := X2.2.2.1.1.2.2.2.2.2 k h1
              have ki := cnk (x := zA κ_35 (zR κ131 odHeads a0) x) (by omega)
              have nb3 := (nx (zA κ_35 (zR κ131 odHeads a0) x).toNatClampNeg (by omega) (by omega)).2.1 h4.1
              rw [E2] at nb3
              have he : he24 κ a0 n9 (zA κ131 (zR κ131 atNumbers (zR κ131 odAtlas a0)) (zA κ_35 (zR κ131 odHeads a0) x).toNatClampNeg) := ⟨⟨nb3.1, by omega⟩, (HM _).mp ⟨k, _, h1, h2, h3, h4, rfl⟩⟩
              obtain ⟨T, L, R, r1, r2⟩ := X36 _ he
              refine ⟨_, T, L, R, he, r1, ?_⟩
              have i0 := ix_n24 I35 t5 r1
              rw [ce_i24 I35 t5 P35 r1, ec5] at r2
              unfold cx24 at q
              have kq := cnk (x := zA κ131 (zR κ131 odCellOf a0) (zA κ131 (zR κ131 atNumbers (zR κ131 odAtlas a0)) (zA κ_35 (zR κ131 odHeads a0) x).toNatClampNeg).toNatClampNeg) (by omega)
              omega
            · intro H c hc
              have c0 := Int.natCast_nonneg c
              obtain ⟨e, T, L, R, he, r1, r2⟩ := H c (by omega)
              obtain ⟨T', L', R', q1, q2⟩ := X36 e he
              obtain ⟨u1, u2, u3⟩ := ro_u24 r1 q1
              subst u1 u2 u3
              rw [ce_i24 I35 t5 P35 q1, r2, ec5] at q2
              obtain ⟨k, i, h1, h2, h3, h4, h5⟩ := (HM _).mpr he.2
              obtain ⟨⟨f0, _, _⟩, _, _⟩ := X2.2.2.1.1.2.2.2.2.2 k h1
              refine ((zk.1.1 c (by omega)).1 i ⟨k, h1, h2, h3, h4⟩ (by omega) ?_).1
              unfold cx24
              rw [h5]
              have kq := cnk (x := zA κ131 (zR κ131 odCellOf a0) e.toNatClampNeg) (by omega)
              omega
      · skip
        rw [lei, E2] at c32
        have hE2 := hE13.2
        have ix := cn1 (x := x131_6) l60 (by omega)
        have ec2 := e2 odCellOf (by decide)
        have cq := C2 x131_6.toNatClampNeg (by omega)
        refine ⟨?_, ?_⟩
        · rw [inb_iff, L2.2.2.2.2.1]; omega  -- b19
        refine ⟨fun c39 => ?_, fun c39 => ?_⟩
        · skip
          intro x40 hx40
          refine lp_b5 ?_ (fun d9 => ⟨rfl, ?_⟩)
          · rw [hn131, hx40, ix.2]; omega  -- d20
          · refine and_5 ?_ (fun o9 => ?_)  -- i21
            · refine ⟨rfl, rfl, rfl, rfl, ⟨⟨Z2, e2, G2⟩, ⟨I2, D2⟩, p2, fun e he => ⟨(C2 e he).1, fun h1 h2 => ?_⟩⟩, ⟨rfl, by rw [hx40, ix.2]; omega, by rw [hx40, ix.2]; omega⟩⟩
              rw [hx40, ix.2] at h1
              rw [ec2] at c39
              by_cases z : e = x131_6.toNatClampNeg
              · rw [z] at h2
                exact absurd c39 h2
              · exact (C2 e he).2 (by omega) h2
            · refine ⟨hE.1, fun e he => hE.2 e ⟨he.1, ?_, he.2.2⟩⟩
              have h1 := he.2.1
              rw [hx40, ix.2] at h1
              by_cases z : e.toInt = x131_6.toInt
              · have h2 := he.2.2
                rw [Int32.toInt_inj.mp z] at h2
                rw [ec2] at c39
                exact absurd (cq.1.mp c39) h2
              · omega
        · skip
          intro T41
          rw [ec2] at c39
          have mk : zA κ_13 (zR κ_13 odCellOf a0) x131_6.toNatClampNeg ≠ -1 := fun y => c39 (cq.1.mpr y)
          obtain ⟨T, T0, h1, ⟨Lx, h2⟩, Rx, h3⟩ := p2 x131_6 l60 (by omega) mk
          have etk : tK9 κ131 a0 x131_6 a3 = tK9 κ_13 a0 x131_6 a3 := by unfold tK9; rw [V2]
          have kT := cnk T0
          refine Od_tableOf_q6 W131 T41 1000 1000 hE.1.1 ?_ (fun r42 κ_43 q44 => ?_)
          · rw [eg2, etk]
            exact ⟨⟨G2, L2, I2⟩, by decide, H2, Or.inr ⟨_, h1⟩⟩
          obtain ⟨q44, z9⟩ := q44
          have zt := z9
          rw [eg2, etk] at q44
          obtain ⟨S44, _, v44, k44, n44⟩ := q44
          obtain ⟨N44, ev⟩ := n44 _ h1
          have eT : r42 = T := Int32.toInt_inj.mp (by omega)
          have J43 := arJ_s9 W131 T131_0 J2 S44 N44
          obtain ⟨⟨Z43, e43, G43⟩, ⟨I43, D43⟩, p43, C43⟩ := id J43
          obtain ⟨X43, H43, V43, E43, T43, L43, _, _⟩ := tb_c9 W15 T13 X13 hg13 arF9_t Z43 e43
          have L43 := L43 L13
          have eg43 := e43 odGroups (by decide)
          have pk := fun K L x (H : hkS9 κ131 (zR κ_13 odGroups a0) 8192 K L x) => (show hkS9 κ_43 (zR κ_13 odGroups a0) 8192 K L x by
            have q := S44.2.2.2.2.1 K L x
            rw [eg2] at q
            exact q H)
          intro W45
          intro M46
          intro T47
          refine Ho_part_c2 W45 T47 1000 35 2048 ?_ (fun r48 q50 => ?_)
          · exact ⟨H43, Or.inr (Or.inl ⟨rfl, rfl, rfl⟩)⟩  -- p23
          intro W51
          intro M52
          intro T53
          intro T54
          rw [V43] at q50
          have h2' := pk _ _ _ h2
          rw [← eT, ← q50] at h2'
          have tg43 : pV9 κ_43 (zR κ_13 odGroups a0) r42 0 = 0 := pV9_k (K := tK9 κ_13 a0 x131_6 a3) v44.1 k44.1 (by decide) (by decide)
          refine Od_rankOf1_q6 W51 T53 T54 1000 1000 zt.1 ?_ (fun r55 κ_56 q57 => ?_)
          · rw [eg43]
            exact ⟨⟨G43, L43, I43⟩, by decide, ⟨rfl, rfl⟩, ⟨v44.1, v44.2, tg43⟩, Or.inr ⟨_, h2'⟩⟩
          obtain ⟨q57, z9⟩ := q57
          have zl := z9
          rw [eg43] at q57
          obtain ⟨xl, ⟨S57, _, v57, k57, n57⟩, ev57⟩ := q57
          obtain ⟨N57, _⟩ := n57 _ h2'
          have J56 := arJ_s9 W51 T43 J43 S57 N57
          obtain ⟨⟨Z56, e56, G56⟩, ⟨I56, D56⟩, p56, C56⟩ := id J56
          obtain ⟨X56, H56, V56, E56, T56, L56, _, _⟩ := tb_c9 W15 T13 X13 hg13 arF9_t Z56 e56
          have L56 := L56 L13
          have eg56 := e56 odGroups (by decide)
          have pk56 := fun K L x (H : hkS9 κ_43 (zR κ_13 odGroups a0) 8192 K L x) => (show hkS9 κ_56 (zR κ_13 odGroups a0) 8192 K L x by
            have q := S57.2.2.2.2.1 K L x
            rw [eg43] at q
            exact q H)
          have k44' := pk56 _ _ _ k44
          intro W58
          intro M59
          intro T60
          refine Ho_part_c2 W58 T60 1000 35 2048 ?_ (fun r61 q63 => ?_)
          · exact ⟨H56, Or.inr (Or.inl ⟨rfl, rfl, rfl⟩)⟩  -- p25
          intro W64
          intro M65
          intro T66
          intro T67
          rw [V56] at q63
          have h3' := pk56 _ _ _ (pk _ _ _ h3)
          rw [← eT, ← q63] at h3'
          have tg56 : pV9 κ_56 (zR κ_13 odGroups a0) r42 0 = 0 := pV9_k (K := tK9 κ_13 a0 x131_6 a3) v44.1 k44'.1 (by decide) (by decide)
          have vt56 : r42.toInt < (zI κ_56 hoTotal (zR κ_13 odGroups a0)).toInt := by
            have q := k44'.1.1
            have kr := cnk v44.1
            omega
          refine Od_rankOf2_q6 W64 T66 T67 1000 1000 zl.1 ?_ (fun r68 κ_69 q70 => ?_)
          · rw [eg56]
            exact ⟨⟨G56, L56, I56⟩, by decide, ⟨rfl, rfl⟩, ⟨v44.1, vt56, tg56⟩, Or.inr ⟨_, h3'⟩⟩
          obtain ⟨q70, z9⟩ := q70
          have zr9 := z9
          intro W71
          intro M72
          rw [eg56] at q70
          obtain ⟨xr, ⟨S70, _, v70, k70, n70⟩, ev70⟩ := q70
          obtain ⟨N70, _⟩ := n70 _ h3'
          have J69 := arJ_s9 W64 T56 J56 S70 N70
          obtain ⟨⟨Z69, e69, G69⟩, ⟨I69, D69⟩, p69, C69⟩ := id J69
          obtain ⟨X69, H69, V69, E69, T69, L69, _, _⟩ := tb_c9 W15 T13 X13 hg13 arF9_t Z69 e69
          have L69 := L69 L13
          have eg69 := e69 odGroups (by decide)
          have pk69 := fun K L x (H : hkS9 κ_56 (zR κ_13 odGroups a0) 8192 K L x) => (show hkS9 κ_69 (zR κ_13 odGroups a0) 8192 K L x by
            have q := S70.2.2.2.2.1 K L x
            rw [eg56] at q
            exact q H)
          have kt := pk69 _ _ _ k44'
          have kl := pk69 _ _ _ k57
          have kr9 := cnk v44.1
          have kxl := cnk v57.1
          have kxr := cnk v70.1
          have vt : r42.toInt < (zI κ_69 hoTotal (zR κ_13 odGroups a0)).toInt := by
            have q := kt.1.1
            omega
          have vl : xl.toInt < (zI κ_69 hoTotal (zR κ_13 odGroups a0)).toInt := by
            have q := kl.1.1
            omega
          have tg69 : pV9 κ_69 (zR κ_13 odGroups a0) r42 0 = 0 := pV9_k (K := tK9 κ_13 a0 x131_6 a3) v44.1 kt.1 (by decide) (by decide)
          have gl := I69 xl v57.1 (by rw [eg69]; exact vl)
          have gr := I69 xr v70.1 (by rw [eg69]; exact v70.2)
          have l0' : pV9 κ_69 (zR κ_13 odGroups a0) xl 0 = 1 := pV9_k (K := k39 1 r42 r48) v57.1 kl.1 (by decide) (by decide)
          have l1' : pV9 κ_69 (zR κ_13 odGroups a0) xl 1 = r42 := pV9_k (K := k39 1 r42 r48) v57.1 kl.1 (by decide) (by decide)
          have r0' : pV9 κ_69 (zR κ_13 odGroups a0) xr 0 = 2 := pV9_k (K := k39 2 r42 r61) v70.1 k70.1 (by decide) (by decide)
          have r1' : pV9 κ_69 (zR κ_13 odGroups a0) xr 1 = r42 := pV9_k (K := k39 2 r42 r61) v70.1 k70.1 (by decide) (by decide)
          dsimp only at gl gr
          rw [eg69] at gl gr
          obtain ⟨_, gl1, gl2⟩ := gl.2.1 l0'
          obtain ⟨_, gr1, gr2⟩ := gr.2.2 r0'
          rw [l1'] at gl2
          rw [r1'] at gr2
          have rk := (tb_k9 W64 T56 S70 N70).2.2.1 odRanks (Or.inr (Or.inr (Or.inl rfl)))
          rw [rk, ← ev57] at gl1 gl2
          rw [← ev70] at gr1 gr2
          have tM69 := G69.1.1.2.1.2
          rw [eg69] at tM69
          refine ⟨?_, ?_⟩
          · rw [inb_iff, L69.1]; omega  -- b27
          refine ⟨?_, ?_⟩
          · rw [inb_iff, L69.2.1]; omega  -- b28
          refine ⟨fun c73 => ?_, fun c73 => ?_⟩
          · skip
            refine hj240 _ _ _ _ _ _ _ _ _ _ _ W71 ?_ ?_
            · exact T69  -- t29
            · refine and_5 ?_ (fun o9 => ?_)  -- k30
              · exact ⟨rfl, rfl, rfl, rfl, J69, ⟨rfl, rfl, by omega, mk⟩, ⟨v44.1, by rw [eg69]; exact vt, by rw [eg69]; exact tg69⟩, ⟨gl1, gl2⟩, gr1, gr2⟩
              · obtain ⟨⟨g1, g2, g3, g4⟩, g5⟩ := hE
                have F1 := fz_n24 W131 T131_0 S44 N44
                have F2 := fz_n24 W51 T43 S57 N57
                have F3 := fz_n24 W64 T56 S70 N70
                have t1 := G2.1.1.2.1.2
                have t2 := G43.1.1.2.1.2
                have t3 := G56.1.1.2.1.2
                refine ⟨⟨zr9.1, us_f24 eg56 F3 (us_f24 eg43 F2 (us_f24 eg2 F1 g2)), pl_f24 eg56 t3 F3 (Or.inl rfl) (pl_f24 eg43 t2 F2 (Or.inl rfl) (pl_f24 eg2 t1 F1 (Or.inl rfl) g3)), ?_⟩, xc_f24 eg56 F3 (Or.inl rfl) (Or.inr rfl) (xc_f24 eg43 F2 (Or.inl rfl) (Or.inr rfl) (xc_f24 eg2 F1 (Or.inl rfl) (Or.inr rfl) g5)), ?_, xl.toNatClampNeg, xr.toNatClampNeg, ⟨v44.1, kt, by rw [← q50]; exact kl, by rw [← q63]; exact k70⟩, ?_, ev70⟩
                · rw [si_f24 t3 F3, si_f24 t2 F2, si_f24 t1 F1]
                  exact g4
                · rw [← lti]
                  first | exact ⟨fun _ => c73, fun _ => rfl⟩ | exact ⟨fun z => absurd z (by decide), fun z => absurd z c73⟩
                · rw [ev57, rk]
          · skip
            refine hj240 _ _ _ _ _ _ _ _ _ _ _ W71 ?_ ?_
            · exact T69  -- t31
            · refine and_5 ?_ (fun o9 => ?_)  -- k32
              · exact ⟨rfl, rfl, rfl, rfl, J69, ⟨rfl, rfl, by omega, mk⟩, ⟨v44.1, by rw [eg69]; exact vt, by rw [eg69]; exact tg69⟩, ⟨gl1, gl2⟩, gr1, gr2⟩
              · obtain ⟨⟨g1, g2, g3, g4⟩, g5⟩ := hE
                have F1 := fz_n24 W131 T131_0 S44 N44
                have F2 := fz_n24 W51 T43 S57 N57
                have F3 := fz_n24 W64 T56 S70 N70
                have t1 := G2.1.1.2.1.2
                have t2 := G43.1.1.2.1.2
                have t3 := G56.1.1.2.1.2
                refine ⟨⟨zr9.1, us_f24 eg56 F3 (us_f24 eg43 F2 (us_f24 eg2 F1 g2)), pl_f24 eg56 t3 F3 (Or.inl rfl) (pl_f24 eg43 t2 F2 (Or.inl rfl) (pl_f24 eg2 t1 F1 (Or.inl rfl) g3)), ?_⟩, xc_f24 eg56 F3 (Or.inl rfl) (Or.inr rfl) (xc_f24 eg43 F2 (Or.inl rfl) (Or.inr rfl) (xc_f24 eg2 F1 (Or.inl rfl) (Or.inr rfl) g5)), ?_, xl.toNatClampNeg, xr.toNatClampNeg, ⟨v44.1, kt, by rw [← q50]; exact kl, by rw [← q63]; exact k70⟩, ?_, ev70⟩
                · rw [si_f24 t3 F3, si_f24 t2 F2, si_f24 t1 F1]
                  exact g4
                · rw [← lti]
                  first | exact ⟨fun _ => c73, fun _ => rfl⟩ | exact ⟨fun z => absurd z (by decide), fun z => absurd z c73⟩
                · rw [ev57, rk]
    · skip
      refine h _ _ ?_
      · refine and_5 ?_ (fun o9 => ?_)  -- q33
        · have Z20' := Z20
          rw [eg13] at Z20'
          refine ⟨nb_0, F13.tr (Z20'.mono (fun f b z => arO9_m z)), ⟨by rw [← eg13, ← e20 odGroups (by decide)]; exact G20.1.1, G20.2⟩, ⟨L20 L13, ?_⟩, ?_, fun z => absurd rfl z⟩
          · rw [e20 odLinks (by decide), Z20.l (ty_odLinks W15 T13), ll13]
            exact ll2
          · exact eO_z9 W20 T20_0 Zp (fun z => absurd z.1 (by decide)) (eO_z9 W15 T13 J1.1 (fun z => by
              rcases z with ⟨_, z⟩ | z
              · exact absurd z (by decide)
              · exact ag13 z.1) Q13)
        · have Fp := fz_z24 (P := fun f => f = odCellOf) W20 T20_0 Zp Rp (fun f b z => by rw [z.1]; decide) (fun f b z y => by rw [z.1] at y; revert y; decide) (fun f h => by rw [h]; exact ⟨by decide +kernel, by decide⟩)
          have t3 := J1.2.2.1.1.2.1.2
          have t20 := G20.1.1.2.1.2
          have TB := tb_c9 W15 T13 X13 hg13 arF9_t Z20 e20
          have eg20 := e20 odGroups (by decide)
          have U := us_f24 eg1 Fp hE.2
          rw [show x20_5.toInt = (zI κ_13 hoTotal (zR κ_13 atEndings (zR κ_13 odAtlas a0))).toInt by omega] at U
          have S : st24 κ κ_20 a0 n9 a1 a2 a3 := st_b24 eg20 TB.2.2.1 M13 (gr_f24 Fp hE.1) I20 t20 U (fun e he => pr9_m (by have f := Fp.2.2.1; rw [eg1] at f; exact f) (D1 e he.1 (by have := he.2.1; omega) he.2.2))
          refine ⟨S, ⟨fun z => absurd rfl z, fun F => ?_⟩, fun z => absurd rfl z⟩
          exfalso
          have c24' : r12.toInt < r19.toInt := Int.not_le.mp (fun z => c24 (lei.mpr z))
          have zp2 := zp.2 c24'
          rw [← si_f24 t3 Fp, zm.1] at zp2
          have H := (fx_24 I20 t20).mp F
          have P := pr_24 (r := zA κ_13 (zR κ_7 odCellOf a0)) (K := 1000) (N := (sI (bt24 κ_20 a0) (zI κ_20 hoTotal (zR κ_20 odGroups a0)).toInt.toNat).toNat) (Rl := fun e x => ∃ e' T L R, (e' : Int32).toNatClampNeg = e ∧ 0 ≤ e'.toInt ∧ ro24 κ_20 κ_20 a0 a1 a2 a3 e' T L R ∧ ix24 κ_20 a0 T L R = (x : Int)) (fun e x y hx hy => by
            obtain ⟨e1, T1, L1, R1, h1, h2, h3, h4⟩ := hx
            obtain ⟨e2, T2, L2, R2, y1, y2, y3, y4⟩ := hy
            have k1 := cnk h2
            have k2 := cnk y2
            have ee : e1 = e2 := Int32.toInt_inj.mp (by omega)
            subst ee
            obtain ⟨u1, u2, u3⟩ := ro_u24 h3 y3
            rw [u1, u2, u3, y4] at h4
            omega) (fun x hx => by
            obtain ⟨e, T, L, R, h1, h2, h3⟩ := H x (by omega)
            have m := (M13 e).mpr h1
            have ke := cnk m.1
            exact ⟨e.toNatClampNeg, by have := h1.1.2; omega, by rw [← R13]; exact m.2.2, e, T, L, R, rfl, m.1, h2, h3⟩)
          omega
  · skip
    rw [lei, E1] at c17
    have hE2 := hE13.2
    have ix := cn1 (x := x20_5) l50 (by omega)
    refine ⟨?_, ?_⟩
    · rw [inb_iff, L1.2.2.2.2.1]; omega  -- b34
    refine ⟨fun c74 => ?_, fun c74 => ?_⟩
    · skip
      intro x75 hx75
      refine lp_b5 ?_ (fun d9 => ⟨rfl, ?_⟩)
      · rw [hn20, hx75, ix.2]; omega  -- d35
      · refine and_5 ?_ (fun o9 => ?_)  -- i36
        · rw [ec1] at c74
          refine ⟨rfl, rfl, rfl, rfl, J1, by rw [hx75, ix.2]; exact gp_m9 I1 (by omega) (by omega), by rw [hx75, ix.2]; omega, ⟨rfl, by rw [hx75, ix.2]; omega, by rw [hx75, ix.2]; omega⟩, fun e e0 e1 em => ?_⟩
          rw [hx75, ix.2] at e1
          by_cases z : e.toInt = x20_5.toInt
          · rw [Int32.toInt_inj.mp z] at em
            exact absurd c74 em
          · exact D1 e e0 (by omega) em
        · rw [hx75, ix.2]
          exact ⟨hE.1, us_m24 (fun _ _ _ H => H) rfl (by omega) hE.2⟩
    · skip
      intro T76
      rw [ec1] at c74
      have etk : tK9 κ20 a0 x20_5 a3 = tK9 κ_13 a0 x20_5 a3 := by unfold tK9; rw [V1]
      refine Od_tableOf_q6 W20 T76 x20_5.toInt x20_5.toInt hE.1 ?_ (fun r77 κ_78 q79 => ?_)
      · rw [eg1]
        exact ⟨⟨J1.2.2, L1, I1⟩, ⟨l50, l50⟩, H1, Or.inl (by omega)⟩
      obtain ⟨q79, z9⟩ := q79
      have zt := z9
      rw [eg1, etk] at q79
      obtain ⟨S79, I79, v79, k79, _⟩ := q79
      have J78 := tbJ9_s J1 S79
      obtain ⟨X78, H78, V78, E78, T78, L78, _, _⟩ := tb_c9 W15 T13 X13 hg13 tbF9_t J78.1 J78.2.1
      have L78 := L78 L13
      have eg78 := J78.2.1 odGroups (by decide)
      have t78 := S79.2.2.2.1
      rw [eg1] at t78
      have pk := fun K L x (H : hkS9 κ20 (zR κ_13 odGroups a0) 8192 K L x) => (show hkS9 κ_78 (zR κ_13 odGroups a0) 8192 K L x by
        have q := S79.2.2.2.2.1 K L x
        rw [eg1] at q
        exact q H)
      intro W80
      intro M81
      intro T82
      refine Ho_part_c2 W80 T82 1000 35 2048 ?_ (fun r83 q85 => ?_)
      · exact ⟨H78, Or.inr (Or.inl ⟨rfl, rfl, rfl⟩)⟩  -- p38
      intro W86
      intro M87
      intro T88
      intro T89
      rw [V78] at q85
      have tg78 : pV9 κ_78 (zR κ_13 odGroups a0) r77 0 = 0 := pV9_k (K := tK9 κ_13 a0 x20_5 a3) v79.1 k79.1 (by decide) (by decide)
      refine Od_rankOf1_q6 W86 T88 T89 x20_5.toInt x20_5.toInt zt.1 ?_ (fun r90 κ_91 q92 => ?_)
      · rw [eg78]
        exact ⟨⟨J78.2.2, L78, I79⟩, ⟨by omega, by omega⟩, ⟨rfl, rfl⟩, ⟨v79.1, v79.2, tg78⟩, Or.inl (by omega)⟩
      obtain ⟨q92, z9⟩ := q92
      have zl := z9
      rw [eg78] at q92
      obtain ⟨xl, ⟨S92, I92, v92, k92, _⟩, _⟩ := q92
      have J91 := tbJ9_s J78 S92
      obtain ⟨X91, H91, V91, E91, T91, L91, _, _⟩ := tb_c9 W15 T13 X13 hg13 tbF9_t J91.1 J91.2.1
      have L91 := L91 L13
      have eg91 := J91.2.1 odGroups (by decide)
      have t91 := S92.2.2.2.1
      rw [eg78] at t91
      have pk91 := fun K L x (H : hkS9 κ_78 (zR κ_13 odGroups a0) 8192 K L x) => (show hkS9 κ_91 (zR κ_13 odGroups a0) 8192 K L x by
        have q := S92.2.2.2.2.1 K L x
        rw [eg78] at q
        exact q H)
      have k79' := pk91 _ _ _ k79
      intro W93
      intro M94
      intro T95
      refine Ho_part_c2 W93 T95 1000 35 2048 ?_ (fun r96 q98 => ?_)
      · exact ⟨H91, Or.inr (Or.inl ⟨rfl, rfl, rfl⟩)⟩  -- p40
      intro W99
      intro M100
      intro T101
      intro T102
      rw [V91] at q98
      have tg91 : pV9 κ_91 (zR κ_13 odGroups a0) r77 0 = 0 := pV9_k (K := tK9 κ_13 a0 x20_5 a3) v79.1 k79'.1 (by decide) (by decide)
      refine Od_rankOf2_q6 W99 T101 T102 (x20_5.toInt + 1) x20_5.toInt zl.1 ?_ (fun r103 κ_104 q105 => ?_)
      · rw [eg91]
        exact ⟨⟨J91.2.2, L91, I92⟩, ⟨by omega, by omega⟩, ⟨rfl, rfl⟩, ⟨v79.1, by omega, tg91⟩, Or.inl (by omega)⟩
      obtain ⟨q105, z9⟩ := q105
      have zr9 := z9
      intro W106
      intro M107
      intro x108 hx108
      rw [eg91] at q105
      obtain ⟨xr, ⟨S105, I105, v105, k105, _⟩, _⟩ := q105
      have J104 := tbJ9_s J91 S105
      have t104 := S105.2.2.2.1
      rw [eg91] at t104
      have pk104 := fun K L x (H : hkS9 κ_91 (zR κ_13 odGroups a0) 8192 K L x) => (show hkS9 κ_104 (zR κ_13 odGroups a0) 8192 K L x by
        have q := S105.2.2.2.2.1 K L x
        rw [eg91] at q
        exact q H)
      rw [q85] at k92
      rw [q98] at k105
      refine lp_b5 ?_ (fun d9 => ⟨rfl, ?_⟩)
      · rw [hn20, hx108, ix.2]; omega  -- d42
      · refine and_5 ?_ (fun o9 => ?_)  -- i43
        · refine ⟨rfl, rfl, rfl, rfl, J104, by rw [hx108, ix.2]; exact I105, by rw [hx108, ix.2]; omega, ⟨rfl, by rw [hx108, ix.2]; omega, by rw [hx108, ix.2]; omega⟩, fun e e0 e1 em => ?_⟩
          rw [hx108, ix.2] at e1
          by_cases z : e.toInt = x20_5.toInt
          · rw [Int32.toInt_inj.mp z]
            exact ⟨r77, v79.1, pk104 _ _ _ k79', ⟨_, pk104 _ _ _ k92⟩, _, k105⟩
          · exact pr9_m (fun K L x H => pk104 _ _ _ (pk91 _ _ _ (pk _ _ _ H))) (D1 e e0 (by omega) em)
        · rw [hx108, ix.2]
          rw [eg1, etk] at zt
          rw [eg78, q85] at zl
          rw [eg91, q98] at zr9
          exact ⟨zr9.1, us_n24 hE.2 ⟨l50, by omega, c74⟩ pk pk91 pk104 zt.2 zl.2 zr9.2 ⟨v79.1, pk104 _ _ _ k79', pk104 _ _ _ k92, k105⟩⟩

end
section
set_option maxHeartbeats 1600000
/-! the class: throughCell -/
def bf24 (x : Int32) (i : Nat) : Prop := x = -1 ∨ (i : Int) < x.toInt
def fN24 (κ : zS) (a k : Nat) : Nat := (zA κ (zR κ atFirsts (zR κ odAtlas a)) k).toInt.toNat
def ld24 (κ : zS) (a n c k i : Nat) : Prop := k < n ∧ (fN24 κ a k ≤ i ∧ i < fN24 κ a (k + 1)) ∧ cE9 κ a k (Int32.ofNat i) ∧ (cx24 κ a (Int32.ofNat i)).toNatClampNeg = c
noncomputable def wq24 (κ : zS) (a c k : Nat) (B : Nat → Prop) (i : Nat) : Int := @ite Int ((cE9 κ a k (Int32.ofNat i) ∧ (cx24 κ a (Int32.ofNat i)).toNatClampNeg = c) ∧ B i) (Classical.propDecidable _) (zA κ (zR κ atWeights (zR κ odAtlas a)) i).toInt 0
noncomputable def PS24 (κ : zS) (a n : Nat) (V : Nat → Rat) (c : Nat) (B : Nat → Prop) : Rat := smQ (fun k => un15 κ (zR κ odSolver a) V k * ((sI (fun d => wq24 κ a c k B (fN24 κ a k + d)) (fN24 κ a (k + 1) - fN24 κ a k) : Int) : Rat)) n
/-- a cell's weight -/
noncomputable def WC24 (κ : zS) (a n : Nat) (V : Nat → Rat) (c : Nat) : Rat := PS24 κ a n V c (fun _ => True)
section
variable {κ : zS} {a n c k i : Nat} {V : Nat → Rat} {B B' : Nat → Prop}
theorem wq_124 (h : cE9 κ a k (Int32.ofNat i) ∧ (cx24 κ a (Int32.ofNat i)).toNatClampNeg = c) (b : B i) : wq24 κ a c k B i = (zA κ (zR κ atWeights (zR κ odAtlas a)) i).toInt := if_pos ⟨h, b⟩
theorem wq_024 (h : ¬ ((cE9 κ a k (Int32.ofNat i) ∧ (cx24 κ a (Int32.ofNat i)).toNatClampNeg = c) ∧ B i)) : wq24 κ a c k B i = 0 := if_neg h
theorem PS_c24 (h : ∀ k i, ld24 κ a n c k i → (B i ↔ B' i)) : PS24 κ a n V c B = PS24 κ a n V c B' := smQ_c (fun k hk => by
  rw [sI_c (g := fun d => wq24 κ a c k B' (fN24 κ a k + d)) (fun d hd => ?_)]
  by_cases z : cE9 κ a k (Int32.ofNat (fN24 κ a k + d)) ∧ (cx24 κ a (Int32.ofNat (fN24 κ a k + d))).toNatClampNeg = c
  · have q := h k (fN24 κ a k + d) ⟨hk, ⟨by omega, by omega⟩, z⟩
    by_cases b : B (fN24 κ a k + d)
    · rw [wq_124 z b, wq_124 z (q.mp b)]
    · rw [wq_024 (fun y => b y.2), wq_024 (fun y => b (q.mpr y.2))]
  · rw [wq_024 (fun y => z y.1), wq_024 (fun y => z y.1)])
theorem PS_024 (h : ∀ k i, ld24 κ a n c k i → ¬ B i) : PS24 κ a n V c B = 0 := smQ_0 (fun k hk => by
  rw [sI_c (g := fun _ => 0) (fun d hd => wq_024 (fun y => h k (fN24 κ a k + d) ⟨hk, ⟨by omega, by omega⟩, y.1⟩ y.2)), sI_z]
  exact Rat.mul_zero _)
theorem PS_s24 {k0 x : Nat} (dj : ∀ k k' i, k < n → k' < n → (fN24 κ a k ≤ i ∧ i < fN24 κ a (k + 1)) → (fN24 κ a k' ≤ i ∧ i < fN24 κ a (k' + 1)) → k = k') (hx : ld24 κ a n c k0 x) (hb : ¬ B x) (h : ∀ k i, ld24 κ a n c k i → (B' i ↔ B i ∨ i = x)) : PS24 κ a n V c B' = PS24 κ a n V c B + un15 κ (zR κ odSolver a) V k0 * (((zA κ (zR κ atWeights (zR κ odAtlas a)) x).toInt : Int) : Rat) := by
  obtain ⟨x1, ⟨x2, x3⟩, x4⟩ := hx
  have p : ∀ k, k < n → sI (fun d => wq24 κ a c k B' (fN24 κ a k + d)) (fN24 κ a (k + 1) - fN24 κ a k) = sI (fun d => wq24 κ a c k B (fN24 κ a k + d)) (fN24 κ a (k + 1) - fN24 κ a k) + if k0 = k then (zA κ (zR κ atWeights (zR κ odAtlas a)) x).toInt else 0 := fun k hk => by
    by_cases e : k0 = k
    · subst e
      rw [if_pos rfl]
      have q : ∀ d, d < fN24 κ a (k0 + 1) - fN24 κ a k0 → wq24 κ a c k0 B' (fN24 κ a k0 + d) = wq24 κ a c k0 B (fN24 κ a k0 + d) + if d = x - fN24 κ a k0 then (zA κ (zR κ atWeights (zR κ odAtlas a)) x).toInt else 0 := fun d hd => by
        by_cases z : cE9 κ a k0 (Int32.ofNat (fN24 κ a k0 + d)) ∧ (cx24 κ a (Int32.ofNat (fN24 κ a k0 + d))).toNatClampNeg = c
        · have y := h k0 (fN24 κ a k0 + d) ⟨hk, ⟨by omega, by omega⟩, z⟩
          by_cases w : fN24 κ a k0 + d = x
          · rw [if_pos (by omega), wq_124 z (y.mpr (Or.inr w)), wq_024 (fun v => hb (by rw [← w]; exact v.2)), w, Int.zero_add]
          · rw [if_neg (by omega), Int.add_zero]
            by_cases b : B (fN24 κ a k0 + d)
            · rw [wq_124 z b, wq_124 z (y.mpr (Or.inl b))]
            · rw [wq_024 (fun v => b v.2), wq_024 (fun v => (y.mp v.2).elim b w)]
        · rw [if_neg (fun w => z (by rw [show fN24 κ a k0 + d = x by omega]; exact x4)), wq_024 (fun v => z v.1), wq_024 (fun v => z v.1)]
          rfl
      rw [sI_c q, sI_ad, sI_one, if_pos (by omega)]
    · rw [if_neg e, Int.add_zero]
      refine sI_c (fun d hd => ?_)
      by_cases z : cE9 κ a k (Int32.ofNat (fN24 κ a k + d)) ∧ (cx24 κ a (Int32.ofNat (fN24 κ a k + d))).toNatClampNeg = c
      · have y := h k (fN24 κ a k + d) ⟨hk, ⟨by omega, by omega⟩, z⟩
        have w : ¬ fN24 κ a k + d = x := fun w => e (dj k0 k x x1 hk ⟨x2, x3⟩ ⟨by omega, by omega⟩)
        by_cases b : B (fN24 κ a k + d)
        · rw [wq_124 z b, wq_124 z (y.mpr (Or.inl b))]
        · rw [wq_024 (fun v => b v.2), wq_024 (fun v => (y.mp v.2).elim b w)]
      · rw [wq_024 (fun v => z v.1), wq_024 (fun v => z v.1)]
  unfold PS24
  have r : ∀ k, k < n → un15 κ (zR κ odSolver a) V k * ((sI (fun d => wq24 κ a c k B' (fN24 κ a k + d)) (fN24 κ a (k + 1) - fN24 κ a k) : Int) : Rat) = un15 κ (zR κ odSolver a) V k * ((sI (fun d => wq24 κ a c k B (fN24 κ a k + d)) (fN24 κ a (k + 1) - fN24 κ a k) : Int) : Rat) + if k0 = k then (fun k => un15 κ (zR κ odSolver a) V k * (((zA κ (zR κ atWeights (zR κ odAtlas a)) x).toInt : Int) : Rat)) k else 0 := fun k hk => by
    rw [p k hk, Rat.intCast_add]
    by_cases e : k0 = k
    · rw [if_pos e, if_pos e]
      grind
    · rw [if_neg e, if_neg e]
      have z : ((0 : Int) : Rat) = 0 := rfl
      rw [z]
      grind
  rw [smQ_c r, smQ_add, smQ_115, if_pos x1]
end
theorem fN_k24 {κ : zS} {a n k : Nat} (A : atW κ (zR κ odAtlas a) n) (hk : k < n) : ((fN24 κ a k : Nat) : Int) = (zA κ (zR κ atFirsts (zR κ odAtlas a)) k).toInt ∧ ((fN24 κ a (k + 1) : Nat) : Int) = (zA κ (zR κ atFirsts (zR κ odAtlas a)) (k + 1)).toInt ∧ (zA κ (zR κ atFirsts (zR κ odAtlas a)) (k + 1)).toInt ≤ 20000 := by
  have m := fm_9 A (k + 1) k (by omega) (by omega)
  obtain ⟨⟨f0, f01, f02⟩, _, _⟩ := A.2.2.2.2.2 k hk
  have l20 := A.2.1.2.2
  have nx5 := A.2.2.2.2.1
  unfold fN24
  exact ⟨by omega, by omega, by omega⟩
theorem dj_24 {κ : zS} {a n : Nat} (A : atW κ (zR κ odAtlas a) n) : ∀ k k' i, k < n → k' < n → (fN24 κ a k ≤ i ∧ i < fN24 κ a (k + 1)) → (fN24 κ a k' ≤ i ∧ i < fN24 κ a (k' + 1)) → k = k' := fun k k' i hk hk' h h' => by
  have e := fN_k24 A hk
  have e' := fN_k24 A hk'
  exact fu_9 (x := (i : Int)) A hk hk' (by omega) (by omega) (by omega) (by omega)
theorem ld_k24 {κ : zS} {a n c k i : Nat} (A : atW κ (zR κ odAtlas a) n) (h : ld24 κ a n c k i) : (Int32.ofNat i).toInt = (i : Int) ∧ lkN9 κ a n (Int32.ofNat i) := by
  obtain ⟨h1, ⟨h2, h3⟩, h4, h5⟩ := h
  have e := fN_k24 A h1
  have ei : (Int32.ofNat i).toInt = (i : Int) := ofn_i (by omega)
  exact ⟨ei, k, h1, by omega, by omega, h4⟩
theorem kl_24 {κ : zS} {a n c : Nat} {x : Int32} (A : atW κ (zR κ odAtlas a) n) (h : lkN9 κ a n x) (hc : (cx24 κ a x).toNatClampNeg = c) : 0 ≤ x.toInt ∧ ∃ k, ld24 κ a n c k x.toNatClampNeg := by
  obtain ⟨k, h1, h2, h3, h4⟩ := h
  have e := fN_k24 A h1
  have kx := cnk (x := x) (by omega)
  have o := on_24 (x := x) (by omega) (by omega)
  exact ⟨by omega, k, h1, ⟨by omega, by omega⟩, by rw [o]; exact h4, by rw [o]; exact hc⟩
def in24 (κ : zS) (a : Nat) (l3 l4 : Int32) : Prop := l4 ≠ -1 ∧ l4.toInt < (zA κ (zR κ atFirsts (zR κ odAtlas a)) (l3.toNatClampNeg + 1)).toInt
def IW24 (κ τ : zS) (a n : Nat) (V : Nat → Rat) (c : Nat) (a2 l3 l4 : Int32) (l5 : Int64) (P : Nat → Prop) : Prop := (a2 = 0 → ((nuN τ (zR κ soSum (zR κ odSolver a)) : Nat) : Rat) + un15 κ (zR κ odSolver a) V l3.toNatClampNeg * ((l5.toInt : Int) : Rat) * ((nuN κ (zR κ soWhole (zR κ odSolver a)) : Nat) : Rat) = PS24 κ a n V c (bf24 l4) * ((nuN κ (zR κ soWhole (zR κ odSolver a)) : Nat) : Rat)) ∧ (a2 ≠ 0 → (nuN κ (zR κ soWhole (zR κ odSolver a)) ∣ nuN τ (zR κ soWhole (zR κ odSolver a)) ∧ (nuN κ (zR κ soWhole (zR κ odSolver a)) ≠ 0 → nuN τ (zR κ soWhole (zR κ odSolver a)) ≠ 0)) ∧ ∀ k i, ld24 κ a n c k i → bf24 l4 i → P k ∨ (un15 κ (zR κ odSolver a) V k).den ∣ nuN τ (zR κ soWhole (zR κ odSolver a)))
def IV24 (κ τ : zS) (a n : Nat) (V : Nat → Rat) (c : Nat) (a2 l3 l4 : Int32) (l5 : Int64) (l7 : Int32) : Prop := IW24 κ τ a n V c a2 l3 l4 l5 (fun k => k = l3.toNatClampNeg ∧ in24 κ a l3 l4) ∧ (l5.toInt = 0 ∨ in24 κ a l3 l4) ∧ (l4 ≠ -1 → l7.toInt ≤ l4.toInt ∧ (cx24 κ a l4).toNatClampNeg = c)
def IU24 (κ τ : zS) (a n : Nat) (V : Nat → Rat) (c : Nat) (a2 l3 l4 : Int32) (l5 : Int64) (l7 : Int32) : Prop := IW24 κ τ a n V c a2 l3 l4 l5 (fun k => k = l3.toNatClampNeg) ∧ (l4 ≠ -1 → l7.toInt + 1 ≤ l4.toInt ∧ (cx24 κ a l4).toNatClampNeg = c) ∧ ∃ i, ld24 κ a n c l3.toNatClampNeg i
/-- one next more -/
theorem iu_s24 {κ τ : zS} {a n : Nat} {V : Nat → Rat} {c : Nat} {a2 l3 l4 l4' : Int32} {l5 l5' : Int64} {l7 : Int32} (A : atW κ (zR κ odAtlas a) n) (h : IV24 κ τ a n V c a2 l3 l4 l5 l7) (lk : lkN9 κ a n l4) (s1 : (zA κ (zR κ atFirsts (zR κ odAtlas a)) l3.toNatClampNeg).toInt ≤ l4.toInt) (s2 : l4.toInt < (zA κ (zR κ atFirsts (zR κ odAtlas a)) (l3.toNatClampNeg + 1)).toInt) (hk : l3.toNatClampNeg < n) (cp : ∀ x, lkN9 κ a n x → 0 ≤ (cx24 κ a x).toInt) (hx : (∀ y, lkN9 κ a n y → l4.toInt < y.toInt → cx24 κ a y = cx24 κ a l4 → l4' ≠ -1 ∧ l4'.toInt ≤ y.toInt) ∧ (l4' ≠ -1 → (cx24 κ a l4').toNatClampNeg = (cx24 κ a l4).toNatClampNeg)) (nx : l4' = -1 ∨ (lkN9 κ a n l4' ∧ l4.toInt < l4'.toInt)) (e5 : l5'.toInt = l5.toInt + (zA κ (zR κ atWeights (zR κ odAtlas a)) l4.toNatClampNeg).toInt) : IU24 κ τ a n V c a2 l3 l4' l5' l7 := by
  obtain ⟨⟨W1, W2⟩, _, h4⟩ := h
  have n1 : l4 ≠ -1 := fun z => by
    obtain ⟨k, h1, h2, h3, _⟩ := lk
    have e := fN_k24 A h1
    rw [z, tmi] at h2
    omega
  obtain ⟨b1, b2⟩ := h4 n1
  obtain ⟨p0, k0, L0⟩ := kl_24 A lk b2
  have kp := cnk p0
  have ek : k0 = l3.toNatClampNeg := by
    have e := fN_k24 A hk
    exact dj_24 A k0 l3.toNatClampNeg _ L0.1 hk L0.2.1 ⟨by omega, by omega⟩
  rw [ek] at L0
  have hb : ¬ bf24 l4 l4.toNatClampNeg := fun z => by
    rcases z with z | z
    · exact n1 z
    · omega
  have lt' : ∀ k i, ld24 κ a n c k i → l4.toInt < (i : Int) → l4' ≠ -1 ∧ l4'.toInt ≤ (i : Int) := fun k i hi z => by
    have e := ld_k24 A hi
    have q1 := cp _ e.2
    have q2 := cp _ lk
    have c1 := cnk q1
    have c2 := cnk q2
    have c3 := hi.2.2.2
    have y := hx.1 _ e.2 (by rw [e.1]; exact z) (Int32.toInt_inj.mp (by omega))
    rw [e.1] at y
    exact y
  have H : ∀ k i, ld24 κ a n c k i → (bf24 l4' i ↔ bf24 l4 i ∨ i = l4.toNatClampNeg) := fun k i hi => by
    constructor
    · intro z
      by_cases y : l4.toInt < (i : Int)
      · have q := lt' k i hi y
        rcases z with z | z
        · exact absurd z q.1
        · omega
      · by_cases w : i = l4.toNatClampNeg
        · exact Or.inr w
        · exact Or.inl (Or.inr (by omega))
    · intro z
      rcases nx with y | y
      · exact Or.inl y
      · refine Or.inr ?_
        rcases z with (z | z) | z
        · exact absurd z n1
        · omega
        · omega
  refine ⟨⟨fun z => ?_, fun z => ⟨(W2 z).1, fun k i hi b => ?_⟩⟩, fun z => ⟨by have := nx.resolve_left z; omega, by rw [hx.2 z]; exact b2⟩, _, L0⟩
  · have y := W1 z
    rw [PS_s24 (dj_24 A) L0 hb H, e5, Rat.intCast_add]
    grind
  · rcases (H k i hi).mp b with w | w
    · rcases (W2 z).2 k i hi w with v | v
      · exact Or.inl v.1
      · exact Or.inr v
    · refine Or.inl (dj_24 A k l3.toNatClampNeg _ hi.1 hk hi.2.1 ?_)
      rw [w]
      exact L0.2.1
theorem iv_e24 {κ τ : zS} {a n : Nat} {V : Nat → Rat} {c : Nat} {a2 l3 : Int32} {l5 : Int64} {l7 : Int32} (h : IV24 κ τ a n V c a2 l3 (-1) l5 l7) : (a2 = 0 → ((nuN τ (zR κ soSum (zR κ odSolver a)) : Nat) : Rat) = WC24 κ a n V c * ((nuN κ (zR κ soWhole (zR κ odSolver a)) : Nat) : Rat)) ∧ (a2 ≠ 0 → (nuN κ (zR κ soWhole (zR κ odSolver a)) ∣ nuN τ (zR κ soWhole (zR κ odSolver a)) ∧ (nuN κ (zR κ soWhole (zR κ odSolver a)) ≠ 0 → nuN τ (zR κ soWhole (zR κ odSolver a)) ≠ 0)) ∧ ∀ k, (∃ i, ld24 κ a n c k i) → (un15 κ (zR κ odSolver a) V k).den ∣ nuN τ (zR κ soWhole (zR κ odSolver a))) := by
  obtain ⟨⟨W1, W2⟩, h3, _⟩ := h
  have n : ¬ in24 κ a l3 (-1) := fun z => z.1 rfl
  have l0 := h3.resolve_right n
  refine ⟨fun z => ?_, fun z => ⟨(W2 z).1, fun k ⟨i, hi⟩ => ?_⟩⟩
  · have y := W1 z
    have i0 : ((0 : Int) : Rat) = 0 := rfl
    rw [l0, i0, Rat.mul_zero, Rat.zero_mul, Rat.add_zero, PS_c24 (B := bf24 (-1)) (B' := fun _ => True) (fun k i _ => ⟨fun _ => trivial, fun _ => Or.inl rfl⟩)] at y
    exact y
  · exact ((W2 z).2 k i hi (Or.inl rfl)).resolve_left (fun y => n y.2)
theorem Od_throughCell_q6 {C : zC} {n0 : Nat} {a0 : Nat} {a1 : Int32} {a2 : Int32} {κ : zS} {Q : zS → Prop} (W : zW C n0 κ) (Ta0 : zT κ a0 = 9) (ρ : Nat → Nat) (n9 P9 : Nat) (V9 : Nat → Rat) (hV9 : vV15 κ (zR κ odSolver a0) n9 V9) (hX9 : lx24 κ κ a0 n9 0) (hC9 : ∀ x, lkN9 κ a0 n9 x → 0 ≤ (cx24 κ a0 x).toInt) (hB9 : a2 = 0 → ∀ k, (∃ i, ld24 κ a0 n9 a1.toNatClampNeg k i) → (un15 κ (zR κ odSolver a0) V9 k).den ∣ nuN κ (zR κ soWhole (zR κ odSolver a0))) (hp : (nmI ρ κ ∧ soI ρ κ (zR κ odSolver a0)) ∧ odX9 ρ κ a0 n9 P9 ∧ (0 < P9 ∧ P9 < pB9 1490) ∧ (tbL9 κ a0 ∧ (zI κ atNexts (zR κ odAtlas a0)).toInt ≤ (zN κ (zR κ odLinks a0)) ∧ lkB9 κ κ a0 n9 0) ∧ (0 ≤ a1.toInt ∧ a1.toInt < 1000) ∧ dz9 (nuN κ (zR κ soWhole (zR κ odSolver a0))) P9 ∧ nuN κ (zR κ soLess (zR κ odSolver a0)) < pB9 4000) (h : ∀ (κ' : zS), (((zF (soF ρ tcR9 (zR κ odCalc a0)) κ κ' ∧ nmI ρ κ' ∧ soI ρ κ' (zR κ odSolver a0)) ∧ nuN κ' (zR κ soSum (zR κ odSolver a0)) < pB9 1502 ∧ dz9 (nuN κ' (zR κ soWhole (zR κ odSolver a0))) P9 ∧ nuN κ' (zR κ soLess (zR κ odSolver a0)) < pB9 4000) ∧ ((a2 = 0 → nuN κ' (zR κ soWhole (zR κ odSolver a0)) = nuN κ (zR κ soWhole (zR κ odSolver a0)) ∧ ((nuN κ' (zR κ soSum (zR κ odSolver a0)) : Nat) : Rat) = WC24 κ a0 n9 V9 a1.toNatClampNeg * ((nuN κ (zR κ soWhole (zR κ odSolver a0)) : Nat) : Rat)) ∧ (a2 ≠ 0 → (nuN κ (zR κ soWhole (zR κ odSolver a0)) ∣ nuN κ' (zR κ soWhole (zR κ odSolver a0)) ∧ (nuN κ (zR κ soWhole (zR κ odSolver a0)) ≠ 0 → nuN κ' (zR κ soWhole (zR κ odSolver a0)) ≠ 0)) ∧ ∀ k, (∃ i, ld24 κ a0 n9 a1.toNatClampNeg k i) → (un15 κ (zR κ odSolver a0) V9 k).den ∣ nuN κ' (zR κ soWhole (zR κ odSolver a0))))) → Q κ') : zRun C 6 mOd_throughCell [.ref a0, .int a1, .int a2] κ (oV Q noX) := by
  refine Od_throughCell_run W Ta0 ?_
  replace W := W.lo (Nat.le_trans W.1.2.1 W.1.2.2) (Nat.le_refl (zn κ))
  unfold w_Od_throughCell_0
  obtain ⟨⟨N0, S0⟩, X0, ⟨P0, P1⟩, ⟨L0, nl, ⟨hd, lk⟩⟩, ⟨c0, c1⟩, D0, Le0⟩ := hp
  have ts := ty_odSolver W Ta0
  have A0 := X0.2.2.1.1
  have hn := A0.2.2.1
  have tot := A0.2.2.2.1
  have nx5 := A0.2.2.2.2.1
  have l20 := A0.2.1.2.2
  have h1 := S0.1.1
  have h7 := S0.1.2.2.2.2.1
  have h8 := S0.1.2.2.2.2.2.1
  have h20 := S0.1.2.2.2.2.2.2
  have g7 := nm_g N0 (w := (zR κ soSum (zR κ odSolver a0))) h7 (Or.inl ⟨by decide, by decide⟩) (by decide)
  have tW := ty_soWhole W ts
  have tS := ty_soSum W ts
  have tL := ty_soLess W ts
  have lw0 : nuN κ (zR κ soWhole (zR κ odSolver a0)) < pB9 1490 := Nat.lt_of_le_of_lt (dz9_le D0 P0) P1
  have b4 : pB9 1502 ≤ pB9 4000 := pB9_l (by decide)
  have kc := cnk c0
  intro T1
  refine Nu_put_c W T1 6500 ?_ (fun κ_2 q3 => ?_)
  · exact ⟨by decide, g7.2.2⟩  -- p1
  intro W4
  intro M5
  obtain ⟨Fs, ⟨Rs, Ns⟩, Is, Vs⟩ := q3
  have Zs0 : zF (soF ρ (fun r => r = 7) (zR κ odCalc a0)) κ κ_2 := soF_1 h7 Fs
  have Zs : zF (soF ρ tcR9 (zR κ odCalc a0)) κ κ_2 := soF_m (fun r z => Or.inr (Or.inl (by omega))) Zs0
  have N2 : nmI ρ κ_2 := nm_1 W N0 Fs (by rw [h7]; exact Is)
  have S2 : soI ρ κ_2 (zR κ odSolver a0) := so_1 W ts S0 Fs
  have w2 := (soF_B (c := 0) W tW Zs0 (by rw [h1]; decide)).2.1
  have l2 := (soF_B (c := 0) W tL Zs0 (by rw [h8]; decide)).2.1
  have ro2 := (od_w9 W Ta0 N0 Zs tcR9_l X0).1 odHeads 20 (by decide +kernel) (by decide) (by decide)
  refine ⟨?_, ?_⟩
  · rw [inb_iff, ro2.2.2.2, L0.2.2.2.2.2.1]; omega  -- b2
  intro x6 hx6
  unfold w_Od_throughCell_27
  refine ⟨fun n l0 l2 l3 l4 l5 l7 τ => n = ((zI κ atNexts (zR κ odAtlas a0)).toInt - l7.toInt).toNat ∧ ((a0 = l0 ∧ a2 = l2 ∧ (zF (soF ρ tcR9 (zR κ odCalc a0)) κ τ ∧ nmI ρ τ ∧ soI ρ τ (zR κ odSolver a0)) ∧ (dz9 (nuN τ (zR κ soWhole (zR κ odSolver a0))) P9 ∧ nuN τ (zR κ soLess (zR κ odSolver a0)) < pB9 4000) ∧ ((a2 = 0 → nuN τ (zR κ soWhole (zR κ odSolver a0)) = nuN κ (zR κ soWhole (zR κ odSolver a0)) ∧ nuN τ (zR κ soSum (zR κ odSolver a0)) ≤ uB9 (nuN κ (zR κ soWhole (zR κ odSolver a0))) l7.toNatClampNeg) ∧ (a2 ≠ 0 → nuN τ (zR κ soSum (zR κ odSolver a0)) = 0)) ∧ (0 ≤ l7.toInt ∧ l7.toInt ≤ 20000) ∧ (0 ≤ l3.toInt ∧ (l4 = -1 ∨ ((lkN9 κ a0 n9 l4 ∧ l3.toInt < n9) ∧ (zA κ (zR κ atFirsts (zR κ odAtlas a0)) l3.toNatClampNeg).toInt ≤ l4.toInt))) ∧ (0 ≤ l5.toInt ∧ l5.toInt ≤ 2147483648 * l7.toInt)) ∧ IV24 κ τ a0 n9 V9 a1.toNatClampNeg a2 l3 l4 l5 l7), ⟨_, rfl, ?_⟩, ?_⟩
  · refine and_5 ?_ (fun o9 => ?_)  -- j3
    · rw [ro2.2.1] at hx6
      refine ⟨rfl, rfl, ⟨Zs, N2, S2⟩, ⟨by rw [w2]; exact D0, by rw [l2]; exact Le0⟩, ⟨fun _ => ⟨w2, ?_⟩, fun _ => ?_⟩, by decide, ⟨by decide, ?_⟩, by decide⟩
      · rw [Vs]; exact uB_0 (by decide)
      · rw [Vs]; rfl
      · rcases hd a1.toNatClampNeg (by omega) with y | y
        · exact Or.inl (by rw [hx6]; exact y)
        · rw [← hx6] at y
          obtain ⟨k, k1, k2, _⟩ := id y.1
          have f0 := fm_9 A0 k 0 (by omega) (by omega)
          exact Or.inr ⟨⟨y.1, by rw [t0i]; omega⟩, Int.le_trans f0 k2⟩
    · have H := hX9.1 a1.toNatClampNeg (by omega)
      rw [ro2.2.1] at hx6
      have A := X0.2.2.1.1
      have z0 : (((0 : Int64).toInt.toNat : Nat) : Rat) = 0 := rfl
      have i0 : (((0 : Int64).toInt : Int) : Rat) = 0 := rfl
      have B0 : ∀ k i, ld24 κ a0 n9 a1.toNatClampNeg k i → ¬ bf24 x6 i := fun k i hi z => by
        have e := ld_k24 A hi
        have y := H.1 _ e.2 (by rw [e.1]; omega) hi.2.2.2
        rw [← hx6, e.1] at y
        rcases z with z | z
        · exact y.1 z
        · omega
      refine ⟨⟨fun z => ?_, fun z => ⟨⟨by rw [w2]; exact Nat.dvd_refl _, fun y => by rw [w2]; exact y⟩, fun k i hi b => absurd b (B0 k i hi)⟩⟩, Or.inl rfl, fun z => ?_⟩
      · rw [PS_024 B0, Vs, z0, i0, Rat.mul_zero, Rat.zero_mul, Rat.add_zero]
      · have y := H.2 (by rw [← hx6]; exact z)
        rw [← hx6] at y
        have lk6 := (hd a1.toNatClampNeg (by omega)).resolve_left (by rw [← hx6]; exact z)
        rw [← hx6] at lk6
        exact ⟨by rw [t0i]; exact (kl_24 A lk6.1 y).1, y⟩
  rintro n27 _ _ x27_3 x27_4 x27_5 x27_7 κ27 W27 T27_0 ⟨hn27, ⟨rfl, rfl, i27⟩, hE⟩
  obtain ⟨⟨Z1, N1, S1⟩, ⟨D1, L1⟩, ⟨B1, B2⟩, l7, ⟨l30, l4⟩, l50, l51⟩ := i27
  obtain ⟨X1, e1, _, _⟩ := odX9_f W Ta0 N0 Z1 tcR9_l X0
  obtain ⟨ro1, at1, nx1, tt1, sg1⟩ := od_w9 W Ta0 N0 Z1 tcR9_l X0
  have es : zR κ27 odSolver a0 = (zR κ odSolver a0) := e1 odSolver (Or.inl (by decide)) a0
  have ec : zR κ27 odCalc a0 = (zR κ odCalc a0) := e1 odCalc (Or.inl (by decide)) a0
  have ew : zR κ27 soWhole (zR κ odSolver a0) = (zR κ soWhole (zR κ odSolver a0)) := e1 soWhole (Or.inr (by decide)) _
  have eu : zR κ27 soSum (zR κ odSolver a0) = (zR κ soSum (zR κ odSolver a0)) := e1 soSum (Or.inr (by decide)) _
  have el : zR κ27 soLess (zR κ odSolver a0) = (zR κ soLess (zR κ odSolver a0)) := e1 soLess (Or.inr (by decide)) _
  have ep : zR κ27 soPart (zR κ odSolver a0) = (zR κ soPart (zR κ odSolver a0)) := e1 soPart (Or.inr (by decide)) _
  have lw1 : nuN κ27 (zR κ soWhole (zR κ odSolver a0)) < pB9 1490 := Nat.lt_of_le_of_lt (dz9_le D1 P0) P1
  have k7 := cnk l7.1
  have sumB : nuN κ27 (zR κ soSum (zR κ odSolver a0)) < pB9 1502 := if z : a2 = 0 then uB_l lw0 (by omega) (B1 z).2 else (by rw [B2 z]; exact pB9_p)
  have fr1 := (at1 atFirsts (by decide))
  have hj130 : ∀ (l0 : Nat) (l2 : Int32) (l3 : Int32) (l4 : Int32) (l5 : Int64) (l7 : Int32) (τ : zS), zW C (zn κ) τ → zT τ l0 = 9 → ((a0 = l0 ∧ a2 = l2 ∧ κ27 = τ ∧ x27_7 = l7 ∧ (0 ≤ l3.toInt ∧ l3.toInt < n9) ∧ (l4 = -1 ∨ (lkN9 κ a0 n9 l4 ∧ (zA κ (zR κ atFirsts (zR κ odAtlas a0)) l3.toNatClampNeg).toInt ≤ l4.toInt)) ∧ zI κ raSign (vU9 κ (zR κ odSolver a0) l3.toNatClampNeg) ≠ 0 ∧ (0 ≤ l5.toInt ∧ l5.toInt ≤ 2147483648 * (l7.toInt + 1)) ∧ x27_7.toInt < (zI κ atNexts (zR κ odAtlas a0)).toInt) ∧ IU24 κ τ a0 n9 V9 a1.toNatClampNeg a2 l3 l4 l5 l7) → w_Od_throughCell_130 C (zn κ) Q (fun (l0' : Nat) (l2' : Int32) (l3' : Int32) (l4' : Int32) (l5' : Int64) (l7' : Int32) (τ : zS) => ∃ k < n27, (fun (n : Nat) (l0 : Nat) (l2 : Int32) (l3 : Int32) (l4 : Int32) (l5 : Int64) (l7 : Int32) (τ : zS) => n = ((zI κ atNexts (zR κ odAtlas a0)).toInt - l7.toInt).toNat ∧ ((a0 = l0 ∧ a2 = l2 ∧ (zF (soF ρ tcR9 (zR κ odCalc a0)) κ τ ∧ nmI ρ τ ∧ soI ρ τ (zR κ odSolver a0)) ∧ (dz9 (nuN τ (zR κ soWhole (zR κ odSolver a0))) P9 ∧ nuN τ (zR κ soLess (zR κ odSolver a0)) < pB9 4000) ∧ ((a2 = 0 → nuN τ (zR κ soWhole (zR κ odSolver a0)) = nuN κ (zR κ soWhole (zR κ odSolver a0)) ∧ nuN τ (zR κ soSum (zR κ odSolver a0)) ≤ uB9 (nuN κ (zR κ soWhole (zR κ odSolver a0))) l7.toNatClampNeg) ∧ (a2 ≠ 0 → nuN τ (zR κ soSum (zR κ odSolver a0)) = 0)) ∧ (0 ≤ l7.toInt ∧ l7.toInt ≤ 20000) ∧ (0 ≤ l3.toInt ∧ (l4 = -1 ∨ ((lkN9 κ a0 n9 l4 ∧ l3.toInt < n9) ∧ (zA κ (zR κ atFirsts (zR κ odAtlas a0)) l3.toNatClampNeg).toInt ≤ l4.toInt))) ∧ (0 ≤ l5.toInt ∧ l5.toInt ≤ 2147483648 * l7.toInt)) ∧ IV24 κ τ a0 n9 V9 a1.toNatClampNeg a2 l3 l4 l5 l7)) k l0' l2' l3' l4' l5' l7' τ) l0 l2 l3 l4 l5 l7 τ := by
    rintro _ _ y130_3 y130_4 y130_5 y130_7 τ130 W130 T130_0 ⟨⟨rfl, rfl, j130⟩, hE⟩
    unfold w_Od_throughCell_130
    intro T7
    obtain ⟨rfl, rfl, m3, m4, sg, m5, m7⟩ := j130
    have sg9 := sg
    have k3 := cnk m3.1
    rw [← sg1 y130_3.toNatClampNeg (by omega)] at sg9
    have S1' : soI ρ κ27 (zR κ27 odSolver a0) := by rw [es]; exact S1
    have ix := cn1 (x := x27_7) l7.1 (by omega)
    refine So_unit_q6 W130 T7 ρ (vU9 κ27 (zR κ27 odSolver a0) y130_3.toNatClampNeg) ?_ (fun κ_8 q9 => ?_)
    · exact od_u9 N1 S1' X1 m3.1 m3.2 sg9  -- p4
    obtain ⟨q9, z9⟩ := q9
    have zu := z9
    rw [es] at zu
    rw [ep] at zu
    have V27 : vV15 κ27 (zR κ odSolver a0) n9 V9 := vV_f15 W ts N0 Z1 hn tcR9_l X0.2.2.2.1 hV9
    have ru := zu _ (V27 y130_3.toNatClampNeg (by omega)).1
    have eu' : V9 y130_3.toNatClampNeg * mkRat 1 (dvN9 κ27 (zR κ27 soAtlas (zR κ odSolver a0)) y130_3.toNatClampNeg) = un15 κ (zR κ odSolver a0) V9 y130_3.toNatClampNeg := un_f16 W ts Z1 V9 _
    rw [eu'] at ru
    obtain ⟨⟨Zu, Nu9, Su9⟩, tu, bu, du⟩ := od_v9 X1 m3.1 m3.2 sg9 q9
    rw [ec] at Zu
    rw [es] at Su9 tu bu du
    rw [ep] at tu bu du
    have Z8 : zF (soF ρ tcR9 (zR κ odCalc a0)) κ κ_8 := Z1.tr (soF_m (fun r z => by unfold tcR9; rcases z with z | z | z <;> omega) Zu)
    obtain ⟨X8, e8, _, _⟩ := odX9_f W Ta0 N0 Z8 tcR9_l X0
    have es2 : zR κ_8 odSolver a0 = (zR κ odSolver a0) := e8 odSolver (Or.inl (by decide)) a0
    have ec2 : zR κ_8 odCalc a0 = (zR κ odCalc a0) := e8 odCalc (Or.inl (by decide)) a0
    have ew2 : zR κ_8 soWhole (zR κ odSolver a0) = (zR κ soWhole (zR κ odSolver a0)) := e8 soWhole (Or.inr (by decide)) _
    have eu2 : zR κ_8 soSum (zR κ odSolver a0) = (zR κ soSum (zR κ odSolver a0)) := e8 soSum (Or.inr (by decide)) _
    have el2 : zR κ_8 soLess (zR κ odSolver a0) = (zR κ soLess (zR κ odSolver a0)) := e8 soLess (Or.inr (by decide)) _
    have ep2 : zR κ_8 soPart (zR κ odSolver a0) = (zR κ soPart (zR κ odSolver a0)) := e8 soPart (Or.inr (by decide)) _
    have eca : zR κ_8 soCalc (zR κ odSolver a0) = (zR κ odCalc a0) := by
      have y := X8.1.2
      rw [es2, ec2] at y
      exact y
    have u1 : zT κ27 (zR κ soWhole (zR κ odSolver a0)) = 8 := Z1.t tW (by decide)
    have u2 : zT κ27 (zR κ soSum (zR κ odSolver a0)) = 8 := Z1.t tS (by decide)
    have u3 : zT κ27 (zR κ soLess (zR κ odSolver a0)) = 8 := Z1.t tL (by decide)
    have w8 := (soF_B (c := 0) W27 u1 Zu (by rw [h1]; unfold unR9; decide)).2.1
    have s8 := (soF_B (c := 0) W27 u2 Zu (by rw [h7]; unfold unR9; decide)).2.1
    have l8 := (soF_B (c := 0) W27 u3 Zu (by rw [h8]; unfold unR9; decide)).2.1
    have et2 : zR κ_8 raTop (zR κ soPart (zR κ odSolver a0)) = zR κ27 raTop (zR κ soPart (zR κ odSolver a0)) := (soF_r9 Zu (by decide)).1
    have eb2 : zR κ_8 raBottom (zR κ soPart (zR κ odSolver a0)) = zR κ27 raBottom (zR κ soPart (zR κ odSolver a0)) := (soF_r9 Zu (by decide)).1
    have m4' : y130_4 = -1 ∨ ((lkN9 κ a0 n9 y130_4 ∧ y130_3.toInt < n9) ∧ (zA κ (zR κ atFirsts (zR κ odAtlas a0)) y130_3.toNatClampNeg).toInt ≤ y130_4.toInt) := by
      rcases m4 with y | y
      · exact Or.inl y
      · exact Or.inr ⟨⟨y.1, m3.2⟩, y.2⟩
    intro W10
    intro M11
    refine ⟨fun c12 => ?_, fun c12 => ?_⟩
    · skip
      intro T13
      refine So_addTerm_c W10 T13 ρ ?_ (fun κ_14 q15 => ?_)
      · rw [es2, ew2, eu2, el2, ep2, w8, s8, l8]
        exact ⟨⟨Nu9, Su9⟩, ⟨by omega, by omega⟩, ⟨Nat.lt_of_lt_of_le lw1 (pB9_l (by decide)), by rw [et2]; exact Nat.lt_of_lt_of_le tu (by unfold pB9; decide), by rw [ru.2.2]; exact Nat.pos_of_ne_zero (Rat.den_nz _)⟩, Nat.lt_of_lt_of_le sumB b4, L1⟩
      intro W16
      intro M17
      intro x18 hx18
      rw [es2, ew2, eu2, el2, ep2, eca, et2, w8, s8, l8] at q15
      obtain ⟨Za, Na, A1, A2⟩ := q15
      have Zf : zF (soF ρ tcR9 (zR κ odCalc a0)) κ κ_14 := Z8.tr (soF_m (fun r z => by unfold tcR9; rcases z with z | z | z | z | z | z <;> omega) Za)
      have w14 := (soF_B (c := 0) (w := (zR κ soWhole (zR κ odSolver a0))) W10 (Zu.t u1 (by decide)) Za (by rw [h1]; unfold adR9; decide)).2.1
      obtain ⟨bw, bs⟩ := B1 c12
      have tmb : nuN κ_8 (zR κ27 raTop (zR κ soPart (zR κ odSolver a0))) * y130_5.toInt.natAbs * (nuN κ (zR κ soWhole (zR κ odSolver a0)) + 1) ≤ (nuN κ (zR κ soWhole (zR κ odSolver a0)) + 1) * sU9 := tm_u9 tu (by omega)
      rw [bw] at A1 A2
      refine lp_b5 ?_ (fun d9 => ⟨rfl, ?_⟩)
      · rw [hn27, hx18, ix.2]; omega  -- d6
      · refine and_5 ?_ (fun o9 => ?_)  -- i7
        · refine ⟨rfl, rfl, ⟨Zf, Na⟩, ⟨by rw [w14, w8]; exact D1, ?_⟩, ⟨fun _ => ⟨by rw [w14, w8]; exact bw, ?_⟩, fun z => absurd c12 z⟩, ⟨by rw [hx18, ix.2]; omega, by rw [hx18, ix.2]; omega⟩, ⟨m3.1, m4'⟩, by rw [hx18, ix.2]; exact ⟨by decide, by show (0 : Int) ≤ _; omega⟩⟩
          · by_cases z : 0 < y130_5.toInt
            · rw [(A1 z).2]; exact L1
            · have y0 : y130_5.toInt.natAbs = 0 := by omega
              have q := (A2 z).1
              rw [y0, Nat.mul_zero, Nat.zero_mul, Nat.add_zero] at q
              rw [q]; exact L1
          · rw [hx18, ix.1]
            by_cases z : 0 < y130_5.toInt
            · exact Nat.le_trans (Nat.le_of_eq (A1 z).1) (Nat.le_trans (Nat.add_le_add_left (Nat.mul_le_mul_left _ (Nat.le_succ_of_le (Nat.div_le_self _ _))) _) (uB_s bs tmb))
            · rw [(A2 z).2]; exact uB_m bs
        · obtain ⟨⟨W1, W2⟩, h4, i0, hi⟩ := hE
          have dv := hB9 c12 _ ⟨i0, hi⟩
          have x0 : 0 ≤ un15 κ (zR κ odSolver a0) V9 y130_3.toNatClampNeg := un_p15 (hV9 _ (by omega)).2
          have T := tn_016 (u := y130_5.toInt) x0 rfl rfl dv
          have tn : nuN κ_8 (zR κ27 raTop (zR κ soPart (zR κ odSolver a0))) = (un15 κ (zR κ odSolver a0) V9 y130_3.toNatClampNeg).num.natAbs := by rw [← et2]; exact ru.2.1
          have z0 : (((0 : Int64).toInt : Int) : Rat) = 0 := rfl
          refine ⟨⟨fun z => ?_, fun z => absurd c12 z⟩, Or.inl rfl, fun z => by rw [hx18, ix.2]; exact h4 z⟩
          rw [z0, Rat.mul_zero, Rat.zero_mul, Rat.add_zero, ← W1 z]
          by_cases y : 0 < y130_5.toInt
          · rw [(A1 y).1, tn, ru.2.2, Rat.natCast_add, T.1 y]
          · have y0 : y130_5.toInt = 0 := by omega
            have i1 : ((0 : Int) : Rat) = 0 := rfl
            rw [(A2 y).2, y0, i1, Rat.mul_zero, Rat.zero_mul, Rat.add_zero]
    · skip
      intro T19
      intro T20
      intro T21
      have b22 : ρ (zR κ_8 raBottom (zR κ soPart (zR κ odSolver a0))) = 22 := (ra_t9 Nu9 h20 (Or.inl rfl)).1.2
      refine Ca_join_c W10 T19 T20 T21 6500 2000 6500 6500 ?_ (fun κ_22 q23 => ?_)
      · have J := jn_p (w := zR κ_8 raBottom (zR κ soPart (zR κ odSolver a0))) Nu9 Su9 b22 (Or.inr (Or.inr (Or.inl rfl))) ⟨by decide, by decide, by decide⟩ (by rw [ew2, w8]; exact Nat.lt_of_lt_of_le lw1 (pB9_l (by decide))) (by rw [eb2]; exact bu)
        rw [es2, ec2, ep2, ← eca]
        exact J
      intro W24
      intro M25
      intro x26 hx26
      rw [es2, ec2, ep2, ← eca] at q23
      have J := jn_q W10 Nu9 Su9 q23
      have Vj := q23.2.2.2
      rw [ew2, w8, eb2] at Vj
      rw [eca] at J
      have Zj := J.2.1
      have s22 := (soF_B (c := 0) (w := (zR κ soSum (zR κ odSolver a0))) W10 (Zu.t u2 (by decide)) Zj (by rw [h7]; unfold jnR9; decide)).2.1
      have l22 := (soF_B (c := 0) (w := (zR κ soLess (zR κ odSolver a0))) W10 (Zu.t u3 (by decide)) Zj (by rw [h8]; unfold jnR9; decide)).2.1
      refine lp_b5 ?_ (fun d9 => ⟨rfl, ?_⟩)
      · rw [hn27, hx26, ix.2]; omega  -- d9
      · refine and_5 ?_ (fun o9 => ?_)  -- i10
        · refine ⟨rfl, rfl, ⟨Z8.tr (soF_m (fun r z => by unfold tcR9; rcases z with z | z | z <;> omega) Zj), J.1⟩, ⟨?_, by rw [l22, l8]; exact L1⟩, ⟨fun z => absurd z c12, fun _ => by rw [s22, s8]; exact B2 c12⟩, ⟨by rw [hx26, ix.2]; omega, by rw [hx26, ix.2]; omega⟩, ⟨m3.1, m4'⟩, by rw [hx26, ix.2]; exact ⟨by decide, by show (0 : Int) ≤ _; omega⟩⟩
          rw [Vj]
          exact dz9_lcm D1 du
        · obtain ⟨⟨W1, W2⟩, h4, i0, hi⟩ := hE
          have dn : nuN κ_8 (zR κ27 raBottom (zR κ soPart (zR κ odSolver a0))) = (un15 κ (zR κ odSolver a0) V9 y130_3.toNatClampNeg).den := by rw [← eb2]; exact ru.2.2
          rw [dn] at Vj
          obtain ⟨w1, w2'⟩ := W2 c12
          refine ⟨⟨fun z => absurd z c12, fun z => ⟨⟨by rw [Vj]; exact Nat.dvd_trans w1.1 (Nat.dvd_lcm_left _ _), fun y => by rw [Vj]; exact Nat.lcm_ne_zero (w1.2 y) (Rat.den_nz _)⟩, fun k i hk b => Or.inr ?_⟩⟩, Or.inl rfl, fun z => by rw [hx26, ix.2]; exact h4 z⟩
          rw [Vj]
          rcases w2' k i hk b with y | y
          · rw [y]; exact Nat.dvd_lcm_right _ _
          · exact Nat.dvd_trans y (Nat.dvd_lcm_left _ _)
  have hj83 : ∀ (l0 : Nat) (l2 : Int32) (l3 : Int32) (l4 : Int32) (l5 : Int64) (l7 : Int32) (τ : zS), zW C (zn κ) τ → zT τ l0 = 9 → ((a0 = l0 ∧ a2 = l2 ∧ κ27 = τ ∧ (x27_4 = l4 ∧ x27_5 = l5 ∧ x27_7 = l7) ∧ (0 ≤ l3.toInt ∧ l3.toInt < n9) ∧ ((zA κ (zR κ atFirsts (zR κ odAtlas a0)) l3.toNatClampNeg).toInt ≤ l4.toInt ∧ l4.toInt < (zA κ (zR κ atFirsts (zR κ odAtlas a0)) (l3.toNatClampNeg + 1)).toInt) ∧ lkN9 κ a0 n9 l4 ∧ x27_7.toInt < (zI κ atNexts (zR κ odAtlas a0)).toInt) ∧ IV24 κ τ a0 n9 V9 a1.toNatClampNeg a2 l3 l4 l5 l7) → w_Od_throughCell_83 C (zn κ) Q (fun (l0' : Nat) (l2' : Int32) (l3' : Int32) (l4' : Int32) (l5' : Int64) (l7' : Int32) (τ : zS) => ∃ k < n27, (fun (n : Nat) (l0 : Nat) (l2 : Int32) (l3 : Int32) (l4 : Int32) (l5 : Int64) (l7 : Int32) (τ : zS) => n = ((zI κ atNexts (zR κ odAtlas a0)).toInt - l7.toInt).toNat ∧ ((a0 = l0 ∧ a2 = l2 ∧ (zF (soF ρ tcR9 (zR κ odCalc a0)) κ τ ∧ nmI ρ τ ∧ soI ρ τ (zR κ odSolver a0)) ∧ (dz9 (nuN τ (zR κ soWhole (zR κ odSolver a0))) P9 ∧ nuN τ (zR κ soLess (zR κ odSolver a0)) < pB9 4000) ∧ ((a2 = 0 → nuN τ (zR κ soWhole (zR κ odSolver a0)) = nuN κ (zR κ soWhole (zR κ odSolver a0)) ∧ nuN τ (zR κ soSum (zR κ odSolver a0)) ≤ uB9 (nuN κ (zR κ soWhole (zR κ odSolver a0))) l7.toNatClampNeg) ∧ (a2 ≠ 0 → nuN τ (zR κ soSum (zR κ odSolver a0)) = 0)) ∧ (0 ≤ l7.toInt ∧ l7.toInt ≤ 20000) ∧ (0 ≤ l3.toInt ∧ (l4 = -1 ∨ ((lkN9 κ a0 n9 l4 ∧ l3.toInt < n9) ∧ (zA κ (zR κ atFirsts (zR κ odAtlas a0)) l3.toNatClampNeg).toInt ≤ l4.toInt))) ∧ (0 ≤ l5.toInt ∧ l5.toInt ≤ 2147483648 * l7.toInt)) ∧ IV24 κ τ a0 n9 V9 a1.toNatClampNeg a2 l3 l4 l5 l7)) k l0' l2' l3' l4' l5' l7' τ) l0 l2 l3 l4 l5 l7 τ := by
    rintro _ _ y83_3 y83_4 y83_5 y83_7 τ83 W83 T83_0 ⟨⟨rfl, rfl, j83⟩, hE⟩
    unfold w_Od_throughCell_83
    obtain ⟨rfl, ⟨rfl, rfl, rfl⟩, m3, ⟨m4, m5⟩, lkx, m7⟩ := j83
    have k3 := cnk m3.1
    obtain ⟨⟨f0, f01, f02⟩, nx, -⟩ := A0.2.2.2.2.2 y83_3.toNatClampNeg (by omega)
    have k4 := cnk (x := x27_4) (by omega)
    have wn := (nx x27_4.toNatClampNeg (by omega) (by omega)).2.2
    have we := at1 atWeights (by decide)
    have lr := ro1 odLinks 20 (by decide +kernel) (by decide) (by decide)
    have i3 := cn1 (x := y83_3) m3.1 (by omega)
    have ix := cn1 (x := x27_7) l7.1 (by omega)
    have sg : zI κ raSign (vU9 κ (zR κ odSolver a0) y83_3.toNatClampNeg) ≠ 0 := by
      obtain ⟨k, h1', h2', h3', h4'⟩ := id lkx
      have ek := fu_9 A0 h1' (show y83_3.toNatClampNeg < n9 by omega) h2' h3' m4 m5
      rw [ek] at h4'
      exact h4'.2.2
    refine ⟨?_, ?_⟩
    · rw [inb_iff, we.2, A0.2.1.1.2]; omega  -- b11
    intro x27 hx27
    rw [we.1] at hx27
    have ju := ju_9 (w := zA κ (zR κ atWeights (zR κ odAtlas a0)) x27_4.toNatClampNeg) l50 l51 l7.1 l7.2 wn
    rw [← hx27] at ju
    refine ⟨?_, ?_⟩
    · rw [inb_iff, lr.2.2.2]; omega  -- b12
    intro x28 hx28
    rw [lr.2.1] at hx28
    have lk4 := lk x27_4 lkx (by omega)
    rw [← hx28] at lk4
    refine ⟨fun c29 => ?_, fun c29 => ?_⟩
    · skip
      refine hj130 _ _ _ _ _ _ _ W83 ?_ ?_
      · exact T83_0  -- t13
      · refine and_5 ?_ (fun o9 => ?_)  -- k14
        · exact ⟨rfl, rfl, rfl, rfl, m3, Or.inl c29, sg, ju, m7⟩
        · have e5 : x27.toInt = x27_5.toInt + (zA κ (zR κ atWeights (zR κ odAtlas a0)) x27_4.toNatClampNeg).toInt := by
            have e := Int32.toInt_toInt64 (zA κ (zR κ atWeights (zR κ odAtlas a0)) x27_4.toNatClampNeg)
            have u2 := ihi (zA κ (zR κ atWeights (zR κ odAtlas a0)) x27_4.toNatClampNeg)
            rw [hx27, jadd_i (by rw [e]; omega) (by rw [e]; omega), e]
          have q := hX9.2 x27_4 lkx (by omega)
          rw [← hx28] at q
          exact iu_s24 X0.2.2.1.1 hE lkx m4 m5 (by omega) hC9 q (Or.inl c29) e5
    · skip
      have lk5 := lk4.resolve_left c29
      refine ⟨?_, ?_⟩
      · rw [inb_iff, i3.2, fr1.2, A0.1.1]; omega  -- b15
      refine ⟨fun c30 => ?_, fun c30 => ?_⟩
      · skip
        intro x31 hx31
        refine lp_b5 ?_ (fun d9 => ⟨rfl, ?_⟩)
        · rw [hn27, hx31, ix.2]; omega  -- d16
        · refine and_5 ?_ (fun o9 => ?_)  -- i17
          · exact ⟨rfl, rfl, ⟨Z1, N1, S1⟩, ⟨D1, L1⟩, ⟨fun z => ⟨(B1 z).1, by rw [hx31, ix.1]; exact uB_m (B1 z).2⟩, B2⟩, ⟨by rw [hx31, ix.2]; omega, by rw [hx31, ix.2]; omega⟩, ⟨m3.1, Or.inr ⟨⟨lk5.1, m3.2⟩, by omega⟩⟩, by rw [hx31, ix.2]; exact ju⟩
          · have e5 : x27.toInt = x27_5.toInt + (zA κ (zR κ atWeights (zR κ odAtlas a0)) x27_4.toNatClampNeg).toInt := by
              have e := Int32.toInt_toInt64 (zA κ (zR κ atWeights (zR κ odAtlas a0)) x27_4.toNatClampNeg)
              have u2 := ihi (zA κ (zR κ atWeights (zR κ odAtlas a0)) x27_4.toNatClampNeg)
              rw [hx27, jadd_i (by rw [e]; omega) (by rw [e]; omega), e]
            have q := hX9.2 x27_4 lkx (by omega)
            rw [← hx28] at q
            obtain ⟨⟨W1, W2⟩, h4, _⟩ := iu_s24 X0.2.2.1.1 hE lkx m4 m5 (by omega) hC9 q (Or.inr ⟨lk5.1, by omega⟩) e5
            have ins : in24 κ a0 y83_3 x28 := by
              refine ⟨c29, ?_⟩
              rw [fr1.1, i3.1] at c30
              first | exact lti.mp c30 | exact Int.not_le.mp (fun z => c30 (lei.mpr z)) | omega
            exact ⟨⟨W1, fun z => ⟨(W2 z).1, fun k i hi b => ((W2 z).2 k i hi b).imp (fun y => ⟨y, ins⟩) id⟩⟩, Or.inr ins, fun z => by rw [hx31, ix.2]; exact h4 z⟩
      · skip
        refine hj130 _ _ _ _ _ _ _ W83 ?_ ?_
        · exact T83_0  -- t18
        · refine and_5 ?_ (fun o9 => ?_)  -- k19
          · exact ⟨rfl, rfl, rfl, rfl, m3, Or.inr ⟨lk5.1, by omega⟩, sg, ju, m7⟩
          · have e5 : x27.toInt = x27_5.toInt + (zA κ (zR κ atWeights (zR κ odAtlas a0)) x27_4.toNatClampNeg).toInt := by
              have e := Int32.toInt_toInt64 (zA κ (zR κ atWeights (zR κ odAtlas a0)) x27_4.toNatClampNeg)
              have u2 := ihi (zA κ (zR κ atWeights (zR κ odAtlas a0)) x27_4.toNatClampNeg)
              rw [hx27, jadd_i (by rw [e]; omega) (by rw [e]; omega), e]
            have q := hX9.2 x27_4 lkx (by omega)
            rw [← hx28] at q
            exact iu_s24 X0.2.2.1.1 hE lkx m4 m5 (by omega) hC9 q (Or.inr ⟨lk5.1, by omega⟩) e5
  refine ⟨fun c32 => ?_, fun c32 => ?_⟩
  · skip
    refine h _ ?_
    · refine and_5 ?_ (fun o9 => ?_)  -- q20
      · exact ⟨⟨Z1, N1, S1⟩, sumB, D1, L1⟩
      · by_cases z : x27_4 = -1
        · rw [z] at hE
          exact ⟨fun y => ⟨(B1 y).1, (iv_e24 hE).1 y⟩, (iv_e24 hE).2⟩
        · exfalso
          have y := hE.2.2 z
          obtain ⟨k, h1', h2', h3', _⟩ := (l4.resolve_left z).1.1
          have e := fN_k24 X0.2.2.1.1 h1'
          obtain ⟨⟨f0, f01, f02⟩, _, _⟩ := A0.2.2.2.2.2 k h1'
          rw [lei, nx1] at c32
          omega
  · skip
    refine ⟨fun c33 => ?_, fun c33 => ?_⟩
    · skip
      refine h _ ?_
      · refine and_5 ?_ (fun o9 => ?_)  -- q21
        · exact ⟨⟨Z1, N1, S1⟩, sumB, D1, L1⟩
        · rw [c33] at hE
          exact ⟨fun y => ⟨(B1 y).1, (iv_e24 hE).1 y⟩, (iv_e24 hE).2⟩
    · skip
      have l4' := l4.resolve_left c33
      rw [lei, nx1] at c32
      unfold w_Od_throughCell_45
      refine ⟨fun n l0 l2 l3 l4 l5 l7 τ => n = ((n9 : Int) - l3.toInt).toNat ∧ ((a0 = l0 ∧ a2 = l2 ∧ κ27 = τ ∧ (x27_4 = l4 ∧ x27_5 = l5 ∧ x27_7 = l7) ∧ (0 ≤ l3.toInt ∧ l3.toInt < n9) ∧ (zA κ (zR κ atFirsts (zR κ odAtlas a0)) l3.toNatClampNeg).toInt ≤ l4.toInt) ∧ IV24 κ τ a0 n9 V9 a1.toNatClampNeg a2 l3 l4 l5 l7), ⟨_, rfl, ?_⟩, ?_⟩
      · refine and_5 ?_ (fun o9 => hE)  -- j22
        exact ⟨rfl, rfl, rfl, ⟨rfl, rfl, rfl⟩, ⟨l30, l4'.1.2⟩, l4'.2⟩
      rintro n45 _ _ x45_3 x45_4 x45_5 x45_7 κ45 W45 T45_0 ⟨hn45, ⟨rfl, rfl, i45⟩, hE⟩
      obtain ⟨rfl, ⟨rfl, rfl, rfl⟩, m3, m4⟩ := i45
      have k3 := cnk m3.1
      have i3 := cn1 (x := x45_3) m3.1 (by omega)
      refine ⟨fun c34 => ?_, fun c34 => ?_⟩
      · skip
        refine hj83 _ _ _ _ _ _ _ W45 ?_ ?_
        · exact T45_0  -- t23
        · refine and_5 ?_ (fun o9 => hE)  -- k24
          rw [lei, tt1, tot, i3.2] at c34
          refine ⟨rfl, rfl, rfl, ⟨rfl, rfl, rfl⟩, m3, ⟨m4, ?_⟩, l4'.1.1, by omega⟩
          obtain ⟨k, h1', h2', h3', _⟩ := id l4'.1.1
          have q := fm_9 A0 (x45_3.toNatClampNeg + 1) (k + 1) (by omega) (by omega)
          omega
      · skip
        refine ⟨?_, ?_⟩
        · rw [lei, tt1, tot, i3.2] at c34
          rw [inb_iff, i3.2, fr1.2, A0.1.1]; omega
        refine ⟨fun c35 => ?_, fun c35 => ?_⟩
        · skip
          refine hj83 _ _ _ _ _ _ _ W45 ?_ ?_
          · exact T45_0  -- t26
          · refine and_5 ?_ (fun o9 => hE)  -- k27
            rw [fr1.1, i3.1, lti] at c35
            exact ⟨rfl, rfl, rfl, ⟨rfl, rfl, rfl⟩, m3, ⟨m4, c35⟩, l4'.1.1, by omega⟩
        · skip
          intro x36 hx36
          rw [lei, tt1, tot, i3.2] at c34
          rw [fr1.1, i3.1, lti] at c35
          refine lp_b5 ?_ (fun d9 => ⟨rfl, ?_⟩)
          · rw [hn45, hx36, i3.2]; omega  -- d28
          · refine and_5 ?_ (fun o9 => ?_)  -- i29
            · exact ⟨rfl, rfl, rfl, ⟨rfl, rfl, rfl⟩, ⟨by rw [hx36, i3.2]; omega, by rw [hx36, i3.2]; omega⟩, by rw [hx36, i3.1]; omega⟩
            · obtain ⟨⟨W1, W2⟩, h3, h4⟩ := hE
              have ni : ¬ in24 κ a0 x45_3 x27_4 := fun z => by have := z.2; omega
              have l0 := h3.resolve_right ni
              have i0 : ((0 : Int) : Rat) = 0 := rfl
              refine ⟨⟨fun z => ?_, fun z => ⟨(W2 z).1, fun k i hi b => Or.inr (((W2 z).2 k i hi b).resolve_left (fun y => ni y.2))⟩⟩, Or.inl l0, h4⟩
              have y := W1 z
              rw [l0, i0, Rat.mul_zero, Rat.zero_mul] at y ⊢
              exact y

end
section
set_option maxHeartbeats 1600000
/-! the class: what stays while rows are compared -/
def frG24 (m a : Nat) (F : Nat → Nat → Prop) : Prop := ∀ f b, F f b → m ≤ b ∨ f / 100 = 8 ∨ f / 100 = 11 ∨ f / 100 = 4 ∨ (f = odEdges ∧ b = a)
theorem so_g24 {ρ : Nat → Nat} {R : Nat → Prop} {ca m a : Nat} : frG24 m a (soF ρ R ca) := fun f b z => by
  rcases z with ⟨_, z | z | z⟩ | ⟨_, z | z | z | z⟩ <;> rw [z]
  · exact Or.inr (Or.inl (by decide))
  · exact Or.inr (Or.inl (by decide))
  · exact Or.inr (Or.inr (Or.inl (by decide)))
  · exact Or.inr (Or.inr (Or.inr (Or.inl (by decide))))
  · exact Or.inr (Or.inr (Or.inr (Or.inl (by decide))))
  · exact Or.inr (Or.inr (Or.inr (Or.inl (by decide))))
  · exact Or.inr (Or.inr (Or.inr (Or.inl (by decide))))
theorem ed_g24 {m a : Nat} : frG24 m a (edF9 m a) := fun f b z => by
  rcases z with z | z
  · exact Or.inr (Or.inr (Or.inr (Or.inr z)))
  · exact Or.inl z
theorem vV_g24 {C : zC} {n0 a n P ca : Nat} {ρ : Nat → Nat} {R : Nat → Prop} {κ τ : zS} {V : Nat → Rat} (W : zW C n0 κ) (Ta : zT κ a = 12) (N : nmI ρ κ) (Z : zF (soF ρ R ca) κ τ) (hn : n ≤ 1000) (hR : ∀ r, 100 ≤ r → r < 1000000 → ¬ R r) (I : vsI9 ρ κ a n P) (H : vV15 κ a n V) : vV15 τ a n V := fun k hk => by
  obtain ⟨h1, h2, _⟩ := I k hk
  rw [(vU9_f W Ta Z).2]
  exact ⟨rq_f15 W N Z h2 (vs_r9 (by omega)) ⟨hR _ (by omega) (by omega), hR _ (by omega) (by omega), hR _ (by omega) (by omega)⟩ (H k hk).1, (H k hk).2⟩
/-- from one state to another: weights of cells, and what is told of them -/
def SM24 (κ τ : zS) (a n : Nat) (V : Nat → Rat) : Prop := vV15 τ (zR τ odSolver a) n V ∧ lx24 τ τ a n 0 ∧ (∀ x, lkN9 τ a n x → 0 ≤ (cx24 τ a x).toInt) ∧ (∀ c k i, ld24 τ a n c k i ↔ ld24 κ a n c k i) ∧ (∀ k, un15 τ (zR τ odSolver a) V k = un15 κ (zR κ odSolver a) V k) ∧ ∀ c, WC24 τ a n V c = WC24 κ a n V c
theorem sm_r24 {κ : zS} {a n : Nat} {V : Nat → Rat} (h1 : vV15 κ (zR κ odSolver a) n V) (h2 : lx24 κ κ a n 0) (h3 : ∀ x, lkN9 κ a n x → 0 ≤ (cx24 κ a x).toInt) : SM24 κ κ a n V := ⟨h1, h2, h3, fun _ _ _ => Iff.rfl, fun _ => rfl, fun _ => rfl⟩
theorem sm_g24 {C : zC} {n0 a n : Nat} {V : Nat → Rat} {F : Nat → Nat → Prop} {κ τ τ' : zS} (W : zW C n0 τ) (Ta : zT τ a = 9) (Z : zF F τ τ') (H : frG24 (zn τ) a F) (V' : vV15 τ' (zR τ' odSolver a) n V) (S : SM24 κ τ a n V) : SM24 κ τ' a n V := by
  obtain ⟨V0, L, Cp, D, U, Wc⟩ := S
  have ts := ty_odSolver W Ta
  have tA := ty_odAtlas W Ta
  have tB := ty_soAtlas W ts
  have nF : ∀ f b c, zT τ b = c + 1 → (f / 100 = 3 ∨ f / 100 = 9 ∨ f / 100 = 12) → f ≠ odEdges → ¬ F f b := fun f b c hb hf he z => by
    have l := (W.2.1 b (by omega)).2
    rcases H f b z with y | y | y | y | y
    · omega
    · omega
    · omega
    · omega
    · exact he y.1
  have r9 : ∀ f, f / 100 = 9 → f ≠ odEdges → zR τ' f a = zR τ f a := fun f hf he => Z.r (nF f a 8 Ta (by omega) he)
  have a9 : ∀ f, zr f = some 20 → f / 100 = 9 → f ≠ odEdges → zA τ' (zR τ' f a) = zA τ (zR τ f a) := fun f h1 h2 h3 => (Z.row W h1 (by decide) (Ta.trans h2.symm) (nF f a 8 Ta (by omega) h3)).1
  have eA := r9 odAtlas (by decide) (by decide)
  have eS := r9 odSolver (by decide) (by decide)
  have a3 : ∀ f, (∃ t, zr f = some t ∧ 20 ≤ t) → f / 100 = 3 → zA τ' (zR τ' f (zR τ' odAtlas a)) = zA τ (zR τ f (zR τ odAtlas a)) := fun f h0 h2 => by
    obtain ⟨t, h1, ht⟩ := h0
    rw [eA]
    exact (Z.row W h1 ht (tA.trans h2.symm) (nF f _ 2 tA (by omega) (fun y => by rw [y] at h2; exact absurd h2 (by decide)))).1
  have e12 : zR τ' soAtlas (zR τ' odSolver a) = zR τ soAtlas (zR τ odSolver a) := by
    rw [eS]
    exact Z.r (nF soAtlas _ 11 ts (by decide) (by decide))
  have d3 : ∀ f, (∃ t, zr f = some t ∧ 20 ≤ t) → f / 100 = 3 → zA τ' (zR τ' f (zR τ soAtlas (zR τ odSolver a))) = zA τ (zR τ f (zR τ soAtlas (zR τ odSolver a))) := fun f ⟨t, h1, ht⟩ h2 => (Z.row W h1 ht (tB.trans h2.symm) (nF f _ 2 tB (by omega) (fun y => by rw [y] at h2; exact absurd h2 (by decide)))).1
  have un : ∀ k, un15 τ' (zR τ' odSolver a) V k = un15 τ (zR τ odSolver a) V k := fun k => by
    unfold un15 dvN9 dvA
    rw [e12, d3 atChooses (by first | exact ⟨20, by decide +kernel, by decide⟩ | exact ⟨21, by decide +kernel, by decide⟩ | exact ⟨23, by decide +kernel, by decide⟩ | exact ⟨24, by decide +kernel, by decide⟩ | exact ⟨25, by decide +kernel, by decide⟩) (by decide), d3 atTotals (by first | exact ⟨20, by decide +kernel, by decide⟩ | exact ⟨21, by decide +kernel, by decide⟩ | exact ⟨23, by decide +kernel, by decide⟩ | exact ⟨24, by decide +kernel, by decide⟩ | exact ⟨25, by decide +kernel, by decide⟩) (by decide)]
  have ff := a3 atFirsts (by first | exact ⟨20, by decide +kernel, by decide⟩ | exact ⟨21, by decide +kernel, by decide⟩ | exact ⟨23, by decide +kernel, by decide⟩ | exact ⟨24, by decide +kernel, by decide⟩ | exact ⟨25, by decide +kernel, by decide⟩) (by decide)
  have fN : ∀ k, fN24 τ' a k = fN24 τ a k := fun k => by unfold fN24; rw [ff]
  have cE : ∀ k i, k < n → (cE9 τ' a k i ↔ cE9 τ a k i) := fun k i hk => by
    unfold cE9
    rw [a3 atSorts (by first | exact ⟨20, by decide +kernel, by decide⟩ | exact ⟨21, by decide +kernel, by decide⟩ | exact ⟨23, by decide +kernel, by decide⟩ | exact ⟨24, by decide +kernel, by decide⟩ | exact ⟨25, by decide +kernel, by decide⟩) (by decide), a3 atChooses (by first | exact ⟨20, by decide +kernel, by decide⟩ | exact ⟨21, by decide +kernel, by decide⟩ | exact ⟨23, by decide +kernel, by decide⟩ | exact ⟨24, by decide +kernel, by decide⟩ | exact ⟨25, by decide +kernel, by decide⟩) (by decide), ff, a3 atPlan (by first | exact ⟨20, by decide +kernel, by decide⟩ | exact ⟨21, by decide +kernel, by decide⟩ | exact ⟨23, by decide +kernel, by decide⟩ | exact ⟨24, by decide +kernel, by decide⟩ | exact ⟨25, by decide +kernel, by decide⟩) (by decide), rq_015 (V' k hk).1, rq_015 (V0 k hk).1]
  have cx : ∀ x, cx24 τ' a x = cx24 τ a x := fun x => by
    unfold cx24
    rw [a9 odCellOf (by decide +kernel) (by decide) (by decide), a3 atNumbers (by first | exact ⟨20, by decide +kernel, by decide⟩ | exact ⟨21, by decide +kernel, by decide⟩ | exact ⟨23, by decide +kernel, by decide⟩ | exact ⟨24, by decide +kernel, by decide⟩ | exact ⟨25, by decide +kernel, by decide⟩) (by decide)]
  have lk : ∀ x, lkN9 τ' a n x ↔ lkN9 τ a n x := fun x => lkN_e9 ff cE
  have ww := a3 atWeights (by first | exact ⟨20, by decide +kernel, by decide⟩ | exact ⟨21, by decide +kernel, by decide⟩ | exact ⟨23, by decide +kernel, by decide⟩ | exact ⟨24, by decide +kernel, by decide⟩ | exact ⟨25, by decide +kernel, by decide⟩) (by decide)
  have hh := a9 odHeads (by decide +kernel) (by decide) (by decide)
  have hl := a9 odLinks (by decide +kernel) (by decide) (by decide)
  refine ⟨V', ?_, fun x hx => by rw [cx]; exact Cp x ((lk x).mp hx), fun c k i => ?_, fun k => (un k).trans (U k), fun c => (Eq.trans ?_ (Wc c))⟩
  · unfold lx24 at L ⊢
    simp only [lk, cx, hh, hl]
    exact L
  · rw [← D]
    unfold ld24
    rw [fN, fN, cx]
    exact ⟨fun z => ⟨z.1, z.2.1, (cE k _ z.1).mp z.2.2.1, z.2.2.2⟩, fun z => ⟨z.1, z.2.1, (cE k _ z.1).mpr z.2.2.1, z.2.2.2⟩⟩
  · refine smQ_c (fun k hk => ?_)
    rw [un, fN, fN]
    congr 2
    refine sI_c (fun d _ => ?_)
    by_cases z : cE9 τ a k (Int32.ofNat (fN24 τ a k + d)) ∧ (cx24 τ a (Int32.ofNat (fN24 τ a k + d))).toNatClampNeg = c
    · rw [wq_124 z trivial, wq_124 ⟨(cE k _ hk).mpr z.1, by rw [cx]; exact z.2⟩ trivial, ww]
    · rw [wq_024 (fun y => z y.1), wq_024 (fun y => z ⟨(cE k _ hk).mp y.1.1, by rw [← cx]; exact y.1.2⟩)]
theorem sm_so24 {C : zC} {n0 a n P ca : Nat} {V : Nat → Rat} {ρ : Nat → Nat} {R : Nat → Prop} {κ τ τ' : zS} (W : zW C n0 τ) (Ta : zT τ a = 9) (N : nmI ρ τ) (X : odX9 ρ τ a n P) (Z : zF (soF ρ R ca) τ τ') (hR : ∀ r, 100 ≤ r → r < 1000000 → ¬ R r) (S : SM24 κ τ a n V) : SM24 κ τ' a n V := by
  refine sm_g24 W Ta Z so_g24 ?_ S
  have e : zR τ' odSolver a = zR τ odSolver a := (soF_r9 Z (f := odSolver) (by decide)).1
  rw [e]
  exact vV_g24 W (ty_odSolver W Ta) N Z X.2.2.1.1.2.2.1 hR X.2.2.2.1 S.1
theorem sm_ed24 {C : zC} {n0 a n : Nat} {V : Nat → Rat} {κ τ τ' : zS} (W : zW C n0 τ) (Ta : zT τ a = 9) (Z : zF (edF9 (zn τ) a) τ τ') (e : ∀ f b c, zT τ b = c + 1 → f ≠ odEdges → zR τ' f b = zR τ f b) (nu : ∀ w, zT τ w = 8 → nuN τ' w = nuN τ w) (vt : ∀ k, k < n → zT τ (vU9 τ (zR τ odSolver a) k) = 11) (S : SM24 κ τ a n V) : SM24 κ τ' a n V := by
  refine sm_g24 W Ta Z ed_g24 ?_ S
  have ts := ty_odSolver W Ta
  rw [e odSolver a 8 Ta (by decide)]
  have nf : ∀ f b c, zT τ b = c + 1 → f ≠ odEdges → ¬ edF9 (zn τ) a f b := fun f b c hb hf z => by
    have l := (W.2.1 b (by omega)).2
    rcases z with z | z
    · exact hf z.1
    · omega
  have vu : ∀ k, vU9 τ' (zR τ odSolver a) k = vU9 τ (zR τ odSolver a) k := fun k => by
    unfold vU9
    rw [(Z.row W (show zr soVisits = some 25 by decide +kernel) (by decide) (ts.trans rfl) (nf soVisits _ 11 ts (by decide))).2.2]
  intro k hk
  obtain ⟨⟨h1, h2, h3⟩, h4⟩ := S.1 k hk
  have tv := vt k hk
  rw [vu]
  refine ⟨⟨?_, ?_, ?_⟩, h4⟩
  · rw [Z.i (nf raSign _ 10 tv (by decide))]
    exact h1
  · rw [e raTop _ 10 tv (by decide), nu _ (ty_raTop W tv)]
    exact h2
  · rw [e raBottom _ 10 tv (by decide), nu _ (ty_raBottom W tv)]
    exact h3
/-- the whole, a multiple of what weights of cells are parts of -/
def DV24 (κ τ : zS) (a n : Nat) (V : Nat → Rat) (lo hi D : Nat) : Prop := nuN τ (zR τ soWhole (zR τ odSolver a)) = D ∧ D ≠ 0 ∧ ∀ c, lo ≤ c → c < hi → ∀ k, (∃ i, ld24 κ a n c k i) → (un15 κ (zR κ odSolver a) V k).den ∣ D
def EV24 (κ τ : zS) (a n : Nat) (V : Nat → Rat) (b m D : Nat) : Prop := ∀ j, j < m → ∃ u, zQ τ (zR τ odEdges a) j = some u ∧ ((nuN τ u : Nat) : Rat) = WC24 κ a n V (b + j) * (D : Rat)
theorem ev_k24 {C : zC} {n0 a n P b m D : Nat} {V : Nat → Rat} {ρ : Nat → Nat} {κ τ τ' : zS} (W : zW C n0 τ) (Ta : zT τ a = 9) (A : agI9 ρ τ a n P) (hm : m ≤ 31) (er : zR τ' odEdges a = zR τ odEdges a) (eq : zQ τ' (zR τ odEdges a) = zQ τ (zR τ odEdges a)) (nu : ∀ v, zT τ v = 8 → 2000000 ≤ ρ v → nuN τ' v = nuN τ v) (E : EV24 κ τ a n V b m D) : EV24 κ τ' a n V b m D := fun j hj => by
  obtain ⟨u, hu, hb⟩ := E j hj
  have tu := W.2.2.2.1 _ _ _ (ty_odEdges W Ta) hu
  have ru := A.2.2.2.2.1 j u (by omega) hu
  exact ⟨u, by rw [er, eq]; exact hu, by rw [nu u tu (by omega)]; exact hb⟩
theorem pr_e24 {x y z w : Rat} {a b c d D : Nat} (hD : D ≠ 0) (ha : (a : Rat) = x * (D : Rat)) (hb : (b : Rat) = y * (D : Rat)) (hc : (c : Rat) = z * (D : Rat)) (hd : (d : Rat) = w * (D : Rat)) : a * b = c * d ↔ x * y = z * w := by
  have D0 : (D : Rat) ≠ 0 := fun e => hD (by exact_mod_cast e)
  constructor
  · intro h
    have h' : ((a * b : Nat) : Rat) = ((c * d : Nat) : Rat) := by rw [h]
    rw [Rat.natCast_mul, Rat.natCast_mul, ha, hb, hc, hd] at h'
    refine ca_24 D0 (ca_24 D0 ?_)
    have l1 : x * y * (D : Rat) * (D : Rat) = x * (D : Rat) * (y * (D : Rat)) := by grind
    have l2 : z * w * (D : Rat) * (D : Rat) = z * (D : Rat) * (w * (D : Rat)) := by grind
    rw [l1, l2]
    exact h'
  · intro h
    have h' : ((a * b : Nat) : Rat) = ((c * d : Nat) : Rat) := by
      rw [Rat.natCast_mul, Rat.natCast_mul, ha, hb, hc, hd]
      have l1 : x * (D : Rat) * (y * (D : Rat)) = x * y * (D : Rat) * (D : Rat) := by grind
      have l2 : z * (D : Rat) * (w * (D : Rat)) = z * w * (D : Rat) * (D : Rat) := by grind
      rw [l1, l2, h]
    exact Rat.natCast_inj.mp h'
theorem dv_b24 {κ τ : zS} {a n lo hi D c : Nat} {V : Nat → Rat} (S : SM24 κ τ a n V) (h : DV24 κ τ a n V lo hi D) (h1 : lo ≤ c) (h2 : c < hi) : ∀ k, (∃ i, ld24 τ a n c k i) → (un15 τ (zR τ odSolver a) V k).den ∣ nuN τ (zR τ soWhole (zR τ odSolver a)) := fun k ⟨i, hi⟩ => by
  rw [S.2.2.2.2.1, h.1]
  exact h.2.2 c h1 h2 k ⟨i, (S.2.2.2.1 c k i).mp hi⟩
theorem wh_n24 {C : zC} {n0 a n P r : Nat} {ρ : Nat → Nat} {τ τ' : zS} (W : zW C n0 τ) (Ta : zT τ a = 9) (A : agI9 ρ τ a n P) (e : ∀ f, f / 100 = 9 ∨ f / 100 = 12 → ∀ b, zR τ' f b = zR τ f b) (nu : ∀ v, zT τ v = 8 → ρ v ≠ r → nuN τ' v = nuN τ v) (h1 : r ≠ 1) : nuN τ' (zR τ' soWhole (zR τ' odSolver a)) = nuN τ (zR τ soWhole (zR τ odSolver a)) := by
  rw [e odSolver (by decide), e soWhole (by decide)]
  exact nu _ (ty_soWhole W (ty_odSolver W Ta)) (by rw [A.1.2.1.1]; exact Ne.symm h1)
/-- rows agree -/
def re24 (κ : zS) (a n : Nat) (V : Nat → Rat) (b w r c : Int) : Prop := WC24 κ a n V (b + r * w + c).toNat * WC24 κ a n V b.toNat = WC24 κ a n V (b + r * w).toNat * WC24 κ a n V (b + c).toNat
def ag24 (κ : zS) (a n : Nat) (V : Nat → Rat) (b tall wide : Int) : Prop := ∀ r c, 0 ≤ r → r < tall → 0 ≤ c → c < wide → re24 κ a n V b wide r c
theorem re_024 {κ : zS} {a n : Nat} {V : Nat → Rat} {b w c : Int} : re24 κ a n V b w 0 c := by
  unfold re24
  rw [Int.zero_mul, Int.add_zero, Rat.mul_comm]
theorem re_c24 {κ : zS} {a n : Nat} {V : Nat → Rat} {b w r : Int} : re24 κ a n V b w r 0 := by
  unfold re24
  rw [Int.add_zero, Int.add_zero]
theorem G_q24 {C : zC} {n0 a ca : Nat} {ρ : Nat → Nat} {R : Nat → Prop} {τ τ' : zS} (W : zW C n0 τ) (Ta : zT τ a = 9) (Z : zF (soF ρ R ca) τ τ') : zQ τ' (zR τ odEdges a) = zQ τ (zR τ odEdges a) := by
  have r := (Z.row W (show zr odEdges = some 24 by decide +kernel) (by decide) (Ta.trans rfl) (fun z => by
    rcases z with ⟨_, z | z | z⟩ | ⟨_, z | z | z | z⟩ <;> exact absurd z (by decide))).2.2
  have e : zR τ' odEdges a = zR τ odEdges a := (soF_r9 Z (f := odEdges) (by decide)).1
  rw [e] at r
  exact r
theorem sm_t24 {κ τ τ' : zS} {a n : Nat} {V : Nat → Rat} (S : SM24 κ τ a n V) (T : SM24 τ τ' a n V) : SM24 κ τ' a n V := ⟨T.1, T.2.1, T.2.2.1, fun c k i => (T.2.2.2.1 c k i).trans (S.2.2.2.1 c k i), fun k => (T.2.2.2.2.1 k).trans (S.2.2.2.2.1 k), fun c => (T.2.2.2.2.2 c).trans (S.2.2.2.2.2 c)⟩
theorem ag_e24 {κ τ : zS} {a n : Nat} {V : Nat → Rat} {b t w : Int} (h : ∀ c, WC24 τ a n V c = WC24 κ a n V c) : ag24 τ a n V b t w ↔ ag24 κ a n V b t w := by
  unfold ag24 re24
  simp only [h]
/-- rows of a table agree, if there are two -/
def tg24 (κ : zS) (a n : Nat) (V : Nat → Rat) (g : Int32) : Prop := ¬ (if zA κ (zR κ odRights a) g.toNatClampNeg < zA κ (zR κ odLefts a) g.toNatClampNeg then zA κ (zR κ odRights a) g.toNatClampNeg else zA κ (zR κ odLefts a) g.toNatClampNeg) ≤ (1 : Int32) → ag24 κ a n V (zA κ (zR κ odBases a) g.toNatClampNeg).toInt (if zA κ (zR κ odLefts a) g.toNatClampNeg < zA κ (zR κ odRights a) g.toNatClampNeg then zA κ (zR κ odRights a) g.toNatClampNeg else zA κ (zR κ odLefts a) g.toNatClampNeg).toInt (if zA κ (zR κ odRights a) g.toNatClampNeg < zA κ (zR κ odLefts a) g.toNatClampNeg then zA κ (zR κ odRights a) g.toNatClampNeg else zA κ (zR κ odLefts a) g.toNatClampNeg).toInt

end
