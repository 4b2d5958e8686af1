section
set_option maxHeartbeats 4000000
/-! the class: the worth of a state that has one next, or chooses -/
def f2W8 (q : Rat) : Prop := q.num.natAbs < 2 ^ 256 ∧ q.den < 2 ^ 256
theorem ix_w8 {x y : Int32} (h : y.toInt = x.toInt + 1) (b : 1 ≤ x.toInt) (g : (x.toNatClampNeg : Int) = x.toInt) : y.toNatClampNeg - 1 = x.toNatClampNeg - 1 + 1 := by
  have c := cnk (x := y) (by omega)
  omega
theorem iz_w8 {x : Int32} (g : (x.toNatClampNeg : Int) = x.toInt) (b : 1 ≤ x.toInt) (u : x.toInt ≤ 20000) : x = Int32.ofNat (x.toNatClampNeg - 1 + 1) := Int32.toInt_inj.mp (by rw [ofn_i (by omega)]; omega)
theorem fo_w8 {C : zC} {n0 a k n P i ca : Nat} {ρ : Nat → Nat} {R : Nat → Prop} {κ τ : zS} {V : Nat → Rat} {v : Option Nat} (W : zW C n0 κ) (Ta : zT κ a = 12) (hn : n ≤ 1000) (J : pwI9 ρ κ κ a n P) (hk : k < n) (Z : zF (pwF9 ρ R ca a) κ τ) (hR : ∀ r, 100 ≤ r → ¬ R r) (U : ∀ y, wU9 τ a y = wU9 κ a y) (eA : zR τ soAtlas a = zR κ soAtlas a) (h1 : loW8 (tcW8 κ (zR κ soAtlas a)) k ≤ i) (h2 : i < loW8 (tcW8 κ (zR κ soAtlas a)) (k + 1)) (hV : ∀ y, eW8 (tcW8 κ (zR κ soAtlas a)) k y → rqW8 κ (wU9 κ a y) (V y)) (hv : (zA τ (zR τ atSorts (zR τ soAtlas a)) i = 0 ∧ v = some (wU9 τ a (zA τ (zR τ atNumbers (zR τ soAtlas a)) i).toNatClampNeg)) ∨ (¬ zA τ (zR τ atSorts (zR τ soAtlas a)) i = 0 ∧ v = none)) : ovW8 τ v (bhW8 (tcW8 κ (zR κ soAtlas a)) V i) := by
  rw [eA] at hv
  have A0 := J.2.1.1
  have wy := wy_9 A0 hk
  have l0 : (loW8 (tcW8 κ (zR κ soAtlas a)) k : Int) = (zA κ (zR κ atFirsts (zR κ soAtlas a)) k).toInt := cnk wy.2.1
  have l1 : (loW8 (tcW8 κ (zR κ soAtlas a)) (k + 1) : Int) = (zA κ (zR κ atFirsts (zR κ soAtlas a)) (k + 1)).toInt := cnk (x := (zA κ (zR κ atFirsts (zR κ soAtlas a)) (k + 1))) (by omega)
  refine ov_w8 hv (tc_f8 W (ty_soAtlas W Ta) Z (fun f hf => pw_38 hf)) (fun z => ?_)
  have nx := (nx_9 A0 hk (i := i) (by omega) (by omega)).2.1 z
  have cy := cnk nx.1
  have hy : (zA κ (zR κ atNumbers (zR κ soAtlas a)) i).toNatClampNeg < n := by omega
  rw [U]
  exact rq_p8 W J.1.1 Z (J.2.2.1.2 _ hy).2.1 (ws_r9 (by omega)) ⟨hR _ (by omega), hR _ (by omega), hR _ (by omega)⟩ (hV _ ⟨i, h1, h2, z, rfl⟩)
theorem so_t8 {ρ : Nat → Nat} {R : Nat → Prop} {ca a : Nat} : ¬ soF ρ R ca soTaken a := fun z => by
  rcases z with ⟨_, z⟩ | ⟨_, z⟩ <;> exact absurd z (by decide)
theorem So_findWorth_q6 {C : zC} {n0 : Nat} {a0 : Nat} {a1 : Int32} {κ : zS} {Q : Int32 → zS → Prop} (W : zW C n0 κ) (Ta0 : zT κ a0 = 12) (ρ : Nat → Nat) (n9 P9 : Nat) (V9 : Nat → Rat) (hV9 : (∀ y, eW8 (tcW8 κ (zR κ soAtlas a0)) a1.toNatClampNeg y → rqW8 κ (wU9 κ a0 y) (V9 y)) ∧ rqW8 κ (wU9 κ a0 a1.toNatClampNeg) 0 ∧ zA κ (zR κ soTaken a0) a1.toNatClampNeg = 0) (hp : pwI9 ρ κ κ a0 n9 P9 ∧ n9 ≤ 1000 ∧ (0 ≤ a1.toInt ∧ a1.toInt < n9 ∧ n9 ≤ (zN κ (zR κ soTaken a0))) ∧ tkI9 κ κ a0 a1.toNatClampNeg ∧ nuN κ (zR κ soLess a0) < pB9 4000) (h : ∀ (v : Int32) (κ' : zS), ((nb v ∧ (zF (pwF9 ρ (fwR9 (104 + 8 * a1.toNatClampNeg)) (zR κ soCalc a0) a0) κ κ' ∧ nmI ρ κ' ∧ soI ρ κ' a0) ∧ nuN κ' (zR κ soLess a0) < pB9 4000 ∧ tkI9 κ κ' a0 a1.toNatClampNeg ∧ (v ≠ 0 → wsI9 ρ κ' a0 n9 P9) ∧ (∀ k, wU9 κ' a0 k = wU9 κ a0 k)) ∧ (((v ≠ 0 ↔ f2W8 ((bhW8 (tcW8 κ (zR κ soAtlas a0)) V9 (loW8 (tcW8 κ (zR κ soAtlas a0)) a1.toNatClampNeg + maW8 (tcW8 κ (zR κ soAtlas a0)) V9 a1.toNatClampNeg)) + ((zA κ (zR κ atGains (zR κ soAtlas a0)) a1.toNatClampNeg).toInt : Rat))) ∧ rqW8 κ' (wU9 κ a0 a1.toNatClampNeg) ((bhW8 (tcW8 κ (zR κ soAtlas a0)) V9 (loW8 (tcW8 κ (zR κ soAtlas a0)) a1.toNatClampNeg + maW8 (tcW8 κ (zR κ soAtlas a0)) V9 a1.toNatClampNeg)) + ((zA κ (zR κ atGains (zR κ soAtlas a0)) a1.toNatClampNeg).toInt : Rat)) ∧ zA κ' (zR κ soTaken a0) a1.toNatClampNeg = Int32.ofNat (maW8 (tcW8 κ (zR κ soAtlas a0)) V9 a1.toNatClampNeg)))) → Q v κ') : zRun C 5 mSo_findWorth [.ref a0, .int a1] κ (oI Q noX) := by
  refine So_findWorth_run W Ta0 ?_
  replace W := W.lo (Nat.le_trans W.1.2.1 W.1.2.2) (Nat.le_refl (zn κ))
  unfold w_So_findWorth_0
  obtain ⟨J0, hn, p1, p2, p3⟩ := hp
  have kn := cnk p1.1
  have A0 := J0.2.1.1
  have wy := wy_9 A0 (k := a1.toNatClampNeg) (by omega)
  have r8 : ρ (zR κ soLess a0) = 8 := J0.1.2.1.2.2.2.2.2.1
  have sm : ∀ x y : Int32, 0 ≤ x.toInt → x.toInt ≤ 20000 → 0 ≤ y.toInt → y.toInt ≤ 20000 → (x + y).toInt = x.toInt + y.toInt := fun x y h1 h2 h3 h4 => add_i (by omega) (by omega)
  have lo0 : ((loW8 (tcW8 κ (zR κ soAtlas a0)) a1.toNatClampNeg) : Int) = (zA κ (zR κ atFirsts (zR κ soAtlas a0)) a1.toNatClampNeg).toInt := cnk wy.2.1
  have lo1 : (loW8 (tcW8 κ (zR κ soAtlas a0)) (a1.toNatClampNeg + 1) : Int) = (zA κ (zR κ atFirsts (zR κ soAtlas a0)) (a1.toNatClampNeg + 1)).toInt := cnk (x := (zA κ (zR κ atFirsts (zR κ soAtlas a0)) (a1.toNatClampNeg + 1))) (by omega)
  have bl : ∀ m, biW8 (fun j => bhW8 (tcW8 κ (zR κ soAtlas a0)) V9 (loW8 (tcW8 κ (zR κ soAtlas a0)) a1.toNatClampNeg + j)) m ≤ m := fun m => bi_l8
  have hj90 : ∀ (l0 : Nat) (l1 : Int32) (τ : zS), zW C (zn κ) τ → zT τ l0 = 12 → ((a0 = l0 ∧ a1 = l1 ∧ ((nmI ρ τ ∧ soI ρ τ a0) ∧ (zR τ soAtlas a0 = zR κ soAtlas a0 ∧ atW τ (zR κ soAtlas a0) n9) ∧ zF (pwF9 ρ (cpR9 (104 + 8 * a1.toNatClampNeg)) (zR κ soCalc a0) a0) κ τ ∧ wsI9 ρ τ a0 n9 P9 ∧ (∀ k, wU9 τ a0 k = wU9 κ a0 k)) ∧ nuN τ (zR κ soLess a0) < pB9 4000 ∧ tkI9 κ τ a0 a1.toNatClampNeg) ∧ rqW8 τ (wU9 κ a0 a1.toNatClampNeg) (bhW8 (tcW8 κ (zR κ soAtlas a0)) V9 (loW8 (tcW8 κ (zR κ soAtlas a0)) a1.toNatClampNeg + maW8 (tcW8 κ (zR κ soAtlas a0)) V9 a1.toNatClampNeg)) ∧ zA τ (zR κ soTaken a0) a1.toNatClampNeg = Int32.ofNat (maW8 (tcW8 κ (zR κ soAtlas a0)) V9 a1.toNatClampNeg)) → w_So_findWorth_90 C (zn κ) Q  l0 l1 τ := by
    rintro _ _ τ90 W90 T90_0 ⟨⟨rfl, rfl, j90⟩, hE⟩
    unfold w_So_findWorth_90
    obtain ⟨⟨⟨N2, S2⟩, ⟨ea, A2⟩, Z2, V2, U2⟩, le2, tk2⟩ := j90
    obtain ⟨v1, v2, v3⟩ := V2.2 a1.toNatClampNeg (by omega)
    have vl := V2.1
    refine ⟨?_, ?_⟩
    · rw [inb_iff]; omega  -- b1
    refine ⟨?_, ?_⟩
    · rw [ea, inb_iff, A2.1.2.2.1]; omega  -- b2
    refine ex_some ?_ (fun u1 hu1 => ?_)
    · exact ⟨_, v1⟩  -- e3
    intro T2
    intro T3
    have eu : u1 = wU9 τ90 a0 a1.toNatClampNeg := Option.some.inj (hu1.symm.trans v1)
    subst eu
    have gs := ra_g9 N2 v2 (by omega) (by omega) (by omega)
    have k1 := k256 gs.2.2.2.1 v3.1.1
    have k2 := k256 gs.2.2.2.2.1 v3.1.2
    have h6 : ρ (zR τ90 soTerm a0) = 6 := S2.1.2.2.2.1
    have g6 := nm_g N2 h6 (Or.inl ⟨by decide, by decide⟩) (by decide)
    refine Ra_addWhole_q6 W90 T2 T3 20 6500 (bhW8 (tcW8 κ (zR κ soAtlas a0)) V9 (loW8 (tcW8 κ (zR κ soAtlas a0)) a1.toNatClampNeg + maW8 (tcW8 κ (zR κ soAtlas a0)) V9 a1.toNatClampNeg)) (by rw [U2]; exact hE.1) ?_ (fun κ_4 q5 => ?_)
    · exact ⟨gs.2.2.2, g6.1, ⟨ro_n h6 gs.2.1.1 (by omega), ro_n h6 gs.2.1.2 (by omega)⟩, ⟨by omega, by decide⟩, ⟨by omega, by omega⟩, by decide⟩  -- p4
    obtain ⟨q5, z9⟩ := q5
    have zw := z9
    intro W6
    intro M7
    obtain ⟨Zw, Jw, Cw, bw, tw, sw⟩ := q5
    obtain ⟨⟨N4, S4⟩, Zq⟩ := aw_w9 W90 T90_0 N2 S2 v2 (by omega) (by omega) (by omega) h6 Zw Jw Cw
    have Z4 := Zq (zR κ soCalc a0)
    have wu := wU9_f W90 T90_0 Z4
    have tl9 : zT τ90 (zR κ soLess a0) = 8 := Z2.t (ty_soLess W Ta0) (by decide)
    have eb4 : zR κ_4 raBottom (wU9 τ90 a0 a1.toNatClampNeg) = zR τ90 raBottom (wU9 τ90 a0 a1.toNatClampNeg) := Z4.r (soF_ra (Or.inr rfl))
    refine ⟨?_, ?_⟩
    · rw [wu.1.2, inb_iff]; omega  -- b5
    refine ex_some ?_ (fun u8 hu8 => ?_)
    · exact ⟨wU9 τ90 a0 a1.toNatClampNeg, by rw [wu.1.1]; exact v1⟩  -- e6
    intro T9
    have e8 : u8 = wU9 τ90 a0 a1.toNatClampNeg := Option.some.inj (hu8.symm.trans (by rw [wu.1.1]; exact v1))
    subst e8
    have gf := ra_g9 N4 v2 (by omega) (by omega) (by omega)
    refine Ra_fits_q6 W6 T9  ?_ (fun r10 q12 => ?_)
    · exact ⟨nuI_mono (by decide) gf.2.2.2.1, nuI_mono (by decide) gf.2.2.2.2.1⟩  -- p7
    obtain ⟨q12, z9⟩ := q12
    have zf := z9
    intro W13
    intro M14
    refine ⟨?_, h _ _ ?_⟩
    · exact q12.1  -- b8
    · refine and_5 ?_ (fun o9 => ?_)  -- q9
      · have sb := soF_B (c := 0) (w := (zR κ soLess a0)) W90 tl9 Z4 (by rw [r8]; omega)
        refine ⟨q12.1, ⟨(pw_m9 (fun r z => ?_) Z2).tr ((soF_m (fun r z => ?_) Z4).mono (fun f b z => Or.inl z)), N4, S4⟩, by rw [sb.2.1]; exact le2, tk_f9 W90 T90_0 Z4 tk2, fun y => ?_, fun i => (wu.2 i).trans (U2 i)⟩
        · unfold cpR9 at z
          unfold fwR9
          omega
        · unfold fwR9
          omega
        · have f2 := q12.2 y
          refine ws_w9 W90 T90_0 N2 Z4 hn (k := a1.toNatClampNeg) (fun r h z => by omega) V2 ⟨f2, ?_, sw v3.2.2⟩
          rw [eb4, bw]
          exact v3.2.1
      · have Zt := tc_f8 W (ty_soAtlas W Ta0) Z2 (fun f hf => pw_38 hf)
        have eg : zA τ90 (zR τ90 atGains (zR τ90 soAtlas a0)) a1.toNatClampNeg = zA κ (zR κ atGains (zR κ soAtlas a0)) a1.toNatClampNeg := by
          rw [ea]
          exact congrFun (congrFun Zt 5) a1.toNatClampNeg
        rw [eg] at zw
        have tr := (Z4.row W90 (show zr soTaken = some 20 by decide +kernel) (by decide) T90_0 so_t8).1
        have tr2 : zR κ_4 soTaken a0 = zR τ90 soTaken a0 := Z4.r so_t8
        have tr3 : zR τ90 soTaken a0 = zR κ soTaken a0 := tk2.1
        rw [tr2, tr3] at tr
        refine ⟨?_, by rw [← U2]; exact zw, by rw [tr]; exact hE.2⟩
        rw [zf]
        unfold f2W8
        rw [zw.2.1, zw.2.2]
  refine ⟨?_, ?_⟩
  · rw [inb_iff, A0.1.1]; omega  -- b10
  intro x15 hx15
  unfold w_So_findWorth_12
  refine ⟨fun n l0 l1 l2 l3 τ => n = ((zA κ (zR κ atFirsts (zR κ soAtlas a0)) (a1.toNatClampNeg + 1)).toInt - (zA κ (zR κ atFirsts (zR κ soAtlas a0)) a1.toNatClampNeg).toInt - l3.toInt).toNat ∧ ((a0 = l0 ∧ a1 = l1 ∧ pwI9 ρ κ τ a0 n9 P9 ∧ zF (pwF9 ρ (fun r => r = 7 ∨ r = 8) (zR κ soCalc a0) a0) κ τ ∧ nuN τ (zR κ soLess a0) < pB9 4000 ∧ l2 = zA κ (zR κ atFirsts (zR κ soAtlas a0)) a1.toNatClampNeg ∧ (1 ≤ l3.toInt ∧ l3.toInt ≤ (zA κ (zR κ atFirsts (zR κ soAtlas a0)) (a1.toNatClampNeg + 1)).toInt - (zA κ (zR κ atFirsts (zR κ soAtlas a0)) a1.toNatClampNeg).toInt) ∧ tkI9 κ τ a0 a1.toNatClampNeg) ∧ zA τ (zR κ soTaken a0) a1.toNatClampNeg = Int32.ofNat (biW8 (fun j => bhW8 (tcW8 κ (zR κ soAtlas a0)) V9 (loW8 (tcW8 κ (zR κ soAtlas a0)) a1.toNatClampNeg + j)) (l3.toNatClampNeg - 1))), ⟨_, rfl, ?_⟩, ?_⟩
  · refine and_5 ?_ (fun o9 => hV9.2.2)  -- j11
    exact ⟨rfl, rfl, J0, zF.rf, p3, hx15, ⟨by decide, by show (1 : Int) ≤ _; omega⟩, p2⟩
  rintro n12 _ _ x12_2 x12_3 κ12 W12 T12_0 ⟨hn12, ⟨rfl, rfl, i12⟩, hE⟩
  obtain ⟨J1, Z1, le1, ef, h3, tk⟩ := i12
  have tb := tk.2.1
  have A1 := J1.2.1.1
  have eA := J1.2.1.2.1
  have eF : zA κ12 (zR κ12 atFirsts (zR κ soAtlas a0)) = zA κ (zR κ atFirsts (zR κ soAtlas a0)) := by rw [J1.2.1.2.2.2]; exact J1.2.1.2.2.1
  have eT : zR κ12 soTaken a0 = zR κ soTaken a0 := J1.2.2.2.2.1.1
  have nT : zN κ12 (zR κ soTaken a0) = zN κ (zR κ soTaken a0) := J1.2.2.2.2.1.2
  have sx : (x12_2 + zA κ12 (zR κ soTaken a0) a1.toNatClampNeg).toInt = (zA κ (zR κ atFirsts (zR κ soAtlas a0)) a1.toNatClampNeg).toInt + (zA κ12 (zR κ soTaken a0) a1.toNatClampNeg).toInt := by rw [ef]; exact sm _ _ (by omega) (by omega) (by omega) (by omega)
  have tle : zT κ12 (zR κ soLess a0) = 8 := Z1.t (ty_soLess W Ta0) (by decide)
  intro T16
  refine At_waysOf_c W12 T16  ?_ (fun r17 q19 => ?_)
  · rw [eA]
    exact ⟨A1.1.1, p1.1, by omega⟩
  intro W20
  intro M21
  rw [eA, eF] at q19
  have r9 : r17.toInt = (zA κ (zR κ atFirsts (zR κ soAtlas a0)) (a1.toNatClampNeg + 1)).toInt - (zA κ (zR κ atFirsts (zR κ soAtlas a0)) a1.toNatClampNeg).toInt := by rw [q19, sub_i (by omega) (by omega)]
  refine ⟨fun c22 => ?_, fun c22 => ?_⟩
  · skip
    refine ⟨?_, ?_⟩
    · rw [eT, inb_iff, nT]; omega  -- b13
    intro T23
    refine So_worthBehind_q6 W20 T23 ρ n9 P9 a1.toNatClampNeg ?_ (fun r24 q26 => ?_)
    · rw [eA, eF, eT]
      exact ⟨A1, J1.2.2.1, by omega, by rw [sx]; omega, by rw [sx]; omega, by rw [sx]; omega⟩
    obtain ⟨q26, z9⟩ := q26
    have zb := z9
    intro W27
    intro M28
    intro T29
    refine ⟨fun c30 => ?_, fun uc30 c30 => ?_⟩
    · skip
      refine hj90 _ _ _ W27 ?_ ?_
      · exact T12_0  -- t15
      · refine and_5 ?_ (fun o9 => ?_)  -- k16
        · refine ⟨rfl, rfl, ⟨J1.1, ⟨eA, A1⟩, pw_m9 (fun r z => ?_) Z1, J1.2.2.1, J1.2.2.2.1⟩, le1, tk⟩
          unfold cpR9
          omega
        · have hR7 : ∀ r, 100 ≤ r → ¬ (r = 7 ∨ r = 8) := fun r h z => by omega
          rw [lei, r9] at c22
          have n3 := cnk (x := x12_3) (by omega)
          have bb := bl (x12_3.toNatClampNeg - 1)
          have em : biW8 (fun j => bhW8 (tcW8 κ (zR κ soAtlas a0)) V9 (loW8 (tcW8 κ (zR κ soAtlas a0)) a1.toNatClampNeg + j)) (x12_3.toNatClampNeg - 1) = maW8 (tcW8 κ (zR κ soAtlas a0)) V9 a1.toNatClampNeg := by
            show _ = biW8 _ (loW8 (tcW8 κ (zR κ soAtlas a0)) (a1.toNatClampNeg + 1) - (loW8 (tcW8 κ (zR κ soAtlas a0)) a1.toNatClampNeg) - 1)
            rw [show x12_3.toNatClampNeg - 1 = loW8 (tcW8 κ (zR κ soAtlas a0)) (a1.toNatClampNeg + 1) - (loW8 (tcW8 κ (zR κ soAtlas a0)) a1.toNatClampNeg) - 1 by omega]
          have tk9 : (zA κ12 (zR κ soTaken a0) a1.toNatClampNeg).toInt = (biW8 (fun j => bhW8 (tcW8 κ (zR κ soAtlas a0)) V9 (loW8 (tcW8 κ (zR κ soAtlas a0)) a1.toNatClampNeg + j)) (x12_3.toNatClampNeg - 1) : Int) := by rw [hE, ofn_i (by omega)]
          have i2 : (x12_2 + zA κ12 (zR κ soTaken a0) a1.toNatClampNeg).toNatClampNeg = (loW8 (tcW8 κ (zR κ soAtlas a0)) a1.toNatClampNeg) + biW8 (fun j => bhW8 (tcW8 κ (zR κ soAtlas a0)) V9 (loW8 (tcW8 κ (zR κ soAtlas a0)) a1.toNatClampNeg + j)) (x12_3.toNatClampNeg - 1) := by have c := cnk (x := x12_2 + zA κ12 (zR κ soTaken a0) a1.toNatClampNeg) (by omega); omega
          rw [eT, i2] at zb
          have ov := fo_w8 W Ta0 hn J0 (by omega) Z1 hR7 J1.2.2.2.1 eA (by omega) (by omega) hV9.1 zb
          rw [em] at ov
          refine ⟨?_, by rw [hE, em]⟩
          rw [ov.2 c30]
          exact rq_p8 W J0.1.1 Z1 (J0.2.2.1.2 a1.toNatClampNeg (by omega)).2.1 (ws_r9 (by omega)) ⟨hR7 _ (by omega), hR7 _ (by omega), hR7 _ (by omega)⟩ hV9.2.1
    · skip
      refine ⟨?_, ?_⟩
      · have vl := J1.2.2.1.1
        rw [inb_iff]; omega
      refine ex_some ?_ (fun u31 hu31 => ?_)
      · exact ⟨_, (J1.2.2.1.2 a1.toNatClampNeg (by omega)).1⟩  -- e18
      refine ex_some ?_ (fun u32 hu32 => ?_)
      · exact ⟨_, c30⟩  -- e19
      intro T33
      intro T34
      obtain ⟨j9, hj9, ej⟩ : ∃ j, j < n9 ∧ wU9 κ12 a0 j = u32 := by
        rcases q26 with z | ⟨j, hj, z⟩
        · rw [z] at hu32; cases hu32
        · exact ⟨j, hj, Option.some.inj (z.symm.trans hu32)⟩
      obtain ⟨y0, y1, y2⟩ := J1.2.2.1.2 a1.toNatClampNeg (by omega)
      obtain ⟨_, y3, y4⟩ := J1.2.2.1.2 j9 hj9
      have eu31 : wU9 κ12 a0 a1.toNatClampNeg = u31 := Option.some.inj (y0.symm.trans hu31)
      rw [eu31] at y1
      rw [ej] at y3 y4
      refine Ra_copy_w9 W27 T33 T34 ρ (104 + 8 * a1.toNatClampNeg) (104 + 8 * j9) ?_ (fun κ_35 q36 => ?_)
      · refine ⟨J1.1.1, ⟨y1, by omega, by omega, by omega⟩, ⟨y3, by omega, by omega, by omega⟩, fun e => ?_, y4.1.1, y4.1.2⟩
        have e' : a1.toNatClampNeg = j9 := by omega
        rw [← eu31, ← ej, e']
      intro W37
      intro M38
      refine hj90 _ _ _ W37 ?_ ?_
      · exact q36.1.t T12_0 (by decide)  -- t21
      · refine and_5 ?_ (fun o9 => ?_)  -- k22
        · obtain ⟨⟨N5, S5⟩, Zq⟩ := ra_w9 W27 T12_0 J1.1.1 J1.1.2 y1 (by omega) (by omega) (by omega) q36.1 q36.2.1
          have Z5 := Zq (zR κ soCalc a0)
          have wu := wU9_f W27 T12_0 Z5
          have tz : zT κ12 (zR κ soAtlas a0) = 3 := by rw [← eA]; exact ty_soAtlas W27 T12_0
          have sb := soF_B (c := 0) (w := (zR κ soLess a0)) W27 tle Z5 (by rw [r8]; omega)
          have wk : wsK9 κ_35 (wU9 κ12 a0 a1.toNatClampNeg) P9 := by
            rw [eu31]
            unfold wsK9
            rw [q36.2.2.2.1, q36.2.2.2.2, q36.2.2.1]
            exact y4
          refine ⟨rfl, rfl, ⟨⟨N5, S5⟩, ⟨(soF_r9 Z5 (by decide)).1.trans eA, atW_f9 W27 soF_fr Z5 tz A1⟩, (pw_m9 (fun r z => ?_) Z1).tr ((soF_m (fun r z => ?_) Z5).mono (fun f b z => Or.inl z)), ws_w9 W27 T12_0 J1.1.1 Z5 hn (k := a1.toNatClampNeg) (fun r h z => z) J1.2.2.1 wk, fun i => (wu.2 i).trans (J1.2.2.2.1 i)⟩, by rw [sb.2.1]; exact le1, tk_f9 W27 T12_0 Z5 tk⟩
          · unfold cpR9
            omega
          · unfold cpR9
            omega
        · have hR7 : ∀ r, 100 ≤ r → ¬ (r = 7 ∨ r = 8) := fun r h z => by omega
          rw [lei, r9] at c22
          have n3 := cnk (x := x12_3) (by omega)
          have bb := bl (x12_3.toNatClampNeg - 1)
          have em : biW8 (fun j => bhW8 (tcW8 κ (zR κ soAtlas a0)) V9 (loW8 (tcW8 κ (zR κ soAtlas a0)) a1.toNatClampNeg + j)) (x12_3.toNatClampNeg - 1) = maW8 (tcW8 κ (zR κ soAtlas a0)) V9 a1.toNatClampNeg := by
            show _ = biW8 _ (loW8 (tcW8 κ (zR κ soAtlas a0)) (a1.toNatClampNeg + 1) - (loW8 (tcW8 κ (zR κ soAtlas a0)) a1.toNatClampNeg) - 1)
            rw [show x12_3.toNatClampNeg - 1 = loW8 (tcW8 κ (zR κ soAtlas a0)) (a1.toNatClampNeg + 1) - (loW8 (tcW8 κ (zR κ soAtlas a0)) a1.toNatClampNeg) - 1 by omega]
          have tk9 : (zA κ12 (zR κ soTaken a0) a1.toNatClampNeg).toInt = (biW8 (fun j => bhW8 (tcW8 κ (zR κ soAtlas a0)) V9 (loW8 (tcW8 κ (zR κ soAtlas a0)) a1.toNatClampNeg + j)) (x12_3.toNatClampNeg - 1) : Int) := by rw [hE, ofn_i (by omega)]
          have i2 : (x12_2 + zA κ12 (zR κ soTaken a0) a1.toNatClampNeg).toNatClampNeg = (loW8 (tcW8 κ (zR κ soAtlas a0)) a1.toNatClampNeg) + biW8 (fun j => bhW8 (tcW8 κ (zR κ soAtlas a0)) V9 (loW8 (tcW8 κ (zR κ soAtlas a0)) a1.toNatClampNeg + j)) (x12_3.toNatClampNeg - 1) := by have c := cnk (x := x12_2 + zA κ12 (zR κ soTaken a0) a1.toNatClampNeg) (by omega); omega
          rw [eT, i2] at zb
          have ov := fo_w8 W Ta0 hn J0 (by omega) Z1 hR7 J1.2.2.2.1 eA (by omega) (by omega) hV9.1 zb
          rw [em] at ov
          have R := ov.1 u32 hu32
          obtain ⟨⟨N5, S5⟩, Zq⟩ := ra_w9 W27 T12_0 J1.1.1 J1.1.2 y1 (by omega) (by omega) (by omega) q36.1 q36.2.1
          have Z5 := Zq (zR κ soCalc a0)
          have tr := (Z5.row W27 (show zr soTaken = some 20 by decide +kernel) (by decide) T12_0 so_t8).1
          have tr2 : zR κ_35 soTaken a0 = zR κ12 soTaken a0 := Z5.r so_t8
          rw [tr2, eT] at tr
          refine ⟨?_, by rw [tr, hE, em]⟩
          rw [← J1.2.2.2.1, eu31]
          exact ⟨q36.2.2.1.trans R.1, q36.2.2.2.1.trans R.2.1, q36.2.2.2.2.trans R.2.2⟩
  · skip
    intro T39
    rw [lei, r9] at c22
    have sy : (x12_2 + x12_3).toInt = (zA κ (zR κ atFirsts (zR κ soAtlas a0)) a1.toNatClampNeg).toInt + x12_3.toInt := by rw [ef]; exact sm _ _ (by omega) (by omega) (by omega) (by omega)
    have ix : (x12_3 + 1).toInt = x12_3.toInt + 1 := (cn1 (by omega) (by omega)).2
    refine So_worthBehind_q6 W20 T39 ρ n9 P9 a1.toNatClampNeg ?_ (fun r40 q42 => ?_)
    · rw [eA, eF]
      exact ⟨A1, J1.2.2.1, by omega, by rw [sy]; omega, by rw [sy]; omega, by rw [sy]; omega⟩
    obtain ⟨q42, z9⟩ := q42
    have zb1 := z9
    intro W43
    intro M44
    intro T45
    refine ⟨?_, ?_⟩
    · rw [eT, inb_iff, nT]; omega  -- b24
    intro T46
    refine So_worthBehind_q6 W43 T46 ρ n9 P9 a1.toNatClampNeg ?_ (fun r47 q49 => ?_)
    · rw [eA, eF, eT]
      exact ⟨A1, J1.2.2.1, by omega, by rw [sx]; omega, by rw [sx]; omega, by rw [sx]; omega⟩
    obtain ⟨q49, z9⟩ := q49
    have hR7 : ∀ r, 100 ≤ r → ¬ (r = 7 ∨ r = 8) := fun r h z => by omega
    have b3 : 1 ≤ x12_3.toInt := by omega
    have u3 : x12_3.toInt ≤ 20000 := by omega
    have n3 := cnk (x := x12_3) (Int.le_trans (by decide) b3)
    have ov1 : ovW8 κ12 r40 ((fun j => bhW8 (tcW8 κ (zR κ soAtlas a0)) V9 (loW8 (tcW8 κ (zR κ soAtlas a0)) a1.toNatClampNeg + j)) (x12_3.toNatClampNeg - 1 + 1)) := by
      have i1 : (x12_2 + x12_3).toNatClampNeg = (loW8 (tcW8 κ (zR κ soAtlas a0)) a1.toNatClampNeg) + (x12_3.toNatClampNeg - 1 + 1) := by have c := cnk (x := x12_2 + x12_3) (by omega); omega
      rw [i1] at zb1
      exact fo_w8 W Ta0 hn J0 (by omega) Z1 hR7 J1.2.2.2.1 eA (by omega) (by omega) hV9.1 zb1
    have ov2 : ovW8 κ12 r47 ((fun j => bhW8 (tcW8 κ (zR κ soAtlas a0)) V9 (loW8 (tcW8 κ (zR κ soAtlas a0)) a1.toNatClampNeg + j)) (biW8 (fun j => bhW8 (tcW8 κ (zR κ soAtlas a0)) V9 (loW8 (tcW8 κ (zR κ soAtlas a0)) a1.toNatClampNeg + j)) (x12_3.toNatClampNeg - 1))) := by
      have bb := bl (x12_3.toNatClampNeg - 1)
      have tk9 : (zA κ12 (zR κ soTaken a0) a1.toNatClampNeg).toInt = (biW8 (fun j => bhW8 (tcW8 κ (zR κ soAtlas a0)) V9 (loW8 (tcW8 κ (zR κ soAtlas a0)) a1.toNatClampNeg + j)) (x12_3.toNatClampNeg - 1) : Int) := by rw [hE, ofn_i (by omega)]
      have i2 : (x12_2 + zA κ12 (zR κ soTaken a0) a1.toNatClampNeg).toNatClampNeg = (loW8 (tcW8 κ (zR κ soAtlas a0)) a1.toNatClampNeg) + biW8 (fun j => bhW8 (tcW8 κ (zR κ soAtlas a0)) V9 (loW8 (tcW8 κ (zR κ soAtlas a0)) a1.toNatClampNeg + j)) (x12_3.toNatClampNeg - 1) := by have c := cnk (x := x12_2 + zA κ12 (zR κ soTaken a0) a1.toNatClampNeg) (by omega); omega
      rw [eT, i2] at z9
      exact fo_w8 W Ta0 hn J0 (by omega) Z1 hR7 J1.2.2.2.1 eA (by omega) (by omega) hV9.1 z9
    intro W50
    intro M51
    intro T52
    intro T53
    intro T54
    intro T55
    refine So_isAbove_q6 W50 T53 T54 T55 ρ n9 P9 _ _ ⟨ov1, ov2⟩ ?_ (fun r56 κ_57 q58 => ?_)
    · exact ⟨J1.1, J1.2.2.1, hn, q42, q49⟩  -- p26
    obtain ⟨q58, z9⟩ := q58
    have za := z9
    intro W59
    intro M60
    obtain ⟨⟨Z6, N6, S6⟩, l6⟩ := q58
    rw [J1.2.2.2.2.2.1] at Z6
    rw [J1.2.2.2.2.2.2.2] at l6
    have J6 := pw_so9 W50 T12_0 hn J1 Z6 (fun r h z => by rcases z with z | z <;> omega) ⟨N6, S6⟩
    have le6 : nuN κ_57 (zR κ soLess a0) < pB9 4000 := by
      rcases l6 with z | z
      · exact z
      · rw [z]; exact le1
    have tk6 := tk_f9 W50 T12_0 Z6 tk
    have Zs := Z1.tr (Z6.mono (fun f b z => Or.inl z))
    have T6 : zT κ_57 a0 = 12 := Z6.t T12_0 (by decide)
    have tl6 : zT κ_57 (zR κ soLess a0) = 8 := Z6.t tle (by decide)
    refine ⟨fun c61 => ?_, fun c61 => ?_⟩
    · skip
      intro x62 hx62
      refine lp_b5 ?_ (fun d9 => ⟨rfl, ?_⟩)
      · rw [hn12, hx62, ix]; omega  -- d27
      · refine and_5 ?_ (fun o9 => ?_)  -- i28
        · exact ⟨rfl, rfl, J6, Zs, le6, ef, ⟨by rw [hx62, ix]; omega, by rw [hx62, ix]; omega⟩, tk6⟩
        · have no := bi_n8 (f := (fun j => bhW8 (tcW8 κ (zR κ soAtlas a0)) V9 (loW8 (tcW8 κ (zR κ soAtlas a0)) a1.toNatClampNeg + j))) (m := x12_3.toNatClampNeg - 1) (fun z => za.mpr z c61)
          have tr := (Z6.row W50 (show zr soTaken = some 20 by decide +kernel) (by decide) T12_0 so_t8).1
          have tr2 : zR κ_57 soTaken a0 = zR κ12 soTaken a0 := Z6.r so_t8
          rw [tr2, eT] at tr
          have n6 := ix_w8 (y := x62) (by rw [hx62, ix]) b3 n3
          rw [tr, hE, n6, no]
    · skip
      refine ⟨?_, ?_⟩
      · rw [J6.2.2.2.2.1.1, J6.2.2.2.2.1.2, inb_iff]; omega  -- b29
      intro κ_63 hκ_63
      intro W64
      intro x65 hx65
      refine lp_b5 ?_ (fun d9 => ⟨rfl, ?_⟩)
      · rw [hn12, hx65, ix]; omega  -- d30
      · refine and_5 ?_ (fun o9 => ?_)  -- i31
        · obtain ⟨J7, Z7, u7⟩ := pw_u9 W59 T6 J6 hκ_63
          have lz := nuB_z (c := 0) W59 tl6 Z7 (fun z => absurd z.1 (by decide)) (fun z => absurd z.1 (by decide))
          exact ⟨rfl, rfl, J7, Zs.tr (Z7.mono (fun f b z => Or.inr z)), by rw [lz.2.2.1]; exact le6, ef, ⟨by rw [hx65, ix]; omega, by rw [hx65, ix]; omega⟩, tk_u9 tk6 hκ_63 u7 (by omega) (by omega)⟩
        · have yes := bi_p8 (f := (fun j => bhW8 (tcW8 κ (zR κ soAtlas a0)) V9 (loW8 (tcW8 κ (zR κ soAtlas a0)) a1.toNatClampNeg + j))) (m := x12_3.toNatClampNeg - 1) (za.mp c61)
          obtain ⟨J7, Z7, u7⟩ := pw_u9 W59 T6 J6 hκ_63
          have n6 := ix_w8 (y := x65) (by rw [hx65, ix]) b3 n3
          rw [u7, n6, yes]
          show (if a1.toNatClampNeg = a1.toNatClampNeg then x12_3 else _) = _
          rw [if_pos rfl]
          exact iz_w8 n3 b3 u3

end
section
set_option maxHeartbeats 1600000
/-! the class: the worth of a state that draws -/
theorem nu_q8 {x : Rat} : x * (x.den : Rat) = (x.num : Rat) := by
  have d : (x.den : Rat) ≠ 0 := fun z => x.den_nz (Rat.natCast_eq_zero_iff.mp z)
  have e : x = (x.num : Rat) / (x.den : Rat) := by rw [← Rat.mkRat_eq_div, Rat.mkRat_self]
  have f := Rat.div_mul_cancel (a := (x.num : Rat)) d
  rw [← e] at f
  exact f
theorem tn_q8 {s w : Int} {t c : Nat} {n : Int} (hn : s * (t : Int) = n) : (0 < s * w → ((t * (s * w).natAbs * c : Nat) : Int) = n * w * (c : Int)) ∧ (¬ 0 < s * w → -((t * (s * w).natAbs * c : Nat) : Int) = n * w * (c : Int)) := by
  have e : n * w = s * w * (t : Int) := by rw [← hn, Int.mul_assoc, Int.mul_comm (t : Int) w, Int.mul_assoc]
  rw [e, Int.natCast_mul, Int.natCast_mul]
  generalize s * w = p
  refine ⟨fun h => ?_, fun h => ?_⟩
  · rw [show (p.natAbs : Int) = p by omega, Int.mul_comm (t : Int) p]
  · rw [show (p.natAbs : Int) = -p by omega, Int.mul_neg, Int.neg_mul, Int.neg_neg, Int.mul_comm (t : Int) p]
theorem tm_q8 {x : Rat} {s w : Int} {t b D : Nat} (hs : s = x.num.sign) (ht : t = x.num.natAbs) (hb : b = x.den) (d : b ∣ D) : (0 < s * w → ((((t * (s * w).natAbs * (D / b) : Nat) : Int)) : Rat) = x * (w : Rat) * (D : Rat)) ∧ (¬ 0 < s * w → ((-((t * (s * w).natAbs * (D / b) : Nat) : Int) : Int) : Rat) = x * (w : Rat) * (D : Rat)) := by
  obtain ⟨c, e⟩ := d
  have b0 : 0 < b := by rw [hb]; exact Nat.pos_of_ne_zero x.den_nz
  have q : D / b = c := by rw [e, Nat.mul_div_cancel_left _ b0]
  have K := tn_q8 (s := s) (w := w) (t := t) (c := c) (n := x.num) (by rw [hs, ht]; exact Int.sign_mul_natAbs x.num)
  have v : ((x.num * w * (c : Int) : Int) : Rat) = x * (w : Rat) * (D : Rat) := by
    rw [Rat.intCast_mul, Rat.intCast_mul, ← nu_q8 (x := x), e, hb, Rat.natCast_mul, Rat.intCast_natCast]
    grind
  rw [q]
  exact ⟨fun h => by rw [K.1 h]; exact v, fun h => by rw [K.2 h]; exact v⟩
theorem sm_d8 {a : Nat → Rat} {w : Nat → Int} {T : Nat} : ∀ {m : Nat}, smW8 (fun j => a j * mkRat (w j) T) m = smW8 (fun j => a j * (w j : Rat)) m * ((T : Rat)⁻¹)
  | 0 => by
    show (0 : Rat) = 0 * _
    rw [Rat.zero_mul]
  | m + 1 => by
    show smW8 (fun j => a j * mkRat (w j) T) m + a m * mkRat (w m) T = (smW8 (fun j => a j * (w j : Rat)) m + a m * (w m : Rat)) * _
    rw [sm_d8, Rat.mkRat_eq_div, Rat.div_def, Rat.add_mul, ← Rat.mul_assoc]
theorem mk_d8 {n : Int} {D T : Nat} {S : Rat} (h : (n : Rat) = S * (D : Rat)) (d0 : 0 < D) : mkRat n (D * T) = S * ((T : Rat)⁻¹) := by
  have d : (D : Rat) ≠ 0 := fun z => by have := Rat.natCast_eq_zero_iff.mp z; omega
  have i := Rat.mul_inv_cancel (D : Rat) d
  rw [Rat.mkRat_eq_div, Rat.div_def, h, Rat.natCast_mul, Rat.inv_mul_rev]
  generalize (D : Rat) = p at *
  generalize (T : Rat)⁻¹ = q at *
  grind
theorem so_38 {ρ : Nat → Nat} {R : Nat → Prop} {ca f t : Nat} (h : f / 100 = 3) : ¬ soF ρ R ca f t := fun z => pw_38 (ρ := ρ) (R := R) (ca := ca) (a := 0) h (Or.inl z)
theorem ml_q8 {s w : Int32} (h1 : -1 ≤ s.toInt) (h2 : s.toInt ≤ 1) : (Int32.toInt64 s * Int32.toInt64 w).toInt = s.toInt * w.toInt := by
  have l := ilo w
  have u := ihi w
  have es := Int32.toInt_toInt64 s
  have ew := Int32.toInt_toInt64 w
  have c : s.toInt = -1 ∨ s.toInt = 0 ∨ s.toInt = 1 := by omega
  have p : -2147483648 ≤ s.toInt * w.toInt ∧ s.toInt * w.toInt ≤ 2147483648 := by
    rcases c with e | e | e <;> rw [e] <;> omega
  rw [jmul_i (by rw [es, ew]; omega) (by rw [es, ew]; omega), es, ew]
theorem So_mixWorths_q6 {C : zC} {n0 : Nat} {a0 : Nat} {a1 : Int32} {κ : zS} {Q : Int32 → zS → Prop} (W : zW C n0 κ) (Ta0 : zT κ a0 = 12) (ρ : Nat → Nat) (n9 P9 : Nat) (V9 : Nat → Rat) (hV9 : ∀ y, eW8 (tcW8 κ (zR κ soAtlas a0)) a1.toNatClampNeg y → rqW8 κ (wU9 κ a0 y) (V9 y)) (hp : pwI9 ρ κ κ a0 n9 P9 ∧ n9 ≤ 1000 ∧ (0 ≤ a1.toInt ∧ a1.toInt < n9) ∧ (0 < P9 ∧ P9 < pB9 1490) ∧ (1 ≤ (zA κ (zR κ atTotals (zR κ soAtlas a0)) a1.toNatClampNeg).toInt ∧ (zA κ (zR κ atTotals (zR κ soAtlas a0)) a1.toNatClampNeg).toInt ≤ 8000000)) (h : ∀ (v : Int32) (κ' : zS), ((nb v ∧ (zF (soF ρ (voR9 (104 + 8 * a1.toNatClampNeg)) (zR κ soCalc a0)) κ κ' ∧ nmI ρ κ' ∧ soI ρ κ' a0) ∧ nuN κ' (zR κ soLess a0) < pB9 4000 ∧ (v ≠ 0 → wsI9 ρ κ' a0 n9 (P9 * ((zA κ (zR κ atTotals (zR κ soAtlas a0)) a1.toNatClampNeg).toInt).toNat)) ∧ (∀ k, wU9 κ' a0 k = wU9 κ a0 k)) ∧ (((v ≠ 0 ↔ f2W8 (smW8 (fun j => bhW8 (tcW8 κ (zR κ soAtlas a0)) V9 (loW8 (tcW8 κ (zR κ soAtlas a0)) a1.toNatClampNeg + j) * mkRat (zA κ (zR κ atWeights (zR κ soAtlas a0)) (loW8 (tcW8 κ (zR κ soAtlas a0)) a1.toNatClampNeg + j)).toInt (zA κ (zR κ atTotals (zR κ soAtlas a0)) a1.toNatClampNeg).toInt.toNat) ((loW8 (tcW8 κ (zR κ soAtlas a0)) (a1.toNatClampNeg + 1)) - (loW8 (tcW8 κ (zR κ soAtlas a0)) a1.toNatClampNeg)))) ∧ (v ≠ 0 → rqW8 κ' (wU9 κ a0 a1.toNatClampNeg) (smW8 (fun j => bhW8 (tcW8 κ (zR κ soAtlas a0)) V9 (loW8 (tcW8 κ (zR κ soAtlas a0)) a1.toNatClampNeg + j) * mkRat (zA κ (zR κ atWeights (zR κ soAtlas a0)) (loW8 (tcW8 κ (zR κ soAtlas a0)) a1.toNatClampNeg + j)).toInt (zA κ (zR κ atTotals (zR κ soAtlas a0)) a1.toNatClampNeg).toInt.toNat) ((loW8 (tcW8 κ (zR κ soAtlas a0)) (a1.toNatClampNeg + 1)) - (loW8 (tcW8 κ (zR κ soAtlas a0)) a1.toNatClampNeg))))))) → Q v κ') : zRun C 7 mSo_mixWorths [.ref a0, .int a1] κ (oI Q noX) := by
  refine So_mixWorths_run W Ta0 ?_
  replace W := W.lo (Nat.le_trans W.1.2.1 W.1.2.2) (Nat.le_refl (zn κ))
  unfold w_So_mixWorths_0
  obtain ⟨J0, hn, p1, ⟨p2, p3⟩, p4⟩ := hp
  have kn := cnk p1.1
  have A0 := J0.2.1.1
  have wy := wy_9 A0 (k := a1.toNatClampNeg) (by omega)
  have i1 := cn1 p1.1 (by omega)
  have N0 := J0.1.1
  have S0 := J0.1.2
  have h1 : ρ (zR κ soWhole a0) = 1 := S0.1.1
  have h7 : ρ (zR κ soSum a0) = 7 := S0.1.2.2.2.2.1
  have h8 : ρ (zR κ soLess a0) = 8 := S0.1.2.2.2.2.2.1
  have h20 := S0.1.2.2.2.2.2.2
  have g1 := nm_g N0 h1 (Or.inl ⟨by decide, by decide⟩) (by decide)
  have o1 : (1 : Int64).toInt.toNat = 1 := rfl
  have h256 : 2 ^ 256 ≤ pB9 100 := by unfold pB9; decide
  intro T1
  refine Nu_put_c W T1 6500 ?_ (fun κ_2 q3 => ?_)
  · exact ⟨by decide, g1.2.2⟩  -- p1
  obtain ⟨Fp, ⟨Rp, Np⟩, Ip, Vp⟩ := q3
  have Zp : zF (soF ρ (fun r => r < 100) (zR κ soCalc a0)) κ κ_2 := soF_1 (by rw [h1]; decide) Fp
  have N2 : nmI ρ κ_2 := nm_1 W N0 Fp (by rw [h1]; exact Ip)
  have S2 : soI ρ κ_2 a0 := so_1 W Ta0 S0 Fp
  have Y2 := mw_9 W Ta0 hn J0 Zp (fun r h z => by omega) ⟨N2, S2⟩
  intro W4
  intro M5
  refine ⟨?_, ?_⟩
  · rw [Y2.2.2.1, inb_iff]; omega  -- b2
  intro x6 hx6
  unfold w_So_mixWorths_18
  refine ⟨fun n l0 l1 l2 τ => n = ((zA κ (zR κ atFirsts (zR κ soAtlas a0)) (a1.toNatClampNeg + 1)).toInt - l2.toInt).toNat ∧ ((a0 = l0 ∧ a1 = l1 ∧ (zF (soF ρ (fun r => r < 100) (zR κ soCalc a0)) κ τ ∧ nmI ρ τ ∧ soI ρ τ a0) ∧ dz9 (nuN τ (zR κ soWhole a0)) P9 ∧ (zA κ (zR κ atFirsts (zR κ soAtlas a0)) a1.toNatClampNeg).toInt ≤ l2.toInt) ∧ 0 < nuN τ (zR κ soWhole a0) ∧ ∀ i, (loW8 (tcW8 κ (zR κ soAtlas a0)) a1.toNatClampNeg) ≤ i → i < l2.toNatClampNeg → i < (loW8 (tcW8 κ (zR κ soAtlas a0)) (a1.toNatClampNeg + 1)) → zA κ (zR κ atSorts (zR κ soAtlas a0)) i = 0 → (V9 (zA κ (zR κ atNumbers (zR κ soAtlas a0)) i).toNatClampNeg).den ∣ nuN τ (zR κ soWhole a0)), ⟨_, rfl, ?_⟩, ?_⟩
  · refine and_5 ?_ (fun o9 => ?_)  -- j3
    · exact ⟨rfl, rfl, ⟨Zp, N2, S2⟩, by rw [Vp, o1]; exact Or.inr (Nat.one_dvd _), by rw [hx6, Y2.2.1]; exact Int.le_refl _⟩
    · have lo0 : ((loW8 (tcW8 κ (zR κ soAtlas a0)) a1.toNatClampNeg) : Int) = (zA κ (zR κ atFirsts (zR κ soAtlas a0)) a1.toNatClampNeg).toInt := cnk wy.2.1
      refine ⟨by rw [Vp, o1]; decide, fun i h1 h2 => ?_⟩
      rw [hx6, Y2.2.1] at h2
      exact absurd h2 (by have e : (loW8 (tcW8 κ (zR κ soAtlas a0)) a1.toNatClampNeg) = (zA κ (zR κ atFirsts (zR κ soAtlas a0)) a1.toNatClampNeg).toNatClampNeg := rfl; omega)
  rintro n18 _ _ x18_2 κ18 W18 T18_0 ⟨hn18, ⟨rfl, rfl, i18⟩, hE⟩
  obtain ⟨⟨Z1, N1, S1⟩, D1, lb1⟩ := i18
  obtain ⟨J1, eF1, nF1, ew1, es1, el1, ep1, ec1⟩ := mw_9 W Ta0 hn J0 Z1 (fun r h z => by omega) ⟨N1, S1⟩
  have tw : zT κ18 (zR κ soWhole a0) = 8 := Z1.t (ty_soWhole W Ta0) (by decide)
  refine ⟨?_, ?_⟩
  · rw [nF1, inb_iff, i1.2]; omega  -- b4
  refine ⟨fun c7 => ?_, fun c7 => ?_⟩
  · skip
    intro T8
    refine Nu_put_c W18 T8 6500 ?_ (fun κ_9 q10 => ?_)
    · exact ⟨by decide, (nm_g N1 S1.1.2.2.2.2.1 (Or.inl ⟨by decide, by decide⟩) (by decide)).2.2⟩  -- p5
    obtain ⟨Fs, ⟨Rs, Ns⟩, Is, Vs⟩ := q10
    have h71 : ρ (zR κ18 soSum a0) = 7 := S1.1.2.2.2.2.1
    have Zs : zF (soF ρ (fun r => r < 100) (zR κ soCalc a0)) κ18 κ_9 := soF_1 (by rw [h71]; decide) Fs
    have Nx : nmI ρ κ_9 := nm_1 W18 N1 Fs (by rw [h71]; exact Is)
    have Sx : soI ρ κ_9 a0 := so_1 W18 T18_0 S1 Fs
    have Tx : zT κ_9 a0 = 12 := Fs.t T18_0 (by decide)
    intro W11
    intro M12
    intro T13
    refine Nu_put_c W11 T13 6500 ?_ (fun κ_14 q15 => ?_)
    · exact ⟨by decide, (nm_g Nx Sx.1.2.2.2.2.2.1 (Or.inl ⟨by decide, by decide⟩) (by decide)).2.2⟩  -- p6
    obtain ⟨Fl, ⟨Rl, Nl⟩, Il, Vl⟩ := q15
    have h81 : ρ (zR κ_9 soLess a0) = 8 := Sx.1.2.2.2.2.2.1
    have Zl : zF (soF ρ (fun r => r < 100) (zR κ soCalc a0)) κ_9 κ_14 := soF_1 (by rw [h81]; decide) Fl
    have Ny : nmI ρ κ_14 := nm_1 W11 Nx Fl (by rw [h81]; exact Il)
    have Sy : soI ρ κ_14 a0 := so_1 W11 Tx Sx Fl
    have Zt : zF (soF ρ (fun r => r < 100) (zR κ soCalc a0)) κ κ_14 := (Z1.tr Zs).tr Zl
    have Y14 := mw_9 W Ta0 hn J0 Zt (fun r h z => by omega) ⟨Ny, Sy⟩
    have bw1 := nuB_z (c := 0) W18 tw Fs (fun z => ro_n h1 h71 (by decide) z.1) (fun z => ro_n h1 h71 (by decide) z.1)
    have bw2 := nuB_z (c := 0) W11 (Fs.t tw (by decide)) Fl (fun z => ro_n h1 h81 (by decide) z.1) (fun z => ro_n h1 h81 (by decide) z.1)
    have bs2 := nuB_z (c := 0) (y := (zR κ soSum a0)) W11 ((Z1.tr Zs).t (ty_soSum W Ta0) (by decide)) Fl (fun z => ro_n h7 h81 (by decide) z.1) (fun z => ro_n h7 h81 (by decide) z.1)
    rw [es1] at Vs
    rw [Rs, el1] at Vl
    intro W16
    intro M17
    refine ⟨?_, ?_⟩
    · rw [Y14.2.2.1, inb_iff]; omega  -- b7
    intro x18 hx18
    unfold w_So_mixWorths_90
    refine ⟨fun n l0 l1 l2 τ => n = ((zA κ (zR κ atFirsts (zR κ soAtlas a0)) (a1.toNatClampNeg + 1)).toInt - l2.toInt).toNat ∧ ((a0 = l0 ∧ a1 = l1 ∧ (zF (soF ρ (fun r => r < 100) (zR κ soCalc a0)) κ τ ∧ nmI ρ τ ∧ soI ρ τ a0) ∧ dz9 (nuN τ (zR κ soWhole a0)) P9 ∧ ((zA κ (zR κ atFirsts (zR κ soAtlas a0)) a1.toNatClampNeg).toInt ≤ l2.toInt ∧ l2.toInt ≤ (zA κ (zR κ atFirsts (zR κ soAtlas a0)) (a1.toNatClampNeg + 1)).toInt) ∧ nuN τ (zR κ soSum a0) ≤ (P9 + 1) * (1 + (l2.toInt - (zA κ (zR κ atFirsts (zR κ soAtlas a0)) a1.toNatClampNeg).toInt).toNat * sM9) ∧ nuN τ (zR κ soLess a0) ≤ (P9 + 1) * (1 + (l2.toInt - (zA κ (zR κ atFirsts (zR κ soAtlas a0)) a1.toNatClampNeg).toInt).toNat * sM9)) ∧ (0 < nuN τ (zR κ soWhole a0) ∧ ∀ i, (loW8 (tcW8 κ (zR κ soAtlas a0)) a1.toNatClampNeg) ≤ i → i < (loW8 (tcW8 κ (zR κ soAtlas a0)) (a1.toNatClampNeg + 1)) → zA κ (zR κ atSorts (zR κ soAtlas a0)) i = 0 → (V9 (zA κ (zR κ atNumbers (zR κ soAtlas a0)) i).toNatClampNeg).den ∣ nuN τ (zR κ soWhole a0)) ∧ ((((nuN τ (zR κ soSum a0) : Int) - (nuN τ (zR κ soLess a0) : Int) : Int)) : Rat) = smW8 (fun j => bhW8 (tcW8 κ (zR κ soAtlas a0)) V9 (loW8 (tcW8 κ (zR κ soAtlas a0)) a1.toNatClampNeg + j) * ((zA κ (zR κ atWeights (zR κ soAtlas a0)) (loW8 (tcW8 κ (zR κ soAtlas a0)) a1.toNatClampNeg + j)).toInt : Rat)) (l2.toNatClampNeg - (loW8 (tcW8 κ (zR κ soAtlas a0)) a1.toNatClampNeg)) * ((nuN τ (zR κ soWhole a0) : Nat) : Rat)), ⟨_, rfl, ?_⟩, ?_⟩
    · refine and_5 ?_ (fun o9 => ?_)  -- j8
      · refine ⟨rfl, rfl, ⟨Zt, Ny, Sy⟩, by rw [bw2.2.2.1, bw1.2.2.1]; exact D1, ⟨by rw [hx18, Y14.2.1]; exact Int.le_refl _, by rw [hx18, Y14.2.1]; omega⟩, ?_, ?_⟩
        · rw [bs2.2.2.1, Vs]; exact Nat.zero_le _
        · rw [Vl]; exact Nat.zero_le _
      · have lo1 : ((loW8 (tcW8 κ (zR κ soAtlas a0)) (a1.toNatClampNeg + 1)) : Int) = (zA κ (zR κ atFirsts (zR κ soAtlas a0)) (a1.toNatClampNeg + 1)).toInt := cnk (x := (zA κ (zR κ atFirsts (zR κ soAtlas a0)) (a1.toNatClampNeg + 1))) (by omega)
        rw [i1.1, eF1, lei] at c7
        have n18' := cnk (x := x18_2) (by omega)
        have ew : nuN κ_14 (zR κ soWhole a0) = nuN κ18 (zR κ soWhole a0) := by rw [bw2.2.2.1, bw1.2.2.1]
        refine ⟨⟨by rw [ew]; exact hE.1, fun i h1 h2 h3 => by rw [ew]; exact hE.2 i h1 (by omega) h2 h3⟩, ?_⟩
        have e0 : x18.toNatClampNeg - (loW8 (tcW8 κ (zR κ soAtlas a0)) a1.toNatClampNeg) = 0 := by rw [hx18, Y14.2.1]; exact Nat.sub_self _
        rw [e0, bs2.2.2.1, Vs, Vl]
        show (((0 : Nat) : Int) - ((0 : Nat) : Int) : Int) = (0 : Rat) * _
        rw [Rat.zero_mul]
        rfl
    rintro n90 _ _ x90_2 κ90 W90 T90_0 ⟨hn90, ⟨rfl, rfl, i90⟩, hE⟩
    obtain ⟨⟨Z2, Nb, Sb⟩, D2, lb, B1, B2⟩ := i90
    obtain ⟨J2, eF2, nF2, ew2, es2, el2, ep2, ec2⟩ := mw_9 W Ta0 hn J0 Z2 (fun r h z => by omega) ⟨Nb, Sb⟩
    have hw2 : nuN κ90 (zR κ soWhole a0) ≤ P9 := dz9_le D2 p2
    have tw2 : zT κ90 (zR κ soWhole a0) = 8 := Z2.t (ty_soWhole W Ta0) (by decide)
    have ts2 : zT κ90 (zR κ soSum a0) = 8 := Z2.t (ty_soSum W Ta0) (by decide)
    have tl2 : zT κ90 (zR κ soLess a0) = 8 := Z2.t (ty_soLess W Ta0) (by decide)
    have b11 : ∀ x, x ≤ (P9 + 1) * (1 + (x90_2.toInt - (zA κ (zR κ atFirsts (zR κ soAtlas a0)) a1.toNatClampNeg).toInt).toNat * sM9) → x < pB9 4000 := fun x hx => sB_9 p3 (by omega) hx
    have lw2 : nuN κ90 (zR κ soWhole a0) < pB9 1490 := Nat.lt_of_le_of_lt hw2 p3
    refine ⟨?_, ?_⟩
    · rw [nF2, inb_iff, i1.2]; omega  -- b9
    refine ⟨fun c19 => ?_, fun c19 => ?_⟩
    · skip
      refine ⟨?_, ?_⟩
      · rw [J2.2.1.2.1, inb_iff, J2.2.1.1.1.2.1]; omega  -- b10
      intro T20
      have eT2 : zA κ90 (zR κ90 atTotals (zR κ90 soAtlas a0)) = zA κ (zR κ atTotals (zR κ soAtlas a0)) := by rw [J2.2.1.2.1]; exact (at_f9 W soF_fr Z2 (ty_soAtlas W Ta0) (f := atTotals) (by decide)).2.1
      have ei := Int32.toInt_toInt64 (zA κ (zR κ atTotals (zR κ soAtlas a0)) a1.toNatClampNeg)
      have gw := nm_g Nb Sb.1.1 (Or.inl ⟨by decide, by decide⟩) (by decide)
      have lwz : nuN κ90 (zR κ90 soWhole a0) < pB9 1490 := by rw [ew2]; exact lw2
      have kw := nuK_lt gw.1 lwz
      refine Nu_times_c W90 T20 6500 ?_ (fun κ_21 q22 => ?_)
      · rw [eT2, ei]
        exact ⟨gw.1, ⟨by omega, by omega⟩, by omega, by decide⟩
      rw [eT2, ei, ew2] at q22
      obtain ⟨Ft, It, Vt⟩ := q22
      have Zx : zF (soF ρ (fun r => r < 100) (zR κ soCalc a0)) κ90 κ_21 := soF_1 (by rw [h1]; decide) Ft
      have N21 : nmI ρ κ_21 := nm_1 W90 Nb Ft (by rw [h1]; exact It)
      have S21 : soI ρ κ_21 a0 := so_1 W90 T90_0 Sb Ft
      have ew3 : zR κ_21 soWhole a0 = (zR κ soWhole a0) := (soF_r9 Zx (by decide)).1.trans ew2
      have es3 : zR κ_21 soSum a0 = (zR κ soSum a0) := (soF_r9 Zx (by decide)).1.trans es2
      have el3 : zR κ_21 soLess a0 = (zR κ soLess a0) := (soF_r9 Zx (by decide)).1.trans el2
      have ec3 : zR κ_21 soCalc a0 = (zR κ soCalc a0) := (soF_r9 Zx (by decide)).1.trans ec2
      have bs3 := nuB_z (c := 0) W90 ts2 Ft (fun z => ro_n h7 h1 (by decide) z.1) (fun z => ro_n h7 h1 (by decide) z.1)
      have bl3 := nuB_z (c := 0) W90 tl2 Ft (fun z => ro_n h8 h1 (by decide) z.1) (fun z => ro_n h8 h1 (by decide) z.1)
      have t1 : (zA κ (zR κ atTotals (zR κ soAtlas a0)) a1.toNatClampNeg).toInt.toNat < pB9 1 := Nat.lt_of_lt_of_le (show _ < 2147483648 by omega) (by unfold pB9; decide)
      have lw3 : nuN κ_21 (zR κ soWhole a0) < pB9 4000 := by
        have q := Nat.mul_lt_mul'' lw2 t1
        rw [← pB9_a] at q
        rw [Vt]
        exact Nat.lt_trans q (pB9_s (by decide))
      intro W23
      intro M24
      intro T25
      intro T26
      refine So_settle_q6 W23 T25 T26 ρ 1 ?_ (fun κ_27 q28 => ?_)
      · rw [ew3, es3, el3]
        exact ⟨⟨N21, S21⟩, ⟨h1, Or.inl rfl⟩, lw3, by rw [bs3.2.2.1]; exact b11 _ B1, by rw [bl3.2.2.1]; exact b11 _ B2⟩
      obtain ⟨q28, z9⟩ := q28
      have zs := z9
      rw [ew3, es3, el3, ec3] at q28
      obtain ⟨Zq, ⟨N27, S27⟩, O⟩ := q28
      have Z27 : zF (soF ρ (fun r => r < 100) (zR κ soCalc a0)) κ κ_27 := (Z2.tr Zx).tr (soF_m (fun r z => by rcases z with z | z | z | z <;> omega) Zq)
      obtain ⟨J27, _, _, _, _, _, _, ec27⟩ := mw_9 W Ta0 hn J0 Z27 (fun r h z => by omega) ⟨N27, S27⟩
      have T27 : zT κ_27 a0 = 12 := Z27.t Ta0 (by decide)
      obtain ⟨v1, v2, v3⟩ := J27.2.2.1.2 a1.toNatClampNeg (by omega)
      have vl := J27.2.2.1.1
      have l27 := soF_B (c := 0) (w := (zR κ soLess a0)) W23 (Ft.t tl2 (by decide)) Zq (by rw [h8]; unfold stR9; decide)
      intro W29
      intro M30
      refine ⟨?_, ?_⟩
      · rw [inb_iff]; omega  -- b13
      refine ex_some ?_ (fun u31 hu31 => ?_)
      · exact ⟨_, v1⟩  -- e14
      intro T32
      intro T33
      have eu : u31 = wU9 κ_27 a0 a1.toNatClampNeg := Option.some.inj (hu31.symm.trans v1)
      subst eu
      refine So_keepPart_q6 W29 T32 T33 ρ (104 + 8 * a1.toNatClampNeg) ?_ (fun r34 κ_35 q36 => ?_)
      · exact ⟨⟨N27, S27⟩, v2, by omega, by omega, by omega⟩  -- p15
      obtain ⟨q36, z9⟩ := q36
      have zk := z9
      intro W37
      intro M38
      refine ⟨?_, h _ _ ?_⟩
      · exact q36.1  -- b16
      · refine and_5 ?_ (fun o9 => ?_)  -- q17
        · obtain ⟨b, K0, K1⟩ := q36
          by_cases z : r34 = 0
          · rw [K0 z]
            exact ⟨b, ⟨soF_m (fun r y => Or.inl y) Z27, N27, S27⟩, by rw [l27.2.1, bl3.2.2.1]; exact b11 _ B2, fun y => absurd z y, J27.2.2.2.1⟩
          · obtain ⟨⟨Zk, Nk, Sk⟩, f2, Vk⟩ := K1 z
            rw [ec27] at Zk
            have l35 := soF_B (c := 0) (w := (zR κ soLess a0)) W29 (Z27.t (ty_soLess W Ta0) (by decide)) Zk (by rw [h8]; omega)
            have wu := wU9_f W29 T27 Zk
            have e4 : zR κ_27 soPart a0 = zR κ_21 soPart a0 := (soF_r9 Zq (by decide)).1
            have eb27 : zR κ_27 raBottom (zR κ_27 soPart a0) = zR κ_21 raBottom (zR κ_21 soPart a0) := by rw [e4, (soF_r9 Zq (f := raBottom) (by decide)).1]
            have dB : dz9 (nuN κ_27 (zR κ_27 raBottom (zR κ_27 soPart a0))) (P9 * (zA κ (zR κ atTotals (zR κ soAtlas a0)) a1.toNatClampNeg).toInt.toNat) := by
              rw [eb27]
              rcases O with ⟨_, _, _, o⟩ | ⟨_, _, _, o⟩
              · rw [o]; exact Or.inr (Nat.one_dvd _)
              · rw [o]; exact dz9_div (by rw [Vt]; exact dz9_mul D2) (Nat.gcd_dvd_right _ _)
            have sg : -1 ≤ (zI κ_27 raSign (zR κ_27 soPart a0)).toInt ∧ (zI κ_27 raSign (zR κ_27 soPart a0)).toInt ≤ 1 := by
              rw [e4]
              rcases O with ⟨_, o, _⟩ | ⟨_, o | o, _⟩ <;> omega
            have wk : wsK9 κ_35 (wU9 κ_27 a0 a1.toNatClampNeg) (P9 * (zA κ (zR κ atTotals (zR κ soAtlas a0)) a1.toNatClampNeg).toInt.toNat) := by
              unfold wsK9
              rw [Vk.2.1, Vk.2.2, Vk.1]
              exact ⟨f2, dB, sg⟩
            exact ⟨b, ⟨(soF_m (fun r y => Or.inl y) Z27).tr (soF_m (fun r y => Or.inr y) Zk), Nk, Sk⟩, by rw [l35.2.1, l27.2.1, bl3.2.2.1]; exact b11 _ B2, fun _ => ws_w9 W29 T27 N27 Zk hn (k := a1.toNatClampNeg) (fun r h y => y) (ws_m9 (Nat.dvd_mul_right _ _) J27.2.2.1) wk, fun i => (wu.2 i).trans (J27.2.2.2.1 i)⟩
        · have lo0 : ((loW8 (tcW8 κ (zR κ soAtlas a0)) a1.toNatClampNeg) : Int) = (zA κ (zR κ atFirsts (zR κ soAtlas a0)) a1.toNatClampNeg).toInt := cnk wy.2.1
          have lo1 : ((loW8 (tcW8 κ (zR κ soAtlas a0)) (a1.toNatClampNeg + 1)) : Int) = (zA κ (zR κ atFirsts (zR κ soAtlas a0)) (a1.toNatClampNeg + 1)).toInt := cnk (x := (zA κ (zR κ atFirsts (zR κ soAtlas a0)) (a1.toNatClampNeg + 1))) (by omega)
          rw [i1.1, eF2, lei] at c19
          have nx9 := cnk (x := x90_2) (by omega)
          have S := hE.2
          rw [show x90_2.toNatClampNeg - (loW8 (tcW8 κ (zR κ soAtlas a0)) a1.toNatClampNeg) = (loW8 (tcW8 κ (zR κ soAtlas a0)) (a1.toNatClampNeg + 1)) - (loW8 (tcW8 κ (zR κ soAtlas a0)) a1.toNatClampNeg) by omega] at S
          have e4 : zR κ_27 soPart a0 = zR κ_21 soPart a0 := (soF_r9 Zq (by decide)).1
          have et27 : zR κ_27 raTop (zR κ_21 soPart a0) = zR κ_21 raTop (zR κ_21 soPart a0) := (soF_r9 Zq (f := raTop) (by decide)).1
          have eb27 : zR κ_27 raBottom (zR κ_21 soPart a0) = zR κ_21 raBottom (zR κ_21 soPart a0) := (soF_r9 Zq (f := raBottom) (by decide)).1
          have T0 : 0 < (zA κ (zR κ atTotals (zR κ soAtlas a0)) a1.toNatClampNeg).toInt.toNat := by omega
          rw [es3, el3] at zs
          rw [← et27, ← eb27] at O
          have R := st_q8 (by rw [Vt]; exact Nat.mul_pos hE.1.1 T0) O zs
          rw [bs3.2.2.1, bl3.2.2.1, Vt, mk_d8 S hE.1.1, ← sm_d8] at R
          have R' : rqW8 κ_27 (zR κ_27 soPart a0) (smW8 (fun j => bhW8 (tcW8 κ (zR κ soAtlas a0)) V9 (loW8 (tcW8 κ (zR κ soAtlas a0)) a1.toNatClampNeg + j) * mkRat (zA κ (zR κ atWeights (zR κ soAtlas a0)) (loW8 (tcW8 κ (zR κ soAtlas a0)) a1.toNatClampNeg + j)).toInt (zA κ (zR κ atTotals (zR κ soAtlas a0)) a1.toNatClampNeg).toInt.toNat) ((loW8 (tcW8 κ (zR κ soAtlas a0)) (a1.toNatClampNeg + 1)) - (loW8 (tcW8 κ (zR κ soAtlas a0)) a1.toNatClampNeg))) := by rw [e4]; exact R
          have fe : (nuN κ_27 (zR κ_27 raTop (zR κ_27 soPart a0)) < 2 ^ 256 ∧ nuN κ_27 (zR κ_27 raBottom (zR κ_27 soPart a0)) < 2 ^ 256) ↔ f2W8 (smW8 (fun j => bhW8 (tcW8 κ (zR κ soAtlas a0)) V9 (loW8 (tcW8 κ (zR κ soAtlas a0)) a1.toNatClampNeg + j) * mkRat (zA κ (zR κ atWeights (zR κ soAtlas a0)) (loW8 (tcW8 κ (zR κ soAtlas a0)) a1.toNatClampNeg + j)).toInt (zA κ (zR κ atTotals (zR κ soAtlas a0)) a1.toNatClampNeg).toInt.toNat) ((loW8 (tcW8 κ (zR κ soAtlas a0)) (a1.toNatClampNeg + 1)) - (loW8 (tcW8 κ (zR κ soAtlas a0)) a1.toNatClampNeg))) := by
            unfold f2W8
            rw [R'.2.1, R'.2.2]
          refine ⟨by rw [zk]; exact fe, fun z => ?_⟩
          obtain ⟨_, f2, Vk⟩ := q36.2.2 z
          rw [← J27.2.2.2.1]
          exact ⟨Vk.1.trans R'.1, Vk.2.1.trans R'.2.1, Vk.2.2.trans R'.2.2⟩
    · skip
      intro T39
      rw [i1.1, eF2, lei] at c19
      have ix := cn1 (x := x90_2) (by omega) (by omega)
      have nx : ∀ x : Int32, x = x90_2 + 1 → (x.toInt - (zA κ (zR κ atFirsts (zR κ soAtlas a0)) a1.toNatClampNeg).toInt).toNat = (x90_2.toInt - (zA κ (zR κ atFirsts (zR κ soAtlas a0)) a1.toNatClampNeg).toInt).toNat + 1 := fun x e => by rw [e, ix.2]; omega
      refine So_worthBehind_q6 W90 T39 ρ n9 P9 a1.toNatClampNeg ?_ (fun r40 q42 => ?_)
      · exact ⟨by rw [J2.2.1.2.1]; exact J2.2.1.1, J2.2.2.1, by omega, by omega, by rw [eF2]; exact lb.1, by rw [eF2]; omega⟩  -- p18
      obtain ⟨q42, z9⟩ := q42
      have zb := z9
      intro W43
      intro M44
      intro T45
      refine ⟨fun c46 => ?_, fun uc46 c46 => ?_⟩
      · skip
        intro x47 hx47
        refine lp_b5 ?_ (fun d9 => ⟨rfl, ?_⟩)
        · rw [hn90, hx47, ix.2]; omega  -- d19
        · refine and_5 ?_ (fun o9 => ?_)  -- i20
          · exact ⟨rfl, rfl, ⟨Z2, Nb, Sb⟩, D2, ⟨by rw [hx47, ix.2]; omega, by rw [hx47, ix.2]; omega⟩, by rw [nx _ hx47]; exact sm_m9 B1, by rw [nx _ hx47]; exact sm_m9 B2⟩
          · have lo0 : ((loW8 (tcW8 κ (zR κ soAtlas a0)) a1.toNatClampNeg) : Int) = (zA κ (zR κ atFirsts (zR κ soAtlas a0)) a1.toNatClampNeg).toInt := cnk wy.2.1
            have lo1 : ((loW8 (tcW8 κ (zR κ soAtlas a0)) (a1.toNatClampNeg + 1)) : Int) = (zA κ (zR κ atFirsts (zR κ soAtlas a0)) (a1.toNatClampNeg + 1)).toInt := cnk (x := (zA κ (zR κ atFirsts (zR κ soAtlas a0)) (a1.toNatClampNeg + 1))) (by omega)
            have nx9 := cnk (x := x90_2) (by omega)
            have ov := fo_w8 W Ta0 hn J0 (by omega) (Z2.mono (fun f b z => Or.inl z)) (fun r h z => by omega) J2.2.2.2.1 J2.2.1.2.1 (by omega) (by omega) hV9 zb
            have xs : x47.toNatClampNeg - (loW8 (tcW8 κ (zR κ soAtlas a0)) a1.toNatClampNeg) = (x90_2.toNatClampNeg - (loW8 (tcW8 κ (zR κ soAtlas a0)) a1.toNatClampNeg)) + 1 := by rw [hx47, ix.1]; omega
            have g0 : (fun j => bhW8 (tcW8 κ (zR κ soAtlas a0)) V9 (loW8 (tcW8 κ (zR κ soAtlas a0)) a1.toNatClampNeg + j) * ((zA κ (zR κ atWeights (zR κ soAtlas a0)) (loW8 (tcW8 κ (zR κ soAtlas a0)) a1.toNatClampNeg + j)).toInt : Rat)) (x90_2.toNatClampNeg - (loW8 (tcW8 κ (zR κ soAtlas a0)) a1.toNatClampNeg)) = 0 := by
              show bhW8 (tcW8 κ (zR κ soAtlas a0)) V9 ((loW8 (tcW8 κ (zR κ soAtlas a0)) a1.toNatClampNeg) + (x90_2.toNatClampNeg - (loW8 (tcW8 κ (zR κ soAtlas a0)) a1.toNatClampNeg))) * _ = 0
              rw [show (loW8 (tcW8 κ (zR κ soAtlas a0)) a1.toNatClampNeg) + (x90_2.toNatClampNeg - (loW8 (tcW8 κ (zR κ soAtlas a0)) a1.toNatClampNeg)) = x90_2.toNatClampNeg by omega, ov.2 c46, Rat.zero_mul]
            refine ⟨hE.1, ?_⟩
            rw [xs]
            show _ = (smW8 (fun j => bhW8 (tcW8 κ (zR κ soAtlas a0)) V9 (loW8 (tcW8 κ (zR κ soAtlas a0)) a1.toNatClampNeg + j) * ((zA κ (zR κ atWeights (zR κ soAtlas a0)) (loW8 (tcW8 κ (zR κ soAtlas a0)) a1.toNatClampNeg + j)).toInt : Rat)) (x90_2.toNatClampNeg - (loW8 (tcW8 κ (zR κ soAtlas a0)) a1.toNatClampNeg)) + (fun j => bhW8 (tcW8 κ (zR κ soAtlas a0)) V9 (loW8 (tcW8 κ (zR κ soAtlas a0)) a1.toNatClampNeg + j) * ((zA κ (zR κ atWeights (zR κ soAtlas a0)) (loW8 (tcW8 κ (zR κ soAtlas a0)) a1.toNatClampNeg + j)).toInt : Rat)) (x90_2.toNatClampNeg - (loW8 (tcW8 κ (zR κ soAtlas a0)) a1.toNatClampNeg))) * _
            rw [g0, Rat.add_zero]
            exact hE.2
      · skip
        refine ex_some ?_ (fun u48 hu48 => ?_)
        · exact ⟨_, c46⟩  -- e21
        obtain ⟨j, hj, ej⟩ : ∃ j, j < n9 ∧ wU9 κ90 a0 j = u48 := by
          rcases q42 with z | ⟨j, hj, z⟩
          · rw [z] at hu48; cases hu48
          · exact ⟨j, hj, Option.some.inj (z.symm.trans hu48)⟩
        obtain ⟨_, y3, y4⟩ := J2.2.2.1.2 j hj
        rw [ej] at y3 y4
        refine ⟨fun c49 => ?_, fun c49 => ?_⟩
        · skip
          intro x50 hx50
          refine lp_b5 ?_ (fun d9 => ⟨rfl, ?_⟩)
          · rw [hn90, hx50, ix.2]; omega  -- d22
          · refine and_5 ?_ (fun o9 => ?_)  -- i23
            · exact ⟨rfl, rfl, ⟨Z2, Nb, Sb⟩, D2, ⟨by rw [hx50, ix.2]; omega, by rw [hx50, ix.2]; omega⟩, by rw [nx _ hx50]; exact sm_m9 B1, by rw [nx _ hx50]; exact sm_m9 B2⟩
            · have lo0 : ((loW8 (tcW8 κ (zR κ soAtlas a0)) a1.toNatClampNeg) : Int) = (zA κ (zR κ atFirsts (zR κ soAtlas a0)) a1.toNatClampNeg).toInt := cnk wy.2.1
              have lo1 : ((loW8 (tcW8 κ (zR κ soAtlas a0)) (a1.toNatClampNeg + 1)) : Int) = (zA κ (zR κ atFirsts (zR κ soAtlas a0)) (a1.toNatClampNeg + 1)).toInt := cnk (x := (zA κ (zR κ atFirsts (zR κ soAtlas a0)) (a1.toNatClampNeg + 1))) (by omega)
              have nx9 := cnk (x := x90_2) (by omega)
              have ov := fo_w8 W Ta0 hn J0 (by omega) (Z2.mono (fun f b z => Or.inl z)) (fun r h z => by omega) J2.2.2.2.1 J2.2.1.2.1 (by omega) (by omega) hV9 zb
              have xs : x50.toNatClampNeg - (loW8 (tcW8 κ (zR κ soAtlas a0)) a1.toNatClampNeg) = (x90_2.toNatClampNeg - (loW8 (tcW8 κ (zR κ soAtlas a0)) a1.toNatClampNeg)) + 1 := by rw [hx50, ix.1]; omega
              have g0 : (fun j => bhW8 (tcW8 κ (zR κ soAtlas a0)) V9 (loW8 (tcW8 κ (zR κ soAtlas a0)) a1.toNatClampNeg + j) * ((zA κ (zR κ atWeights (zR κ soAtlas a0)) (loW8 (tcW8 κ (zR κ soAtlas a0)) a1.toNatClampNeg + j)).toInt : Rat)) (x90_2.toNatClampNeg - (loW8 (tcW8 κ (zR κ soAtlas a0)) a1.toNatClampNeg)) = 0 := by
                show bhW8 (tcW8 κ (zR κ soAtlas a0)) V9 ((loW8 (tcW8 κ (zR κ soAtlas a0)) a1.toNatClampNeg) + (x90_2.toNatClampNeg - (loW8 (tcW8 κ (zR κ soAtlas a0)) a1.toNatClampNeg))) * _ = 0
                rw [show (loW8 (tcW8 κ (zR κ soAtlas a0)) a1.toNatClampNeg) + (x90_2.toNatClampNeg - (loW8 (tcW8 κ (zR κ soAtlas a0)) a1.toNatClampNeg)) = x90_2.toNatClampNeg by omega, ps_q8.2.1.mp ((ov.1 u48 hu48).1.symm.trans (by rw [c49]; rfl)), Rat.zero_mul]
              refine ⟨hE.1, ?_⟩
              rw [xs]
              show _ = (smW8 (fun j => bhW8 (tcW8 κ (zR κ soAtlas a0)) V9 (loW8 (tcW8 κ (zR κ soAtlas a0)) a1.toNatClampNeg + j) * ((zA κ (zR κ atWeights (zR κ soAtlas a0)) (loW8 (tcW8 κ (zR κ soAtlas a0)) a1.toNatClampNeg + j)).toInt : Rat)) (x90_2.toNatClampNeg - (loW8 (tcW8 κ (zR κ soAtlas a0)) a1.toNatClampNeg)) + (fun j => bhW8 (tcW8 κ (zR κ soAtlas a0)) V9 (loW8 (tcW8 κ (zR κ soAtlas a0)) a1.toNatClampNeg + j) * ((zA κ (zR κ atWeights (zR κ soAtlas a0)) (loW8 (tcW8 κ (zR κ soAtlas a0)) a1.toNatClampNeg + j)).toInt : Rat)) (x90_2.toNatClampNeg - (loW8 (tcW8 κ (zR κ soAtlas a0)) a1.toNatClampNeg))) * _
              rw [g0, Rat.add_zero]
              exact hE.2
        · skip
          refine ex_some ?_ (fun u51 hu51 => ?_)
          · exact ⟨_, c46⟩  -- e24
          intro T52
          intro T53
          have e51 : u51 = u48 := Option.some.inj (hu51.symm.trans hu48)
          rw [← e51] at y3 y4
          have gs := ra_g9 Nb y3 (by omega) (by omega) (by omega)
          have h2p : ρ (zR κ90 soPart a0) = 20 := by rw [ep2]; exact h20
          have go := ra_t9 Nb h2p (Or.inl rfl)
          have kt := nuK_c9 gs.2.2.2.1
          have kb := nuK_c9 gs.2.2.2.2.1
          refine Ra_copy_c W43 T52 T53 6500 ?_ (fun κ_54 q55 => ?_)
          · exact ⟨go.2.1, ⟨nuI_mono (by decide) gs.2.2.2.1, nuI_mono (by decide) gs.2.2.2.2.1, gs.2.2.2.2.2⟩, ⟨ro_n go.1.1 gs.2.1.1 (by omega), ro_n go.1.1 gs.2.1.2 (by omega), ro_n go.1.2 gs.2.1.1 (by omega), ro_n go.1.2 gs.2.1.2 (by omega)⟩, ⟨by omega, by omega⟩, by decide⟩  -- p25
          obtain ⟨Zc, Jc, Vc⟩ := q55
          have R5 := ra_s9 W43 T90_0 Nb Sb h2p (Or.inl rfl) Zc Jc
          have Z5 := R5.2 (zR κ soCalc a0)
          have Z25 : zF (soF ρ (fun r => r < 100) (zR κ soCalc a0)) κ κ_54 := Z2.tr (soF_m (fun r z => by omega) Z5)
          obtain ⟨J5, eF5, nF5, ew5, es5, el5, ep5, ec5⟩ := mw_9 W Ta0 hn J0 Z25 (fun r h z => by omega) R5.1
          have ep6 : zR κ_54 soPart a0 = zR κ90 soPart a0 := (soF_r9 Z5 (by decide)).1
          have w5 := soF_B (c := 0) (w := (zR κ soWhole a0)) W43 tw2 Z5 (by rw [h1]; decide)
          have s5 := soF_B (c := 0) (w := (zR κ soSum a0)) W43 ts2 Z5 (by rw [h7]; decide)
          have l5 := soF_B (c := 0) (w := (zR κ soLess a0)) W43 tl2 Z5 (by rw [h8]; decide)
          have r5 := ra_f9 W43 Nb Z5 y3 gs.1.2 ⟨by omega, by omega, by omega⟩
          have kx := cnk (x := x90_2) (by omega)
          have eG5 : zA κ_54 (zR κ_54 atFirsts (zR κ soAtlas a0)) = zA κ (zR κ atFirsts (zR κ soAtlas a0)) := by rw [J5.2.1.2.2.2]; exact J5.2.1.2.2.1
          have n5 := nx_9 J5.2.1.1 (k := a1.toNatClampNeg) (i := x90_2.toNatClampNeg) (by omega) (by rw [eG5]; omega) (by rw [eG5]; omega)
          have Rx : rqW8 κ90 u51 (bhW8 (tcW8 κ (zR κ soAtlas a0)) V9 x90_2.toNatClampNeg) := by
            have lo0 : ((loW8 (tcW8 κ (zR κ soAtlas a0)) a1.toNatClampNeg) : Int) = (zA κ (zR κ atFirsts (zR κ soAtlas a0)) a1.toNatClampNeg).toInt := cnk wy.2.1
            have lo1 : ((loW8 (tcW8 κ (zR κ soAtlas a0)) (a1.toNatClampNeg + 1)) : Int) = (zA κ (zR κ atFirsts (zR κ soAtlas a0)) (a1.toNatClampNeg + 1)).toInt := cnk (x := (zA κ (zR κ atFirsts (zR κ soAtlas a0)) (a1.toNatClampNeg + 1))) (by omega)
            have ov := fo_w8 W Ta0 hn J0 (by omega) (Z2.mono (fun f b z => Or.inl z)) (fun r h z => by omega) J2.2.2.2.1 J2.2.1.2.1 (by omega) (by omega) hV9 zb
            exact ov.1 u51 hu51
          intro W56
          intro M57
          refine ex_some ?_ (fun u58 hu58 => ?_)
          · exact ⟨_, c46⟩  -- e26
          refine ⟨?_, ?_⟩
          · rw [J5.2.1.2.1, inb_iff]; omega  -- b27
          intro T59
          have e58 : u58 = u51 := Option.some.inj (hu58.symm.trans hu51)
          subst e58
          have m28 := mz_9 (s := zI κ_54 raSign u58) (w := zA κ_54 (zR κ_54 atWeights (zR κ_54 soAtlas a0)) x90_2.toNatClampNeg) (by rw [r5.1]; exact y4.2.2.1) (by rw [r5.1]; exact y4.2.2.2) (by rw [J5.2.1.2.1]; exact n5.2.2)
          have tmb : ∀ y : Nat, y ≤ 2147483648 → nuN κ90 (zR κ90 raTop u58) * y * (nuN κ90 (zR κ soWhole a0) + 1) ≤ (P9 + 1) * sM9 := fun y hy => Nat.le_trans (tm_c9 y4.1.1 hy) (Nat.mul_le_mul_right _ (Nat.succ_le_succ hw2))
          refine So_addTerm_c W56 T59 ρ ?_ (fun κ_60 q61 => ?_)
          · rw [ep6, ew5, es5, el5, w5.2.1, s5.2.1, l5.2.1, Vc.2.1, Vc.2.2]
            exact ⟨R5.1, ⟨by omega, by omega⟩, ⟨Nat.lt_of_lt_of_le lw2 (pB9_l (by decide)), Nat.lt_of_lt_of_le y4.1.1 h256, by rw [Rx.2.2]; exact Nat.pos_of_ne_zero (Rat.den_nz _)⟩, b11 _ B1, b11 _ B2⟩
          rw [ep6, ew5, es5, el5, ec5, w5.2.1, s5.2.1, l5.2.1, Vc.2.1] at q61
          obtain ⟨Za, Na, A1, A2⟩ := q61
          have Zf : zF (soF ρ (fun r => r < 100) (zR κ soCalc a0)) κ κ_60 := Z25.tr (soF_m (fun r z => by rcases z with z | z | z | z | z | z <;> omega) Za)
          have w60 := soF_B (c := 0) (w := (zR κ soWhole a0)) W56 (Z5.t tw2 (by decide)) Za (by rw [h1]; unfold adR9; decide)
          intro W62
          intro M63
          intro x64 hx64
          refine lp_b5 ?_ (fun d9 => ⟨rfl, ?_⟩)
          · rw [hn90, hx64, ix.2]; omega  -- d29
          · refine and_5 ?_ (fun o9 => ?_)  -- i30
            · refine ⟨rfl, rfl, ⟨Zf, Na⟩, by rw [w60.2.1, w5.2.1]; exact D2, ⟨by rw [hx64, ix.2]; omega, by rw [hx64, ix.2]; omega⟩, ?_, ?_⟩
              · rw [nx _ hx64]
                by_cases z : 0 < (Int32.toInt64 (zI κ_54 raSign u58) * Int32.toInt64 (zA κ_54 (zR κ_54 atWeights (zR κ_54 soAtlas a0)) x90_2.toNatClampNeg)).toInt
                · rw [(A1 z).1]
                  exact Nat.le_trans (Nat.add_le_add_left (Nat.mul_le_mul_left _ (Nat.le_succ_of_le (Nat.div_le_self _ _))) _) (sm_s9 B1 (tmb _ (by omega)))
                · rw [(A2 z).2]; exact sm_m9 B1
              · rw [nx _ hx64]
                by_cases z : 0 < (Int32.toInt64 (zI κ_54 raSign u58) * Int32.toInt64 (zA κ_54 (zR κ_54 atWeights (zR κ_54 soAtlas a0)) x90_2.toNatClampNeg)).toInt
                · rw [(A1 z).2]; exact sm_m9 B2
                · rw [(A2 z).1]
                  exact Nat.le_trans (Nat.add_le_add_left (Nat.mul_le_mul_left _ (Nat.le_succ_of_le (Nat.div_le_self _ _))) _) (sm_s9 B2 (tmb _ (by omega)))
            · have lo0 : ((loW8 (tcW8 κ (zR κ soAtlas a0)) a1.toNatClampNeg) : Int) = (zA κ (zR κ atFirsts (zR κ soAtlas a0)) a1.toNatClampNeg).toInt := cnk wy.2.1
              have lo1 : ((loW8 (tcW8 κ (zR κ soAtlas a0)) (a1.toNatClampNeg + 1)) : Int) = (zA κ (zR κ atFirsts (zR κ soAtlas a0)) (a1.toNatClampNeg + 1)).toInt := cnk (x := (zA κ (zR κ atFirsts (zR κ soAtlas a0)) (a1.toNatClampNeg + 1))) (by omega)
              have nx9 := cnk (x := x90_2) (by omega)
              have ov := fo_w8 W Ta0 hn J0 (by omega) (Z2.mono (fun f b z => Or.inl z)) (fun r h z => by omega) J2.2.2.2.1 J2.2.1.2.1 (by omega) (by omega) hV9 zb
              have xs : x64.toNatClampNeg - (loW8 (tcW8 κ (zR κ soAtlas a0)) a1.toNatClampNeg) = (x90_2.toNatClampNeg - (loW8 (tcW8 κ (zR κ soAtlas a0)) a1.toNatClampNeg)) + 1 := by rw [hx64, ix.1]; omega
              have ew : nuN κ_60 (zR κ soWhole a0) = nuN κ90 (zR κ soWhole a0) := by rw [w60.2.1, w5.2.1]
              have dv : nuN κ90 (zR κ90 raBottom u58) ∣ nuN κ90 (zR κ soWhole a0) := by
                rcases zb with ⟨b1, b2⟩ | ⟨b1, b2⟩
                · have tz := congrFun (congrFun (tc_f8 W (ty_soAtlas W Ta0) Z2 (fun f hf => so_38 hf)) 1) x90_2.toNatClampNeg
                  have b1' : zA κ (zR κ atSorts (zR κ soAtlas a0)) x90_2.toNatClampNeg = 0 := by
                    rw [J2.2.1.2.1] at b1
                    exact tz.symm.trans b1
                  have bx : bhW8 (tcW8 κ (zR κ soAtlas a0)) V9 x90_2.toNatClampNeg = V9 (zA κ (zR κ atNumbers (zR κ soAtlas a0)) x90_2.toNatClampNeg).toNatClampNeg := if_pos b1'
                  rw [Rx.2.2, bx]
                  exact hE.1.2 _ (by omega) (by omega) b1'
                · rw [b2] at c46; cases c46
              have ewt : zA κ_54 (zR κ_54 atWeights (zR κ_54 soAtlas a0)) x90_2.toNatClampNeg = zA κ (zR κ atWeights (zR κ soAtlas a0)) x90_2.toNatClampNeg := by
                rw [J5.2.1.2.1]
                exact congrFun (congrFun (tc_f8 W (ty_soAtlas W Ta0) Z25 (fun f hf => so_38 hf)) 3) x90_2.toNatClampNeg
              rw [r5.1, ewt] at A1 A2 m28
              have mul : (Int32.toInt64 (zI κ90 raSign u58) * Int32.toInt64 (zA κ (zR κ atWeights (zR κ soAtlas a0)) x90_2.toNatClampNeg)).toInt = (zI κ90 raSign u58).toInt * (zA κ (zR κ atWeights (zR κ soAtlas a0)) x90_2.toNatClampNeg).toInt := ml_q8 y4.2.2.1 y4.2.2.2
              rw [mul, Vc.2.2] at A1 A2
              have K := tm_q8 (x := bhW8 (tcW8 κ (zR κ soAtlas a0)) V9 x90_2.toNatClampNeg) (w := (zA κ (zR κ atWeights (zR κ soAtlas a0)) x90_2.toNatClampNeg).toInt) Rx.1 Rx.2.1 Rx.2.2 dv
              refine ⟨⟨by rw [ew]; exact hE.1.1, fun i h1 h2 h3 => by rw [ew]; exact hE.1.2 i h1 h2 h3⟩, ?_⟩
              have gx : (fun j => bhW8 (tcW8 κ (zR κ soAtlas a0)) V9 (loW8 (tcW8 κ (zR κ soAtlas a0)) a1.toNatClampNeg + j) * ((zA κ (zR κ atWeights (zR κ soAtlas a0)) (loW8 (tcW8 κ (zR κ soAtlas a0)) a1.toNatClampNeg + j)).toInt : Rat)) (x90_2.toNatClampNeg - (loW8 (tcW8 κ (zR κ soAtlas a0)) a1.toNatClampNeg)) = bhW8 (tcW8 κ (zR κ soAtlas a0)) V9 x90_2.toNatClampNeg * ((zA κ (zR κ atWeights (zR κ soAtlas a0)) x90_2.toNatClampNeg).toInt : Rat) := by
                show bhW8 (tcW8 κ (zR κ soAtlas a0)) V9 ((loW8 (tcW8 κ (zR κ soAtlas a0)) a1.toNatClampNeg) + (x90_2.toNatClampNeg - (loW8 (tcW8 κ (zR κ soAtlas a0)) a1.toNatClampNeg))) * ((zA κ (zR κ atWeights (zR κ soAtlas a0)) ((loW8 (tcW8 κ (zR κ soAtlas a0)) a1.toNatClampNeg) + (x90_2.toNatClampNeg - (loW8 (tcW8 κ (zR κ soAtlas a0)) a1.toNatClampNeg)))).toInt : Rat) = _
                rw [show (loW8 (tcW8 κ (zR κ soAtlas a0)) a1.toNatClampNeg) + (x90_2.toNatClampNeg - (loW8 (tcW8 κ (zR κ soAtlas a0)) a1.toNatClampNeg)) = x90_2.toNatClampNeg by omega]
              rw [xs, ew]
              show _ = (smW8 (fun j => bhW8 (tcW8 κ (zR κ soAtlas a0)) V9 (loW8 (tcW8 κ (zR κ soAtlas a0)) a1.toNatClampNeg + j) * ((zA κ (zR κ atWeights (zR κ soAtlas a0)) (loW8 (tcW8 κ (zR κ soAtlas a0)) a1.toNatClampNeg + j)).toInt : Rat)) (x90_2.toNatClampNeg - (loW8 (tcW8 κ (zR κ soAtlas a0)) a1.toNatClampNeg)) + (fun j => bhW8 (tcW8 κ (zR κ soAtlas a0)) V9 (loW8 (tcW8 κ (zR κ soAtlas a0)) a1.toNatClampNeg + j) * ((zA κ (zR κ atWeights (zR κ soAtlas a0)) (loW8 (tcW8 κ (zR κ soAtlas a0)) a1.toNatClampNeg + j)).toInt : Rat)) (x90_2.toNatClampNeg - (loW8 (tcW8 κ (zR κ soAtlas a0)) a1.toNatClampNeg))) * _
              rw [gx, Rat.add_mul, ← hE.2]
              by_cases z : 0 < (zI κ90 raSign u58).toInt * (zA κ (zR κ atWeights (zR κ soAtlas a0)) x90_2.toNatClampNeg).toInt
              · rw [← K.1 z, ← Rat.intCast_add, (A1 z).1, (A1 z).2]
                congr 1
                omega
              · rw [← K.2 z, ← Rat.intCast_add, (A2 z).1, (A2 z).2]
                congr 1
                omega
  · skip
    intro T65
    rw [i1.1, eF1, lei] at c7
    have ix := cn1 (x := x18_2) (by omega) (by omega)
    refine So_worthBehind_q6 W18 T65 ρ n9 P9 a1.toNatClampNeg ?_ (fun r66 q68 => ?_)
    · exact ⟨by rw [J1.2.1.2.1]; exact J1.2.1.1, J1.2.2.1, by omega, by omega, by rw [eF1]; exact lb1, by rw [eF1]; omega⟩  -- p31
    obtain ⟨q68, z9⟩ := q68
    have zb := z9
    intro W69
    intro M70
    intro T71
    refine ⟨fun c72 => ?_, fun uc72 c72 => ?_⟩
    · skip
      intro x73 hx73
      refine lp_b5 ?_ (fun d9 => ⟨rfl, ?_⟩)
      · rw [hn18, hx73, ix.2]; omega  -- d32
      · refine and_5 ?_ (fun o9 => ?_)  -- i33
        · exact ⟨rfl, rfl, ⟨Z1, N1, S1⟩, D1, by rw [hx73, ix.2]; omega⟩
        · have lo0 : ((loW8 (tcW8 κ (zR κ soAtlas a0)) a1.toNatClampNeg) : Int) = (zA κ (zR κ atFirsts (zR κ soAtlas a0)) a1.toNatClampNeg).toInt := cnk wy.2.1
          have n18' := cnk (x := x18_2) (by omega)
          refine ⟨hE.1, fun i h1 h2 h3 h4 => ?_⟩
          rw [hx73, ix.1] at h2
          by_cases e : i = x18_2.toNatClampNeg
          · rcases zb with ⟨b1, b2⟩ | ⟨b1, b2⟩
            · rw [b2] at c72; cases c72
            · have tz := congrFun (congrFun (tc_f8 W (ty_soAtlas W Ta0) Z1 (fun f hf => so_38 hf)) 1) x18_2.toNatClampNeg
              rw [J1.2.1.2.1] at b1
              rw [e] at h4
              exact absurd (tz.trans h4) b1
          · exact hE.2 i h1 (by omega) h3 h4
    · skip
      refine ex_some ?_ (fun u74 hu74 => ?_)
      · exact ⟨_, c72⟩  -- e34
      intro T75
      intro T76
      intro T77
      obtain ⟨j, hj, ej⟩ : ∃ j, j < n9 ∧ wU9 κ18 a0 j = u74 := by
        rcases q68 with z | ⟨j, hj, z⟩
        · rw [z] at hu74; cases hu74
        · exact ⟨j, hj, Option.some.inj (z.symm.trans hu74)⟩
      obtain ⟨_, y3, y4⟩ := J1.2.2.1.2 j hj
      rw [ej] at y3 y4
      have gs := ra_g9 N1 y3 (by omega) (by omega) (by omega)
      have lwz : nuN κ18 (zR κ18 soWhole a0) < pB9 2000 := by
        rw [ew1]
        exact Nat.lt_of_le_of_lt (dz9_le D1 p2) (Nat.lt_of_lt_of_le p3 (pB9_l (by decide)))
      refine Ca_join_c W69 T75 T76 T77 6500 2000 6500 6500 ?_ (fun κ_78 q79 => ?_)
      · exact jn_p N1 S1 gs.2.1.2 (raR_n gs.1.2).2 ⟨by omega, by omega, by omega⟩ lwz (Nat.lt_of_lt_of_le y4.1.2 h256)  -- p35
      have Jq := jn_q W69 N1 S1 q79
      have Vj := q79.2.2.2
      rw [ew1] at Vj
      rw [ec1] at Jq
      have Zf : zF (soF ρ (fun r => r < 100) (zR κ soCalc a0)) κ κ_78 := Z1.tr (soF_m (fun r z => by rcases z with z | z | z <;> omega) Jq.2.1)
      intro W80
      intro M81
      intro x82 hx82
      refine lp_b5 ?_ (fun d9 => ⟨rfl, ?_⟩)
      · rw [hn18, hx82, ix.2]; omega  -- d36
      · refine and_5 ?_ (fun o9 => ?_)  -- i37
        · refine ⟨rfl, rfl, ⟨Zf, Jq.1⟩, ?_, by rw [hx82, ix.2]; omega⟩
          rw [Vj]
          exact dz9_lcm D1 y4.2.1
        · have lo0 : ((loW8 (tcW8 κ (zR κ soAtlas a0)) a1.toNatClampNeg) : Int) = (zA κ (zR κ atFirsts (zR κ soAtlas a0)) a1.toNatClampNeg).toInt := cnk wy.2.1
          have lo1 : ((loW8 (tcW8 κ (zR κ soAtlas a0)) (a1.toNatClampNeg + 1)) : Int) = (zA κ (zR κ atFirsts (zR κ soAtlas a0)) (a1.toNatClampNeg + 1)).toInt := cnk (x := (zA κ (zR κ atFirsts (zR κ soAtlas a0)) (a1.toNatClampNeg + 1))) (by omega)
          have n18' := cnk (x := x18_2) (by omega)
          have ov := fo_w8 W Ta0 hn J0 (by omega) (Z1.mono (fun f b z => Or.inl z)) (fun r h z => by omega) J1.2.2.2.1 J1.2.1.2.1 (by omega) (by omega) hV9 zb
          have Rx := ov.1 u74 hu74
          rw [Rx.2.2] at Vj
          have dp : 0 < (bhW8 (tcW8 κ (zR κ soAtlas a0)) V9 x18_2.toNatClampNeg).den := Nat.pos_of_ne_zero (Rat.den_nz _)
          refine ⟨by rw [Vj]; exact Nat.lcm_pos hE.1 dp, fun i h1 h2 h3 h4 => ?_⟩
          rw [hx82, ix.1] at h2
          rw [Vj]
          by_cases e : i = x18_2.toNatClampNeg
          · have bx : bhW8 (tcW8 κ (zR κ soAtlas a0)) V9 x18_2.toNatClampNeg = V9 (zA κ (zR κ atNumbers (zR κ soAtlas a0)) x18_2.toNatClampNeg).toNatClampNeg := if_pos (by rw [← e]; exact h4)
            rw [e, ← bx]
            exact Nat.dvd_lcm_right _ _
          · exact Nat.dvd_trans (hE.2 i h1 (by omega) h3 h4) (Nat.dvd_lcm_left _ _)

end
section
set_option maxHeartbeats 1600000
/-! the order in which worths are found -/
theorem inj_8 {n : Nat} {od : Nat → Nat} (h : ∀ m, m < n → od m < n) (s : ∀ c, c < n → ∃ m, m < n ∧ od m = c) {a b : Nat} (ha : a < n) (hb : b < n) (e : od a = od b) : a = b := by
  refine Decidable.byContradiction (fun ne => ?_)
  have q := ct_p8 (P := fun c => c = od a) h s
  have u := ct_18 (P := fun c => c = od a) (s := od a) (n := n) (fun k _ z => z)
  have l := on_l (P := od a < n)
  have c1 : ct8 (fun k => k = a) n < ct8 (fun k => od k = od a) n := ct_m8 (m := b) e.symm (fun z => ne z.symm) (fun k _ z => by rw [z]) hb
  have c0 : ct8 (fun _ => False) n < ct8 (fun k => k = a) n := ct_m8 (P := fun _ => False) (Q := fun k => k = a) (m := a) rfl (fun z => z) (fun k _ z => False.elim z) ha
  omega
theorem tp_8 {n K : Nat} {ko od kf : Nat → Nat} {E : Nat → Nat → Prop} (h : KN8 n K ko od kf E) (L : ∀ v u, v < n → E v u → ko u ≤ ko v) (A : ∀ x, x < n → ¬ Tr E x x) {m y : Nat} (hm : m < n) (e : E (od m) y) : ∃ m', m' < m ∧ od m' = y := by
  obtain ⟨h1, h2, h3, h4, h5⟩ := id h
  have hk := (h1 m hm).1
  have hy := h5 _ _ hk e
  obtain ⟨m', g1, g2⟩ := h3 y hy
  have le := L _ _ hk e
  have ne : ko y ≠ ko (od m) := fun z => by
    have q := (h4 y (od m) hy hk).mp z
    rcases q.1 with w | w
    · rw [w] at e
      exact A _ hk (Tr_1 e)
    · exact A _ hk (Tr_tr (Tr_1 e) w)
  have a := h1 m' g1
  rw [g2] at a
  have b := h1 m hm
  have kl := kf_8 h (c := ko y) (d := ko (od m)) (by omega) (by omega)
  exact ⟨m', by omega, g2⟩
theorem kn_w8 {κ κ3 κ8 : zS} {a w n : Nat} (K : weKn κ8 w n) (P : knP8 κ3 κ8 w n) (L : ∀ j, j < n → ∀ y, (Ed8 (qI8 (zA κ3 (zR κ3 weFirsts w))) (qN8 (zA κ3 (zR κ3 weTargets w))) j y ↔ ∃ i : Nat, (zA κ3 (zR κ3 atFirsts a) j).toInt ≤ (i : Int) ∧ (i : Int) < (zA κ3 (zR κ3 atFirsts a) (j + 1)).toInt ∧ lkD κ3 a 0 y j i = 1)) (hE : ∀ x y, x < n → Ed8 (qI8 (zA κ3 (zR κ3 weFirsts w))) (qN8 (zA κ3 (zR κ3 weTargets w))) x y → y < n) (le : el8 κ3 a 0 n = el8 κ a 0 n) (wr : zA κ8 (zR κ8 weFirsts w) = zA κ3 (zR κ3 weFirsts w) ∧ zA κ8 (zR κ8 weTargets w) = zA κ3 (zR κ3 weTargets w)) : KN8 n (zI κ8 weKnots w).toInt.toNat (qN8 (zA κ8 (zR κ8 weKnotOf w))) (qN8 (zA κ8 (zR κ8 weOrder w))) (qN8 (zA κ8 (zR κ8 weKnotFirsts w))) (el8 κ a 0 n) := by
  obtain ⟨k1, k2, k3, k4⟩ := K
  have ee : ∀ x y, x < n → (Ed8 (qI8 (zA κ3 (zR κ3 weFirsts w))) (qN8 (zA κ3 (zR κ3 weTargets w))) x y ↔ el8 κ3 a 0 n x y) := fun x y hx => ⟨fun z => ⟨hx, hE x y hx z, (L x hx y).mp z⟩, fun z => (L x hx y).mpr z.2.2⟩
  have f1 : ∀ {u v : Nat}, u < n → (Rf8 (Ed8 (qI8 (zA κ3 (zR κ3 weFirsts w))) (qN8 (zA κ3 (zR κ3 weTargets w)))) u v ↔ Rf8 (el8 κ3 a 0 n) u v) := fun hu => ⟨fun r => Rf_w8 (fun x y hx z => ⟨(ee x y hx).mp z, hE x y hx z⟩) hu r, fun r => Rf_w8 (fun x y hx z => ⟨(ee x y hx).mpr z, z.2.1⟩) hu r⟩
  have kfb : ∀ c : Nat, (c : Int) < (zI κ8 weKnots w).toInt → 0 ≤ (zA κ8 (zR κ8 weKnotFirsts w) c).toInt := fun c hc => (k2 c hc).1
  have KN : KN8 n (zI κ8 weKnots w).toInt.toNat (qN8 (zA κ8 (zR κ8 weKnotOf w))) (qN8 (zA κ8 (zR κ8 weOrder w))) (qN8 (zA κ8 (zR κ8 weKnotFirsts w))) (el8 κ3 a 0 n) := by
    refine ⟨fun i hi => ?_, fun c hc => ?_, k4, fun u v hu hv => ?_, fun x y hx z => z.2.1⟩
    · obtain ⟨o1, o2, o3, o4⟩ := k3 i hi
      have n1 := cnk o1.1
      have n2 := cnk o2.1
      have q := k2 (zA κ8 (zR κ8 weKnotOf w) (zA κ8 (zR κ8 weOrder w) i).toNatClampNeg).toNatClampNeg (by omega)
      have n3 := cnk q.1
      have n4 := cnk (x := zA κ8 (zR κ8 weKnotFirsts w) ((zA κ8 (zR κ8 weKnotOf w) (zA κ8 (zR κ8 weOrder w) i).toNatClampNeg).toNatClampNeg + 1)) (by omega)
      exact ⟨by show (zA κ8 (zR κ8 weOrder w) i).toNatClampNeg < n; omega, by show (zA κ8 (zR κ8 weKnotOf w) (zA κ8 (zR κ8 weOrder w) i).toNatClampNeg).toNatClampNeg < _; omega, by show (zA κ8 (zR κ8 weKnotFirsts w) ((zA κ8 (zR κ8 weKnotOf w) (zA κ8 (zR κ8 weOrder w) i).toNatClampNeg).toNatClampNeg)).toNatClampNeg ≤ i; omega, by show i < (zA κ8 (zR κ8 weKnotFirsts w) (((zA κ8 (zR κ8 weKnotOf w) (zA κ8 (zR κ8 weOrder w) i).toNatClampNeg).toNatClampNeg) + 1)).toNatClampNeg; omega⟩
    · have q := k2 c (by omega)
      have n3 := cnk q.1
      have n4 := cnk (x := zA κ8 (zR κ8 weKnotFirsts w) (c + 1)) (by omega)
      exact ⟨by show (zA κ8 (zR κ8 weKnotFirsts w) c).toNatClampNeg < (zA κ8 (zR κ8 weKnotFirsts w) (c + 1)).toNatClampNeg; omega, by show (zA κ8 (zR κ8 weKnotFirsts w) (c + 1)).toNatClampNeg ≤ n; omega⟩
    · have nn : ∀ s, s < n → 0 ≤ (zA κ8 (zR κ8 weKnotOf w) s).toInt := fun s hs => by
        obtain ⟨i, i1, i2⟩ := k4 s hs
        have q := (k3 i i1).2.1.1
        rw [i2] at q
        exact q
      have a1 := cnk (nn u hu)
      have a2 := cnk (nn v hv)
      rw [← f1 hu, ← f1 hv, ← P u v hu hv]
      exact ⟨fun z => Int32.toInt_inj.mp (by have z' : (zA κ8 (zR κ8 weKnotOf w) u).toNatClampNeg = (zA κ8 (zR κ8 weKnotOf w) v).toNatClampNeg := z; omega), fun z => by show (zA κ8 (zR κ8 weKnotOf w) u).toNatClampNeg = (zA κ8 (zR κ8 weKnotOf w) v).toNatClampNeg; rw [z]⟩
  rw [← le]
  exact KN
theorem el_w8 {κ : zS} {a n x y : Nat} (A : atW κ a n) (hx : x < n) : el8 κ a 0 n x y ↔ eW8 (tcW8 κ a) x y := by
  obtain ⟨X1, X2, _⟩ := A.2.2.2.2.2 x hx
  have nb := A.2.2.2.2.1
  have l2 := A.2.1.2.2
  have wy := wy_9 A hx
  have l0 : (loW8 (tcW8 κ a) x : Int) = (zA κ (zR κ atFirsts a) x).toInt := cnk wy.2.1
  have l1 : (loW8 (tcW8 κ a) (x + 1) : Int) = (zA κ (zR κ atFirsts a) (x + 1)).toInt := cnk (x := (zA κ (zR κ atFirsts a) (x + 1))) (by omega)
  constructor
  · rintro ⟨_, hy, i, i1, i2, i3⟩
    obtain ⟨⟨j1, _⟩, j2⟩ := lkD_1 i3
    refine ⟨i, by omega, by omega, j1, ?_⟩
    show (zA κ (zR κ atNumbers a) i).toNatClampNeg = y
    have c := cnk (x := zA κ (zR κ atNumbers a) i) (by omega)
    omega
  · rintro ⟨i, i1, i2, i3, i4⟩
    have i3' : zA κ (zR κ atSorts a) i = 0 := i3
    have i4' : (zA κ (zR κ atNumbers a) i).toNatClampNeg = y := i4
    have nx := (X2 i (by omega) (by omega)).1 i3'
    have hn := A.2.2.2.1
    have cy := cnk nx.1
    exact ⟨hx, by omega, i, by omega, by omega, if_pos ⟨⟨i3', Or.inl rfl⟩, by omega⟩⟩

end
section
set_option maxHeartbeats 1600000
/-! the class: the best plan, step by step -/
def pcW8 (t : Tw8) (V : Nat → Rat) (k : Nat) : Int32 := if t 6 k ≠ 0 then Int32.ofNat (maW8 t V k) else 0
/-- where gains stand, and what a single next weighs -/
def gnW8 (t : Tw8) (n : Nat) : Prop := ∀ k, k < n → (t 6 k ≠ 0 → t 5 k = 0) ∧ (loW8 t (k + 1) = loW8 t k + 1 → t 6 k = 0 → (t 3 (loW8 t k)).toInt = (t 4 k).toInt ∧ 0 < (t 4 k).toInt) ∧ (loW8 t (k + 1) ≠ loW8 t k + 1 → t 5 k = 0)
theorem mr_w8 {m : Nat} (h : 0 < m) : mkRat (m : Int) m = 1 := by
  have nz : (m : Rat) ≠ 0 := fun z => by have := Rat.natCast_eq_zero_iff.mp z; omega
  rw [Rat.mkRat_eq_div, Rat.intCast_natCast, Rat.div_def, Rat.mul_inv_cancel _ nz]
theorem fw_w8 {t : Tw8} {n k : Nat} {V : Nat → Rat} (G : gnW8 t n) (hk : k < n) (hc : t 6 k ≠ 0 ∨ loW8 t (k + 1) = loW8 t k + 1) : bhW8 t V (loW8 t k + maW8 t V k) + ((t 5 k).toInt : Rat) = wsW8 t V k ∧ Int32.ofNat (maW8 t V k) = pcW8 t V k := by
  obtain ⟨g1, g2, g3⟩ := G k hk
  unfold wsW8 pcW8
  by_cases c : t 6 k ≠ 0
  · rw [if_pos c, if_pos c, g1 c, t0i, Rat.intCast_zero, Rat.add_zero]
    exact ⟨rfl, rfl⟩
  · have e1 := hc.resolve_left c
    have c0 : t 6 k = 0 := Decidable.byContradiction c
    have m0 : maW8 t V k = 0 := by
      unfold maW8
      rw [show loW8 t (k + 1) - loW8 t k - 1 = 0 by omega]
      rfl
    obtain ⟨w1, w2⟩ := g2 e1 c0
    rw [if_neg c, if_neg c, m0, show loW8 t (k + 1) - loW8 t k = 1 by omega]
    refine ⟨?_, rfl⟩
    show _ = (0 : Rat) + bhW8 t V (loW8 t k + 0) * mkRat (t 3 (loW8 t k + 0)).toInt (t 4 k).toInt.toNat + _
    rw [Nat.add_zero, w1, show (t 4 k).toInt = (((t 4 k).toInt.toNat : Nat) : Int) by omega]
    rw [Int.toNat_natCast, mr_w8 (by omega), Rat.mul_one, Rat.zero_add]
theorem mx_w8 {t : Tw8} {n k : Nat} {V : Nat → Rat} (G : gnW8 t n) (hk : k < n) (c : t 6 k = 0) (h1 : loW8 t (k + 1) ≠ loW8 t k + 1) : smW8 (fun j => bhW8 t V (loW8 t k + j) * mkRat (t 3 (loW8 t k + j)).toInt (t 4 k).toInt.toNat) (loW8 t (k + 1) - loW8 t k) = wsW8 t V k ∧ pcW8 t V k = 0 := by
  obtain ⟨g1, g2, g3⟩ := G k hk
  unfold wsW8 pcW8
  rw [if_neg (fun z => z c), if_neg (fun z => z c), g3 h1, t0i, Rat.intCast_zero, Rat.add_zero]
  exact ⟨rfl, rfl⟩
/-- the worths, where there are no rings -/
theorem fx_w8 {κ : zS} {a n : Nat} (A : atW κ a n) (hA : ∀ x, x < n → ¬ Tr (el8 κ a 0 n) x x) {k : Nat} (h : k < n) : wnW8 (tcW8 κ a) n k = wsW8 (tcW8 κ a) (wnW8 (tcW8 κ a) n) k := by
  have hc : ∀ x y, x < n → el8 κ a 0 n x y → y < n := fun x y _ z => z.2.1
  refine wn_f8 (rk := rkW8 (el8 κ a 0 n) n) (fun x y hx e => rk_8 hc hA hx ((el_w8 A hx).mpr e)) (fun x hx => rk_n8 hA hx) (fun x hx => ?_) h
  have wy := wy_9 A hx
  have l0 : (loW8 (tcW8 κ a) x : Int) = (zA κ (zR κ atFirsts a) x).toInt := cnk wy.2.1
  have l1 : (loW8 (tcW8 κ a) (x + 1) : Int) = (zA κ (zR κ atFirsts a) (x + 1)).toInt := cnk (x := zA κ (zR κ atFirsts a) (x + 1)) (by omega)
  omega
/-- an order in which what stands behind comes before -/
def odW8 (t : Tw8) (n : Nat) (od : Nat → Nat) : Prop := (∀ m, m < n → od m < n) ∧ (∀ c, c < n → ∃ m, m < n ∧ od m = c) ∧ ∀ m y, m < n → eW8 t (od m) y → ∃ m', m' < m ∧ od m' = y
def odC8 (κ τ : zS) (a : Nat) : Nat → Nat := qN8 (zA τ (zR τ weOrder (zR κ soWeb a)))
abbrev wmW8 (κ : zS) (a n : Nat) : Nat → Rat := wnW8 (tcW8 κ (zR κ soAtlas a)) n
def kpW8 (κ τ : zS) (a : Nat) : Prop := tcW8 τ (zR κ soAtlas a) = tcW8 κ (zR κ soAtlas a) ∧ zA τ (zR τ atPlan (zR κ soAtlas a)) = zA κ (zR κ atPlan (zR κ soAtlas a))
def dnC8 (κ τ : zS) (a n k : Nat) : Prop := rqW8 τ (wU9 τ a k) (wmW8 κ a n k) ∧ f2W8 (wmW8 κ a n k) ∧ zA τ (zR τ soTaken a) k = pcW8 (tcW8 κ (zR κ soAtlas a)) (wmW8 κ a n) k
def lpW8 (κ τ : zS) (a n m : Nat) : Prop := (zI κ atRings (zR κ soAtlas a) ≤ 0 ∧ kpW8 κ τ a) ∧ odW8 (tcW8 κ (zR κ soAtlas a)) n (odC8 κ τ a) ∧ (∀ i, i < m → i < n → dnC8 κ τ a n (odC8 κ τ a i)) ∧ ∀ i, m ≤ i → i < n → rqW8 τ (wU9 τ a (odC8 κ τ a i)) 0
/-- what a call of the plan's comes to -/
def mkW8 (κ κ' : zS) (a n : Nat) (v : Int32) : Prop := (¬ zI κ atRings (zR κ soAtlas a) ≤ 0 ∧ v = -2 ∧ κ' = κ) ∨ (zI κ atRings (zR κ soAtlas a) ≤ 0 ∧ ((v = -3 ∧ (∃ k, k < n ∧ ¬ f2W8 (wmW8 κ a n k)) ∧ kpW8 κ κ' a ∧ (zI κ' soSolved a = zI κ soSolved a ∧ zI κ' soPlanned a = zI κ soPlanned a)) ∨ (v = 0 ∧ tcW8 κ' (zR κ soAtlas a) = tcW8 κ (zR κ soAtlas a) ∧ (∀ k, k < n → rqW8 κ' (wU9 κ' a k) (wmW8 κ a n k) ∧ f2W8 (wmW8 κ a n k) ∧ zA κ' (zR κ' atPlan (zR κ soAtlas a)) k = pcW8 (tcW8 κ (zR κ soAtlas a)) (wmW8 κ a n) k) ∧ (∀ k, n ≤ k → zA κ' (zR κ' atPlan (zR κ soAtlas a)) k = zA κ (zR κ atPlan (zR κ soAtlas a)) k) ∧ zI κ' soSolved a = 0 ∧ zI κ' soPlanned a = 1)))
theorem tc_v8 {C : zC} {n0 t : Nat} {κ τ : zS} {F : Nat → Nat → Prop} (W : zW C n0 κ) (T : zT κ t = 3) (H : frV9 (zn κ) F) (Z : zF F κ τ) : tcW8 τ t = tcW8 κ t ∧ zA τ (zR τ atPlan t) = zA κ (zR κ atPlan t) := by
  have g := fun f hf => (at_v9 W H Z T (f := f) hf).2.1
  refine ⟨?_, g atPlan (by decide)⟩
  unfold tcW8
  rw [g atFirsts (by decide), g atSorts (by decide), g atNumbers (by decide), g atWeights (by decide), g atTotals (by decide), g atGains (by decide), g atChooses (by decide)]
theorem tc_E8 {C : zC} {n0 w t : Nat} {κ τ : zS} (W : zW C n0 κ) (T : zT κ t = 3) (Tw : zT κ w = 14) (Z : zF (objF w) κ τ) : tcW8 τ t = tcW8 κ t ∧ zA τ (zR τ atPlan t) = zA κ (zR κ atPlan t) := by
  have g := fun f hf => (at_E W Tw T Z (f := f) hf).2.1
  refine ⟨?_, g atPlan (by decide)⟩
  unfold tcW8
  rw [g atFirsts (by decide), g atSorts (by decide), g atNumbers (by decide), g atWeights (by decide), g atTotals (by decide), g atGains (by decide), g atChooses (by decide)]
/-- a step of the plan's: all but the state whose turn it is stays -/
theorem lp_g8 {C : zC} {n0 a n m P ca k : Nat} {ρ : Nat → Nat} {R : Nat → Prop} {κ τ τ' : zS} (W : zW C n0 τ) (Tw : zT τ (zR κ soWeb a) = 14) (Tb : zT τ (zR κ soAtlas a) = 3) (hn : n ≤ 1000) (N : nmI ρ τ) (V : wsI9 ρ τ a n P) (L : lpW8 κ τ a n m) (hm : m < n) (hk : k = odC8 κ τ a m) (Z : zF (pwF9 ρ R ca a) τ τ') (hR : ∀ j, j < n → j ≠ k → ¬ R (104 + 8 * j) ∧ ¬ R (104 + 8 * j + 1) ∧ ¬ R (104 + 8 * j + 2)) (U : ∀ k, wU9 τ' a k = wU9 τ a k) (tk : ∀ i, i ≠ k → zA τ' (zR τ' soTaken a) i = zA τ (zR τ soTaken a) i) : (zI κ atRings (zR κ soAtlas a) ≤ 0 ∧ kpW8 κ τ' a) ∧ odC8 κ τ' a = odC8 κ τ a ∧ (∀ i, i < m → i < n → dnC8 κ τ' a n (odC8 κ τ a i)) ∧ ∀ i, m < i → i < n → rqW8 τ' (wU9 τ' a (odC8 κ τ a i)) 0 := by
  obtain ⟨⟨L0, L1, L2⟩, O, L3, L4⟩ := L
  have q := tc_v8 W Tb pwF9_v Z
  have g := (we_v9 W pwF9_v Z Tw (f := weOrder) (by decide)).2.1
  have oe : odC8 κ τ' a = odC8 κ τ a := by unfold odC8; rw [g]
  have ne : ∀ i, i < n → i ≠ m → odC8 κ τ a i ≠ k := fun i hi h z => h (inj_8 O.1 O.2.1 hi hm (z.trans hk))
  have keep : ∀ i p, i < n → i ≠ m → rqW8 τ (wU9 τ a (odC8 κ τ a i)) p → rqW8 τ' (wU9 τ' a (odC8 κ τ a i)) p := fun i p hi h y => by
    have l := O.1 i hi
    rw [U]
    exact rq_p8 W N Z (V.2 _ l).2.1 (ws_r9 (by omega)) (hR _ l (ne i hi h)) y
  refine ⟨⟨L0, q.1.trans L1, q.2.trans L2⟩, oe, fun i h1 h2 => ?_, fun i h1 h2 => keep i 0 h2 (by omega) (L4 i (by omega) h2)⟩
  obtain ⟨d1, d2, d3⟩ := L3 i h1 h2
  exact ⟨keep i _ h2 (by omega) d1, d2, by rw [tk _ (ne i h2 (by omega))]; exact d3⟩
/-- a worth is found -/
theorem lp_s8 {κ τ τ' : zS} {a n m k : Nat} (O : odW8 (tcW8 κ (zR κ soAtlas a)) n (odC8 κ τ a)) (hk : k = odC8 κ τ a m) (G : (zI κ atRings (zR κ soAtlas a) ≤ 0 ∧ kpW8 κ τ' a) ∧ odC8 κ τ' a = odC8 κ τ a ∧ (∀ i, i < m → i < n → dnC8 κ τ' a n (odC8 κ τ a i)) ∧ ∀ i, m < i → i < n → rqW8 τ' (wU9 τ' a (odC8 κ τ a i)) 0) (d : dnC8 κ τ' a n k) : lpW8 κ τ' a n (m + 1) := by
  obtain ⟨g1, g2, g3, g4⟩ := G
  unfold lpW8
  rw [g2]
  refine ⟨g1, O, fun i h1 h2 => ?_, fun i h1 h2 => g4 i (by omega) h2⟩
  by_cases c : i = m
  · rw [c, ← hk]; exact d
  · exact g3 i (by omega) h2
/-- what it was is taken away first -/
theorem lp_u8 {κ τ τ' : zS} {a n m : Nat} (O : odW8 (tcW8 κ (zR κ soAtlas a)) n (odC8 κ τ a)) (G : (zI κ atRings (zR κ soAtlas a) ≤ 0 ∧ kpW8 κ τ' a) ∧ odC8 κ τ' a = odC8 κ τ a ∧ (∀ i, i < m → i < n → dnC8 κ τ' a n (odC8 κ τ a i)) ∧ ∀ i, m < i → i < n → rqW8 τ' (wU9 τ' a (odC8 κ τ a i)) 0) (d : m < n → rqW8 τ' (wU9 τ' a (odC8 κ τ a m)) 0) : lpW8 κ τ' a n m := by
  obtain ⟨g1, g2, g3, g4⟩ := G
  unfold lpW8
  rw [g2]
  refine ⟨g1, O, g3, fun i h1 h2 => ?_⟩
  by_cases c : i = m
  · rw [c]; exact d (by omega)
  · exact g4 i (by omega) h2
/-- what stands behind the state whose turn it is -/
theorem lp_b8 {κ τ : zS} {a n m y : Nat} (L : lpW8 κ τ a n m) (hm : m < n) (e : eW8 (tcW8 κ (zR κ soAtlas a)) (odC8 κ τ a m) y) : rqW8 τ (wU9 τ a y) (wmW8 κ a n y) := by
  obtain ⟨_, O, L3, _⟩ := L
  obtain ⟨m', h1, h2⟩ := O.2.2 m y hm e
  have q := (L3 m' h1 (by omega)).1
  rw [h2] at q
  exact q
theorem fw_k8 {j k : Nat} (h : j ≠ k) : ¬ fwR9 (104 + 8 * k) (104 + 8 * j) ∧ ¬ fwR9 (104 + 8 * k) (104 + 8 * j + 1) ∧ ¬ fwR9 (104 + 8 * k) (104 + 8 * j + 2) := by
  unfold fwR9
  omega
theorem vo_k8 {j k : Nat} (h : j ≠ k) : ¬ voR9 (104 + 8 * k) (104 + 8 * j) ∧ ¬ voR9 (104 + 8 * k) (104 + 8 * j + 1) ∧ ¬ voR9 (104 + 8 * k) (104 + 8 * j + 2) := by
  unfold voR9
  omega
/-- at first all are worth nothing -/
theorem w0_8 {ρ : Nat → Nat} {κ τ τ1 : zS} {a b o r k : Nat} {m : Int32} {X : (Nat → Nat) → Prop} (H : frX9 ρ a b soWorths κ τ o r m k X) (e : τ1 = uo τ soWorths a r) {j : Nat} (hj : j < k) : rqW8 τ1 (wU9 τ1 a j) 0 := by
  obtain ⟨κ1, ρ', Hw, R1, N1, Z1, O1, A1, A2, A3, _⟩ := H
  obtain ⟨u, u1, u2, u3, u4⟩ := A3 j hj
  have uo9 := uo_n9 (f := soWorths) (by decide) e
  have ev : zR τ1 soWorths a = r := by rw [e]; exact if_pos ⟨rfl, rfl⟩
  have eq : zQ τ1 r = zQ τ r := by rw [e]; rfl
  have ei : zI τ1 = zI τ := by rw [e]; rfl
  have eu : wU9 τ1 a j = u := by
    unfold wU9
    rw [ev, eq, u1]
    rfl
  rw [eu]
  unfold rqW8
  rw [ei, u2, uo9.1 raTop u (by decide), uo9.1 raBottom u (by decide), uo9.2, uo9.2, u3, u4]
  exact ⟨rfl, rfl, rfl⟩
theorem rq_h8 {C : zC} {n0 u : Nat} {κ τ : zS} {F : Nat → Nat → Prop} {q : Rat} (W : zW C n0 κ) (T : zT κ u = 11) (Z : zF F κ τ) (h8 : ∀ f w, zT κ w = 8 → ¬ F f w) (h11 : ∀ f v, zT κ v = 11 → ¬ F f v) (h : rqW8 κ u q) : rqW8 τ u q := by
  have tt := ty_raTop W T
  have tb := ty_raBottom W T
  unfold rqW8
  rw [Z.i (h11 _ _ T), Z.r (h11 _ _ T), Z.r (h11 _ _ T), (nuB_z (c := 0) W tt Z (h8 _ _ tt) (h8 _ _ tt)).2.2.1, (nuB_z (c := 0) W tb Z (h8 _ _ tb) (h8 _ _ tb)).2.2.1]
  exact h
/-- the plan is made -/
theorem lp_e8 {C : zC} {n0 a n m M P : Nat} {ρ ρ' : Nat → Nat} {κ τ τ1 τ2 τ4 : zS} (Wt : zW C n0 τ) (Tt : zT τ a = 12) (J : mpJ9 ρ κ τ a n ρ') (V : wsI9 ρ' τ a n P) (L : lpW8 κ τ a n M) (hM : n ≤ M) (em : m = n) (e1 : τ1 = uc τ (zR τ soTaken a) (zR τ atPlan (zR τ soAtlas a)) 0 0 m) (e2 : τ2 = ui τ1 soPlanned a 1) (e4 : τ4 = ui τ2 soSolved a 0) : mkW8 κ τ4 a n 0 := by
  obtain ⟨⟨L0, L1, L2⟩, O, L3, _⟩ := L
  have ea := J.2.2.2.2.2.2.2.1.1
  have tb := ty_soAtlas Wt Tt
  have o := Wt.o (show zr atPlan = some 20 by decide +kernel) (by decide) tb
  have Z : zF (fun f b => (f = atPlan ∧ b = zR τ soAtlas a) ∨ (b = a ∧ (f = soPlanned ∨ f = soSolved))) τ τ4 := by
    have z1 : zF (fun f b => (f = atPlan ∧ b = zR τ soAtlas a) ∨ (b = a ∧ (f = soPlanned ∨ f = soSolved))) τ τ1 := by
      rw [e1]
      exact zF_uc (by rw [o]; exact Or.inl ⟨rfl, rfl⟩)
    have z2 : zF (fun f b => (f = atPlan ∧ b = zR τ soAtlas a) ∨ (b = a ∧ (f = soPlanned ∨ f = soSolved))) τ1 τ2 := by
      rw [e2]
      exact zF_ui (Or.inr ⟨rfl, Or.inl rfl⟩)
    have z4 : zF (fun f b => (f = atPlan ∧ b = zR τ soAtlas a) ∨ (b = a ∧ (f = soPlanned ∨ f = soSolved))) τ2 τ4 := by
      rw [e4]
      exact zF_ui (Or.inr ⟨rfl, Or.inr rfl⟩)
    exact (z1.tr z2).tr z4
  have nt : ∀ (t f w : Nat), zT τ w = t → t ≠ 12 → t ≠ 3 → ¬ ((f = atPlan ∧ w = zR τ soAtlas a) ∨ (w = a ∧ (f = soPlanned ∨ f = soSolved))) := fun t f w ht h12 h3 z => by
    rcases z with z | z
    · rw [z.2, tb] at ht
      exact h3 ht.symm
    · rw [z.1, Tt] at ht
      exact h12 ht.symm
  have er : zR τ4 = zR τ := by rw [e4, e2, e1]; rfl
  have eQ : zQ τ4 = zQ τ := by rw [e4, e2, e1]; rfl
  have eA : zA τ4 = fun b => if b = zR τ atPlan (zR τ soAtlas a) then va_cpy (zA τ (zR τ soTaken a)) (zA τ (zR τ atPlan (zR τ soAtlas a))) 0 0 m else zA τ b := by rw [e4, e2, e1]; rfl
  have eU : ∀ k, wU9 τ4 a k = wU9 τ a k := fun k => by unfold wU9; rw [er, eQ]
  have nb9 : ∀ f, f ≠ atPlan → f ≠ soPlanned → f ≠ soSolved → ∀ w, ¬ ((f = atPlan ∧ w = zR τ soAtlas a) ∨ (w = a ∧ (f = soPlanned ∨ f = soSolved))) := fun f h1 h2 h3 w z => by
    rcases z with z | z
    · exact h1 z.1
    · rcases z.2 with y | y
      · exact h2 y
      · exact h3 y
  have g : ∀ f t, zr f = some t → 20 ≤ t → f / 100 = 3 → f ≠ atPlan → zA τ4 (zR τ4 f (zR κ soAtlas a)) = zA τ (zR τ f (zR κ soAtlas a)) := fun f t h1 h2 h3 h4 => by
    have T9 : zT τ (zR κ soAtlas a) = f / 100 := by rw [h3, ← ea]; exact tb
    exact (Z.row Wt h1 h2 T9 (nb9 f h4 (fun y => by rw [y] at h3; exact absurd h3 (by decide)) (fun y => by rw [y] at h3; exact absurd h3 (by decide)) _)).1
  have tc : tcW8 τ4 (zR κ soAtlas a) = tcW8 τ (zR κ soAtlas a) := by
    unfold tcW8
    rw [g atFirsts 20 (by decide +kernel) (by decide) (by decide) (by decide), g atSorts 20 (by decide +kernel) (by decide) (by decide) (by decide), g atNumbers 20 (by decide +kernel) (by decide) (by decide) (by decide), g atWeights 20 (by decide +kernel) (by decide) (by decide) (by decide), g atTotals 20 (by decide +kernel) (by decide) (by decide) (by decide), g atGains 20 (by decide +kernel) (by decide) (by decide) (by decide), g atChooses 23 (by decide +kernel) (by decide) (by decide) (by decide)]
  have pl : ∀ k, zA τ4 (zR τ4 atPlan (zR κ soAtlas a)) k = if 0 ≤ k ∧ k < 0 + m then zA τ (zR τ soTaken a) (0 + (k - 0)) else zA τ (zR τ atPlan (zR κ soAtlas a)) k := fun k => by
    rw [er, eA, ← ea]
    show (if zR τ atPlan (zR τ soAtlas a) = zR τ atPlan (zR τ soAtlas a) then va_cpy (zA τ (zR τ soTaken a)) (zA τ (zR τ atPlan (zR τ soAtlas a))) 0 0 m else zA τ (zR τ atPlan (zR τ soAtlas a))) k = _
    rw [if_pos rfl]
    rfl
  refine Or.inr ⟨L0, Or.inr ⟨rfl, tc.trans L1, fun k hk => ?_, fun k hk => ?_, ?_, ?_⟩⟩
  · obtain ⟨i, i1, i2⟩ := O.2.1 k hk
    obtain ⟨d1, d2, d3⟩ := L3 i (by omega) i1
    rw [i2] at d1 d2 d3
    have tu := Wt.2.2.2.2.1 _ _ _ (ty_soWorths Wt Tt) (V.2 k hk).1
    refine ⟨?_, d2, ?_⟩
    · rw [eU]
      exact rq_h8 Wt tu Z (fun f w h => nt 8 f w h (by decide) (by decide)) (fun f w h => nt 11 f w h (by decide) (by decide)) d1
    · rw [pl, if_pos ⟨Nat.zero_le _, by omega⟩, Nat.zero_add, Nat.sub_zero]
      exact d3
  · rw [pl, if_neg (by omega), L2]
  · rw [e4]; exact if_pos ⟨rfl, rfl⟩
  · rw [e4, e2]
    show (if soPlanned = soSolved ∧ a = a then (0 : Int32) else if soPlanned = soPlanned ∧ a = a then 1 else _) = 1
    rw [if_neg (fun z => absurd z.1 (by decide)), if_pos ⟨rfl, rfl⟩]
/-- the state whose turn it is takes nothing at first -/
theorem lp_c8 {C : zC} {n0 a n m P k : Nat} {ρ ρ' : Nat → Nat} {κ τ τ' : zS} (Wt : zW C n0 τ) (Tt : zT τ a = 12) (J : mpJ9 ρ κ τ a n ρ') (V : wsI9 ρ' τ a n P) (L : lpW8 κ τ a n m) (hm : m < n) (hk : k = odC8 κ τ a m) (e : τ' = ua τ (zR τ soTaken a) k 0) : (lpW8 κ τ' a n m ∧ k = odC8 κ τ' a m) ∧ zA τ' (zR τ' soTaken a) k = 0 ∧ zR τ' soAtlas a = zR κ soAtlas a ∧ tcW8 τ' (zR τ' soAtlas a) = tcW8 κ (zR κ soAtlas a) ∧ zT τ' (zR κ soWeb a) = 14 ∧ zT τ' (zR κ soAtlas a) = 3 := by
  have ea := J.2.2.2.2.2.2.2.1.1
  have ew := J.2.2.2.2.2.2.2.1.2.1
  have hn : n ≤ 1000 := J.2.2.1.1.2.1.2
  have Tw : zT τ (zR κ soWeb a) = 14 := by rw [← ew]; exact ty_soWeb Wt Tt
  have Tb : zT τ (zR κ soAtlas a) = 3 := by rw [← ea]; exact ty_soAtlas Wt Tt
  have J0 : pwI9 ρ' τ τ a n P := ⟨J.2.1.1, ⟨by rw [ea]; exact J.2.2.1.2.2, rfl, rfl, rfl⟩, V, fun _ => rfl, ⟨rfl, rfl⟩, rfl, rfl, rfl⟩
  obtain ⟨J7, Z7, u7⟩ := pw_u9 Wt Tt J0 e
  have Z : zF (pwF9 ρ' (fun _ => False) 0 a) τ τ' := Z7.mono (fun f b z => Or.inr z)
  have rt : zR τ' soTaken a = zR τ soTaken a := J7.2.2.2.2.1.1
  have G := lp_g8 Wt Tw Tb hn J.2.1.1.1 V L hm hk Z (fun _ _ _ => ⟨id, id, id⟩) J7.2.2.2.1 (fun i hi => by rw [rt, u7]; exact if_neg hi)
  have l := L.2.1.1 m hm
  have L' : lpW8 κ τ' a n m := lp_u8 L.2.1 G (fun _ => by
    rw [J7.2.2.2.1]
    exact rq_p8 Wt J.2.1.1.1 Z (V.2 _ l).2.1 (ws_r9 (by omega)) ⟨id, id, id⟩ (L.2.2.2 m (Nat.le_refl _) hm))
  have ea' : zR τ' soAtlas a = zR κ soAtlas a := by rw [e]; exact ea
  refine ⟨⟨L', by rw [G.2.1]; exact hk⟩, by rw [rt, u7]; exact if_pos rfl, ea', by rw [ea']; exact L'.1.2.1, by rw [e]; exact Tw, by rw [e]; exact Tb⟩
/-- which way of finding a worth is taken -/
theorem wo_8 {κ : zS} {a n k : Nat} (A : atW κ a n) (hk : k < n) : zA κ (zR κ atFirsts a) (k + 1) - zA κ (zR κ atFirsts a) k = 1 ↔ loW8 (tcW8 κ a) (k + 1) = loW8 (tcW8 κ a) k + 1 := by
  have wy := wy_9 A hk
  have l0 : (loW8 (tcW8 κ a) k : Int) = (zA κ (zR κ atFirsts a) k).toInt := cnk wy.2.1
  have l1 : (loW8 (tcW8 κ a) (k + 1) : Int) = (zA κ (zR κ atFirsts a) (k + 1)).toInt := cnk (x := zA κ (zR κ atFirsts a) (k + 1)) (by omega)
  have s : (zA κ (zR κ atFirsts a) (k + 1) - zA κ (zR κ atFirsts a) k).toInt = (zA κ (zR κ atFirsts a) (k + 1)).toInt - (zA κ (zR κ atFirsts a) k).toInt := sub_i (by omega) (by omega)
  constructor
  · intro h
    rw [h, show (1 : Int32).toInt = 1 from rfl] at s
    omega
  · intro h
    exact Int32.toInt_inj.mp (by rw [s, show (1 : Int32).toInt = 1 from rfl]; omega)
/-- the order, as soon as the web is knotted -/
theorem od_k8 {κ κ3 κ8 : zS} {a w n : Nat} (A : atW κ a n) (K : weKn κ8 w n) (P : knP8 κ3 κ8 w n) (N : knL8 κ3 κ8 w n) (L : ∀ j, j < n → ∀ y, (Ed8 (qI8 (zA κ3 (zR κ3 weFirsts w))) (qN8 (zA κ3 (zR κ3 weTargets w))) j y ↔ ∃ i : Nat, (zA κ3 (zR κ3 atFirsts a) j).toInt ≤ (i : Int) ∧ (i : Int) < (zA κ3 (zR κ3 atFirsts a) (j + 1)).toInt ∧ lkD κ3 a 0 y j i = 1)) (hE : ∀ x y, x < n → Ed8 (qI8 (zA κ3 (zR κ3 weFirsts w))) (qN8 (zA κ3 (zR κ3 weTargets w))) x y → y < n) (le : el8 κ3 a 0 n = el8 κ a 0 n) (wr : zA κ8 (zR κ8 weFirsts w) = zA κ3 (zR κ3 weFirsts w) ∧ zA κ8 (zR κ8 weTargets w) = zA κ3 (zR κ3 weTargets w)) (hA : ∀ x, x < n → ¬ Tr (el8 κ a 0 n) x x) : odW8 (tcW8 κ a) n (qN8 (zA κ8 (zR κ8 weOrder w))) := by
  have KN := kn_w8 K P L hE le wr
  have nn : ∀ s, s < n → 0 ≤ (zA κ8 (zR κ8 weKnotOf w) s).toInt := fun s hs => by
    obtain ⟨i, i1, i2⟩ := K.2.2.2 s hs
    have q := (K.2.2.1 i i1).2.1.1
    rw [i2] at q
    exact q
  have o1 : ∀ m, m < n → qN8 (zA κ8 (zR κ8 weOrder w)) m < n := fun m hm => by
    have q := (K.2.2.1 m hm).1
    have c := cnk q.1
    show (zA κ8 (zR κ8 weOrder w) m).toNatClampNeg < n
    omega
  refine ⟨o1, K.2.2.2, fun m y hm e => tp_8 KN (fun v u hv z => ?_) hA hm ((el_w8 A (o1 m hm)).mpr e)⟩
  have z' : el8 κ3 a 0 n v u := by rw [le]; exact z
  have y := N v u hv ((L v hv u).mpr z'.2.2)
  have c1 := cnk (nn u z.2.1)
  have c2 := cnk (nn v hv)
  show (zA κ8 (zR κ8 weKnotOf w) u).toNatClampNeg ≤ (zA κ8 (zR κ8 weKnotOf w) v).toNatClampNeg
  omega

end
