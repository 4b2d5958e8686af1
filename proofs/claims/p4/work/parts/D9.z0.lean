set_option maxHeartbeats 1600000
/-! the class: Solver's showVisits -/
def shR9 : Nat → Prop := fun r => r < 100
theorem shR9_l : ∀ r, 100 ≤ r → ¬ shR9 r := fun r h z => by
  unfold shR9 at z
  omega
/-- what the sums over states read -/
def suX9 (κ : zS) (a n : Nat) : Prop := atW κ (zR κ soAtlas a) n ∧ n ≤ (zN κ (zR κ soVisits a))
theorem suX9_f {C : zC} {n0 a n ca : Nat} {ρ : Nat → Nat} {R : Nat → Prop} {κ τ : zS} (W : zW C n0 κ) (Ta : zT κ a = 12) (Z : zF (soF ρ R ca) κ τ) (X : suX9 κ a n) : suX9 τ a n ∧ zR τ soAtlas a = zR κ soAtlas a := by
  have e2 : zR τ soAtlas a = zR κ soAtlas a := (soF_r9 Z (by decide)).1
  have e3 := frS9_w (f := soVisits) W soF_fr Z (t := 25) (by decide +kernel) (by decide) Ta (by decide) (by decide)
  unfold suX9
  rw [e2]
  exact ⟨⟨atW_f9 W soF_fr Z (ty_soAtlas W Ta) X.1, by rw [e3.2.2]; exact X.2⟩, rfl⟩
theorem sB_9 {h i x : Nat} (hh : h < pB9 1490) (hi : i ≤ 20000) (hx : x ≤ (h + 1) * (1 + i * sM9)) : x < pB9 4000 := by
  have q : (h + 1) * (1 + i * sM9) ≤ pB9 1490 * pB9 11 := Nat.mul_le_mul hh (sm_b9 hi)
  rw [← pB9_a] at q
  exact Nat.lt_of_le_of_lt (Nat.le_trans hx q) (pB9_s (by decide))
theorem tm_c9 {T w h : Nat} (h1 : T < 2 ^ 256) (h2 : w ≤ 2147483648) : T * w * (h + 1) ≤ (h + 1) * sM9 := by
  have e : sM9 = 2 ^ 256 * 2147483648 := by unfold sM9; decide
  rw [e, Nat.mul_comm (h + 1)]
  exact Nat.mul_le_mul (Nat.mul_le_mul (Nat.le_of_lt h1) h2) (Nat.le_refl _)
theorem sm_m9 {h i s : Nat} (hs : s ≤ h * (1 + i * sM9)) : s ≤ h * (1 + (i + 1) * sM9) := Nat.le_trans hs (Nat.mul_le_mul_left _ (Nat.add_le_add_left (Nat.mul_le_mul_right _ (Nat.le_succ _)) _))
theorem nuK_c9 {κ : zS} {w c : Nat} (I : nuI κ w c) : nuK κ w ≤ c := by
  have k := nuK_i I.1
  have a := I.1.1.2
  have b := I.1.2.1.2
  omega
/-- a fraction is copied into another of a short role -/
theorem ra_s9 {C : zC} {n0 a p r : Nat} {ρ : Nat → Nat} {κ τ : zS} (W : zW C n0 κ) (Ta : zT κ a = 12) (N : nmI ρ κ) (I : soI ρ κ a) (hp : ρ p = r) (hr : r = 20 ∨ r = 30) (Z : zF (raF (zR κ raTop p) (zR κ raBottom p) p) κ τ) (J : raJ τ p 6500) : (nmI ρ τ ∧ soI ρ τ a) ∧ ∀ ca, zF (soF ρ (fun q => q = r ∨ q = r + 1 ∨ q = r + 2) ca) κ τ := by
  have e1 : zR τ raTop p = zR κ raTop p := raF_r Z (by decide) (by decide) (by decide)
  have e2 : zR τ raBottom p = zR κ raBottom p := raF_r Z (by decide) (by decide) (by decide)
  have j1 := J.1
  have j2 := J.2.1
  rw [e1] at j1
  rw [e2] at j2
  have c : capR (r + 1) = 6500 ∧ capR (r + 2) = 6500 := by rcases hr with h | h <;> rw [h] <;> exact ⟨rfl, rfl⟩
  exact nm_ra W Ta N I hp (by rcases hr with h | h <;> rw [h]; exact Or.inl rfl; exact Or.inr (Or.inl rfl)) Z (by rw [c.1]; exact j1) (by rw [c.2]; exact j2)
theorem ra_t9 {ρ : Nat → Nat} {κ : zS} {p r : Nat} (N : nmI ρ κ) (hp : ρ p = r) (hr : r = 20 ∨ r = 30) : (ρ (zR κ raTop p) = r + 1 ∧ ρ (zR κ raBottom p) = r + 2) ∧ raC κ p 6500 ∧ raJ κ p 6500 := by
  have rr : raR r := by rcases hr with h | h <;> rw [h]; exact Or.inl rfl; exact Or.inr (Or.inl rfl)
  have P := N.2 p (by rw [hp]; exact rr)
  have t : ρ (zR κ raTop p) = r + 1 := by rw [P.2.1, hp]
  have b : ρ (zR κ raBottom p) = r + 2 := by rw [P.2.2, hp]
  have gt := nm_g N t (raR_n rr).1 (by omega)
  have gb := nm_g N b (raR_n rr).2 (by omega)
  have c : capR (r + 1) = 6500 ∧ capR (r + 2) = 6500 := by rcases hr with h | h <;> rw [h] <;> exact ⟨rfl, rfl⟩
  rw [c.1] at gt
  rw [c.2] at gb
  have ne := ro_n t b (by omega)
  exact ⟨⟨t, b⟩, ⟨gt.2.2, gb.2.2, ne⟩, gt.1, gb.1, ne⟩
theorem So_showVisits_c {C : zC} {n0 : Nat} {a0 : Nat} {a1 : Int32} {a2 : Int32} {a3 : Nat} {κ : zS} {Q : zS → Prop} (W : zW C n0 κ) (Ta0 : zT κ a0 = 12) (Ta3 : zT κ a3 = 11) (ρ : Nat → Nat) (n9 P9 : Nat) (hp : (nmI ρ κ ∧ soI ρ κ a0) ∧ suX9 κ a0 n9 ∧ vsI9 ρ κ a0 n9 P9 ∧ (0 < P9 ∧ P9 < pB9 1490) ∧ ρ a3 = 30 ∧ (a1 = 8 → 0 ≤ a2.toInt ∧ a2.toInt < n9)) (h : ∀ (κ' : zS), ((zF (soF ρ shR9 (zR κ soCalc a0)) κ κ' ∧ nmI ρ κ' ∧ soI ρ κ' a0) ∧ (nuN κ' (zR κ soLess a0) < pB9 4000 ∨ nuN κ' (zR κ soLess a0) = nuN κ (zR κ soLess a0))) → Q κ') : zRun C 7 mSo_showVisits [.ref a0, .int a1, .int a2, .ref a3] κ (oV Q noX) := by
  refine So_showVisits_run W Ta0 Ta3 ?_
  replace W := W.lo (Nat.le_trans W.1.2.1 W.1.2.2) (Nat.le_refl (zn κ))
  unfold w_So_showVisits_0
  obtain ⟨⟨N0, S0⟩, X0, V0, ⟨P0, P1⟩, r30, p8⟩ := hp
  have hn := X0.1.2.2.1
  have xv0 := X0.2
  have g1 := nm_g N0 S0.1.1 (Or.inl ⟨by decide, by decide⟩) (by decide)
  have o1 : (1 : Int64).toInt.toNat = 1 := rfl
  have h8 := S0.1.2.2.2.2.2.1
  have h7 := S0.1.2.2.2.2.1
  have h20 := S0.1.2.2.2.2.2.2
  have h256 : 2 ^ 256 ≤ pB9 100 := by unfold pB9; decide
  have l20 : pB9 1490 ≤ pB9 2000 := pB9_l (by decide)
  refine ⟨fun c1 => ?_, fun c1 => ?_⟩
  · skip
    intro T2
    refine Nu_put_c W T2 6500 ?_ (fun κ_3 q4 => ?_)
    · exact ⟨by decide, g1.2.2⟩  -- p1
    intro W5
    intro M6
    intro x7 hx7
    obtain ⟨Fp, ⟨Rp, Np⟩, Ip, Vp⟩ := q4
    have Zp : zF (soF ρ shR9 (zR κ soCalc a0)) κ κ_3 := soF_1 (by rw [S0.1.1]; unfold shR9; decide) Fp
    have X3 := suX9_f W Ta0 Zp X0
    have tot : x7.toInt = (n9 : Int) := by rw [hx7]; exact X3.1.1.2.2.2.1
    unfold w_So_showVisits_40
    refine ⟨fun n l0 l1 l3 l4 l5 τ => n = (l4.toInt - l5.toInt).toNat ∧ (a0 = l0 ∧ a1 = l1 ∧ a3 = l3 ∧ (zF (soF ρ shR9 (zR κ soCalc a0)) κ τ ∧ nmI ρ τ ∧ soI ρ τ a0) ∧ (dz9 (nuN τ (zR κ soWhole a0)) P9) ∧ l4.toInt = (n9 : Int) ∧ (0 ≤ l5.toInt ∧ l5.toInt ≤ l4.toInt)), ⟨_, rfl, ?_⟩, ?_⟩
    · exact ⟨rfl, rfl, rfl, ⟨Zp, nm_1 W N0 Fp (by rw [S0.1.1]; exact Ip), so_1 W Ta0 S0 Fp⟩, by rw [Vp, o1]; exact Or.inr (Nat.one_dvd _), tot, ⟨by decide, by rw [t0i]; omega⟩⟩  -- j2
    rintro n40 _ _ _ x40_4 x40_5 κ40 W40 T40_0 T40_1 ⟨hn40, rfl, rfl, rfl, i40⟩
    obtain ⟨⟨Z1, N1, S1⟩, D1, e4, l5⟩ := i40
    have X1 := suX9_f W Ta0 Z1 X0
    have V1 := vsI9_f W Ta0 N0 Z1 hn shR9_l V0
    have kc := cnk l5.1
    have ew1 : zR κ40 soWhole a0 = (zR κ soWhole a0) := (soF_r9 Z1 (by decide)).1
    have es1 : zR κ40 soSum a0 = (zR κ soSum a0) := (soF_r9 Z1 (by decide)).1
    have ec1 : zR κ40 soCalc a0 = (zR κ soCalc a0) := (soF_r9 Z1 (by decide)).1
    have xv1 := X1.1.2
    have gM1 := X1.1.1.1
    have lw1 : nuN κ40 (zR κ soWhole a0) < pB9 1490 := Nat.lt_of_le_of_lt (dz9_le D1 P0) P1
    have hj79 : ∀ (l0 : Nat) (l1 : Int32) (l3 : Nat) (l4 : Int32) (l5 : Int32) (τ : zS), zW C (zn κ) τ → zT τ l0 = 12 → zT τ l3 = 11 → (a0 = l0 ∧ a1 = l1 ∧ a3 = l3 ∧ (zF (soF ρ shR9 (zR κ soCalc a0)) κ τ ∧ nmI ρ τ ∧ soI ρ τ a0) ∧ (κ40 = τ ∧ x40_5 = l5 ∧ x40_4 = l4) ∧ l5.toInt < l4.toInt ∧ zI τ raSign (vU9 τ a0 l5.toNatClampNeg) ≠ 0) → w_So_showVisits_79 C (zn κ) Q (fun (l0' : Nat) (l1' : Int32) (l3' : Nat) (l4' : Int32) (l5' : Int32) (τ : zS) => ∃ k < n40, (fun (n : Nat) (l0 : Nat) (l1 : Int32) (l3 : Nat) (l4 : Int32) (l5 : Int32) (τ : zS) => n = (l4.toInt - l5.toInt).toNat ∧ (a0 = l0 ∧ a1 = l1 ∧ a3 = l3 ∧ (zF (soF ρ shR9 (zR κ soCalc a0)) κ τ ∧ nmI ρ τ ∧ soI ρ τ a0) ∧ (dz9 (nuN τ (zR κ soWhole a0)) P9) ∧ l4.toInt = (n9 : Int) ∧ (0 ≤ l5.toInt ∧ l5.toInt ≤ l4.toInt))) k l0' l1' l3' l4' l5' τ) l0 l1 l3 l4 l5 τ := by
      rintro _ _ _ y79_4 y79_5 τ79 W79 T79_0 T79_1 ⟨rfl, rfl, rfl, j79⟩
      unfold w_So_showVisits_79
      obtain ⟨_, ⟨e79, e795, e794⟩, lt79, sg79⟩ := j79
      subst e79
      subst e795
      subst e794
      obtain ⟨v1, v2, v3⟩ := V1 x40_5.toNatClampNeg (by omega)
      obtain ⟨v5, v6, v7⟩ := v3 sg79
      refine ⟨?_, ?_⟩
      · rw [inb_iff]; omega  -- b3
      refine ex_some ?_ (fun u8 hu8 => ?_)
      · exact ⟨_, v1⟩  -- e4
      intro T9
      intro T10
      intro T11
      have eu : u8 = vU9 κ40 a0 x40_5.toNatClampNeg := Option.some.inj (hu8.symm.trans v1)
      subst eu
      have gs := ra_g9 N1 v2 (by omega) (by omega) (by omega)
      have bz : dz9 (nuN κ40 (zR κ40 raBottom (vU9 κ40 a0 x40_5.toNatClampNeg))) P9 := dz9_of v7 (Nat.dvd_mul_right _ _) (Nat.le_mul_of_pos_right _ dvN9_p)
      refine Ca_join_c W79 T9 T10 T11 6500 2000 6500 6500 ?_ (fun κ_12 q13 => ?_)
      · exact jn_p N1 S1 gs.2.1.2 (raR_n gs.1.2).2 ⟨by omega, by omega, by omega⟩ (by rw [ew1]; exact Nat.lt_of_lt_of_le lw1 l20) (Nat.lt_of_lt_of_le v6 h256)  -- p5
      intro W14
      intro M15
      intro x16 hx16
      have J := jn_q W40 N1 S1 q13
      have Vj := q13.2.2.2
      rw [ew1] at Vj
      rw [ec1] at J
      have ix := cn1 (x := x40_5) (by omega) (by omega)
      refine ⟨_, ?_, rfl, ?_⟩
      · rw [hn40, hx16, ix.2]; omega  -- d6
      · refine ⟨rfl, rfl, rfl, ⟨Z1.tr (soF_m (fun r z => by unfold shR9; rcases z with z | z | z <;> omega) J.2.1), J.1⟩, ?_, e4, ⟨by rw [hx16, ix.2]; omega, by rw [hx16, ix.2]; omega⟩⟩
        rw [Vj]
        exact dz9_lcm D1 bz
    have gs1 := nm_g N1 (w := (zR κ soSum a0)) h7 (Or.inl ⟨by decide, by decide⟩) (by decide)
    refine ⟨fun c17 => ?_, fun c17 => ?_⟩
    · skip
      intro T18
      refine Nu_put_c W40 T18 6500 ?_ (fun κ_19 q20 => ?_)
      · rw [es1]
        exact ⟨by decide, gs1.2.2⟩
      rw [es1] at q20
      obtain ⟨Fs, ⟨Rs, Ns⟩, Is, Vs⟩ := q20
      have Zs0 : zF (soF ρ (fun r => r = 7) (zR κ soCalc a0)) κ40 κ_19 := soF_1 h7 Fs
      have Zs : zF (soF ρ shR9 (zR κ soCalc a0)) κ κ_19 := Z1.tr (soF_m (fun r z => by unfold shR9; omega) Zs0)
      have N19 : nmI ρ κ_19 := nm_1 W40 N1 Fs (by rw [h7]; exact Is)
      have S19 : soI ρ κ_19 a0 := so_1 W40 T40_0 S1 Fs
      have el19 : zR κ_19 soLess a0 = (zR κ soLess a0) := (soF_r9 Zs (by decide)).1
      have gl19 := nm_g N19 (w := (zR κ soLess a0)) h8 (Or.inl ⟨by decide, by decide⟩) (by decide)
      have T19 : zT κ_19 a0 = 12 := Fs.t T40_0 (by decide)
      intro W21
      intro M22
      intro T23
      refine Nu_put_c W21 T23 6500 ?_ (fun κ_24 q25 => ?_)
      · rw [el19]
        exact ⟨by decide, gl19.2.2⟩
      intro W26
      intro M27
      rw [el19] at q25
      obtain ⟨Fl, ⟨Rl, Nl⟩, Il, Vl⟩ := q25
      have Zl0 : zF (soF ρ (fun r => r = 8) (zR κ soCalc a0)) κ_19 κ_24 := soF_1 h8 Fl
      have Zl : zF (soF ρ shR9 (zR κ soCalc a0)) κ κ_24 := Zs.tr (soF_m (fun r z => by unfold shR9; omega) Zl0)
      have w19 := soF_B (c := 0) (w := (zR κ soWhole a0)) W40 (by rw [← ew1]; exact ty_soWhole W40 T40_0) Zs0 (by rw [S0.1.1]; decide)
      have w24 := soF_B (c := 0) (w := (zR κ soWhole a0)) W21 (Fs.t (by rw [← ew1]; exact ty_soWhole W40 T40_0) (by decide)) Zl0 (by rw [S0.1.1]; decide)
      have s24 := soF_B (c := 0) (w := (zR κ soSum a0)) W21 (Fs.t (by rw [← es1]; exact ty_soSum W40 T40_0) (by decide)) Zl0 (by rw [h7]; decide)
      unfold w_So_showVisits_125
      refine ⟨fun n l0 l1 l3 l4 l5 τ => n = (l4.toInt - l5.toInt).toNat ∧ (a0 = l0 ∧ a1 = l1 ∧ a3 = l3 ∧ (zF (soF ρ shR9 (zR κ soCalc a0)) κ τ ∧ nmI ρ τ ∧ soI ρ τ a0) ∧ (nuN τ (zR κ soWhole a0) < pB9 1490 ∧ l4.toInt = (n9 : Int)) ∧ (0 ≤ l5.toInt ∧ l5.toInt ≤ l4.toInt) ∧ nuN τ (zR κ soSum a0) ≤ (nuN τ (zR κ soWhole a0) + 1) * (1 + l5.toNatClampNeg * sM9) ∧ nuN τ (zR κ soLess a0) ≤ (nuN τ (zR κ soWhole a0) + 1) * (1 + l5.toNatClampNeg * sM9)), ⟨_, rfl, ?_⟩, ?_⟩
      · refine ⟨rfl, rfl, rfl, ⟨Zl, nm_1 W21 N19 Fl (by rw [h8]; exact Il), so_1 W21 T19 S19 Fl⟩, ⟨by rw [w24.2.1, w19.2.1]; exact lw1, e4⟩, ⟨by decide, by rw [t0i]; omega⟩, ?_, ?_⟩
        · rw [s24.2.1, Vs]; exact Nat.zero_le _
        · rw [Vl]; exact Nat.zero_le _
      rintro n125 _ _ _ x125_4 x125_5 κ125 W125 T125_0 T125_1 ⟨hn125, rfl, rfl, rfl, i125⟩
      obtain ⟨⟨Z2, N2, S2⟩, ⟨lw2, e42⟩, l52, B1, B2⟩ := i125
      have X2 := suX9_f W Ta0 Z2 X0
      have V2 := vsI9_f W Ta0 N0 Z2 hn shR9_l V0
      have kd := cnk l52.1
      have ew2 : zR κ125 soWhole a0 = (zR κ soWhole a0) := (soF_r9 Z2 (by decide)).1
      have es2 : zR κ125 soSum a0 = (zR κ soSum a0) := (soF_r9 Z2 (by decide)).1
      have el2 : zR κ125 soLess a0 = (zR κ soLess a0) := (soF_r9 Z2 (by decide)).1
      have ep2 : zR κ125 soPart a0 = (zR κ soPart a0) := (soF_r9 Z2 (by decide)).1
      have ec2 : zR κ125 soCalc a0 = (zR κ soCalc a0) := (soF_r9 Z2 (by decide)).1
      have xv2 := X2.1.2
      have gM2 := X2.1.1.1
      have b11 : ∀ x, x ≤ (nuN κ125 (zR κ soWhole a0) + 1) * (1 + x125_5.toNatClampNeg * sM9) → x < pB9 4000 := fun x h => sB_9 lw2 (by omega) h
      have hj153 : ∀ (l0 : Nat) (l1 : Int32) (l3 : Nat) (l4 : Int32) (l5 : Int32) (s0 : Int64) (τ : zS), zW C (zn κ) τ → zT τ l0 = 12 → zT τ l3 = 11 → (a0 = l0 ∧ a1 = l1 ∧ a3 = l3 ∧ (zF (soF ρ shR9 (zR κ soCalc a0)) κ τ ∧ nmI ρ τ ∧ soI ρ τ a0) ∧ (κ125 = τ ∧ x125_5 = l5 ∧ x125_4 = l4) ∧ l5.toInt < l4.toInt ∧ (-2147483648 ≤ s0.toInt ∧ s0.toInt < 2147483648)) → w_So_showVisits_153 C (zn κ) Q (fun (l0' : Nat) (l1' : Int32) (l3' : Nat) (l4' : Int32) (l5' : Int32) (τ : zS) => ∃ k < n125, (fun (n : Nat) (l0 : Nat) (l1 : Int32) (l3 : Nat) (l4 : Int32) (l5 : Int32) (τ : zS) => n = (l4.toInt - l5.toInt).toNat ∧ (a0 = l0 ∧ a1 = l1 ∧ a3 = l3 ∧ (zF (soF ρ shR9 (zR κ soCalc a0)) κ τ ∧ nmI ρ τ ∧ soI ρ τ a0) ∧ (nuN τ (zR κ soWhole a0) < pB9 1490 ∧ l4.toInt = (n9 : Int)) ∧ (0 ≤ l5.toInt ∧ l5.toInt ≤ l4.toInt) ∧ nuN τ (zR κ soSum a0) ≤ (nuN τ (zR κ soWhole a0) + 1) * (1 + l5.toNatClampNeg * sM9) ∧ nuN τ (zR κ soLess a0) ≤ (nuN τ (zR κ soWhole a0) + 1) * (1 + l5.toNatClampNeg * sM9))) k l0' l1' l3' l4' l5' τ) l0 l1 l3 l4 l5 s0 τ := by
        rintro _ _ _ y153_4 y153_5 y153_s0 τ153 W153 T153_0 T153_1 ⟨rfl, rfl, rfl, j153⟩
        unfold w_So_showVisits_153
        obtain ⟨_, ⟨e153, e1535, e1534⟩, lt153, ⟨s01, s02⟩⟩ := j153
        subst e153
        subst e1535
        subst e1534
        obtain ⟨v1, v2, v3⟩ := V2 x125_5.toNatClampNeg (by omega)
        have ix := cn1 (x := x125_5) (by omega) (by omega)
        refine ⟨?_, ?_⟩
        · rw [inb_iff]; omega  -- b11
        refine ex_some ?_ (fun u28 hu28 => ?_)
        · exact ⟨_, v1⟩  -- e12
        refine ⟨fun c29 => ?_, fun c29 => ?_⟩
        · skip
          intro x30 hx30
          refine ⟨_, ?_, rfl, ?_⟩
          · rw [hn125, hx30, ix.2]; omega  -- d13
          · exact ⟨rfl, rfl, rfl, ⟨Z2, N2, S2⟩, ⟨lw2, e42⟩, ⟨by rw [hx30, ix.2]; omega, by rw [hx30, ix.2]; omega⟩, by rw [hx30, ix.1]; exact sm_m9 B1, by rw [hx30, ix.1]; exact sm_m9 B2⟩  -- i14
        · skip
          refine ⟨fun c31 => ?_, fun c31 => ?_⟩
          · skip
            intro x32 hx32
            refine ⟨_, ?_, rfl, ?_⟩
            · rw [hn125, hx32, ix.2]; omega  -- d15
            · exact ⟨rfl, rfl, rfl, ⟨Z2, N2, S2⟩, ⟨lw2, e42⟩, ⟨by rw [hx32, ix.2]; omega, by rw [hx32, ix.2]; omega⟩, by rw [hx32, ix.1]; exact sm_m9 B1, by rw [hx32, ix.1]; exact sm_m9 B2⟩  -- i16
          · skip
            refine ⟨?_, ?_⟩
            · rw [inb_iff]; omega  -- b17
            refine ex_some ?_ (fun u33 hu33 => ?_)
            · exact ⟨_, v1⟩  -- e18
            intro T34
            intro T35
            have eu : u33 = vU9 κ125 a0 x125_5.toNatClampNeg := Option.some.inj (hu33.symm.trans v1)
            subst eu
            have ev : u28 = vU9 κ125 a0 x125_5.toNatClampNeg := Option.some.inj (hu28.symm.trans v1)
            rw [ev] at c29
            obtain ⟨v5, v6, v7⟩ := v3 c29
            have gs := ra_g9 N2 v2 (by omega) (by omega) (by omega)
            have h20' : ρ (zR κ125 soPart a0) = 20 := by rw [ep2]; exact h20
            have gp := ra_t9 N2 h20' (Or.inl rfl)
            have kt := k256 gs.2.2.2.1 v5
            have kb := k256 gs.2.2.2.2.1 v6
            refine Ra_copy_c W153 T34 T35 6500 ?_ (fun κ_36 q37 => ?_)
            · exact ⟨gp.2.1, ⟨nuI_mono (by decide) gs.2.2.2.1, nuI_mono (by decide) gs.2.2.2.2.1, gs.2.2.2.2.2⟩, ⟨ro_n gp.1.1 gs.2.1.1 (by omega), ro_n gp.1.1 gs.2.1.2 (by omega), ro_n gp.1.2 gs.2.1.1 (by omega), ro_n gp.1.2 gs.2.1.2 (by omega)⟩, ⟨by omega, by omega⟩, by decide⟩  -- p19
            obtain ⟨Zc, Jc, Vc⟩ := q37
            have R6 := ra_s9 W125 T125_0 N2 S2 h20' (Or.inl rfl) Zc Jc
            have Z6 := R6.2 (zR κ soCalc a0)
            have T36 : zT κ_36 a0 = 12 := Z6.t T125_0 (by decide)
            have ep6 : zR κ_36 soPart a0 = zR κ125 soPart a0 := (soF_r9 Z6 (by decide)).1
            have ew6 : zR κ_36 soWhole a0 = (zR κ soWhole a0) := (soF_r9 Z6 (by decide)).1.trans ew2
            have es6 : zR κ_36 soSum a0 = (zR κ soSum a0) := (soF_r9 Z6 (by decide)).1.trans es2
            have el6 : zR κ_36 soLess a0 = (zR κ soLess a0) := (soF_r9 Z6 (by decide)).1.trans el2
            have ec6 : zR κ_36 soCalc a0 = (zR κ soCalc a0) := (soF_r9 Z6 (by decide)).1.trans ec2
            have w6 := soF_B (c := 0) (w := (zR κ soWhole a0)) W125 (by rw [← ew2]; exact ty_soWhole W125 T125_0) Z6 (by rw [S0.1.1]; decide)
            have s6 := soF_B (c := 0) (w := (zR κ soSum a0)) W125 (by rw [← es2]; exact ty_soSum W125 T125_0) Z6 (by rw [h7]; decide)
            have l6 := soF_B (c := 0) (w := (zR κ soLess a0)) W125 (by rw [← el2]; exact ty_soLess W125 T125_0) Z6 (by rw [h8]; decide)
            intro W38
            intro M39
            intro T40
            refine So_addTerm_c2 W38 T40 ρ ?_ (fun κ_41 q42 => ?_)
            · rw [ep6, ew6, es6, el6, w6.2.1, s6.2.1, l6.2.1, Vc.2.1]
              exact ⟨R6.1, ⟨by omega, by omega⟩, ⟨Nat.lt_of_lt_of_le lw2 l20, Nat.lt_of_lt_of_le v5 h256⟩, b11 _ B1, b11 _ B2⟩
            intro W43
            intro M44
            intro x45 hx45
            rw [ep6, ew6, es6, el6, ec6, w6.2.1, s6.2.1, l6.2.1, Vc.2.1] at q42
            obtain ⟨Za, Na, A1, A2⟩ := q42
            have Zf : zF (soF ρ shR9 (zR κ soCalc a0)) κ κ_41 := (Z2.tr (soF_m (fun r z => by unfold shR9; omega) Z6)).tr (soF_m (fun r z => by unfold shR9; rcases z with z | z | z | z | z | z <;> omega) Za)
            have w41 := soF_B (c := 0) (w := (zR κ soWhole a0)) W38 (by rw [← ew6]; exact ty_soWhole W38 T36) Za (by rw [S0.1.1]; unfold adR9; decide)
            have tmb : nuN κ125 (zR κ125 raTop (vU9 κ125 a0 x125_5.toNatClampNeg)) * y153_s0.toInt.natAbs * (nuN κ125 (zR κ soWhole a0) + 1) ≤ (nuN κ125 (zR κ soWhole a0) + 1) * sM9 := tm_c9 v5 (by omega)
            refine ⟨_, ?_, rfl, ?_⟩
            · rw [hn125, hx45, ix.2]; omega  -- d21
            · refine ⟨rfl, rfl, rfl, ⟨Zf, Na⟩, ⟨by rw [w41.2.1, w6.2.1]; exact lw2, e42⟩, ⟨by rw [hx45, ix.2]; omega, by rw [hx45, ix.2]; omega⟩, ?_, ?_⟩
              · rw [hx45, ix.1, w41.2.1, w6.2.1]
                by_cases z : 0 < y153_s0.toInt
                · exact Nat.le_trans (A1 z).1 (sm_s9 B1 tmb)
                · rw [(A2 z).2]; exact sm_m9 B1
              · rw [hx45, ix.1, w41.2.1, w6.2.1]
                by_cases z : 0 < y153_s0.toInt
                · rw [(A1 z).2]; exact sm_m9 B2
                · exact Nat.le_trans (A2 z).1 (sm_s9 B2 tmb)
      refine ⟨fun c46 => ?_, fun c46 => ?_⟩
      · skip
        intro T47
        intro T48
        refine So_settle_c W125 T47 T48 ρ 1 ?_ (fun κ_49 q50 => ?_)
        · rw [ew2, es2, el2]
          exact ⟨⟨N2, S2⟩, ⟨S0.1.1, Or.inl rfl⟩, Nat.lt_of_lt_of_le lw2 (pB9_l (by decide)), b11 _ B1, b11 _ B2⟩
        rw [ew2, es2, el2, ec2] at q50
        obtain ⟨Zt, ⟨Nt, St⟩, O⟩ := q50
        have T49 : zT κ_49 a0 = 12 := Zt.t T125_0 (by decide)
        have ep49 : zR κ_49 soPart a0 = zR κ125 soPart a0 := (soF_r9 Zt (by decide)).1
        have h20' : ρ (zR κ_49 soPart a0) = 20 := by rw [ep49, ep2]; exact h20
        have gp := ra_t9 Nt h20' (Or.inl rfl)
        have go := ra_t9 Nt r30 (Or.inr rfl)
        have et49 : zR κ_49 raTop (zR κ_49 soPart a0) = zR κ125 raTop (zR κ125 soPart a0) := by rw [ep49, (soF_r9 Zt (f := raTop) (by decide)).1]
        have eb49 : zR κ_49 raBottom (zR κ_49 soPart a0) = zR κ125 raBottom (zR κ125 soPart a0) := by rw [ep49, (soF_r9 Zt (f := raBottom) (by decide)).1]
        have lt4 : nuN κ_49 (zR κ_49 raTop (zR κ_49 soPart a0)) < pB9 4000 ∧ nuN κ_49 (zR κ_49 raBottom (zR κ_49 soPart a0)) < pB9 4000 := by
          rw [et49, eb49]
          have p4 : 1 < pB9 4000 := Nat.lt_of_lt_of_le (show 1 < pB9 1 by unfold pB9; decide) (pB9_l (by decide))
          rcases O with ⟨_, _, o1', o2'⟩ | ⟨_, _, o1', o2'⟩
          · rw [o1', o2']
            exact ⟨pB9_p, p4⟩
          · rw [o1', o2']
            refine ⟨Nat.lt_of_le_of_lt (Nat.div_le_self _ _) ?_, Nat.lt_of_le_of_lt (Nat.div_le_self _ _) (Nat.lt_of_lt_of_le lw2 (pB9_l (by decide)))⟩
            have q1 := b11 _ B1
            have q2 := b11 _ B2
            generalize pB9 4000 = B at *
            omega
        have kt := nuK_lt gp.2.2.1 lt4.1
        have kb := nuK_lt gp.2.2.2.1 lt4.2
        intro W51
        intro M52
        intro T53
        intro T54
        refine Ra_copy_c W51 T53 T54 6500 ?_ (fun κ_55 q56 => ?_)
        · exact ⟨go.2.1, ⟨nuI_mono (by decide) gp.2.2.1, nuI_mono (by decide) gp.2.2.2.1, gp.2.2.2.2⟩, ⟨ro_n go.1.1 gp.1.1 (by decide), ro_n go.1.1 gp.1.2 (by decide), ro_n go.1.2 gp.1.1 (by decide), ro_n go.1.2 gp.1.2 (by decide)⟩, ⟨by omega, by omega⟩, by decide⟩  -- p24
        intro W57
        intro M58
        refine h _ ?_
        · obtain ⟨Zc, Jc, Vc⟩ := q56
          have R5 := ra_s9 W51 T49 Nt St r30 (Or.inr rfl) Zc Jc
          have Z5 := R5.2 (zR κ soCalc a0)
          have l49 := soF_B (c := 0) (w := (zR κ soLess a0)) W125 (by rw [← el2]; exact ty_soLess W125 T125_0) Zt (by rw [h8]; unfold stR9; decide)
          have l55 := soF_B (c := 0) (w := (zR κ soLess a0)) W51 (Zt.t (by rw [← el2]; exact ty_soLess W125 T125_0) (by decide)) Z5 (by rw [h8]; decide)
          refine ⟨⟨(Z2.tr (soF_m (fun r z => by unfold shR9; rcases z with z | z | z | z <;> omega) Zt)).tr (soF_m (fun r z => by unfold shR9; omega) Z5), R5.1⟩, Or.inl ?_⟩
          rw [l55.2.1, l49.2.1]
          exact b11 _ B2
      · skip
        refine ⟨fun c59 => ?_, fun c59 => ?_⟩
        · skip
          refine ⟨?_, ?_⟩
          · rw [lei] at c46
            rw [inb_iff, gM2.2.2.1]; omega
          refine hj153 _ _ _ _ _ _ _ W125 ?_ ?_ ?_
          · assumption  -- t27
          · assumption  -- t28
          · rw [lei] at c46
            have e := Int32.toInt_toInt64 (zA κ125 (zR κ125 atGains (zR κ125 soAtlas a0)) x125_5.toNatClampNeg)
            have e1 := ilo (zA κ125 (zR κ125 atGains (zR κ125 soAtlas a0)) x125_5.toNatClampNeg)
            have e2 := ihi (zA κ125 (zR κ125 atGains (zR κ125 soAtlas a0)) x125_5.toNatClampNeg)
            exact ⟨rfl, rfl, rfl, ⟨Z2, N2, S2⟩, ⟨rfl, rfl, rfl⟩, by omega, by omega, by omega⟩
        · skip
          refine hj153 _ _ _ _ _ _ _ W125 ?_ ?_ ?_
          · assumption  -- t30
          · assumption  -- t31
          · rw [lei] at c46
            exact ⟨rfl, rfl, rfl, ⟨Z2, N2, S2⟩, ⟨rfl, rfl, rfl⟩, by omega, by decide⟩
    · skip
      rw [lei] at c17
      obtain ⟨v1, v2, v3⟩ := V1 x40_5.toNatClampNeg (by omega)
      have ix := cn1 (x := x40_5) (by omega) (by omega)
      refine ⟨?_, ?_⟩
      · rw [inb_iff]; omega  -- b33
      refine ex_some ?_ (fun u60 hu60 => ?_)
      · exact ⟨_, v1⟩  -- e34
      have eu : u60 = vU9 κ40 a0 x40_5.toNatClampNeg := Option.some.inj (hu60.symm.trans v1)
      subst eu
      refine ⟨fun c61 => ?_, fun c61 => ?_⟩
      · skip
        intro x62 hx62
        refine ⟨_, ?_, rfl, ?_⟩
        · rw [hn40, hx62, ix.2]; omega  -- d35
        · exact ⟨rfl, rfl, rfl, ⟨Z1, N1, S1⟩, D1, e4, ⟨by rw [hx62, ix.2]; omega, by rw [hx62, ix.2]; omega⟩⟩  -- i36
      · skip
        refine ⟨fun c63 => ?_, fun c63 => ?_⟩
        · skip
          refine hj79 _ _ _ _ _ _ W40 ?_ ?_ ?_
          · assumption  -- t37
          · assumption  -- t38
          · exact ⟨rfl, rfl, rfl, ⟨Z1, N1, S1⟩, ⟨rfl, rfl, rfl⟩, by omega, c61⟩  -- k39
        · skip
          refine ⟨?_, ?_⟩
          · rw [inb_iff, gM1.2.2.1]; omega  -- b40
          refine ⟨fun c64 => ?_, fun c64 => ?_⟩
          · skip
            intro x65 hx65
            refine ⟨_, ?_, rfl, ?_⟩
            · rw [hn40, hx65, ix.2]; omega  -- d41
            · exact ⟨rfl, rfl, rfl, ⟨Z1, N1, S1⟩, D1, e4, ⟨by rw [hx65, ix.2]; omega, by rw [hx65, ix.2]; omega⟩⟩  -- i42
          · skip
            refine hj79 _ _ _ _ _ _ W40 ?_ ?_ ?_
            · assumption  -- t43
            · assumption  -- t44
            · exact ⟨rfl, rfl, rfl, ⟨Z1, N1, S1⟩, ⟨rfl, rfl, rfl⟩, by omega, c61⟩  -- k45
  · skip
    refine ⟨?_, ?_⟩
    · have q := p8 c1
      rw [inb_iff]; omega
    refine ex_some ?_ (fun u66 hu66 => ?_)
    · have q := p8 c1
      have k := cnk q.1
      exact ⟨_, (V0 a2.toNatClampNeg (by omega)).1⟩
    intro T67
    intro T68
    have q := p8 c1
    have k := cnk q.1
    obtain ⟨v1, v2, v3⟩ := V0 a2.toNatClampNeg (by omega)
    have eu : u66 = vU9 κ a0 a2.toNatClampNeg := Option.some.inj (hu66.symm.trans v1)
    subst eu
    have gs := ra_g9 N0 v2 (by omega) (by omega) (by omega)
    have go := ra_t9 N0 r30 (Or.inr rfl)
    have kt := nuK_c9 gs.2.2.2.1
    have kb := nuK_c9 gs.2.2.2.2.1
    refine Ra_copy_c W T67 T68 6500 ?_ (fun κ_69 q70 => ?_)
    · exact ⟨go.2.1, ⟨nuI_mono (by decide) gs.2.2.2.1, nuI_mono (by decide) gs.2.2.2.2.1, gs.2.2.2.2.2⟩, ⟨ro_n go.1.1 gs.2.1.1 (by omega), ro_n go.1.1 gs.2.1.2 (by omega), ro_n go.1.2 gs.2.1.1 (by omega), ro_n go.1.2 gs.2.1.2 (by omega)⟩, ⟨by omega, by omega⟩, by decide⟩  -- p48
    intro W71
    intro M72
    refine h _ ?_
    · obtain ⟨Zc, Jc, Vc⟩ := q70
      have R5 := ra_s9 W Ta0 N0 S0 r30 (Or.inr rfl) Zc Jc
      have Z5 := R5.2 (zR κ soCalc a0)
      have l5 := soF_B (c := 0) W (ty_soLess W Ta0) Z5 (by rw [h8]; decide)
      exact ⟨⟨soF_m (fun r z => by unfold shR9; omega) Z5, R5.1⟩, Or.inr l5.2.1⟩
