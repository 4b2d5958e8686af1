set_option maxHeartbeats 1600000
/-! the class: Solver's unit -/
theorem raF_q {t b p f x : Nat} (h1 : f ≠ nuLimbs) (h2 : f ≠ nuLength) (h3 : f ≠ raSign) : ¬ raF t b p f x := fun z => by
  rcases z with ⟨_, z | z⟩ | ⟨_, z⟩
  · exact h1 z
  · exact h2 z
  · exact h3 z
/-- a state's divisor -/
def dvA (κ : zS) (x k : Nat) : Int32 := if zA κ (zR κ atChooses x) k = 0 then zA κ (zR κ atTotals x) k else 1
theorem at_ra {C : zC} {n0 t b p x : Nat} {κ τ : zS} (W : zW C n0 κ) (T : zT κ x = 3) (Z : zF (raF t b p) κ τ) (M : atM κ x) : atM τ x ∧ ∀ k, dvA τ x k = dvA κ x k := by
  have r : ∀ f, f ≠ nuLimbs → f ≠ nuLength → f ≠ raSign → zR τ f x = zR κ f x := fun f h1 h2 h3 => raF_r Z h1 h2 h3
  have c := (Z.row W (show zr atChooses = some 23 by decide +kernel) (by decide) T (raF_q (by decide) (by decide) (by decide))).1
  have d := (Z.row W (show zr atTotals = some 20 by decide +kernel) (by decide) T (raF_q (by decide) (by decide) (by decide))).1
  refine ⟨?_, fun k => ?_⟩
  · unfold atM
    rw [r atFirsts (by decide) (by decide) (by decide), r atTotals (by decide) (by decide) (by decide), r atGains (by decide) (by decide) (by decide), r atPlan (by decide) (by decide) (by decide), r atChooses (by decide) (by decide) (by decide), r atHopeless (by decide) (by decide) (by decide), Z.l (ty_atFirsts W T), Z.l (ty_atTotals W T), Z.l (ty_atGains W T), Z.l (ty_atPlan W T), Z.l (ty_atChooses W T), Z.l (ty_atHopeless W T)]
    exact M
  · unfold dvA
    rw [c, d]
def unR9 : Nat → Prop := fun r => r = 20 ∨ r = 21 ∨ r = 22
theorem So_unit_c {C : zC} {n0 : Nat} {a0 : Nat} {a1 : Int32} {κ : zS} {Q : zS → Prop} (W : zW C n0 κ) (Ta0 : zT κ a0 = 12) (ρ : Nat → Nat) (u9 : Nat) (hp : (nmI ρ κ ∧ soI ρ κ a0) ∧ atM κ (zR κ soAtlas a0) ∧ (0 ≤ a1.toInt ∧ a1.toInt < 1000 ∧ a1.toInt < (zN κ (zR κ soVisits a0))) ∧ (zQ κ (zR κ soVisits a0) a1.toNatClampNeg = some u9 ∧ ρ u9 = 100 + 8 * a1.toNatClampNeg) ∧ (nuN κ (zR κ raTop u9) < 2 ^ 256 ∧ nuN κ (zR κ raBottom u9) < 2 ^ 256 ∧ 0 < nuN κ (zR κ raBottom u9))) (h : ∀ (κ' : zS), ((zF (soF ρ unR9 (zR κ soCalc a0)) κ κ' ∧ nmI ρ κ' ∧ soI ρ κ' a0) ∧ (zI κ' raSign (zR κ soPart a0)).toInt = (zI κ raSign u9).toInt ∧ nuN κ' (zR κ raTop (zR κ soPart a0)) ≤ nuN κ (zR κ raTop u9) ∧ 0 < nuN κ' (zR κ raBottom (zR κ soPart a0)) ∧ nuN κ' (zR κ raBottom (zR κ soPart a0)) ∣ nuN κ (zR κ raBottom u9) * (if (dvA κ (zR κ soAtlas a0) a1.toNatClampNeg).toInt ≤ 1 then 1 else (dvA κ (zR κ soAtlas a0) a1.toNatClampNeg).toInt.toNat)) → Q κ') : zRun C 4 mSo_unit [.ref a0, .int a1] κ (oV Q noX) := by
  refine So_unit_run W Ta0 ?_
  replace W := W.lo (Nat.le_trans W.1.2.1 W.1.2.2) (Nat.le_refl (zn κ))
  unfold w_So_unit_0
  obtain ⟨⟨N0, S0⟩, M0, p1, ⟨hq, hu⟩, q1, q2, q3⟩ := hp
  have h20 := S0.1.2.2.2.2.2.2
  have P20 := N0.2 (zR κ soPart a0) (by rw [h20]; exact Or.inl rfl)
  have h21 : ρ (zR κ raTop (zR κ soPart a0)) = 21 := by rw [P20.2.1, h20]
  have h22 : ρ (zR κ raBottom (zR κ soPart a0)) = 22 := by rw [P20.2.2, h20]
  have m21 : nmR 21 := Or.inr (Or.inl rfl)
  have m22 : nmR 22 := Or.inr (Or.inr (Or.inl rfl))
  have kn := cnk p1.1
  have ru : raR (ρ u9) := by rw [hu]; exact Or.inr (Or.inr ⟨by omega, by omega, by omega⟩)
  have PU := N0.2 u9 ru
  have hu1 : ρ (zR κ raTop u9) = 101 + 8 * a1.toNatClampNeg := by rw [PU.2.1, hu]; omega
  have hu2 : ρ (zR κ raBottom u9) = 102 + 8 * a1.toNatClampNeg := by rw [PU.2.2, hu]; omega
  have g21 := nm_g N0 h21 m21 (by decide)
  have g22 := nm_g N0 h22 m22 (by decide)
  have gu1 := nm_g N0 PU.2.1 (raR_n ru).1 (by omega)
  have gu2 := nm_g N0 PU.2.2 (raR_n ru).2 (by omega)
  have k1 := k256 gu1.1 q1
  have k2 := k256 gu2.1 q2
  have tp21 : zT κ (zR κ raTop (zR κ soPart a0)) = 8 := ty_raTop W P20.1
  have tp22 : zT κ (zR κ raBottom (zR κ soPart a0)) = 8 := ty_raBottom W P20.1
  have hj60 : ∀ (l0 : Nat) (l2 : Int32) (l3 : Int32) (τ : zS), zW C (zn κ) τ → zT τ l0 = 12 → (a0 = l0 ∧ ((zF (soF ρ unR9 (zR κ soCalc a0)) κ τ ∧ nmI ρ τ ∧ soI ρ τ a0) ∧ zR τ raBottom (zR τ soPart a0) = (zR κ raBottom (zR κ soPart a0))) ∧ ((zI τ raSign (zR κ soPart a0)).toInt = (zI κ raSign u9).toInt ∧ nuN τ (zR κ raTop (zR κ soPart a0)) ≤ nuN κ (zR κ raTop u9) ∧ nuN τ (zR κ raBottom (zR κ soPart a0)) = nuN κ (zR κ raBottom u9)) ∧ (1 < l2.toInt ∧ l2 = dvA κ (zR κ soAtlas a0) a1.toNatClampNeg) ∧ 0 < l3.toInt ∧ l3.toInt.toNat ∣ l2.toInt.toNat) → w_So_unit_60 C (zn κ) Q  l0 l2 l3 τ := by
    rintro _ y60_2 y60_3 τ60 W60 T60_0 ⟨rfl, j60⟩
    unfold w_So_unit_60
    obtain ⟨⟨⟨Z1, N1, S1⟩, eb1⟩, ⟨sg, t1, b1⟩, ⟨l2, rfl⟩, l3, ld⟩ := j60
    have f22 := nm_g N1 h22 m22 (by decide)
    have d5 := i_divn (x := dvA κ (zR κ soAtlas a0) a1.toNatClampNeg) (y := y60_3) (by omega) l3
    have e5 : (dvA κ (zR κ soAtlas a0) a1.toNatClampNeg / y60_3).toInt64.toInt = (dvA κ (zR κ soAtlas a0) a1.toNatClampNeg / y60_3).toInt := Int32.toInt_toInt64 _
    have i5 := ihi (dvA κ (zR κ soAtlas a0) a1.toNatClampNeg / y60_3)
    have kb := k256 f22.1 (by rw [b1]; exact q2)
    refine ⟨?_, ?_⟩
    · exact i_n0 l3  -- b1
    intro T1
    refine Nu_times_c W60 T1 6500 ?_ (fun κ_2 q3 => ?_)
    · rw [eb1]
      exact ⟨f22.1, ⟨by rw [e5]; exact d5.2.2, by rw [e5]; omega⟩, by omega, by decide⟩
    intro W4
    intro M5
    refine h _ ?_
    · rw [eb1, e5, d5.2.1, b1] at q3
      obtain ⟨F, I, V⟩ := q3
      have bt := nuB_z (c := 6500) W60 (Z1.t tp21 (by decide)) F (fun z => ro_n h21 h22 (by decide) z.1) (fun z => ro_n h21 h22 (by decide) z.1)
      refine ⟨⟨Z1.tr (soF_1 (by rw [h22]; exact Or.inr (Or.inr rfl)) F), nm_1 W60 N1 F (by rw [h22]; exact I), so_1 W60 T60_0 S1 F⟩, by rw [nuF_i F]; exact sg, by rw [bt.2.2.1]; exact t1, by rw [V]; exact Nat.mul_pos (by assumption) (dv_p (by omega) ld), ?_⟩
      rw [V, if_neg (by omega)]
      exact Nat.mul_dvd_mul (Nat.dvd_refl _) (Nat.div_dvd_of_dvd ld)
  refine ⟨?_, ?_⟩
  · rw [inb_iff]; omega  -- b4
  refine ex_some ?_ (fun u6 hu6 => ?_)
  · exact ⟨u9, hq⟩  -- e5
  intro T7
  intro T8
  have eu : u6 = u9 := Option.some.inj (hu6.symm.trans hq)
  subst eu
  refine Ra_copy_c W T7 T8 6500 ?_ (fun κ_9 q10 => ?_)
  · exact ⟨⟨g21.2.2, g22.2.2, ro_n h21 h22 (by decide)⟩, ⟨gu1.2.1, gu2.2.1, ro_n hu1 hu2 (by omega)⟩, ⟨ro_n h21 hu1 (by omega), ro_n h21 hu2 (by omega), ro_n h22 hu1 (by omega), ro_n h22 hu2 (by omega)⟩, ⟨by omega, by omega⟩, by decide⟩  -- p6
  obtain ⟨Z9, J9, V9⟩ := q10
  have e1 : zR κ_9 raTop (zR κ soPart a0) = (zR κ raTop (zR κ soPart a0)) := raF_r Z9 (by decide) (by decide) (by decide)
  have e2 : zR κ_9 raBottom (zR κ soPart a0) = (zR κ raBottom (zR κ soPart a0)) := raF_r Z9 (by decide) (by decide) (by decide)
  have e3 : zR κ_9 soPart a0 = (zR κ soPart a0) := raF_r Z9 (by decide) (by decide) (by decide)
  have e4 : zR κ_9 soAtlas a0 = zR κ soAtlas a0 := raF_r Z9 (by decide) (by decide) (by decide)
  unfold raJ at J9
  unfold raV at V9
  rw [e1, e2] at J9 V9
  have R9 := nm_ra W Ta0 N0 S0 h20 (Or.inl rfl) Z9 J9.1 J9.2.1
  have A9 := at_ra W (ty_soAtlas W Ta0) Z9 M0
  have T9 : zT κ_9 a0 = 12 := Z9.t Ta0 (by decide)
  have Zs : zF (soF ρ unR9 (zR κ soCalc a0)) κ κ_9 := R9.2 _
  have et9 : zR κ_9 raTop (zR κ_9 soPart a0) = (zR κ raTop (zR κ soPart a0)) := by rw [e3, e1]
  have eb9 : zR κ_9 raBottom (zR κ_9 soPart a0) = (zR κ raBottom (zR κ soPart a0)) := by rw [e3, e2]
  intro W11
  intro M12
  intro T13
  refine At_divisorOf_c W11 T13  ?_ (fun r14 q16 => ?_)
  · rw [e4]
    exact ⟨A9.1, p1.1, p1.2.1⟩
  intro W17
  intro M18
  have q16' : r14 = dvA κ (zR κ soAtlas a0) a1.toNatClampNeg := by
    rw [e4] at q16
    exact q16.trans (A9.2 _)
  refine ⟨fun c19 => ?_, fun c19 => ?_⟩
  · skip
    refine h _ ?_
    · rw [lei, t1i] at c19
      rw [q16'] at c19
      refine ⟨⟨Zs, R9.1⟩, V9.1, Nat.le_of_eq V9.2.1, by rw [V9.2.2]; exact q3, ?_⟩
      rw [V9.2.2, if_pos c19, Nat.mul_one]
      exact Nat.dvd_refl _
  · skip
    intro T20
    rw [lei, t1i] at c19
    refine Nu_rest_c W17 T20 30000000 ?_ (fun r21 q23 => ?_)
    · rw [et9]
      exact ⟨nuI_mono (by decide) J9.1, by omega⟩
    intro W24
    intro M25
    have r0 : 0 ≤ r21.toInt := by rw [q23]; exact Int.natCast_nonneg _
    refine Ch_commonInt_c W24   ?_ (fun r26 q28 => ?_)
    · exact ⟨by omega, r0⟩  -- p10
    have gd : r26.toInt.toNat ∣ r14.toInt.toNat := by
      rcases q28.2 with z | z
      · rw [z]; exact Nat.gcd_dvd_left _ _
      · omega
    have g0 := q28.1
    intro W29
    intro M30
    refine ⟨fun c31 => ?_, fun c31 => ?_⟩
    · skip
      refine hj60 _ _ _ _ W29 ?_ ?_
      · exact T9  -- t11
      · exact ⟨rfl, ⟨⟨Zs, R9.1⟩, eb9⟩, ⟨V9.1, Nat.le_of_eq V9.2.1, V9.2.2⟩, ⟨by omega, q16'⟩, by omega, gd⟩  -- k12
    · skip
      intro T32
      refine Nu_over_c W29 T32 6500 ?_ (fun r33 κ_34 q35 => ?_)
      · rw [et9]
        exact ⟨J9.1, by omega⟩
      rw [et9, V9.2.1] at q35
      obtain ⟨F, I, V, _⟩ := q35
      have bb := nuB_z (c := 6500) W11 (Z9.t tp22 (by decide)) F (fun z => ro_n h22 h21 (by decide) z.1) (fun z => ro_n h22 h21 (by decide) z.1)
      have ebF : zR κ_34 raBottom (zR κ_34 soPart a0) = (zR κ raBottom (zR κ soPart a0)) := by rw [nuF_r F (by decide) (by decide), nuF_r F (by decide) (by decide), eb9]
      intro W36
      intro M37
      refine hj60 _ _ _ _ W36 ?_ ?_
      · exact F.t T9 (by decide)  -- t14
      · exact ⟨rfl, ⟨⟨Zs.tr (soF_1 (by rw [h21]; exact Or.inr (Or.inl rfl)) F), nm_1 W11 R9.1.1 F (by rw [h21]; exact I), so_1 W11 T9 R9.1.2 F⟩, ebF⟩, ⟨by rw [nuF_i F]; exact V9.1, by rw [V]; exact Nat.div_le_self _ _, by rw [bb.2.2.1]; exact V9.2.2⟩, ⟨by omega, q16'⟩, by omega, gd⟩  -- k15
