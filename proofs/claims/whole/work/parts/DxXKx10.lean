section
set_option maxHeartbeats 1600000
/-! the class: what a state brings for each one of a weight, by its value -/
theorem un_q15 {q : Rat} {t b d g : Nat} (ht : t = q.num.natAbs) (hb : b = q.den) (d0 : 0 < d) (hg : g = Nat.gcd t d) : t / g = (q * mkRat 1 d).num.natAbs ∧ b * (d / g) = (q * mkRat 1 d).den ∧ q.num.sign = (q * mkRat 1 d).num.sign := by
  have e : q * mkRat 1 d = mkRat q.num (q.den * d) := by
    have s : q = mkRat q.num q.den := (Rat.mkRat_self q).symm
    have m := Rat.mkRat_mul_mkRat q.num 1 q.den d
    rw [← s, Int.mul_one] at m
    exact m
  have D : 0 < q.den * d := Nat.mul_pos (Nat.pos_of_ne_zero q.den_nz) d0
  have m := mk_n8 (n := q.num) D
  have c : Nat.gcd q.num.natAbs (q.den * d) = g := by
    rw [hg, ht]
    exact Nat.Coprime.gcd_mul_left_cancel_right d q.reduced.symm
  rw [c] at m
  have gd : g ∣ d := by rw [hg]; exact Nat.gcd_dvd_right _ _
  rw [e]
  exact ⟨by rw [m.1, ht], by rw [m.2.1, hb, Nat.mul_div_assoc _ gd], m.2.2.symm⟩
theorem gc_q15 {t d : Nat} : Nat.gcd d (t % d) = Nat.gcd t d := by
  rw [Nat.gcd_comm, ← Nat.gcd_rec, Nat.gcd_comm]
theorem on_q15 {q : Rat} : q * mkRat 1 1 = q := by
  have e : mkRat 1 1 = 1 := rfl
  rw [e, Rat.mul_one]
theorem So_unit_q6 {C : zC} {n0 : Nat} {a0 : Nat} {a1 : Int32} {κ : zS} {Q : zS → Prop} (W : zW C n0 κ) (Ta0 : zT κ a0 = 12) (ρ : Nat → Nat) (u9 : Nat) (hp : (nmI ρ κ ∧ soI ρ κ a0) ∧ atM κ (zR κ soAtlas a0) ∧ (0 ≤ a1.toInt ∧ a1.toInt < 1000 ∧ a1.toInt < (zN κ (zR κ soVisits a0))) ∧ (zQ κ (zR κ soVisits a0) a1.toNatClampNeg = some u9 ∧ ρ u9 = 100 + 8 * a1.toNatClampNeg) ∧ (nuN κ (zR κ raTop u9) < 2 ^ 256 ∧ nuN κ (zR κ raBottom u9) < 2 ^ 256)) (h : ∀ (κ' : zS), (((zF (soF ρ unR9 (zR κ soCalc a0)) κ κ' ∧ nmI ρ κ' ∧ soI ρ κ' a0) ∧ (zI κ' raSign (zR κ soPart a0)).toInt = (zI κ raSign u9).toInt ∧ nuN κ' (zR κ raTop (zR κ soPart a0)) ≤ nuN κ (zR κ raTop u9) ∧ nuN κ' (zR κ raBottom (zR κ soPart a0)) ∣ nuN κ (zR κ raBottom u9) * (if (dvA κ (zR κ soAtlas a0) a1.toNatClampNeg).toInt ≤ 1 then 1 else (dvA κ (zR κ soAtlas a0) a1.toNatClampNeg).toInt.toNat) ∧ nuN κ' (zR κ raBottom (zR κ soPart a0)) ≤ nuN κ (zR κ raBottom u9) * (if (dvA κ (zR κ soAtlas a0) a1.toNatClampNeg).toInt ≤ 1 then 1 else (dvA κ (zR κ soAtlas a0) a1.toNatClampNeg).toInt.toNat)) ∧ (∀ q : Rat, rqW8 κ u9 q → rqW8 κ' (zR κ soPart a0) (q * mkRat 1 (dvN9 κ (zR κ soAtlas a0) a1.toNatClampNeg)))) → Q κ') : zRun C 4 mSo_unit [.ref a0, .int a1] κ (oV Q noX) := by
  refine So_unit_run W Ta0 ?_
  replace W := W.lo (Nat.le_trans W.1.2.1 W.1.2.2) (Nat.le_refl (zn κ))
  unfold w_So_unit_0
  obtain ⟨⟨N0, S0⟩, M0, p1, ⟨hq, hu⟩, q1, q2⟩ := hp
  have h20 := S0.1.2.2.2.2.2.2
  have P20 := N0.2 (zR κ soPart a0) (by rw [h20]; exact Or.inl rfl)
  have h21 : ρ (zR κ raTop (zR κ soPart a0)) = 21 := by rw [P20.2.1, h20]
  have h22 : ρ (zR κ raBottom (zR κ soPart a0)) = 22 := by rw [P20.2.2, h20]
  have m21 : nmR 21 := Or.inr (Or.inl rfl)
  have m22 : nmR 22 := Or.inr (Or.inr (Or.inl rfl))
  have kn := cnk p1.1
  have ru : raR (ρ u9) := by rw [hu]; exact Or.inr (Or.inr ⟨by omega, by omega, by omega⟩)
  have PU := N0.2 u9 ru
  have hu1 : ρ (zR κ raTop u9) = 101 + 8 * a1.toNatClampNeg := by rw [PU.2.1, hu]; omega
  have hu2 : ρ (zR κ raBottom u9) = 102 + 8 * a1.toNatClampNeg := by rw [PU.2.2, hu]; omega
  have g21 := nm_g N0 h21 m21 (by decide)
  have g22 := nm_g N0 h22 m22 (by decide)
  have gu1 := nm_g N0 PU.2.1 (raR_n ru).1 (by omega)
  have gu2 := nm_g N0 PU.2.2 (raR_n ru).2 (by omega)
  have k1 := k256 gu1.1 q1
  have k2 := k256 gu2.1 q2
  have tp21 : zT κ (zR κ raTop (zR κ soPart a0)) = 8 := ty_raTop W P20.1
  have tp22 : zT κ (zR κ raBottom (zR κ soPart a0)) = 8 := ty_raBottom W P20.1
  have hj60 : ∀ (l0 : Nat) (l2 : Int32) (l3 : Int32) (τ : zS), zW C (zn κ) τ → zT τ l0 = 12 → ((a0 = l0 ∧ ((zF (soF ρ unR9 (zR κ soCalc a0)) κ τ ∧ nmI ρ τ ∧ soI ρ τ a0) ∧ zR τ raBottom (zR τ soPart a0) = (zR κ raBottom (zR κ soPart a0))) ∧ ((zI τ raSign (zR κ soPart a0)).toInt = (zI κ raSign u9).toInt ∧ nuN τ (zR κ raTop (zR κ soPart a0)) ≤ nuN κ (zR κ raTop u9) ∧ nuN τ (zR κ raBottom (zR κ soPart a0)) = nuN κ (zR κ raBottom u9)) ∧ (1 < l2.toInt ∧ l2 = dvA κ (zR κ soAtlas a0) a1.toNatClampNeg) ∧ 0 < l3.toInt ∧ l3.toInt.toNat ∣ l2.toInt.toNat) ∧ nuN τ (zR κ raTop (zR κ soPart a0)) = nuN κ (zR κ raTop u9) / l3.toInt.toNat ∧ l3.toInt.toNat = Nat.gcd (nuN κ (zR κ raTop u9)) l2.toInt.toNat) → w_So_unit_60 C (zn κ) Q  l0 l2 l3 τ := by
    rintro _ y60_2 y60_3 τ60 W60 T60_0 ⟨⟨rfl, j60⟩, hE⟩
    unfold w_So_unit_60
    obtain ⟨⟨⟨Z1, N1, S1⟩, eb1⟩, ⟨sg, t1, b1⟩, ⟨l2, rfl⟩, l3, ld⟩ := j60
    have f22 := nm_g N1 h22 m22 (by decide)
    have d5 := i_divn (x := dvA κ (zR κ soAtlas a0) a1.toNatClampNeg) (y := y60_3) (by omega) l3
    have e5 : (dvA κ (zR κ soAtlas a0) a1.toNatClampNeg / y60_3).toInt64.toInt = (dvA κ (zR κ soAtlas a0) a1.toNatClampNeg / y60_3).toInt := Int32.toInt_toInt64 _
    have i5 := ihi (dvA κ (zR κ soAtlas a0) a1.toNatClampNeg / y60_3)
    have kb := k256 f22.1 (by rw [b1]; exact q2)
    refine ⟨?_, ?_⟩
    · exact i_n0 l3  -- b1
    intro T1
    refine Nu_times_c W60 T1 6500 ?_ (fun κ_2 q3 => ?_)
    · rw [eb1]
      exact ⟨f22.1, ⟨by rw [e5]; exact d5.2.2, by rw [e5]; omega⟩, by omega, by decide⟩
    intro W4
    intro M5
    refine h _ ?_
    · refine and_5 ?_ (fun o9 => ?_)  -- q3
      · rw [eb1, e5, d5.2.1, b1] at q3
        obtain ⟨F, I, V⟩ := q3
        have bt := nuB_z (c := 6500) W60 (Z1.t tp21 (by decide)) F (fun z => ro_n h21 h22 (by decide) z.1) (fun z => ro_n h21 h22 (by decide) z.1)
        refine ⟨⟨Z1.tr (soF_1 (by rw [h22]; exact Or.inr (Or.inr rfl)) F), nm_1 W60 N1 F (by rw [h22]; exact I), so_1 W60 T60_0 S1 F⟩, by rw [nuF_i F]; exact sg, by rw [bt.2.2.1]; exact t1, ?_⟩
        rw [V, if_neg (by omega)]
        exact ⟨Nat.mul_dvd_mul (Nat.dvd_refl _) (Nat.div_dvd_of_dvd ld), Nat.mul_le_mul_left _ (Nat.div_le_self _ _)⟩
      · rw [eb1, e5, d5.2.1, b1] at q3
        obtain ⟨F, I, V⟩ := q3
        have bt := nuB_z (c := 6500) W60 (Z1.t tp21 (by decide)) F (fun z => ro_n h21 h22 (by decide) z.1) (fun z => ro_n h21 h22 (by decide) z.1)
        intro q hq9
        have Zf : zF (soF ρ unR9 (zR κ soCalc a0)) κ κ_2 := Z1.tr (soF_1 (by rw [h22]; exact Or.inr (Or.inr rfl)) F)
        have et : zR κ_2 raTop (zR κ soPart a0) = zR κ raTop (zR κ soPart a0) := (soF_r9 Zf (f := raTop) (by decide)).1
        have eb : zR κ_2 raBottom (zR κ soPart a0) = zR κ raBottom (zR κ soPart a0) := (soF_r9 Zf (f := raBottom) (by decide)).1
        have dv : dvN9 κ (zR κ soAtlas a0) a1.toNatClampNeg = (dvA κ (zR κ soAtlas a0) a1.toNatClampNeg).toInt.toNat := if_neg (by omega)
        have U := un_q15 (q := q) (d := (dvA κ (zR κ soAtlas a0) a1.toNatClampNeg).toInt.toNat) hq9.2.1 hq9.2.2 (by omega) hE.2
        unfold rqW8
        rw [et, eb, dv]
        refine ⟨?_, ?_, ?_⟩
        · rw [nuF_i F]
          exact (sg.trans hq9.1).trans U.2.2
        · rw [bt.2.2.1, hE.1]; exact U.1
        · rw [V]; exact U.2.1
  refine ⟨?_, ?_⟩
  · rw [inb_iff]; omega  -- b4
  refine ex_some ?_ (fun u6 hu6 => ?_)
  · exact ⟨u9, hq⟩  -- e5
  intro T7
  intro T8
  have eu : u6 = u9 := Option.some.inj (hu6.symm.trans hq)
  subst eu
  refine Ra_copy_c W T7 T8 6500 ?_ (fun κ_9 q10 => ?_)
  · exact ⟨⟨g21.2.2, g22.2.2, ro_n h21 h22 (by decide)⟩, ⟨gu1.2.1, gu2.2.1, ro_n hu1 hu2 (by omega)⟩, ⟨ro_n h21 hu1 (by omega), ro_n h21 hu2 (by omega), ro_n h22 hu1 (by omega), ro_n h22 hu2 (by omega)⟩, ⟨by omega, by omega⟩, by decide⟩  -- p6
  obtain ⟨Z9, J9, V9⟩ := q10
  have e1 : zR κ_9 raTop (zR κ soPart a0) = (zR κ raTop (zR κ soPart a0)) := raF_r Z9 (by decide) (by decide) (by decide)
  have e2 : zR κ_9 raBottom (zR κ soPart a0) = (zR κ raBottom (zR κ soPart a0)) := raF_r Z9 (by decide) (by decide) (by decide)
  have e3 : zR κ_9 soPart a0 = (zR κ soPart a0) := raF_r Z9 (by decide) (by decide) (by decide)
  have e4 : zR κ_9 soAtlas a0 = zR κ soAtlas a0 := raF_r Z9 (by decide) (by decide) (by decide)
  unfold raJ at J9
  unfold raV at V9
  rw [e1, e2] at J9 V9
  have R9 := nm_ra W Ta0 N0 S0 h20 (Or.inl rfl) Z9 J9.1 J9.2.1
  have A9 := at_ra W (ty_soAtlas W Ta0) Z9 M0
  have T9 : zT κ_9 a0 = 12 := Z9.t Ta0 (by decide)
  have Zs : zF (soF ρ unR9 (zR κ soCalc a0)) κ κ_9 := R9.2 _
  have et9 : zR κ_9 raTop (zR κ_9 soPart a0) = (zR κ raTop (zR κ soPart a0)) := by rw [e3, e1]
  have eb9 : zR κ_9 raBottom (zR κ_9 soPart a0) = (zR κ raBottom (zR κ soPart a0)) := by rw [e3, e2]
  intro W11
  intro M12
  intro T13
  refine At_divisorOf_c W11 T13  ?_ (fun r14 q16 => ?_)
  · rw [e4]
    exact ⟨A9.1, p1.1, p1.2.1⟩
  intro W17
  intro M18
  have q16' : r14 = dvA κ (zR κ soAtlas a0) a1.toNatClampNeg := by
    rw [e4] at q16
    exact q16.trans (A9.2 _)
  refine ⟨fun c19 => ?_, fun c19 => ?_⟩
  · skip
    refine h _ ?_
    · refine and_5 ?_ (fun o9 => ?_)  -- q8
      · rw [lei, t1i] at c19
        rw [q16'] at c19
        refine ⟨⟨Zs, R9.1⟩, V9.1, Nat.le_of_eq V9.2.1, ?_⟩
        rw [V9.2.2, if_pos c19, Nat.mul_one]
        exact ⟨Nat.dvd_refl _, Nat.le_refl _⟩
      · have e1' := e1
        intro q hq9
        have dv : dvN9 κ (zR κ soAtlas a0) a1.toNatClampNeg = 1 := if_pos (by rw [lei, t1i, q16'] at c19; exact c19)
        unfold rqW8
        rw [e1, e2, dv, on_q15]
        exact ⟨V9.1.trans hq9.1, V9.2.1.trans hq9.2.1, V9.2.2.trans hq9.2.2⟩
  · skip
    intro T20
    rw [lei, t1i] at c19
    refine Nu_rest_c W17 T20 30000000 ?_ (fun r21 q23 => ?_)
    · rw [et9]
      exact ⟨nuI_mono (by decide) J9.1, by omega⟩
    intro W24
    intro M25
    have r0 : 0 ≤ r21.toInt := by rw [q23]; exact Int.natCast_nonneg _
    refine Ch_commonInt_c W24   ?_ (fun r26 q28 => ?_)
    · exact ⟨by omega, r0⟩  -- p10
    have gd : r26.toInt.toNat ∣ r14.toInt.toNat := by
      rcases q28.2 with z | z
      · rw [z]; exact Nat.gcd_dvd_left _ _
      · omega
    have g0 := q28.1
    intro W29
    intro M30
    refine ⟨fun c31 => ?_, fun c31 => ?_⟩
    · skip
      refine hj60 _ _ _ _ W29 ?_ ?_
      · exact T9  -- t11
      · refine and_5 ?_ (fun o9 => ?_)  -- k12
        · exact ⟨rfl, ⟨⟨Zs, R9.1⟩, eb9⟩, ⟨V9.1, Nat.le_of_eq V9.2.1, V9.2.2⟩, ⟨by omega, q16'⟩, by omega, gd⟩
        · have gg := q28.2
          rw [q23, Int.toNat_natCast, gc_q15, et9, V9.2.1] at gg
          have g1 : r26.toInt.toNat = Nat.gcd (nuN κ (zR κ raTop u6)) r14.toInt.toNat := by
            rcases gg with z | z
            · exact z
            · omega
          refine ⟨?_, g1⟩
          rw [V9.2.1]
          have o : r26.toInt.toNat = 1 := by
            rw [lei, t1i] at c31
            omega
          rw [o, Nat.div_one]
    · skip
      intro T32
      refine Nu_over_c W29 T32 6500 ?_ (fun r33 κ_34 q35 => ?_)
      · rw [et9]
        exact ⟨J9.1, by omega⟩
      rw [et9, V9.2.1] at q35
      obtain ⟨F, I, V, _⟩ := q35
      have bb := nuB_z (c := 6500) W11 (Z9.t tp22 (by decide)) F (fun z => ro_n h22 h21 (by decide) z.1) (fun z => ro_n h22 h21 (by decide) z.1)
      have ebF : zR κ_34 raBottom (zR κ_34 soPart a0) = (zR κ raBottom (zR κ soPart a0)) := by rw [nuF_r F (by decide) (by decide), nuF_r F (by decide) (by decide), eb9]
      intro W36
      intro M37
      refine hj60 _ _ _ _ W36 ?_ ?_
      · exact F.t T9 (by decide)  -- t14
      · refine and_5 ?_ (fun o9 => ?_)  -- k15
        · exact ⟨rfl, ⟨⟨Zs.tr (soF_1 (by rw [h21]; exact Or.inr (Or.inl rfl)) F), nm_1 W11 R9.1.1 F (by rw [h21]; exact I), so_1 W11 T9 R9.1.2 F⟩, ebF⟩, ⟨by rw [nuF_i F]; exact V9.1, by rw [V]; exact Nat.div_le_self _ _, by rw [bb.2.2.1]; exact V9.2.2⟩, ⟨by omega, q16'⟩, by omega, gd⟩
        · have gg := q28.2
          rw [q23, Int.toNat_natCast, gc_q15, et9, V9.2.1] at gg
          have g1 : r26.toInt.toNat = Nat.gcd (nuN κ (zR κ raTop u6)) r14.toInt.toNat := by
            rcases gg with z | z
            · exact z
            · omega
          refine ⟨?_, g1⟩
          exact V

theorem So_keep_q6 {C : zC} {n0 : Nat} {a0 : Nat} {a1 : Nat} {a2 : Nat} {a3 : Nat} {κ : zS} {Q : Int32 → zS → Prop} (W : zW C n0 κ) (Ta0 : zT κ a0 = 12) (Ta1 : zT κ a1 = 11) (Ta2 : zT κ a2 = 8) (Ta3 : zT κ a3 = 8) (ρ : Nat → Nat) (w9 u9 v9 : Nat) (hp : (nmI ρ κ ∧ soI ρ κ a0) ∧ (ρ a1 = w9 ∧ 100 ≤ w9 ∧ w9 < 999990 ∧ w9 % 4 = 0) ∧ (ρ a2 = u9 ∧ nmR u9 ∧ u9 < 10) ∧ (ρ a3 = v9 ∧ nmR v9 ∧ v9 < 10) ∧ nuN κ a2 < pB9 4000 ∧ nuN κ a3 < pB9 4000) (h : ∀ (v : Int32) (κ' : zS), ((nb v ∧ (zF (soF ρ (kpR9 w9) (zR κ soCalc a0)) κ κ' ∧ nmI ρ κ' ∧ soI ρ κ' a0) ∧ (v = 0 → zF (soF ρ stR9 (zR κ soCalc a0)) κ κ') ∧ (v ≠ 0 → (nuN κ a2 / Nat.gcd (nuN κ a2) (nuN κ a3) < 2 ^ 256 ∧ nuN κ a3 / Nat.gcd (nuN κ a2) (nuN κ a3) < 2 ^ 256) ∧ raV κ' a1 1 (nuN κ a2 / Nat.gcd (nuN κ a2) (nuN κ a3)) (nuN κ a3 / Nat.gcd (nuN κ a2) (nuN κ a3)))) ∧ ((v ≠ 0 ↔ nuN κ a2 / Nat.gcd (nuN κ a2) (nuN κ a3) < 2 ^ 256 ∧ nuN κ a3 / Nat.gcd (nuN κ a2) (nuN κ a3) < 2 ^ 256))) → Q v κ') : zRun C 6 mSo_keep [.ref a0, .ref a1, .ref a2, .ref a3] κ (oI Q noX) := by
  refine So_keep_run W Ta0 Ta1 Ta2 Ta3 ?_
  replace W := W.lo (Nat.le_trans W.1.2.1 W.1.2.2) (Nat.le_refl (zn κ))
  unfold w_So_keep_0
  obtain ⟨⟨N0, S0⟩, ⟨hw, w1, w2, w3⟩, ⟨hu, u1, u2⟩, ⟨hv, v1, v2⟩, p1, p2⟩ := hp
  have h20 := S0.1.2.2.2.2.2.2
  have P20 := N0.2 (zR κ soPart a0) (by rw [h20]; exact Or.inl rfl)
  have h21 : ρ (zR κ raTop (zR κ soPart a0)) = 21 := by rw [P20.2.1, h20]
  have h22 : ρ (zR κ raBottom (zR κ soPart a0)) = 22 := by rw [P20.2.2, h20]
  have m21 : nmR 21 := Or.inr (Or.inl rfl)
  have m22 : nmR 22 := Or.inr (Or.inr (Or.inl rfl))
  have tp21 : zT κ (zR κ raTop (zR κ soPart a0)) = 8 := ty_raTop W P20.1
  have tp22 : zT κ (zR κ raBottom (zR κ soPart a0)) = 8 := ty_raBottom W P20.1
  have gu := nm_g N0 hu u1 (by omega)
  have gv := nm_g N0 hv v1 (by omega)
  have ku := nuK_lt gu.1 p1
  have kv := nuK_lt gv.1 p2
  clear u1 v1
  intro κ_1 hκ_1
  intro W2
  intro T3
  intro T4
  have Q1 := nm_s W N0 S0 hκ_1
  have R1 : zR κ_1 = zR κ := by rw [hκ_1]; rfl
  have ua := ui_s (z := a2) (c := 30000000) hκ_1
  have va := ui_s (z := a3) (c := 30000000) hκ_1
  have et1 : zR κ_1 raTop (zR κ_1 soPart a0) = (zR κ raTop (zR κ soPart a0)) := by rw [R1]
  have Z1 : zF (soF ρ stR9 (zR κ soCalc a0)) κ κ_1 := soF_s (by rw [h20]; exact Or.inr (Or.inl rfl)) hκ_1
  have T1 : zT κ_1 a0 = 12 := Z1.t Ta0 (by decide)
  have s1 : (zI κ_1 raSign (zR κ soPart a0)).toInt = 1 := by rw [ua.2.2.2.1]; rfl
  refine Nu_copy_c W2 T3 T4 6500 30000000 ?_ (fun κ_5 q6 => ?_)
  · have f21 := nm_g Q1.1 h21 m21 (by decide)
    rw [et1, ua.2.2.2.2.2.2.2]
    exact ⟨f21.2.2, (ua.2.2.2.2.1 gu.2.1).1, ro_n h21 hu (by omega), by omega, by decide⟩
  rw [et1, ua.2.2.2.2.2.1] at q6
  obtain ⟨F5, B5, V5, K5, Z5⟩ := q6
  have I5 : nuI κ_5 (zR κ raTop (zR κ soPart a0)) 6500 := ⟨B5, Z5 (ua.2.2.2.2.1 gu.2.1).2⟩
  have N5 : nmI ρ κ_5 := nm_1 W2 Q1.1 F5 (by rw [h21]; exact I5)
  have S5 : soI ρ κ_5 a0 := so_1 W2 T1 Q1.2 F5
  have hr5 : ∀ f b, f ≠ nuLimbs → f ≠ nuLength → zR κ_5 f b = zR κ f b := fun f b x y => (nuF_r F5 x y).trans (by rw [R1])
  have eb5 : zR κ_5 raBottom (zR κ_5 soPart a0) = (zR κ raBottom (zR κ soPart a0)) := by rw [hr5 soPart _ (by decide) (by decide), hr5 raBottom _ (by decide) (by decide)]
  have b3 := nuB_z (c := 30000000) W2 (Z1.t Ta3 (by decide)) F5 (fun z => ro_n hv h21 (by omega) z.1) (fun z => ro_n hv h21 (by omega) z.1)
  have T5 : zT κ_5 a0 = 12 := F5.t T1 (by decide)
  have tt5 : zT κ_5 (zR κ raTop (zR κ soPart a0)) = 8 := F5.t (Z1.t tp21 (by decide)) (by decide)
  have Iv5 := b3.2.1 (va.2.2.2.2.1 gv.2.1)
  intro W7
  intro M8
  intro T9
  intro T10
  refine Nu_copy_c W7 T9 T10 6500 30000000 ?_ (fun κ_11 q12 => ?_)
  · have f22 := nm_g N5 h22 m22 (by decide)
    rw [eb5, b3.2.2.2, va.2.2.2.2.2.2.2]
    exact ⟨f22.2.2, Iv5.1, ro_n h22 hv (by omega), by omega, by decide⟩
  rw [eb5, b3.2.2.1, va.2.2.2.2.2.1] at q12
  obtain ⟨F9, B9, V9, K9, Z9⟩ := q12
  have I9 : nuI κ_11 (zR κ raBottom (zR κ soPart a0)) 6500 := ⟨B9, Z9 Iv5.2⟩
  have N9 : nmI ρ κ_11 := nm_1 W7 N5 F9 (by rw [h22]; exact I9)
  have S9 : soI ρ κ_11 a0 := so_1 W7 T5 S5 F9
  have hr9 : ∀ f b, f ≠ nuLimbs → f ≠ nuLength → zR κ_11 f b = zR κ f b := fun f b x y => (nuF_r F9 x y).trans (hr5 f b x y)
  have ec9 : zR κ_11 soCalc a0 = (zR κ soCalc a0) := hr9 _ _ (by decide) (by decide)
  have et9 : zR κ_11 raTop (zR κ_11 soPart a0) = (zR κ raTop (zR κ soPart a0)) := by rw [hr9 soPart _ (by decide) (by decide), hr9 raTop _ (by decide) (by decide)]
  have eb9 : zR κ_11 raBottom (zR κ_11 soPart a0) = (zR κ raBottom (zR κ soPart a0)) := by rw [hr9 soPart _ (by decide) (by decide), hr9 raBottom _ (by decide) (by decide)]
  have bt9 := nuB_z (c := 6500) W7 tt5 F9 (fun z => ro_n h21 h22 (by decide) z.1) (fun z => ro_n h21 h22 (by decide) z.1)
  have VT9 : nuN κ_11 (zR κ raTop (zR κ soPart a0)) = nuN κ a2 := by rw [bt9.2.2.1]; exact V5
  intro W13
  intro M14
  intro T15
  intro T16
  intro T17
  refine Ca_reduce_c W13 T15 T16 T17 6500 4000 6500 ?_ (fun κ_18 q19 => ?_)
  · rw [et9, eb9]
    exact ⟨⟨bt9.2.1 I5, I9⟩, so_ca N9 S9, ⟨so_o S9 h21 (by decide), so_o S9 h22 (by decide), ro_n h21 h22 (by decide)⟩, ⟨by rw [VT9]; exact p1, by rw [V9]; exact p2⟩, ⟨by decide, by decide, by decide⟩, by decide, by decide⟩
  rw [et9, eb9, VT9, V9] at q19
  obtain ⟨⟨Z16, C16, S16⟩, ⟨I16, V16⟩, J16, U16⟩ := q19
  have R := nm_ca9 W13 N9 S9 Z16 C16 S16 (fun b z => by
    rcases z with z | z | z
    · exact Or.inl z
    · right
      rw [z, h21]
      exact ⟨by decide, I16⟩
    · right
      rw [z, h22]
      exact ⟨by decide, J16⟩)
  have s16 : zI κ_18 raSign (zR κ soPart a0) = zI κ_11 raSign (zR κ soPart a0) := Z16.i (fun z => by
    rcases z with ⟨_, z | z⟩ | ⟨_, z | z | z | z⟩
    · exact absurd z (by decide)
    · exact absurd z (by decide)
    · exact absurd z (by decide)
    · exact absurd z (by decide)
    · exact absurd z (by decide)
    · exact absurd z (by decide))
  have sg : (zI κ_18 raSign (zR κ soPart a0)).toInt = 1 := by
    rw [s16, nuF_i F9, nuF_i F5]
    exact s1
  have e16 : ∀ f b, (f ≠ nuLimbs ∧ f ≠ nuLength ∧ f ≠ caRest ∧ f ≠ caX ∧ f ≠ caY ∧ f ≠ caFactors) → zR κ_18 f b = zR κ f b := fun f b x => (caF_r Z16 x).trans (hr9 f b x.1 x.2.1)
  rw [ec9] at Z16
  have Zf : zF (soF ρ stR9 (zR κ soCalc a0)) κ κ_18 := ((Z1.tr (soF_1 (by rw [h21]; exact Or.inr (Or.inr (Or.inl rfl))) F5)).tr (soF_1 (by rw [h22]; exact Or.inr (Or.inr (Or.inr rfl))) F9)).tr (soF_c (fun b z => by
    rcases z with z | z | z
    · have q := S9.2.2.1 b (by rw [ec9]; exact z)
      rw [q]
      exact Or.inl rfl
    · rw [z, h21]
      exact Or.inr (Or.inr (Or.inl rfl))
    · rw [z, h22]
      exact Or.inr (Or.inr (Or.inr rfl))) Z16)
  have et18 : zR κ_18 raTop (zR κ_18 soPart a0) = (zR κ raTop (zR κ soPart a0)) := by rw [e16 soPart _ (by decide), e16 raTop _ (by decide)]
  have eb18 : zR κ_18 raBottom (zR κ_18 soPart a0) = (zR κ raBottom (zR κ soPart a0)) := by rw [e16 soPart _ (by decide), e16 raBottom _ (by decide)]
  have ep18 : zR κ_18 soPart a0 = (zR κ soPart a0) := e16 _ _ (by decide)
  have ec18 : zR κ_18 soCalc a0 = (zR κ soCalc a0) := e16 _ _ (by decide)
  intro W20
  intro M21
  intro T22
  intro T23
  refine So_keepPart_q6 W20 T22 T23 ρ w9 ?_ (fun r24 κ_25 q26 => ?_)
  · exact ⟨R, hw, w1, w2, w3⟩  -- p4
  obtain ⟨q26, z9⟩ := q26
  intro W27
  intro M28
  refine ⟨?_, h _ _ ?_⟩
  · exact q26.1  -- b5
  · refine and_5 ?_ (fun o9 => ?_)  -- q6
    · obtain ⟨b, z0, z1⟩ := q26
      rw [et18, eb18, ep18, ec18, sg, V16, U16] at z1
      by_cases z : r24 = 0
      · have e := z0 z
        rw [e]
        exact ⟨b, ⟨soF_m (fun r y => Or.inl y) Zf, R⟩, fun _ => Zf, fun y => absurd z y⟩
      · obtain ⟨⟨y1, y2⟩, y3, y4⟩ := z1 z
        exact ⟨b, ⟨(soF_m (fun r y => Or.inl y) Zf).tr (soF_m (fun r y => Or.inr y) y1), y2⟩, fun y => absurd y z, fun _ => ⟨y3, y4⟩⟩
    · rw [et18, eb18, V16, U16] at z9
      exact z9

theorem So_comesIn_q6 {C : zC} {n0 : Nat} {a0 : Nat} {a1 : Int32} {a2 : Int32} {κ : zS} {Q : Int32 → zS → Prop} (W : zW C n0 κ) (Ta0 : zT κ a0 = 12) (ρ : Nat → Nat) (m9 P9 : Nat) (hp : svX9 κ a0 m9 ∧ vsI9 ρ κ a0 m9 P9 ∧ (0 ≤ a2.toInt ∧ a2.toInt < m9) ∧ (zA κ (zR κ weBackFirsts (zR κ soWeb a0)) a2.toNatClampNeg).toInt ≤ a1.toInt ∧ a1.toInt < (zA κ (zR κ weBackFirsts (zR κ soWeb a0)) (a2.toNatClampNeg + 1)).toInt) (h : ∀ (v : Int32), ((nb v ∧ (v ≠ 0 → zI κ raSign (vU9 κ a0 (zA κ (zR κ weSources (zR κ soWeb a0)) a1.toNatClampNeg).toNatClampNeg) ≠ 0 ∧ (zA κ (zR κ weSources (zR κ soWeb a0)) a1.toNatClampNeg).toNatClampNeg ≠ a2.toNatClampNeg)) ∧ ((v ≠ 0 ↔ zA κ (zR κ weKnotOf (zR κ soWeb a0)) (zA κ (zR κ weSources (zR κ soWeb a0)) a1.toNatClampNeg).toNatClampNeg ≠ zA κ (zR κ weKnotOf (zR κ soWeb a0)) a2.toNatClampNeg ∧ zI κ raSign (vU9 κ a0 (zA κ (zR κ weSources (zR κ soWeb a0)) a1.toNatClampNeg).toNatClampNeg) ≠ 0))) → Q v κ) : zRun C 0 mSo_comesIn [.ref a0, .int a1, .int a2] κ (oI Q noX) := by
  refine So_comesIn_run W Ta0 ?_
  replace W := W.lo (Nat.le_trans W.1.2.1 W.1.2.2) (Nat.le_refl (zn κ))
  unfold w_So_comesIn_0
  obtain ⟨X0, V0, p1, p2, p3⟩ := hp
  have kn := cnk p1.1
  have g := bk_g9 X0 (t := a2.toNatClampNeg) (by omega) p2 p3
  have r := bk_r9 X0 (t := a2.toNatClampNeg) (by omega)
  obtain ⟨⟨g1, g2, g3, g4⟩, ⟨s1, s2⟩, _, _⟩ := g
  have ks := cnk s1
  have xv := X0.2.2.2
  obtain ⟨h1, h2, h3⟩ := V0 _ (show (zA κ (zR κ weSources (zR κ soWeb a0)) a1.toNatClampNeg).toNatClampNeg < m9 by omega)
  refine ⟨?_, ?_⟩
  · rw [inb_iff]; exact ⟨g1, g2⟩  -- b1
  intro x1 hx1
  rw [← hx1] at s1 s2 ks h1 h2 h3
  refine ⟨?_, ?_⟩
  · rw [inb_iff]; omega  -- b2
  refine ⟨?_, ?_⟩
  · rw [inb_iff]; omega  -- b3
  refine ⟨fun c2 => ?_, fun c2 => ?_⟩
  · skip
    refine h _ ?_
    · refine and_5 ?_ (fun o9 => ⟨fun z => absurd rfl z, fun y => absurd (by rw [← hx1]; exact c2) y.1⟩)  -- q4
      exact ⟨Or.inl rfl, fun z => absurd rfl z⟩
  · skip
    refine ⟨?_, ?_⟩
    · rw [inb_iff]; omega  -- b5
    refine ex_some ?_ (fun u3 hu3 => ?_)
    · exact ⟨_, h1⟩  -- e6
    refine ⟨fun c4 => ?_, fun c4 => ?_⟩
    · skip
      refine h _ ?_
      · refine and_5 ?_ (fun o9 => ⟨fun z => absurd rfl z, fun y => absurd (by rw [← hx1, ← Option.some.inj (hu3.symm.trans h1)]; exact c4) y.2⟩)  -- q7
        exact ⟨Or.inl rfl, fun z => absurd rfl z⟩
    · skip
      refine h _ ?_
      · refine and_5 ?_ (fun o9 => ⟨fun _ => ⟨by rw [← hx1]; exact c2, by rw [← hx1, ← Option.some.inj (hu3.symm.trans h1)]; exact c4⟩, fun _ z => absurd z (by decide)⟩)  -- q8
        refine ⟨Or.inr rfl, fun _ => ?_⟩
        have eu := Option.some.inj (hu3.symm.trans h1)
        rw [← hx1, ← eu]
        exact ⟨c4, fun e => c2 (by rw [e])⟩

end
section
set_option maxHeartbeats 1600000
/-! the class: what comes in, by its value -/
/-- the row of links back: sources, weights -/
abbrev bs15 (κ : zS) (a b : Nat) : Nat := (zA κ (zR κ weSources (zR κ soWeb a)) b).toNatClampNeg
abbrev bw15 (κ : zS) (a b : Nat) : Int := (zA κ (zR κ atWeights (zR κ soAtlas a)) (zA κ (zR κ weEdges (zR κ soWeb a)) b).toNatClampNeg).toInt
abbrev bl15 (κ : zS) (a t : Nat) : Nat := (zA κ (zR κ weBackFirsts (zR κ soWeb a)) t).toNatClampNeg
abbrev un15 (κ : zS) (a : Nat) (V : Nat → Rat) (s : Nat) : Rat := V s * mkRat 1 (dvN9 κ (zR κ soAtlas a) s)
/-- what comes in by the links from place B on -/
def bi15 (κ : zS) (a : Nat) (V : Nat → Rat) (B n : Nat) : Rat := smQ (fun d => un15 κ a V (bs15 κ a (B + d)) * (bw15 κ a (B + d) : Rat)) n
def vV15 (κ : zS) (a n : Nat) (V : Nat → Rat) : Prop := ∀ k, k < n → rqW8 κ (vU9 κ a k) (V k) ∧ 0 ≤ V k
theorem rq_015 {κ : zS} {p : Nat} {q : Rat} (h : rqW8 κ p q) : zI κ raSign p ≠ 0 ↔ q ≠ 0 := by
  have e := (ps_q8 (a := q)).2.1
  rw [← h.1] at e
  refine not_congr (Iff.trans ?_ e)
  constructor
  · intro z; rw [z]; rfl
  · intro z; exact Int32.toInt_inj.mp z
/-- fractions stay where a frame leaves their roles -/
theorem rq_f15 {C : zC} {n0 u r ca : Nat} {ρ : Nat → Nat} {R : Nat → Prop} {κ τ : zS} {q : Rat} (W : zW C n0 κ) (N : nmI ρ κ) (Z : zF (soF ρ R ca) κ τ) (hu : ρ u = r) (hr : raR r) (h : ¬ R r ∧ ¬ R (r + 1) ∧ ¬ R (r + 2)) (H : rqW8 κ u q) : rqW8 τ u q := by
  have e := ra_f9 W N Z hu hr h
  unfold rqW8
  rw [e.1, e.2.1.1, e.2.1.2, e.2.2.1, e.2.2.2]
  exact H
theorem vV_f15 {C : zC} {n0 a n P ca : Nat} {ρ : Nat → Nat} {R : Nat → Prop} {κ τ : zS} {V : Nat → Rat} (W : zW C n0 κ) (Ta : zT κ a = 12) (N : nmI ρ κ) (Z : zF (soF ρ R ca) κ τ) (hn : n ≤ 1000) (hR : ∀ r, 100 ≤ r → ¬ R r) (I : vsI9 ρ κ a n P) (H : vV15 κ a n V) : vV15 τ a n V := fun k hk => by
  obtain ⟨h1, h2, _⟩ := I k hk
  rw [(vU9_f W Ta Z).2]
  exact ⟨rq_f15 W N Z h2 (vs_r9 (by omega)) ⟨hR _ (by omega), hR _ (by omega), hR _ (by omega)⟩ (H k hk).1, (H k hk).2⟩
/-- rows of web and atlas stay -/
theorem bx_f15 {C : zC} {n0 a n ca : Nat} {ρ : Nat → Nat} {R : Nat → Prop} {κ τ : zS} (W : zW C n0 κ) (Ta : zT κ a = 12) (Z : zF (soF ρ R ca) κ τ) (X : svX9 κ a n) : (∀ b, bs15 τ a b = bs15 κ a b) ∧ (∀ b, bw15 τ a b = bw15 κ a b) ∧ (∀ t, bl15 τ a t = bl15 κ a t) ∧ (∀ V s, un15 τ a V s = un15 κ a V s) ∧ (∀ s, zA τ (zR τ weKnotOf (zR τ soWeb a)) s = zA κ (zR κ weKnotOf (zR κ soWeb a)) s) ∧ (∀ t, zA τ (zR τ weBackFirsts (zR τ soWeb a)) t = zA κ (zR κ weBackFirsts (zR κ soWeb a)) t) := by
  obtain ⟨_, e1, e2, _⟩ := svX9_f W Ta soF_fr Z X
  have g := fun f hf => (we_f9 W soF_fr Z (ty_soWeb W Ta) (f := f) hf).2.1
  have ga := fun f hf => (at_f9 W soF_fr Z (ty_soAtlas W Ta) (f := f) hf).2.1
  have d := fun k => dvA_f9 W soF_fr Z (ty_soAtlas W Ta) k
  refine ⟨fun b => ?_, fun b => ?_, fun t => ?_, fun V s => ?_, fun s => ?_, fun t => ?_⟩
  · unfold bs15; rw [e1, g weSources (by decide)]
  · unfold bw15; rw [e1, e2, g weEdges (by decide), ga atWeights (by decide)]
  · unfold bl15; rw [e1, g weBackFirsts (by decide)]
  · unfold un15 dvN9; rw [e2, d]
  · rw [e1, g weKnotOf (by decide)]
  · rw [e1, g weBackFirsts (by decide)]
theorem bi_s15 {κ : zS} {a B n : Nat} {V : Nat → Rat} : bi15 κ a V B (n + 1) = bi15 κ a V B n + un15 κ a V (bs15 κ a (B + n)) * (bw15 κ a (B + n) : Rat) := rfl
theorem un_015 {κ : zS} {a s : Nat} {V : Nat → Rat} (h : V s = 0) : un15 κ a V s = 0 := by
  unfold un15
  rw [h, Rat.zero_mul]
theorem So_joinInflow_q6 {C : zC} {n0 : Nat} {a0 : Nat} {a1 : Int32} {κ : zS} {Q : zS → Prop} (W : zW C n0 κ) (Ta0 : zT κ a0 = 12) (ρ : Nat → Nat) (m9 P9 : Nat) (V9 : Nat → Rat) (hV9 : vV15 κ a0 m9 V9) (hp : (nmI ρ κ ∧ soI ρ κ a0) ∧ svX9 κ a0 m9 ∧ vsI9 ρ κ a0 m9 P9 ∧ (0 ≤ a1.toInt ∧ a1.toInt < m9) ∧ dz9 (nuN κ (zR κ soWhole a0)) P9 ∧ 0 < P9 ∧ P9 < pB9 2000) (h : ∀ (κ' : zS), ((zF (soF ρ jiR9 (zR κ soCalc a0)) κ κ' ∧ (nmI ρ κ' ∧ soI ρ κ' a0) ∧ dz9 (nuN κ' (zR κ soWhole a0)) P9) ∧ ((0 < nuN κ (zR κ soWhole a0) → 0 < nuN κ' (zR κ soWhole a0)) ∧ nuN κ (zR κ soWhole a0) ∣ nuN κ' (zR κ soWhole a0) ∧ ∀ b, bl15 κ a0 a1.toNatClampNeg ≤ b → b < bl15 κ a0 (a1.toNatClampNeg + 1) → zA κ (zR κ weKnotOf (zR κ soWeb a0)) (bs15 κ a0 b) ≠ zA κ (zR κ weKnotOf (zR κ soWeb a0)) a1.toNatClampNeg → V9 (bs15 κ a0 b) ≠ 0 → (un15 κ a0 V9 (bs15 κ a0 b)).den ∣ nuN κ' (zR κ soWhole a0))) → Q κ') : zRun C 6 mSo_joinInflow [.ref a0, .int a1] κ (oV Q noX) := by
  refine So_joinInflow_run W Ta0 ?_
  replace W := W.lo (Nat.le_trans W.1.2.1 W.1.2.2) (Nat.le_refl (zn κ))
  unfold w_So_joinInflow_0
  obtain ⟨⟨N0, S0⟩, X0, V0, p1, p2, p3, p4⟩ := hp
  have kn := cnk p1.1
  have r0 := bk_r9 X0 (t := a1.toNatClampNeg) (by omega)
  refine ⟨?_, ?_⟩
  · rw [inb_iff]; omega  -- b1
  intro x1 hx1
  unfold w_So_joinInflow_10
  refine ⟨fun n l0 l1 l2 τ => n = ((zA κ (zR κ weBackFirsts (zR κ soWeb a0)) (a1.toNatClampNeg + 1)).toInt - l2.toInt).toNat ∧ ((a0 = l0 ∧ a1 = l1 ∧ (zF (soF ρ jiR9 (zR κ soCalc a0)) κ τ ∧ (nmI ρ τ ∧ soI ρ τ a0)) ∧ dz9 (nuN τ (zR κ soWhole a0)) P9 ∧ (zA κ (zR κ weBackFirsts (zR κ soWeb a0)) a1.toNatClampNeg).toInt ≤ l2.toInt) ∧ (0 < nuN κ (zR κ soWhole a0) → 0 < nuN τ (zR κ soWhole a0)) ∧ nuN κ (zR κ soWhole a0) ∣ nuN τ (zR κ soWhole a0) ∧ ∀ b, bl15 κ a0 a1.toNatClampNeg ≤ b → (b : Int) < l2.toInt → b < bl15 κ a0 (a1.toNatClampNeg + 1) → zA κ (zR κ weKnotOf (zR κ soWeb a0)) (bs15 κ a0 b) ≠ zA κ (zR κ weKnotOf (zR κ soWeb a0)) a1.toNatClampNeg → V9 (bs15 κ a0 b) ≠ 0 → (un15 κ a0 V9 (bs15 κ a0 b)).den ∣ nuN τ (zR κ soWhole a0)), ⟨_, rfl, ?_⟩, ?_⟩
  · refine and_5 ?_ (fun o9 => ?_)  -- j2
    · exact ⟨rfl, rfl, ⟨zF.rf, N0, S0⟩, p2, by rw [hx1]; exact Int.le_refl _⟩
    · refine ⟨fun z => z, Nat.dvd_refl _, fun b h1 h2 => ?_⟩
      rw [hx1] at h2
      exfalso
      have := cnk r0.2.1
      have e : bl15 κ a0 a1.toNatClampNeg = (zA κ (zR κ weBackFirsts (zR κ soWeb a0)) a1.toNatClampNeg).toNatClampNeg := rfl
      omega
  rintro n10 _ _ x10_2 κ10 W10 T10_0 ⟨hn10, ⟨rfl, rfl, i10⟩, hE⟩
  obtain ⟨⟨Z1, N1, S1⟩, D1, l1⟩ := i10
  have X1 := svX9_f W Ta0 soF_fr Z1 X0
  have V1 := vsI9_f W Ta0 N0 Z1 r0.1.2.2 jiR9_l V0
  have eb : zA κ10 (zR κ10 weBackFirsts (zR κ10 soWeb a0)) = zA κ (zR κ weBackFirsts (zR κ soWeb a0)) := by rw [X1.2.1]; exact (we_f9 W soF_fr Z1 (ty_soWeb W Ta0) (f := weBackFirsts) (by decide)).2.1
  have r1 := bk_r9 X1.1 (t := a1.toNatClampNeg) (by omega)
  have i1 := cn1 p1.1 (by omega)
  have ec1 : zR κ10 soCalc a0 = (zR κ soCalc a0) := (soF_r9 Z1 (by decide)).1
  have ew1 : zR κ10 soWhole a0 = (zR κ soWhole a0) := (soF_r9 Z1 (by decide)).1
  refine ⟨?_, ?_⟩
  · rw [inb_iff, i1.2]; omega  -- b3
  refine ⟨fun c2 => ?_, fun c2 => ?_⟩
  · skip
    refine h _ ?_
    · refine and_5 ?_ (fun o9 => ?_)  -- q4
      · exact ⟨Z1, ⟨N1, S1⟩, D1⟩
      · rw [i1.1, eb, lei] at c2
        have := cnk (x := zA κ (zR κ weBackFirsts (zR κ soWeb a0)) (a1.toNatClampNeg + 1)) (by omega)
        have e : bl15 κ a0 (a1.toNatClampNeg + 1) = (zA κ (zR κ weBackFirsts (zR κ soWeb a0)) (a1.toNatClampNeg + 1)).toNatClampNeg := rfl
        exact ⟨hE.1, hE.2.1, fun b h1 h2 => hE.2.2 b h1 (by omega) h2⟩
  · skip
    intro T3
    rw [i1.1, eb, lei] at c2
    have ix := cn1 (x := x10_2) (by omega) (by omega)
    have g1 := bk_g9 X1.1 (t := a1.toNatClampNeg) (b := x10_2) (by omega) (by rw [eb]; exact l1) (by rw [eb]; omega)
    refine So_comesIn_q6 W10 T3 ρ m9 P9 ?_ (fun r4 q6 => ?_)
    · exact ⟨X1.1, V1, p1, by rw [eb]; exact l1, by rw [eb]; omega⟩  -- p5
    obtain ⟨q6, z9⟩ := q6
    have zc := z9
    intro W7
    intro M8
    refine ⟨fun c9 => ?_, fun c9 => ?_⟩
    · skip
      intro x10 hx10
      refine lp_b5 ?_ (fun d9 => ⟨rfl, ?_⟩)
      · rw [hn10, hx10, ix.2]; omega  -- d6
      · refine and_5 ?_ (fun o9 => ?_)  -- i7
        · exact ⟨rfl, rfl, ⟨Z1, N1, S1⟩, D1, by rw [hx10, ix.2]; omega⟩
        · have V10 := vV_f15 W Ta0 N0 Z1 r0.1.2.2 jiR9_l V0 hV9
          have B := bx_f15 W Ta0 Z1 X0
          have gs := g1.2.1
          have ks := cnk gs.1
          have kx := cnk (x := x10_2) (by omega)
          refine ⟨hE.1, hE.2.1, fun b h1 h2 h3 h4 h5 => ?_⟩
          rw [hx10, ix.2] at h2
          by_cases e : (b : Int) < x10_2.toInt
          · exact hE.2.2 b h1 e h3 h4 h5
          · exfalso
            have eb' : x10_2.toNatClampNeg = b := by omega
            refine zc.mpr ⟨?_, ?_⟩ c9
            · show zA κ10 _ (bs15 κ10 a0 x10_2.toNatClampNeg) ≠ _
              rw [B.2.2.2.2.1, B.2.2.2.2.1, B.1, eb']
              exact h4
            · show zI κ10 raSign (vU9 κ10 a0 (bs15 κ10 a0 x10_2.toNatClampNeg)) ≠ 0
              rw [rq_015 (V10 _ (show bs15 κ10 a0 x10_2.toNatClampNeg < m9 by show (zA κ10 _ _).toNatClampNeg < m9; omega)).1, B.1, eb']
              exact h5
    · skip
      refine ⟨?_, ?_⟩
      · rw [inb_iff]; exact ⟨g1.1.1, g1.1.2.1⟩  -- b8
      intro T11
      have ks := cnk g1.2.1.1
      have gs := g1.2.1
      have xv := X1.1.2.2.2
      obtain ⟨v1, v2, v3⟩ := V1 _ (show (zA κ10 (zR κ10 weSources (zR κ10 soWeb a0)) x10_2.toNatClampNeg).toNatClampNeg < m9 by omega)
      obtain ⟨v5, v6, v7⟩ := v3 (q6.2 c9).1
      refine So_unit_q6 W7 T11 ρ (vU9 κ10 a0 (zA κ10 (zR κ10 weSources (zR κ10 soWeb a0)) x10_2.toNatClampNeg).toNatClampNeg) ?_ (fun κ_12 q13 => ?_)
      · exact ⟨⟨N1, S1⟩, X1.1.2.2.1.1, ⟨g1.2.1.1, by omega, by omega⟩, ⟨v1, v2⟩, v5, v6⟩  -- p9
      obtain ⟨q13, z9⟩ := q13
      have zu := z9
      obtain ⟨⟨Zu, Nu, Su⟩, _, _, bd⟩ := q13
      have hb := un_b9 bd v7 v6 dvN9_l
      have P2 := Nu.2 (zR κ_12 soPart a0) (by rw [Su.1.2.2.2.2.2.2]; exact Or.inl rfl)
      have h22 : ρ (zR κ_12 raBottom (zR κ_12 soPart a0)) = 22 := by rw [P2.2.2, Su.1.2.2.2.2.2.2]
      have eb2 : zR κ_12 raBottom (zR κ_12 soPart a0) = zR κ10 raBottom (zR κ10 soPart a0) := by rw [(soF_r9 Zu (f := soPart) (by decide)).1, (soF_r9 Zu (f := raBottom) (by decide)).1]
      have ew2 : zR κ_12 soWhole a0 = (zR κ soWhole a0) := (soF_r9 Zu (by decide)).1.trans ew1
      have ec2 : zR κ_12 soCalc a0 = (zR κ soCalc a0) := (soF_r9 Zu (by decide)).1.trans ec1
      have bw := soF_B (c := 0) W10 (w := (zR κ soWhole a0)) (by rw [← ew1]; exact ty_soWhole W10 T10_0) Zu (by rw [S0.1.1]; unfold unR9; decide)
      have lw : nuN κ_12 (zR κ soWhole a0) < pB9 2000 := by
        rw [bw.2.1]
        exact Nat.lt_of_le_of_lt (dz9_le D1 p3) p4
      intro W14
      intro M15
      intro T16
      intro T17
      intro T18
      refine Ca_join_c W14 T16 T17 T18 6500 2000 6500 6500 ?_ (fun κ_19 q20 => ?_)
      · exact jn_p Nu Su h22 (Or.inr (Or.inr (Or.inl rfl))) (by decide) (by rw [ew2]; exact lw) (by rw [eb2]; exact hb.2)  -- p10
      intro W21
      intro M22
      intro x23 hx23
      have J := jn_q W14 Nu Su q20
      have Vj := q20.2.2.2
      rw [ew2, eb2] at Vj
      rw [ec2] at J
      rw [ec1] at Zu
      have Zf : zF (soF ρ jiR9 (zR κ soCalc a0)) κ κ_19 := (Z1.tr (soF_m (fun r z => Or.inl z) Zu)).tr (soF_m (fun r z => Or.inr z) J.2.1)
      refine lp_b5 ?_ (fun d9 => ⟨rfl, ?_⟩)
      · rw [hn10, hx23, ix.2]; omega  -- d11
      · refine and_5 ?_ (fun o9 => ?_)  -- i12
        · refine ⟨rfl, rfl, ⟨Zf, J.1⟩, ?_, by rw [hx23, ix.2]; omega⟩
          rw [Vj, bw.2.1]
          exact dz9_lcm D1 hb.1
        · have V10 := vV_f15 W Ta0 N0 Z1 r0.1.2.2 jiR9_l V0 hV9
          have B := bx_f15 W Ta0 Z1 X0
          have kx := cnk (x := x10_2) (by omega)
          have ru := zu _ (V10 _ (show bs15 κ10 a0 x10_2.toNatClampNeg < m9 by show (zA κ10 _ _).toNatClampNeg < m9; omega)).1
          have dn := ru.2.2
          rw [(soF_r9 Zu (f := raBottom) (by decide)).1] at dn
          have eu : V9 (bs15 κ10 a0 x10_2.toNatClampNeg) * mkRat 1 (dvN9 κ10 (zR κ10 soAtlas a0) (bs15 κ10 a0 x10_2.toNatClampNeg)) = un15 κ a0 V9 (bs15 κ a0 x10_2.toNatClampNeg) := by
            have q := B.2.2.2.1 V9 (bs15 κ10 a0 x10_2.toNatClampNeg)
            rw [B.1] at q
            rw [B.1]
            exact q
          have dn2 : nuN κ_12 (zR κ10 raBottom (zR κ10 soPart a0)) = (un15 κ a0 V9 (bs15 κ a0 x10_2.toNatClampNeg)).den := dn.trans (congrArg Rat.den eu)
          rw [bw.2.1, dn2] at Vj
          have dp : 0 < (un15 κ a0 V9 (bs15 κ a0 x10_2.toNatClampNeg)).den := Nat.pos_of_ne_zero (Rat.den_nz _)
          refine ⟨fun z => by rw [Vj]; exact Nat.lcm_pos (hE.1 z) dp, by rw [Vj]; exact Nat.dvd_trans hE.2.1 (Nat.dvd_lcm_left _ _), fun b h1 h2 h3 h4 h5 => ?_⟩
          rw [hx23, ix.2] at h2
          rw [Vj]
          by_cases e : (b : Int) < x10_2.toInt
          · exact Nat.dvd_trans (hE.2.2 b h1 e h3 h4 h5) (Nat.dvd_lcm_left _ _)
          · have eb' : b = x10_2.toNatClampNeg := by omega
            rw [eb']
            exact Nat.dvd_lcm_right _ _

end
section
set_option maxHeartbeats 1600000
/-! the class: the sum of what comes in, by its value -/
theorem tn_15 {x : Rat} {t b D w : Nat} (x0 : 0 ≤ x) (ht : t = x.num.natAbs) (hb : b = x.den) (d : b ∣ D) : (((t * w * (D / b) : Nat)) : Rat) = x * (w : Rat) * (D : Rat) := by
  obtain ⟨c, e⟩ := d
  have b0 : 0 < b := by rw [hb]; exact Nat.pos_of_ne_zero x.den_nz
  have n0 : 0 ≤ x.num := Rat.num_nonneg.mpr x0
  have q := nu_q8 (x := x)
  have tn : ((t : Nat) : Rat) = x * (x.den : Rat) := by
    rw [q, ht, ← Rat.intCast_natCast, Int.natAbs_of_nonneg n0]
  rw [e, Nat.mul_div_cancel_left _ b0, Rat.natCast_mul, Rat.natCast_mul, Rat.natCast_mul, tn, hb]
  grind
theorem un_p15 {κ : zS} {a s : Nat} {V : Nat → Rat} (h : 0 ≤ V s) : 0 ≤ un15 κ a V s := by
  unfold un15
  exact Rat.mul_nonneg h (mk_nn dvN9_p (by decide))
theorem So_sumInflow_q6 {C : zC} {n0 : Nat} {a0 : Nat} {a1 : Int32} {κ : zS} {Q : zS → Prop} (W : zW C n0 κ) (Ta0 : zT κ a0 = 12) (ρ : Nat → Nat) (m9 P9 : Nat) (V9 : Nat → Rat) (hV9 : vV15 κ a0 m9 V9) (hK9 : ∀ s, s < m9 → zA κ (zR κ weKnotOf (zR κ soWeb a0)) s = zA κ (zR κ weKnotOf (zR κ soWeb a0)) a1.toNatClampNeg → V9 s = 0) (hB9 : ∀ b, bl15 κ a0 a1.toNatClampNeg ≤ b → b < bl15 κ a0 (a1.toNatClampNeg + 1) → V9 (bs15 κ a0 b) ≠ 0 → (un15 κ a0 V9 (bs15 κ a0 b)).den ∣ nuN κ (zR κ soWhole a0)) (hp : (nmI ρ κ ∧ soI ρ κ a0) ∧ svX9 κ a0 m9 ∧ vsI9 ρ κ a0 m9 P9 ∧ (0 ≤ a1.toInt ∧ a1.toInt < m9) ∧ nuN κ (zR κ soWhole a0) < pB9 1900 ∧ nuN κ (zR κ soLess a0) < pB9 4000) (h : ∀ (κ' : zS), ((zF (soF ρ suR9 (zR κ soCalc a0)) κ κ' ∧ (nmI ρ κ' ∧ soI ρ κ' a0) ∧ nuN κ' (zR κ soSum a0) ≤ (nuN κ (zR κ soWhole a0) + 1) * pB9 11 ∧ nuN κ' (zR κ soLess a0) ≤ nuN κ (zR κ soLess a0)) ∧ (((nuN κ' (zR κ soSum a0) : Nat) : Rat) = ((if a1 = 0 then 1 else 0) + bi15 κ a0 V9 (bl15 κ a0 a1.toNatClampNeg) (bl15 κ a0 (a1.toNatClampNeg + 1) - bl15 κ a0 a1.toNatClampNeg)) * ((nuN κ (zR κ soWhole a0) : Nat) : Rat))) → Q κ') : zRun C 5 mSo_sumInflow [.ref a0, .int a1] κ (oV Q noX) := by
  refine So_sumInflow_run W Ta0 ?_
  replace W := W.lo (Nat.le_trans W.1.2.1 W.1.2.2) (Nat.le_refl (zn κ))
  unfold w_So_sumInflow_0
  obtain ⟨⟨N0, S0⟩, X0, V0, p1, p2, p3⟩ := hp
  have kn := cnk p1.1
  have r0 := bk_r9 X0 (t := a1.toNatClampNeg) (by omega)
  have g1 := nm_g N0 S0.1.1 (Or.inl ⟨by decide, by decide⟩) (by decide)
  have g7 := nm_g N0 S0.1.2.2.2.2.1 (Or.inl ⟨by decide, by decide⟩) (by decide)
  have ne17 := ro_n S0.1.1 S0.1.2.2.2.2.1 (by decide)
  have z64 : (0 : Int64).toInt = 0 := rfl
  have hj23 : ∀ (l0 : Nat) (l1 : Int32) (τ : zS), zW C (zn κ) τ → zT τ l0 = 12 → ((a0 = l0 ∧ a1 = l1 ∧ zF (soF ρ suR9 (zR κ soCalc a0)) κ τ ∧ (nmI ρ τ ∧ soI ρ τ a0) ∧ nuN τ (zR κ soSum a0) ≤ nuN κ (zR κ soWhole a0) ∧ nuN τ (zR κ soLess a0) ≤ nuN κ (zR κ soLess a0)) ∧ ((nuN τ (zR κ soSum a0) : Nat) : Rat) = (if a1 = 0 then 1 else 0) * ((nuN κ (zR κ soWhole a0) : Nat) : Rat)) → w_So_sumInflow_23 C (zn κ) Q  l0 l1 τ := by
    rintro _ _ τ23 W23 T23_0 ⟨⟨rfl, rfl, j23⟩, hE⟩
    unfold w_So_sumInflow_23
    obtain ⟨Zj, ⟨Nj, Sj⟩, Dj, Ej⟩ := j23
    have Xj := svX9_f W Ta0 soF_fr Zj X0
    have ebj : zA τ23 (zR τ23 weBackFirsts (zR τ23 soWeb a0)) = zA κ (zR κ weBackFirsts (zR κ soWeb a0)) := by rw [Xj.2.1]; exact (we_f9 W soF_fr Zj (ty_soWeb W Ta0) (f := weBackFirsts) (by decide)).2.1
    have rj := bk_r9 Xj.1 (t := a1.toNatClampNeg) (by omega)
    refine ⟨?_, ?_⟩
    · rw [inb_iff]; omega  -- b1
    intro x1 hx1
    unfold w_So_sumInflow_33
    refine ⟨fun n l0 l1 l2 τ => n = ((zA κ (zR κ weBackFirsts (zR κ soWeb a0)) (a1.toNatClampNeg + 1)).toInt - l2.toInt).toNat ∧ ((a0 = l0 ∧ a1 = l1 ∧ (zF (soF ρ suR9 (zR κ soCalc a0)) κ τ ∧ nmI ρ τ ∧ soI ρ τ a0) ∧ nuN τ (zR κ soSum a0) ≤ (nuN κ (zR κ soWhole a0) + 1) * (1 + (l2.toInt - (zA κ (zR κ weBackFirsts (zR κ soWeb a0)) a1.toNatClampNeg).toInt).toNat * sM9) ∧ nuN τ (zR κ soLess a0) ≤ nuN κ (zR κ soLess a0) ∧ (zA κ (zR κ weBackFirsts (zR κ soWeb a0)) a1.toNatClampNeg).toInt ≤ l2.toInt ∧ l2.toInt ≤ (zA κ (zR κ weBackFirsts (zR κ soWeb a0)) (a1.toNatClampNeg + 1)).toInt) ∧ ((nuN τ (zR κ soSum a0) : Nat) : Rat) = ((if a1 = 0 then 1 else 0) + bi15 κ a0 V9 (bl15 κ a0 a1.toNatClampNeg) (l2.toNatClampNeg - bl15 κ a0 a1.toNatClampNeg)) * ((nuN κ (zR κ soWhole a0) : Nat) : Rat)), ⟨_, rfl, ?_⟩, ?_⟩
    · refine and_5 ?_ (fun o9 => ?_)  -- j2
      · refine ⟨rfl, rfl, ⟨Zj, Nj, Sj⟩, ?_, Ej, by rw [hx1, ebj]; exact Int.le_refl _, by rw [hx1, ebj]; omega⟩
        exact Nat.le_trans (Nat.le_trans Dj (Nat.le_succ _)) (Nat.le_mul_of_pos_right _ (by omega))
      · have kx : bl15 κ a0 a1.toNatClampNeg = (zA κ (zR κ weBackFirsts (zR κ soWeb a0)) a1.toNatClampNeg).toNatClampNeg := rfl
        rw [hx1, ebj, kx, Nat.sub_self]
        show _ = (_ + (0 : Rat)) * _
        rw [Rat.add_zero]
        exact hE
    rintro n33 _ _ x33_2 κ33 W33 T33_0 ⟨hn33, ⟨rfl, rfl, i33⟩, hE⟩
    obtain ⟨⟨Z1, N1, S1⟩, D1, E1, l1, l2u⟩ := i33
    have X1 := svX9_f W Ta0 soF_fr Z1 X0
    have V1 := vsI9_f W Ta0 N0 Z1 r0.1.2.2 suR9_l V0
    have eb : zA κ33 (zR κ33 weBackFirsts (zR κ33 soWeb a0)) = zA κ (zR κ weBackFirsts (zR κ soWeb a0)) := by rw [X1.2.1]; exact (we_f9 W soF_fr Z1 (ty_soWeb W Ta0) (f := weBackFirsts) (by decide)).2.1
    have r1 := bk_r9 X1.1 (t := a1.toNatClampNeg) (by omega)
    have i1 := cn1 p1.1 (by omega)
    have ec1 : zR κ33 soCalc a0 = (zR κ soCalc a0) := (soF_r9 Z1 (by decide)).1
    have ew1 : zR κ33 soWhole a0 = (zR κ soWhole a0) := (soF_r9 Z1 (by decide)).1
    have es1 : zR κ33 soSum a0 = (zR κ soSum a0) := (soF_r9 Z1 (by decide)).1
    have el1 : zR κ33 soLess a0 = (zR κ soLess a0) := (soF_r9 Z1 (by decide)).1
    have bw1 := soF_B (c := 0) W (ty_soWhole W Ta0) Z1 (by rw [S0.1.1]; unfold suR9 unR9 adR9; decide)
    refine ⟨?_, ?_⟩
    · rw [inb_iff, i1.2]; omega  -- b3
    refine ⟨fun c2 => ?_, fun c2 => ?_⟩
    · skip
      refine h _ ?_
      · refine and_5 ?_ (fun o9 => ?_)  -- q4
        · refine ⟨Z1, ⟨N1, S1⟩, ?_, E1⟩
          refine Nat.le_trans D1 (Nat.mul_le_mul_left _ (sm_b9 ?_))
          omega
        · rw [i1.1, eb, lei] at c2
          have k1 := cnk (x := zA κ (zR κ weBackFirsts (zR κ soWeb a0)) (a1.toNatClampNeg + 1)) (by omega)
          have k2 := cnk (x := x33_2) (by omega)
          rw [show bl15 κ a0 (a1.toNatClampNeg + 1) = x33_2.toNatClampNeg by show (zA κ _ _).toNatClampNeg = _; omega]
          exact hE
    · skip
      intro T3
      rw [i1.1, eb, lei] at c2
      have ix := cn1 (x := x33_2) (by omega) (by omega)
      have g2 := bk_g9 X1.1 (t := a1.toNatClampNeg) (b := x33_2) (by omega) (by rw [eb]; exact l1) (by rw [eb]; omega)
      refine So_comesIn_q6 W33 T3 ρ m9 P9 ?_ (fun r4 q6 => ?_)
      · exact ⟨X1.1, V1, p1, by rw [eb]; exact l1, by rw [eb]; omega⟩  -- p5
      obtain ⟨q6, z9⟩ := q6
      have zc := z9
      intro W7
      intro M8
      refine ⟨fun c9 => ?_, fun c9 => ?_⟩
      · skip
        intro x10 hx10
        refine lp_b5 ?_ (fun d9 => ⟨rfl, ?_⟩)
        · rw [hn33, hx10, ix.2]; omega  -- d6
        · refine and_5 ?_ (fun o9 => ?_)  -- i7
          · refine ⟨rfl, rfl, ⟨Z1, N1, S1⟩, ?_, E1, by rw [hx10, ix.2]; omega, by rw [hx10, ix.2]; omega⟩
            exact Nat.le_trans D1 (Nat.mul_le_mul_left _ (Nat.add_le_add_left (Nat.mul_le_mul_right _ (by rw [hx10, ix.2]; omega)) _))
          · have V33 := vV_f15 W Ta0 N0 Z1 r0.1.2.2 suR9_l V0 hV9
            have B := bx_f15 W Ta0 Z1 X0
            have gs := g2.2.1
            have ks := cnk gs.1
            have kx := cnk (x := x33_2) (by omega)
            have kb := cnk r0.2.1
            have z0 : V9 (bs15 κ a0 x33_2.toNatClampNeg) = 0 := by
              refine Decidable.byContradiction (fun ne => ?_)
              refine zc.mpr ⟨?_, ?_⟩ c9
              · show zA κ33 _ (bs15 κ33 a0 x33_2.toNatClampNeg) ≠ _
                rw [B.2.2.2.2.1, B.2.2.2.2.1, B.1]
                refine fun y => ne (hK9 _ ?_ y)
                rw [← B.1]
                show (zA κ33 _ _).toNatClampNeg < m9
                omega
              · show zI κ33 raSign (vU9 κ33 a0 (bs15 κ33 a0 x33_2.toNatClampNeg)) ≠ 0
                rw [rq_015 (V33 _ (show bs15 κ33 a0 x33_2.toNatClampNeg < m9 by show (zA κ33 _ _).toNatClampNeg < m9; omega)).1, B.1]
                exact ne
            have kl : bl15 κ a0 a1.toNatClampNeg = (zA κ (zR κ weBackFirsts (zR κ soWeb a0)) a1.toNatClampNeg).toNatClampNeg := rfl
            rw [hx10, ix.1, show x33_2.toNatClampNeg + 1 - bl15 κ a0 a1.toNatClampNeg = (x33_2.toNatClampNeg - bl15 κ a0 a1.toNatClampNeg) + 1 by omega, bi_s15, show bl15 κ a0 a1.toNatClampNeg + (x33_2.toNatClampNeg - bl15 κ a0 a1.toNatClampNeg) = x33_2.toNatClampNeg by omega, un_015 z0, Rat.zero_mul, Rat.add_zero]
            exact hE
      · skip
        refine ⟨?_, ?_⟩
        · rw [inb_iff]; exact ⟨g2.1.1, g2.1.2.1⟩  -- b8
        intro T11
        have ks := cnk g2.2.1.1
        have gs := g2.2.1
        have xv := X1.1.2.2.2
        obtain ⟨v1, v2, v3⟩ := V1 _ (show (zA κ33 (zR κ33 weSources (zR κ33 soWeb a0)) x33_2.toNatClampNeg).toNatClampNeg < m9 by omega)
        obtain ⟨v5, v6, v7⟩ := v3 (q6.2 c9).1
        refine So_unit_q6 W7 T11 ρ (vU9 κ33 a0 (zA κ33 (zR κ33 weSources (zR κ33 soWeb a0)) x33_2.toNatClampNeg).toNatClampNeg) ?_ (fun κ_12 q13 => ?_)
        · exact ⟨⟨N1, S1⟩, X1.1.2.2.1.1, ⟨g2.2.1.1, by omega, by omega⟩, ⟨v1, v2⟩, v5, v6⟩  -- p9
        obtain ⟨q13, z9⟩ := q13
        have zu := z9
        obtain ⟨⟨Zu, Nu, Su⟩, _, tu, bd⟩ := q13
        have X2 := svX9_f W33 T33_0 soF_fr Zu X1.1
        have eb2 : zA κ_12 (zR κ_12 weBackFirsts (zR κ_12 soWeb a0)) = zA κ (zR κ weBackFirsts (zR κ soWeb a0)) := by rw [X2.2.1, (we_f9 W33 soF_fr Zu (ty_soWeb W33 T33_0) (f := weBackFirsts) (by decide)).2.1]; exact eb
        have g3 := bk_g9 X2.1 (t := a1.toNatClampNeg) (b := x33_2) (by omega) (by rw [eb2]; exact l1) (by rw [eb2]; omega)
        have g4 := eg_9 X2.1 g3.2
        have ec2 : zR κ_12 soCalc a0 = (zR κ soCalc a0) := (soF_r9 Zu (by decide)).1.trans ec1
        have ew2 : zR κ_12 soWhole a0 = (zR κ soWhole a0) := (soF_r9 Zu (by decide)).1.trans ew1
        have es2 : zR κ_12 soSum a0 = (zR κ soSum a0) := (soF_r9 Zu (by decide)).1.trans es1
        have el2 : zR κ_12 soLess a0 = (zR κ soLess a0) := (soF_r9 Zu (by decide)).1.trans el1
        have et2 : zR κ_12 raTop (zR κ_12 soPart a0) = zR κ33 raTop (zR κ33 soPart a0) := by rw [(soF_r9 Zu (f := soPart) (by decide)).1, (soF_r9 Zu (f := raTop) (by decide)).1]
        have eo2 : zR κ_12 raBottom (zR κ_12 soPart a0) = zR κ33 raBottom (zR κ33 soPart a0) := by rw [(soF_r9 Zu (f := soPart) (by decide)).1, (soF_r9 Zu (f := raBottom) (by decide)).1]
        have bw2 := soF_B (c := 0) W33 (w := (zR κ soWhole a0)) (by rw [← ew1]; exact ty_soWhole W33 T33_0) Zu (by rw [S0.1.1]; unfold unR9; decide)
        have bs2 := soF_B (c := 0) W33 (w := (zR κ soSum a0)) (by rw [← es1]; exact ty_soSum W33 T33_0) Zu (by rw [S0.1.2.2.2.2.1]; unfold unR9; decide)
        have bl2 := soF_B (c := 0) W33 (w := (zR κ soLess a0)) (by rw [← el1]; exact ty_soLess W33 T33_0) Zu (by rw [S0.1.2.2.2.2.2.1]; unfold unR9; decide)
        have tl : nuN κ_12 (zR κ33 raTop (zR κ33 soPart a0)) < 2 ^ 256 := Nat.lt_of_le_of_lt tu v5
        have h256 : 2 ^ 256 ≤ pB9 100 := by unfold pB9; decide
        have lS : nuN κ33 (zR κ soSum a0) < pB9 4000 := by
          have q1 := Nat.le_trans D1 (Nat.mul_le_mul_left _ (sm_b9 (i := (x33_2.toInt - (zA κ (zR κ weBackFirsts (zR κ soWeb a0)) a1.toNatClampNeg).toInt).toNat) (by omega)))
          have q2 : (nuN κ (zR κ soWhole a0) + 1) * pB9 11 ≤ pB9 1900 * pB9 11 := Nat.mul_le_mul_right _ p2
          rw [← pB9_a] at q2
          exact Nat.lt_of_le_of_lt (Nat.le_trans q1 q2) (pB9_s (by decide))
        have lW : nuN κ (zR κ soWhole a0) < pB9 2000 := Nat.lt_of_lt_of_le p2 (pB9_l (by decide))
        intro W14
        intro M15
        refine ⟨?_, ?_⟩
        · rw [inb_iff]; exact ⟨g3.1.1, g3.1.2.2.1⟩  -- b10
        refine ⟨?_, ?_⟩
        · rw [inb_iff]; exact g4.1  -- b11
        intro T16
        have ei := Int32.toInt_toInt64 (zA κ_12 (zR κ_12 atWeights (zR κ_12 soAtlas a0)) (zA κ_12 (zR κ_12 weEdges (zR κ_12 soWeb a0)) x33_2.toNatClampNeg).toNatClampNeg)
        have eh := ihi (zA κ_12 (zR κ_12 atWeights (zR κ_12 soAtlas a0)) (zA κ_12 (zR κ_12 weEdges (zR κ_12 soWeb a0)) x33_2.toNatClampNeg).toNatClampNeg)
        have e0 := g4.2
        refine So_addTerm_c W14 T16 ρ ?_ (fun κ_17 q18 => ?_)
        · have V33 := vV_f15 W Ta0 N0 Z1 r0.1.2.2 suR9_l V0 hV9
          have ru := zu _ (V33 _ (show bs15 κ33 a0 x33_2.toNatClampNeg < m9 by show (zA κ33 _ _).toNatClampNeg < m9; omega)).1
          have dn := ru.2.2
          rw [(soF_r9 Zu (f := raBottom) (by decide)).1] at dn
          rw [ew2, et2, eo2, es2, el2, bw2.2.1, bs2.2.1, bl2.2.1, bw1.2.1, ei]
          exact ⟨⟨Nu, Su⟩, ⟨by omega, by omega⟩, ⟨lW, Nat.lt_of_lt_of_le tl h256, by rw [dn]; exact Nat.pos_of_ne_zero (Rat.den_nz _)⟩, lS, Nat.lt_of_le_of_lt E1 p3⟩
        intro W19
        intro M20
        intro x21 hx21
        rw [ew2, et2, eo2, es2, el2, ec2, bw2.2.1, bs2.2.1, bl2.2.1, bw1.2.1, ei] at q18
        obtain ⟨Za, Na, A1, A2⟩ := q18
        rw [ec1] at Zu
        have Zf : zF (soF ρ suR9 (zR κ soCalc a0)) κ κ_17 := (Z1.tr (soF_m (fun r z => Or.inl z) Zu)).tr (soF_m (fun r z => Or.inr z) Za)
        have nx : (x21.toInt - (zA κ (zR κ weBackFirsts (zR κ soWeb a0)) a1.toNatClampNeg).toInt).toNat = (x33_2.toInt - (zA κ (zR κ weBackFirsts (zR κ soWeb a0)) a1.toNatClampNeg).toInt).toNat + 1 := by rw [hx21, ix.2]; omega
        refine lp_b5 ?_ (fun d9 => ⟨rfl, ?_⟩)
        · rw [hn33, hx21, ix.2]; omega  -- d13
        · refine and_5 ?_ (fun o9 => ?_)  -- i14
          · by_cases z : 0 < (zA κ_12 (zR κ_12 atWeights (zR κ_12 soAtlas a0)) (zA κ_12 (zR κ_12 weEdges (zR κ_12 soWeb a0)) x33_2.toNatClampNeg).toNatClampNeg).toInt
            · obtain ⟨B1, B2⟩ := A1 z
              refine ⟨rfl, rfl, ⟨Zf, Na⟩, ?_, by rw [B2]; exact E1, by rw [hx21, ix.2]; omega, by rw [hx21, ix.2]; omega⟩
              rw [nx, B1]
              exact sm_s9 D1 (tm_b9 tl (by omega) (Nat.le_succ_of_le (Nat.div_le_self _ _)))
            · obtain ⟨B1, B2⟩ := A2 z
              refine ⟨rfl, rfl, ⟨Zf, Na⟩, ?_, ?_, by rw [hx21, ix.2]; omega, by rw [hx21, ix.2]; omega⟩
              · rw [nx, B2]
                exact Nat.le_trans D1 (Nat.mul_le_mul_left _ (Nat.add_le_add_left (Nat.mul_le_mul_right _ (Nat.le_succ _)) _))
              · have w0 : (zA κ_12 (zR κ_12 atWeights (zR κ_12 soAtlas a0)) (zA κ_12 (zR κ_12 weEdges (zR κ_12 soWeb a0)) x33_2.toNatClampNeg).toNatClampNeg).toInt.natAbs = 0 := by omega
                rw [w0, Nat.mul_zero, Nat.zero_mul, Nat.add_zero] at B1
                rw [B1]
                exact E1
          · have V33 := vV_f15 W Ta0 N0 Z1 r0.1.2.2 suR9_l V0 hV9
            have B := bx_f15 W Ta0 Z1 X0
            have Zu2 : zF (soF ρ unR9 (zR κ33 soCalc a0)) κ33 κ_12 := by rw [ec1]; exact Zu
            have B2 := bx_f15 W33 T33_0 Zu2 X1.1
            have kx := cnk (x := x33_2) (by omega)
            have kb := cnk r0.2.1
            have vv := V33 _ (show bs15 κ33 a0 x33_2.toNatClampNeg < m9 by show (zA κ33 _ _).toNatClampNeg < m9; omega)
            have ru := zu _ vv.1
            have dn := ru.2.2
            have tn := ru.2.1
            rw [(soF_r9 Zu2 (f := raBottom) (by decide)).1] at dn
            rw [(soF_r9 Zu2 (f := raTop) (by decide)).1] at tn
            have eu : V9 (bs15 κ33 a0 x33_2.toNatClampNeg) * mkRat 1 (dvN9 κ33 (zR κ33 soAtlas a0) (bs15 κ33 a0 x33_2.toNatClampNeg)) = un15 κ a0 V9 (bs15 κ a0 x33_2.toNatClampNeg) := by
              have q := B.2.2.2.1 V9 (bs15 κ33 a0 x33_2.toNatClampNeg)
              rw [B.1] at q
              rw [B.1]
              exact q
            have dn2 : nuN κ_12 (zR κ33 raBottom (zR κ33 soPart a0)) = (un15 κ a0 V9 (bs15 κ a0 x33_2.toNatClampNeg)).den := dn.trans (congrArg Rat.den eu)
            have tn2 : nuN κ_12 (zR κ33 raTop (zR κ33 soPart a0)) = (un15 κ a0 V9 (bs15 κ a0 x33_2.toNatClampNeg)).num.natAbs := tn.trans (congrArg (fun x : Rat => x.num.natAbs) eu)
            have v0 : 0 ≤ V9 (bs15 κ a0 x33_2.toNatClampNeg) := by rw [← B.1]; exact vv.2
            have vn : V9 (bs15 κ a0 x33_2.toNatClampNeg) ≠ 0 := by
              have y := (zc.mp c9).2
              have y : zI κ33 raSign (vU9 κ33 a0 (bs15 κ33 a0 x33_2.toNatClampNeg)) ≠ 0 := y
              rw [rq_015 vv.1, B.1] at y
              exact y
            have kl : bl15 κ a0 a1.toNatClampNeg = (zA κ (zR κ weBackFirsts (zR κ soWeb a0)) a1.toNatClampNeg).toNatClampNeg := rfl
            have kh : ((bl15 κ a0 (a1.toNatClampNeg + 1) : Nat) : Int) = (zA κ (zR κ weBackFirsts (zR κ soWeb a0)) (a1.toNatClampNeg + 1)).toInt := cnk (x := zA κ (zR κ weBackFirsts (zR κ soWeb a0)) (a1.toNatClampNeg + 1)) (by omega)
            have dv := hB9 x33_2.toNatClampNeg (by omega) (by omega) vn
            have ew : bw15 κ a0 x33_2.toNatClampNeg = (zA κ_12 (zR κ_12 atWeights (zR κ_12 soAtlas a0)) (zA κ_12 (zR κ_12 weEdges (zR κ_12 soWeb a0)) x33_2.toNatClampNeg).toNatClampNeg).toInt := ((B2.2.1 x33_2.toNatClampNeg).trans (B.2.1 x33_2.toNatClampNeg)).symm
            have key := tn_15 (w := (bw15 κ a0 x33_2.toNatClampNeg).natAbs) (un_p15 (κ := κ) (a := a0) v0) rfl rfl dv
            have w0 : 0 ≤ bw15 κ a0 x33_2.toNatClampNeg := by rw [ew]; exact e0
            rw [hx21, ix.1, show x33_2.toNatClampNeg + 1 - bl15 κ a0 a1.toNatClampNeg = (x33_2.toNatClampNeg - bl15 κ a0 a1.toNatClampNeg) + 1 by omega, bi_s15, show bl15 κ a0 a1.toNatClampNeg + (x33_2.toNatClampNeg - bl15 κ a0 a1.toNatClampNeg) = x33_2.toNatClampNeg by omega, ← Rat.add_assoc, Rat.add_mul, ← hE]
            rw [← Rat.intCast_natCast (bw15 κ a0 x33_2.toNatClampNeg).natAbs, Int.natAbs_of_nonneg w0] at key
            rw [← key]
            by_cases z : 0 < (zA κ_12 (zR κ_12 atWeights (zR κ_12 soAtlas a0)) (zA κ_12 (zR κ_12 weEdges (zR κ_12 soWeb a0)) x33_2.toNatClampNeg).toNatClampNeg).toInt
            · obtain ⟨C1, C2⟩ := A1 z
              rw [C1, dn2, tn2, ← ew, Rat.natCast_add]
            · obtain ⟨C1, C2⟩ := A2 z
              have w00 : (bw15 κ a0 x33_2.toNatClampNeg).natAbs = 0 := by rw [ew]; omega
              rw [C2, w00, Nat.mul_zero, Nat.zero_mul]
              show _ = _ + (0 : Rat)
              rw [Rat.add_zero]
  intro T22
  refine Nu_put_c W T22 6500 ?_ (fun κ_23 q24 => ?_)
  · exact ⟨by decide, g7.2.2⟩  -- p15
  obtain ⟨Fp, ⟨Rp, Np⟩, Ip, Vp⟩ := q24
  have Zp : zF (soF ρ suR9 (zR κ soCalc a0)) κ κ_23 := soF_1 (by rw [S0.1.2.2.2.2.1]; exact Or.inr (Or.inr (Or.inr (Or.inr (Or.inl rfl))))) Fp
  have Nq : nmI ρ κ_23 := nm_1 W N0 Fp (by rw [S0.1.2.2.2.2.1]; exact Ip)
  have Sq : soI ρ κ_23 a0 := so_1 W Ta0 S0 Fp
  have bl := nuB_z (c := 0) W (ty_soLess W Ta0) Fp (fun z => ro_n S0.1.2.2.2.2.2.1 S0.1.2.2.2.2.1 (by decide) z.1) (fun z => ro_n S0.1.2.2.2.2.2.1 S0.1.2.2.2.2.1 (by decide) z.1)
  have bw := nuB_z (c := 6500) W (ty_soWhole W Ta0) Fp (fun z => ne17 z.1) (fun z => ne17 z.1)
  intro W25
  intro M26
  refine ⟨fun c27 => ?_, fun c27 => ?_⟩
  · skip
    refine hj23 _ _ _ W25 ?_ ?_
    · exact Fp.t Ta0 (by decide)  -- t16
    · refine and_5 ?_ (fun o9 => ?_)  -- k17
      · exact ⟨rfl, rfl, Zp, ⟨Nq, Sq⟩, by rw [Vp]; exact Nat.zero_le _, Nat.le_of_eq bl.2.2.1⟩
      · rw [if_neg c27, Rat.zero_mul, Vp]
        rfl
  · skip
    intro T28
    intro T29
    refine Nu_copy_c W25 T28 T29 6500 6500 ?_ (fun κ_30 q31 => ?_)
    · rw [Rp]
      have k1 := nuK_lt g1.1 p2
      have ip := Ip.1.2.1
      rw [Rp] at ip
      exact ⟨ip, bw.1 g1.1.1, fun z => ne17 z.symm, by rw [bw.2.2.2]; omega, by decide⟩
    intro W32
    intro M33
    rw [Rp, bw.2.2.1] at q31
    obtain ⟨Fc, Bc, Vc, Kc, Zc⟩ := q31
    have bl3 := nuB_z (c := 0) W25 (Fp.t (ty_soLess W Ta0) (by decide)) Fc (fun z => ro_n S0.1.2.2.2.2.2.1 S0.1.2.2.2.2.1 (by decide) z.1) (fun z => ro_n S0.1.2.2.2.2.2.1 S0.1.2.2.2.2.1 (by decide) z.1)
    refine hj23 _ _ _ W32 ?_ ?_
    · exact Fc.t (Fp.t Ta0 (by decide)) (by decide)  -- t19
    · refine and_5 ?_ (fun o9 => ?_)  -- k20
      · refine ⟨rfl, rfl, Zp.tr (soF_1 (by rw [S0.1.2.2.2.2.1]; exact Or.inr (Or.inr (Or.inr (Or.inr (Or.inl rfl))))) Fc), ⟨nm_1 W25 Nq Fc (by rw [S0.1.2.2.2.2.1]; exact ⟨Bc, Zc (bw.2.1 g1.1).2⟩), so_1 W25 (Fp.t Ta0 (by decide)) Sq Fc⟩, by rw [Vc]; exact Nat.le_refl _, by rw [bl3.2.2.1, bl.2.2.1]; exact Nat.le_refl _⟩
      · rw [if_pos c27, Rat.one_mul, Vc]

end
section
set_option maxHeartbeats 1600000
/-! the class: scaling, by its value -/
theorem co_m15 {n d : Nat} (hd : 0 < d) (c : Nat.gcd n d = 1) : (mkRat (n : Int) d).num = (n : Int) ∧ (mkRat (n : Int) d).den = d := by
  have z2 : ¬ d = 0 := by omega
  refine ⟨?_, ?_⟩
  · rw [Rat.num_mkRat, if_neg z2, Int.natAbs_natCast, Nat.gcd_comm, c]
    show (n : Int) / ((1 : Nat) : Int) = n
    exact Int.ediv_one _
  · rw [Rat.den_mkRat, if_neg z2, Int.natAbs_natCast, Nat.gcd_comm, c, Nat.div_one]
theorem mm_15 {x1 F x2 S g x3 x4 : Nat} : x1 * F * (x2 * S * g) * (x3 * x4) = x1 * x2 * (x3 * S * (x4 * F * g)) := by
  simp only [Nat.mul_assoc, Nat.mul_comm, Nat.mul_left_comm]
/-- a fraction scaled, in lowest terms -/
theorem sc_q15 {q : Rat} {t b a c A B F S : Nat} (q0 : 0 ≤ q) (ht : t = q.num.natAbs) (hb : b = q.den) (a0 : 0 < a) (c0 : 0 < c) (hA : A = a / Nat.gcd a c) (hB : B = c / Nat.gcd a c) (hF : F = Nat.gcd B t) (hS : S = Nat.gcd A b) : ((t / F * (A / S) : Nat) : Int) = (q * mkRat (a : Int) c).num ∧ b / S * (B / F) = (q * mkRat (a : Int) c).den := by
  have b0 : 0 < b := by rw [hb]; exact Nat.pos_of_ne_zero q.den_nz
  have g0 : 0 < Nat.gcd a c := Nat.gcd_pos_of_pos_left _ a0
  have ea : a = A * Nat.gcd a c := by rw [hA]; exact (Nat.div_mul_cancel (Nat.gcd_dvd_left _ _)).symm
  have ec : c = B * Nat.gcd a c := by rw [hB]; exact (Nat.div_mul_cancel (Nat.gcd_dvd_right _ _)).symm
  have A0 : 0 < A := Nat.pos_of_ne_zero (fun z => by rw [z, Nat.zero_mul] at ea; omega)
  have B0 : 0 < B := Nat.pos_of_ne_zero (fun z => by rw [z, Nat.zero_mul] at ec; omega)
  have cAB : Nat.Coprime A B := by rw [hA, hB]; exact Nat.coprime_div_gcd_div_gcd g0
  have ctb : Nat.Coprime t b := by rw [ht, hb]; exact q.reduced
  have F0 : 0 < F := by rw [hF]; exact Nat.gcd_pos_of_pos_left _ B0
  have S0 : 0 < S := by rw [hS]; exact Nat.gcd_pos_of_pos_left _ A0
  have dFt : F ∣ t := by rw [hF]; exact Nat.gcd_dvd_right _ _
  have dFB : F ∣ B := by rw [hF]; exact Nat.gcd_dvd_left _ _
  have dSA : S ∣ A := by rw [hS]; exact Nat.gcd_dvd_left _ _
  have dSb : S ∣ b := by rw [hS]; exact Nat.gcd_dvd_right _ _
  have k1 : Nat.Coprime (t / F) (b / S) := Nat.Coprime.coprime_dvd_left (Nat.div_dvd_of_dvd dFt) (Nat.Coprime.coprime_dvd_right (Nat.div_dvd_of_dvd dSb) ctb)
  have k2 : Nat.Coprime (t / F) (B / F) := by
    have e : F = Nat.gcd t B := by rw [hF, Nat.gcd_comm]
    have g : 0 < Nat.gcd t B := by rw [← e]; exact F0
    have c := Nat.coprime_div_gcd_div_gcd g
    rw [← e] at c
    exact c
  have k3 : Nat.Coprime (A / S) (b / S) := by
    have g : 0 < Nat.gcd A b := by rw [← hS]; exact S0
    have c := Nat.coprime_div_gcd_div_gcd g
    rw [← hS] at c
    exact c
  have k4 : Nat.Coprime (A / S) (B / F) := Nat.Coprime.coprime_dvd_left (Nat.div_dvd_of_dvd dSA) (Nat.Coprime.coprime_dvd_right (Nat.div_dvd_of_dvd dFB) cAB)
  have K : Nat.gcd (t / F * (A / S)) (b / S * (B / F)) = 1 := Nat.Coprime.mul_left (Nat.Coprime.mul_right k1 k2) (Nat.Coprime.mul_right k3 k4)
  have D0 : 0 < b / S * (B / F) := Nat.mul_pos (Nat.div_pos (Nat.le_of_dvd b0 dSb) S0) (Nat.div_pos (Nat.le_of_dvd B0 dFB) F0)
  have n0 : 0 ≤ q.num := Rat.num_nonneg.mpr q0
  have et : ((t : Nat) : Int) = q.num := by rw [ht]; exact Int.natAbs_of_nonneg n0
  have E : q * mkRat (a : Int) c = mkRat ((t / F * (A / S) : Nat) : Int) (b / S * (B / F)) := by
    have s : q = mkRat ((t : Nat) : Int) b := by rw [et, hb]; exact (Rat.mkRat_self q).symm
    rw [s, Rat.mkRat_mul_mkRat]
    refine (Rat.mkRat_eq_iff (by have := Nat.mul_pos b0 c0; omega) (by omega)).mpr ?_
    have e1 : t * a * (b / S * (B / F)) = t / F * (A / S) * (b * c) := by
      obtain ⟨g, hg⟩ : ∃ g, g = Nat.gcd a c := ⟨_, rfl⟩
      rw [← hg] at ea ec
      have f1 : t / F * F = t := Nat.div_mul_cancel dFt
      have f2 : A / S * S = A := Nat.div_mul_cancel dSA
      have f3 : b / S * S = b := Nat.div_mul_cancel dSb
      have f4 : B / F * F = B := Nat.div_mul_cancel dFB
      have m := mm_15 (x1 := t / F) (F := F) (x2 := A / S) (S := S) (g := g) (x3 := b / S) (x4 := B / F)
      rw [f1, f2, f3, f4, ← ea, ← ec] at m
      exact m
    have e2 : (((t * a * (b / S * (B / F)) : Nat)) : Int) = ((t / F * (A / S) * (b * c) : Nat) : Int) := by rw [e1]
    simpa [Int.natCast_mul] using e2
  have M := co_m15 D0 K
  rw [E]
  exact ⟨M.1.symm, M.2.symm⟩
def sq15 (κ τ : zS) (a : Nat) (l4 l5 l6 l7 a1 a2 : Int32) : Prop := nuN τ (zR κ raTop a) = nuN κ (zR κ raTop a) / l6.toInt.toNat ∧ l6.toInt.toNat = Nat.gcd l5.toInt.toNat (nuN κ (zR κ raTop a)) ∧ l7.toInt.toNat = Nat.gcd l4.toInt.toNat (nuN κ (zR κ raBottom a)) ∧ l4.toInt.toNat = a1.toInt.toNat / Nat.gcd a1.toInt.toNat a2.toInt.toNat ∧ l5.toInt.toNat = a2.toInt.toNat / Nat.gcd a1.toInt.toNat a2.toInt.toNat
theorem Ra_scale_q6 {C : zC} {n0 : Nat} {a0 : Nat} {a1 : Int32} {a2 : Int32} {κ : zS} {Q : zS → Prop} (W : zW C n0 κ) (Ta0 : zT κ a0 = 11) (c9 : Nat) (hp : raJ κ a0 c9 ∧ (nuK κ (zR κ raTop a0) + 1 + (nuK κ (zR κ raTop a0) + 1) / 2 + 1 ≤ c9 ∧ nuK κ (zR κ raBottom a0) + 1 + (nuK κ (zR κ raBottom a0) + 1) / 2 + 1 ≤ c9) ∧ c9 ≤ 30000000) (h : ∀ (κ' : zS), ((zF (raF (zR κ raTop a0) (zR κ raBottom a0) a0) κ κ' ∧ raJ κ' a0 c9 ∧ (raV κ' a0 0 0 1 ∨ ((0 < a1.toInt ∧ 0 < a2.toInt ∧ (zI κ raSign a0).toInt ≠ 0) ∧ zI κ' raSign a0 = zI κ raSign a0 ∧ nuN κ' (zR κ raTop a0) ≤ nuN κ (zR κ raTop a0) * a1.toInt.toNat ∧ nuN κ' (zR κ raBottom a0) ∣ nuN κ (zR κ raBottom a0) * a2.toInt.toNat ∧ nuN κ' (zR κ raBottom a0) ≤ nuN κ (zR κ raBottom a0) * a2.toInt.toNat))) ∧ (∀ q : Rat, rqW8 κ a0 q → 0 ≤ q → 0 < a1.toInt → 0 < a2.toInt → rqW8 κ' a0 (q * mkRat a1.toInt a2.toInt.toNat))) → Q κ') : zRun C 4 mRa_scale [.ref a0, .int a1, .int a2] κ (oV Q noX) := by
  refine Ra_scale_run W Ta0 ?_
  replace W := W.lo (Nat.le_trans W.1.2.1 W.1.2.2) (Nat.le_refl (zn κ))
  unfold w_Ra_scale_0
  obtain ⟨⟨It, Ib, ne⟩, ⟨p1, p2⟩, p3⟩ := hp
  have Tt := ty_raTop W Ta0
  have Tb := ty_raBottom W Ta0
  have zro : ∀ κ' : zS, (zF (raF (zR κ raTop a0) (zR κ raBottom a0) a0) κ κ' ∧ raJ κ' a0 c9 ∧ raV κ' a0 0 0 1) → zF (raF (zR κ raTop a0) (zR κ raBottom a0) a0) κ κ' ∧ raJ κ' a0 c9 ∧ (raV κ' a0 0 0 1 ∨ ((0 < a1.toInt ∧ 0 < a2.toInt ∧ (zI κ raSign a0).toInt ≠ 0) ∧ zI κ' raSign a0 = zI κ raSign a0 ∧ nuN κ' (zR κ raTop a0) ≤ nuN κ (zR κ raTop a0) * a1.toInt.toNat ∧ nuN κ' (zR κ raBottom a0) ∣ nuN κ (zR κ raBottom a0) * a2.toInt.toNat ∧ nuN κ' (zR κ raBottom a0) ≤ nuN κ (zR κ raBottom a0) * a2.toInt.toNat)) := fun κ' z => by
    have e : zR κ' raBottom a0 = (zR κ raBottom a0) := raF_r z.1 (by decide) (by decide) (by decide)
    have v := z.2.2.2.2
    rw [e] at v
    exact ⟨z.1, z.2.1, Or.inl z.2.2⟩
  have rC : raC κ a0 c9 := ⟨It.1.2.1, Ib.1.2.1, ne⟩
  have hj100 : ∀ (l0 : Nat) (l4 : Int32) (l5 : Int32) (l6 : Int32) (l7 : Int32) (τ : zS), zW C (zn κ) τ → zT τ l0 = 11 → ((a0 = l0 ∧ scI κ τ a0 c9 l4 l5 l6 l7 a1 a2 (nuN κ (zR κ raBottom a0) / l7.toInt.toNat) ∧ (0 < a1.toInt ∧ 0 < a2.toInt ∧ (zI κ raSign a0).toInt ≠ 0)) ∧ sq15 κ τ a0 l4 l5 l6 l7 a1 a2) → w_Ra_scale_100 C (zn κ) Q  l0 l4 l5 l6 l7 τ := by
    rintro _ y100_4 y100_5 y100_6 y100_7 τ100 W100 T100_0 ⟨⟨rfl, j100⟩, hE⟩
    unfold w_Ra_scale_100
    obtain ⟨⟨⟨Z1, S1⟩, ⟨It1, Vt1⟩, ⟨Ib1, Vb1⟩, ⟨l41, l42⟩, ⟨l51, l52⟩, ⟨l61, l62⟩, l71, l72⟩, pos⟩ := j100
    have et1 : zR τ100 raTop a0 = (zR κ raTop a0) := raF_r Z1 (by decide) (by decide) (by decide)
    have eb1 : zR τ100 raBottom a0 = (zR κ raBottom a0) := raF_r Z1 (by decide) (by decide) (by decide)
    have Tt1 : zT τ100 (zR κ raTop a0) = 8 := Z1.t Tt (by decide)
    have Tb1 : zT τ100 (zR κ raBottom a0) = 8 := Z1.t Tb (by decide)
    have kt1 : nuK τ100 (zR κ raTop a0) ≤ nuK κ (zR κ raTop a0) := nuK_le (d := 0) It1 Vt1
    have kb1 : nuK τ100 (zR κ raBottom a0) ≤ nuK κ (zR κ raBottom a0) := nuK_le (d := 0) Ib1 (by rw [Vb1]; exact Nat.div_le_self _ _)
    have d4 := i_divn (x := y100_4) (y := y100_7) (by omega) l71
    have d5 := i_divn (x := y100_5) (y := y100_6) (by omega) l61
    have e4 : (y100_4 / y100_7).toInt64.toInt = (y100_4 / y100_7).toInt := Int32.toInt_toInt64 _
    have e5 : (y100_5 / y100_6).toInt64.toInt = (y100_5 / y100_6).toInt := Int32.toInt_toInt64 _
    have i4 := ihi (y100_4 / y100_7)
    have i5 := ihi (y100_5 / y100_6)
    refine ⟨?_, ?_⟩
    · exact i_n0 l71  -- b1
    intro T1
    refine Nu_times_c W100 T1 c9 ?_ (fun κ_2 q3 => ?_)
    · rw [et1]
      exact ⟨It1, ⟨by rw [e4]; exact d4.2.2, by rw [e4]; omega⟩, by omega, p3⟩
    rw [et1, e4, d4.2.1] at q3
    obtain ⟨F2, I2, V2⟩ := q3
    have eb2 : zR κ_2 raBottom a0 = (zR κ raBottom a0) := (nuF_r F2 (by decide) (by decide)).trans eb1
    have bb := nuB_z (c := c9) W100 Tb1 F2 (fun z => ne z.1.symm) (fun z => ne z.1.symm)
    have Tt2 : zT κ_2 (zR κ raTop a0) = 8 := F2.t Tt1 (by decide)
    intro W4
    intro M5
    refine ⟨?_, ?_⟩
    · exact i_n0 l61  -- b3
    intro T6
    refine Nu_times_c W4 T6 c9 ?_ (fun κ_7 q8 => ?_)
    · rw [eb2, bb.2.2.2]
      exact ⟨bb.2.1 Ib1, ⟨by rw [e5]; exact d5.2.2, by rw [e5]; omega⟩, by omega, p3⟩
    intro W9
    intro M10
    refine h _ ?_
    · refine and_5 ?_ (fun o9 => ?_)  -- q5
      · rw [eb2, e5, d5.2.1, bb.2.2.1, Vb1] at q8
        obtain ⟨F7, I7, V7⟩ := q8
        have bt := nuB_z (c := c9) W4 Tt2 F7 (fun z => ne z.1) (fun z => ne z.1)
        have Zf := (Z1.tr (raF_1 F2)).tr (raF_2 F7)
        have et7 : zR κ_7 raTop a0 = (zR κ raTop a0) := raF_r Zf (by decide) (by decide) (by decide)
        have eb7 : zR κ_7 raBottom a0 = (zR κ raBottom a0) := raF_r Zf (by decide) (by decide) (by decide)
        refine ⟨Zf, ?_, Or.inr ⟨pos, (nuF_i F7).trans ((nuF_i F2).trans S1), ?_, by rw [V7]; exact sc_d l72 l62 l52, by rw [V7]; exact Nat.mul_le_mul (Nat.div_le_self _ _) (Nat.le_trans (Nat.div_le_self _ _) (Nat.le_of_dvd (by omega) l52))⟩⟩
        · unfold raJ
          rw [et7, eb7]
          exact ⟨bt.2.1 I2, I7, ne⟩
        · rw [bt.2.2.1, V2]
          refine Nat.mul_le_mul Vt1 (Nat.le_trans (Nat.div_le_self _ _) ?_)
          omega
      · rw [eb2, e5, d5.2.1, bb.2.2.1, Vb1] at q8
        obtain ⟨F7, I7, V7⟩ := q8
        have bt := nuB_z (c := c9) W4 Tt2 F7 (fun z => ne z.1) (fun z => ne z.1)
        have Zf := (Z1.tr (raF_1 F2)).tr (raF_2 F7)
        have et7 : zR κ_7 raTop a0 = (zR κ raTop a0) := raF_r Zf (by decide) (by decide) (by decide)
        have eb7 : zR κ_7 raBottom a0 = (zR κ raBottom a0) := raF_r Zf (by decide) (by decide) (by decide)
        intro q hq9 q0 _ _
        obtain ⟨z1, z2, z3, z4, z5⟩ := hE
        have U := sc_q15 (q := q) (a := a1.toInt.toNat) (c := a2.toInt.toNat) q0 hq9.2.1 hq9.2.2 (by omega) (by omega) z4 z5 z2 z3
        have ea : (a1.toInt.toNat : Int) = a1.toInt := by omega
        rw [ea] at U
        have sq : (zI κ raSign a0).toInt = 1 := by
          have y := hq9.1
          have nz : q ≠ 0 := (rq_015 hq9).mp (fun z => pos.2.2 (by rw [z]; rfl))
          have qp : 0 < q := by grind
          rw [y, (ps_q8.1).mpr qp]
        have s2 : (q * mkRat a1.toInt a2.toInt.toNat).num.sign = 1 := by
          have nz : q ≠ 0 := (rq_015 hq9).mp (fun z => pos.2.2 (by rw [z]; rfl))
          have qp : 0 < q := by grind
          have mp : 0 < mkRat a1.toInt a2.toInt.toNat := by rw [← ea]; exact mk_p8 (by omega) (by omega)
          exact (ps_q8.1).mpr (Rat.mul_pos qp mp)
        refine ⟨?_, ?_, ?_⟩
        · rw [(nuF_i F7).trans ((nuF_i F2).trans S1), sq, s2]
        · rw [et7, bt.2.2.1, V2, z1, ← U.1, Int.natAbs_natCast]
        · rw [eb7, V7, U.2]
  have hj84 : ∀ (l0 : Nat) (l4 : Int32) (l5 : Int32) (l6 : Int32) (l7 : Int32) (τ : zS), zW C (zn κ) τ → zT τ l0 = 11 → ((a0 = l0 ∧ scI κ τ a0 c9 l4 l5 l6 l7 a1 a2 (nuN κ (zR κ raBottom a0)) ∧ (0 < a1.toInt ∧ 0 < a2.toInt ∧ (zI κ raSign a0).toInt ≠ 0)) ∧ sq15 κ τ a0 l4 l5 l6 l7 a1 a2) → w_Ra_scale_84 C (zn κ) Q  l0 l4 l5 l6 l7 τ := by
    rintro _ y84_4 y84_5 y84_6 y84_7 τ84 W84 T84_0 ⟨⟨rfl, j84⟩, hE⟩
    unfold w_Ra_scale_84
    refine ⟨fun c11 => ?_, fun c11 => ?_⟩
    · skip
      refine hj100 _ _ _ _ _ _ W84 ?_ ?_
      · exact T84_0  -- t6
      · refine and_5 ?_ (fun o9 => hE)  -- k7
        rw [lei, t1i] at c11
        obtain ⟨⟨Z1, ⟨It1, Vt1⟩, ⟨Ib1, Vb1⟩, l4, l5, l6, l71, l72⟩, pos⟩ := j84
        have e : y84_7.toInt.toNat = 1 := by omega
        exact ⟨rfl, ⟨Z1, ⟨It1, Vt1⟩, ⟨Ib1, by rw [Vb1, e, Nat.div_one]⟩, l4, l5, l6, l71, l72⟩, pos⟩
    · skip
      intro T12
      obtain ⟨⟨⟨Z1, S1⟩, ⟨It1, Vt1⟩, ⟨Ib1, Vb1⟩, l4, l5, l6, l71, l72⟩, pos⟩ := j84
      have eb1 : zR τ84 raBottom a0 = (zR κ raBottom a0) := raF_r Z1 (by decide) (by decide) (by decide)
      have Tt1 : zT τ84 (zR κ raTop a0) = 8 := Z1.t Tt (by decide)
      refine Nu_over_c W84 T12 c9 ?_ (fun r13 κ_14 q15 => ?_)
      · rw [eb1]
        exact ⟨Ib1, l71⟩
      rw [eb1, Vb1] at q15
      obtain ⟨F14, I14, V14, r14⟩ := q15
      have bt := nuB_z (c := c9) W84 Tt1 F14 (fun z => ne z.1) (fun z => ne z.1)
      intro W16
      intro M17
      refine hj100 _ _ _ _ _ _ W16 ?_ ?_
      · exact F14.t T84_0 (by decide)  -- t9
      · refine and_5 ?_ (fun o9 => ?_)  -- k10
        · exact ⟨rfl, ⟨⟨Z1.tr (raF_2 F14), (nuF_i F14).trans S1⟩, ⟨bt.2.1 It1, by rw [bt.2.2.1]; exact Vt1⟩, ⟨I14, V14⟩, l4, l5, l6, l71, l72⟩, pos⟩
        · refine ⟨?_, hE.2⟩
          rw [bt.2.2.1]
          exact hE.1
  refine ⟨fun c18 => ?_, fun c18 => ?_⟩
  · skip
    intro T19
    refine Ra_putZero_c W T19 c9 ?_ (fun κ_20 q21 => ?_)
    · exact rC  -- p11
    intro W22
    intro M23
    refine h _ ?_
    · refine and_5 ?_ (fun o9 => ?_)  -- q12
      · exact zro _ q21
      · intro q _ _ z _
        rw [lei, t0i] at c18
        omega
  · skip
    refine ⟨fun c24 => ?_, fun c24 => ?_⟩
    · skip
      intro T25
      refine Ra_putZero_c W T25 c9 ?_ (fun κ_26 q27 => ?_)
      · exact rC  -- p13
      intro W28
      intro M29
      refine h _ ?_
      · refine and_5 ?_ (fun o9 => ?_)  -- q14
        · exact zro _ q27
        · intro q _ _ _ z
          rw [lei, t0i] at c24
          omega
    · skip
      have pos : ¬ a1 ≤ 0 → ¬ a2 ≤ 0 → ¬ zI κ raSign a0 = 0 → (0 < a1.toInt ∧ 0 < a2.toInt ∧ (zI κ raSign a0).toInt ≠ 0) := fun x y z => by
        rw [lei, t0i] at x y
        exact ⟨by omega, by omega, fun w => z (Int32.toInt_inj.mp (w.trans t0i.symm))⟩
      refine ⟨fun c30 => ?_, fun c30 => ?_⟩
      · skip
        refine Ch_commonInt_c W   ?_ (fun r31 q33 => ?_)
        · have ps := pos c18 c24 c30
          exact ⟨by omega, by omega⟩
        intro W34
        intro M35
        have ps := pos c18 c24 c30
        have ps1 := ps.1
        have ps2 := ps.2.1
        clear pos
        have g1 : r31.toInt.toNat = Nat.gcd a1.toInt.toNat a2.toInt.toNat := by
          rcases q33.2 with z | z
          · exact z
          · omega
        have g0 := q33.1
        have ga : r31.toInt.toNat ∣ a1.toInt.toNat := by rw [g1]; exact Nat.gcd_dvd_left _ _
        have gb : r31.toInt.toNat ∣ a2.toInt.toNat := by rw [g1]; exact Nat.gcd_dvd_right _ _
        refine ⟨?_, ?_⟩
        · exact i_n0 (by omega)  -- b16
        intro x36 hx36
        have f4 := i_divn (x := a1) (y := r31) (by omega) (by omega)
        rw [← hx36] at f4
        have f4p := dv_p (show 0 < a1.toInt.toNat by omega) ga
        rw [← f4.2.1] at f4p
        have f4l : x36.toInt.toNat ≤ a1.toInt.toNat := by rw [f4.2.1]; exact Nat.div_le_self _ _
        refine ⟨?_, ?_⟩
        · exact i_n0 (by omega)  -- b17
        intro x37 hx37
        intro T38
        have f5 := i_divn (x := a2) (y := r31) (by omega) (by omega)
        rw [← hx37] at f5
        have f5p := dv_p (show 0 < a2.toInt.toNat by omega) gb
        rw [← f5.2.1] at f5p
        have f5d : x37.toInt.toNat ∣ a2.toInt.toNat := by rw [f5.2.1]; exact Nat.div_dvd_of_dvd gb
        refine Nu_rest_c W34 T38 c9 ?_ (fun r39 q41 => ?_)
        · exact ⟨It, by omega⟩  -- p18
        intro W42
        intro M43
        have r39p : 0 ≤ r39.toInt := by rw [q41]; exact Int.natCast_nonneg _
        refine Ch_commonInt_c W42   ?_ (fun r44 q46 => ?_)
        · exact ⟨by omega, r39p⟩  -- p19
        have g6 : r44.toInt.toNat ∣ x37.toInt.toNat := by
          rcases q46.2 with z | z
          · rw [z]; exact Nat.gcd_dvd_left _ _
          · omega
        have g6p := q46.1
        intro W47
        intro M48
        intro T49
        refine Nu_rest_c W47 T49 c9 ?_ (fun r50 q52 => ?_)
        · exact ⟨Ib, by omega⟩  -- p20
        intro W53
        intro M54
        have r50p : 0 ≤ r50.toInt := by rw [q52]; exact Int.natCast_nonneg _
        refine Ch_commonInt_c W53   ?_ (fun r55 q57 => ?_)
        · exact ⟨by omega, r50p⟩  -- p21
        have g7 : r55.toInt.toNat ∣ nuN κ (zR κ raBottom a0) := by
          have e50 : r50.toInt.toNat = nuN κ (zR κ raBottom a0) % x36.toInt.toNat := by rw [q52]; exact Int.toNat_natCast _
          rcases q57.2 with z | z
          · rw [z, e50, gc_m]; exact Nat.gcd_dvd_left _ _
          · omega
        have g7p := q57.1
        intro W58
        intro M59
        refine ⟨fun c60 => ?_, fun c60 => ?_⟩
        · skip
          refine hj84 _ _ _ _ _ _ W58 ?_ ?_
          · exact Ta0  -- t22
          · refine and_5 ?_ (fun o9 => ?_)  -- k23
            · exact ⟨rfl, ⟨⟨zF.rf, rfl⟩, ⟨It, Nat.le_refl _⟩, ⟨Ib, rfl⟩, ⟨by omega, by omega⟩, ⟨by omega, f5d⟩, ⟨by omega, g6⟩, by omega, g7⟩, ps⟩
            · have e39 : r39.toInt.toNat = nuN κ (zR κ raTop a0) % x37.toInt.toNat := by rw [q41]; exact Int.toNat_natCast _
              have e50 : r50.toInt.toNat = nuN κ (zR κ raBottom a0) % x36.toInt.toNat := by rw [q52]; exact Int.toNat_natCast _
              have h6 : r44.toInt.toNat = Nat.gcd x37.toInt.toNat (nuN κ (zR κ raTop a0)) := by
                rcases q46.2 with z | z
                · rw [z, e39, gc_q15, Nat.gcd_comm]
                · omega
              have h7 : r55.toInt.toNat = Nat.gcd x36.toInt.toNat (nuN κ (zR κ raBottom a0)) := by
                rcases q57.2 with z | z
                · rw [z, e50, gc_q15, Nat.gcd_comm]
                · omega
              have o : r44.toInt.toNat = 1 := by
                rw [lei, t1i] at c60
                omega
              exact ⟨by rw [o, Nat.div_one], h6, h7, by rw [f4.2.1, g1], by rw [f5.2.1, g1]⟩
        · skip
          intro T61
          refine Nu_over_c W58 T61 c9 ?_ (fun r62 κ_63 q64 => ?_)
          · exact ⟨It, by omega⟩  -- p24
          obtain ⟨F63, I63, V63, r63⟩ := q64
          have bb := nuB_z (c := c9) W Tb F63 (fun z => ne z.1.symm) (fun z => ne z.1.symm)
          intro W65
          intro M66
          refine hj84 _ _ _ _ _ _ W65 ?_ ?_
          · exact F63.t Ta0 (by decide)  -- t25
          · refine and_5 ?_ (fun o9 => ?_)  -- k26
            · exact ⟨rfl, ⟨⟨raF_1 F63, nuF_i F63⟩, ⟨I63, by rw [V63]; exact Nat.div_le_self _ _⟩, ⟨bb.2.1 Ib, bb.2.2.1⟩, ⟨by omega, by omega⟩, ⟨by omega, f5d⟩, ⟨by omega, g6⟩, by omega, g7⟩, ps⟩
            · have e39 : r39.toInt.toNat = nuN κ (zR κ raTop a0) % x37.toInt.toNat := by rw [q41]; exact Int.toNat_natCast _
              have e50 : r50.toInt.toNat = nuN κ (zR κ raBottom a0) % x36.toInt.toNat := by rw [q52]; exact Int.toNat_natCast _
              have h6 : r44.toInt.toNat = Nat.gcd x37.toInt.toNat (nuN κ (zR κ raTop a0)) := by
                rcases q46.2 with z | z
                · rw [z, e39, gc_q15, Nat.gcd_comm]
                · omega
              have h7 : r55.toInt.toNat = Nat.gcd x36.toInt.toNat (nuN κ (zR κ raBottom a0)) := by
                rcases q57.2 with z | z
                · rw [z, e50, gc_q15, Nat.gcd_comm]
                · omega
              exact ⟨V63, h6, h7, by rw [f4.2.1, g1], by rw [f5.2.1, g1]⟩
      · skip
        intro T67
        refine Ra_putZero_c W T67 c9 ?_ (fun κ_68 q69 => ?_)
        · exact rC  -- p27
        intro W70
        intro M71
        refine h _ ?_
        · refine and_5 ?_ (fun o9 => ?_)  -- q28
          · exact zro _ q69
          · intro q hq9 _ _ _
            have sz : zI κ raSign a0 = 0 := by first | exact c30 | exact Decidable.byContradiction (fun z => c30 z)
            have e : q = 0 := by
              refine Decidable.byContradiction (fun z => (rq_015 hq9).mpr z sz)
            obtain ⟨Z68, J68, V68⟩ := q69
            rw [e, Rat.zero_mul]
            exact ⟨V68.1, V68.2.1, V68.2.2⟩

end
section
set_option maxHeartbeats 1600000
/-! the class: the visits of a state that is in no ring, by their value -/
theorem bi_f15 {C : zC} {n0 a n ca : Nat} {ρ : Nat → Nat} {R : Nat → Prop} {κ τ : zS} (W : zW C n0 κ) (Ta : zT κ a = 12) (Z : zF (soF ρ R ca) κ τ) (X : svX9 κ a n) (V : Nat → Rat) (B m : Nat) : bi15 τ a V B m = bi15 κ a V B m := by
  have H := bx_f15 W Ta Z X
  exact smQ_c (fun d _ => by
    show un15 τ a V (bs15 τ a (B + d)) * (bw15 τ a (B + d) : Rat) = un15 κ a V (bs15 κ a (B + d)) * (bw15 κ a (B + d) : Rat)
    rw [H.1, H.2.1, H.2.2.2.1])
theorem bi_n15 {κ : zS} {a B m : Nat} {V : Nat → Rat} (h : ∀ d, d < m → 0 ≤ V (bs15 κ a (B + d))) (w : ∀ d, d < m → 0 ≤ bw15 κ a (B + d)) : 0 ≤ bi15 κ a V B m := smQ_nn (fun d hd => Rat.mul_nonneg (un_p15 (h d hd)) (Rat.intCast_nonneg.mpr (w d hd)))
theorem un_l15 {κ : zS} {a s : Nat} {V : Nat → Rat} (h : 0 ≤ V s) (n : V s ≠ 0) : 0 < un15 κ a V s := by
  unfold un15
  have p : 0 < V s := by grind
  exact Rat.mul_pos p (mk_p8 dvN9_p (by decide))
/-- what keeping leaves -/
theorem kp_15 {κ' : zS} {u S B : Nat} {x : Rat} {v : Int32} (B0 : 0 < B) (x0 : 0 < x) (e : ((S : Nat) : Rat) = x * ((B : Nat) : Rat)) (z : v ≠ 0 ↔ S / Nat.gcd S B < 2 ^ 256 ∧ B / Nat.gcd S B < 2 ^ 256) (k : v ≠ 0 → raV κ' u 1 (S / Nat.gcd S B) (B / Nat.gcd S B)) : (v ≠ 0 ↔ f2W8 x) ∧ (v ≠ 0 → rqW8 κ' u x) := by
  have bq : (0 : Rat) < ((B : Nat) : Rat) := nq0 B0
  have i := inv_s (S := ((B : Nat) : Rat)) (by grind)
  have ex : x = mkRat (S : Int) B := by
    rw [mk_d, Rat.intCast_natCast, e]
    grind
  have m := mk_n8 (n := (S : Int)) B0
  rw [← ex, Int.natAbs_natCast] at m
  have s1 := (ps_q8 (a := x)).1.mpr x0
  unfold f2W8 rqW8
  rw [m.1, m.2.1, s1]
  exact ⟨z, fun y => ⟨(k y).1, (k y).2.1, (k y).2.2⟩⟩
/-- what comes to state k -/
abbrev in15 (κ : zS) (a : Nat) (V : Nat → Rat) (k : Int32) : Rat := (if k = 0 then 1 else 0) + bi15 κ a V (bl15 κ a k.toNatClampNeg) (bl15 κ a (k.toNatClampNeg + 1) - bl15 κ a k.toNatClampNeg)
theorem So_visitOne_q6 {C : zC} {n0 : Nat} {a0 : Nat} {a1 : Int32} {κ : zS} {Q : Int32 → zS → Prop} (W : zW C n0 κ) (Ta0 : zT κ a0 = 12) (ρ : Nat → Nat) (m9 P9 : Nat) (V9 : Nat → Rat) (hV9 : vV15 κ a0 m9 V9) (hz9 : V9 a1.toNatClampNeg = 0) (hK9 : ∀ s, s < m9 → zA κ (zR κ weKnotOf (zR κ soWeb a0)) s = zA κ (zR κ weKnotOf (zR κ soWeb a0)) a1.toNatClampNeg → V9 s = 0) (hP9 : ∀ b, bl15 κ a0 a1.toNatClampNeg ≤ b → b < bl15 κ a0 (a1.toNatClampNeg + 1) → 0 < bw15 κ a0 b) (hp : (nmI ρ κ ∧ soI ρ κ a0) ∧ svX9 κ a0 m9 ∧ vsI9 ρ κ a0 m9 P9 ∧ (0 ≤ a1.toInt ∧ a1.toInt < m9) ∧ (0 < P9 ∧ P9 < pB9 1900) ∧ nuN κ (zR κ soLess a0) < pB9 4000) (h : ∀ (v : Int32) (κ' : zS), ((nb v ∧ (zF (soF ρ (voR9 (100 + 8 * a1.toNatClampNeg)) (zR κ soCalc a0)) κ κ' ∧ nmI ρ κ' ∧ soI ρ κ' a0) ∧ nuN κ' (zR κ soLess a0) ≤ nuN κ (zR κ soLess a0) ∧ (v ≠ 0 → vsK9 κ' (vU9 κ a0 a1.toNatClampNeg) (dvN9 κ (zR κ soAtlas a0) a1.toNatClampNeg) (P9 * dvN9 κ (zR κ soAtlas a0) a1.toNatClampNeg))) ∧ ((v ≠ 0 ↔ f2W8 (in15 κ a0 V9 a1)) ∧ (v ≠ 0 → rqW8 κ' (vU9 κ a0 a1.toNatClampNeg) (in15 κ a0 V9 a1)))) → Q v κ') : zRun C 7 mSo_visitOne [.ref a0, .int a1] κ (oI Q noX) := by
  refine So_visitOne_run W Ta0 ?_
  replace W := W.lo (Nat.le_trans W.1.2.1 W.1.2.2) (Nat.le_refl (zn κ))
  unfold w_So_visitOne_0
  obtain ⟨⟨N0, S0⟩, X0, V0, p1, ⟨p2, p3⟩, p4⟩ := hp
  have kn := cnk p1.1
  have r0 := bk_r9 X0 (t := a1.toNatClampNeg) (by omega)
  obtain ⟨vk1, vk2, vk3⟩ := V0 a1.toNatClampNeg (by omega)
  have xv := X0.2.2.2
  have g1 := nm_g N0 S0.1.1 (Or.inl ⟨by decide, by decide⟩) (by decide)
  have gk := ra_g9 N0 vk2 (by omega) (by omega) (by omega)
  have i1 := cn1 p1.1 (by omega)
  have o1 : (1 : Int64).toInt.toNat = 1 := rfl
  have hj134 : ∀ (l0 : Nat) (l1 : Int32) (l2 : Int32) (τ : zS), zW C (zn κ) τ → zT τ l0 = 12 → ((κ = τ ∧ a0 = l0 ∧ a1 = l1 ∧ True) ∧ (l2 = 0 → bi15 κ a0 V9 (bl15 κ a0 a1.toNatClampNeg) (bl15 κ a0 (a1.toNatClampNeg + 1) - bl15 κ a0 a1.toNatClampNeg) = 0) ∧ (¬ l2 = 0 → 0 < bi15 κ a0 V9 (bl15 κ a0 a1.toNatClampNeg) (bl15 κ a0 (a1.toNatClampNeg + 1) - bl15 κ a0 a1.toNatClampNeg))) → w_So_visitOne_134 C (zn κ) Q  l0 l1 l2 τ := by
    rintro _ _ y134_2 _ W134 T134_0 ⟨⟨rfl, rfl, rfl, j134⟩, hE⟩
    unfold w_So_visitOne_134
    refine ⟨fun c1 => ?_, fun c1 => ?_⟩
    · skip
      intro T2
      refine Nu_put_c W134 T2 6500 ?_ (fun κ_3 q4 => ?_)
      · exact ⟨by decide, g1.2.2⟩  -- p1
      obtain ⟨Fp, ⟨Rp, Np⟩, Ip, Vp⟩ := q4
      have Zp : zF (soF ρ (fun r => r = 1) (zR κ soCalc a0)) κ κ_3 := soF_1 S0.1.1 Fp
      have N3 : nmI ρ κ_3 := nm_1 W N0 Fp (by rw [S0.1.1]; exact Ip)
      have S3 : soI ρ κ_3 a0 := so_1 W Ta0 S0 Fp
      have T3' : zT κ_3 a0 = 12 := Fp.t Ta0 (by decide)
      have X3 := svX9_f W Ta0 soF_fr Zp X0
      have V3 := vsI9_f W Ta0 N0 Zp r0.1.2.2 (fun r h e => by omega) V0
      intro W5
      intro M6
      intro T7
      refine So_joinInflow_q6 W5 T7 ρ m9 P9 V9 (vV_f15 W Ta0 N0 Zp r0.1.2.2 (fun r h e => by omega) V0 hV9) ?_ (fun κ_8 q9 => ?_)
      · refine ⟨⟨N3, S3⟩, X3.1, V3, p1, ?_, p2, Nat.lt_of_lt_of_le p3 (pB9_l (by decide))⟩
        rw [Rp, Vp, o1]
        exact Or.inr (Nat.one_dvd _)
      obtain ⟨q9, z9⟩ := q9
      have zj := z9
      obtain ⟨Zj, ⟨N8, S8⟩, Dj⟩ := q9
      have X8 := svX9_f W5 T3' soF_fr Zj X3.1
      have V8 := vsI9_f W5 T3' N3 Zj r0.1.2.2 jiR9_l V3
      rw [Rp] at Zj Dj
      have Zt8 : zF (soF ρ (fun r => r < 100) (zR κ soCalc a0)) κ κ_8 := (soF_m (fun r z => by omega) Zp).tr (soF_m (fun r z => by rcases z with (z | z | z) | (z | z | z) <;> omega) Zj)
      have ew8 : zR κ_8 soWhole a0 = (zR κ soWhole a0) := (soF_r9 Zt8 (by decide)).1
      have el8 : zR κ_8 soLess a0 = (zR κ soLess a0) := (soF_r9 Zt8 (by decide)).1
      have es8 : zR κ_8 soSum a0 = (zR κ soSum a0) := (soF_r9 Zt8 (by decide)).1
      have ec8 : zR κ_8 soCalc a0 = (zR κ soCalc a0) := (soF_r9 Zt8 (by decide)).1
      have l3 := soF_B (c := 0) W (ty_soLess W Ta0) Zp (by rw [S0.1.2.2.2.2.2.1]; decide)
      have l8 := soF_B (c := 0) W5 (w := (zR κ soLess a0)) (Fp.t (ty_soLess W Ta0) (by decide)) Zj (by rw [S0.1.2.2.2.2.2.1]; unfold jiR9 unR9 jnR9; decide)
      have w8 : nuN κ_8 (zR κ soWhole a0) < pB9 1900 := Nat.lt_of_le_of_lt (dz9_le Dj p2) p3
      have B3 := bx_f15 W Ta0 Zp X0
      have B8 := bx_f15 W Ta0 Zt8 X0
      rw [Rp, Vp, o1] at zj
      have hB8 : ∀ b, bl15 κ_8 a0 a1.toNatClampNeg ≤ b → b < bl15 κ_8 a0 (a1.toNatClampNeg + 1) → V9 (bs15 κ_8 a0 b) ≠ 0 → (un15 κ_8 a0 V9 (bs15 κ_8 a0 b)).den ∣ nuN κ_8 (zR κ_8 soWhole a0) := fun b h1 h2 h3 => by
        rw [B8.2.2.1] at h1 h2
        rw [B8.1] at h3 ⊢
        rw [B8.2.2.2.1, ew8]
        have y := zj.2.2 b (by rw [B3.2.2.1]; exact h1) (by rw [B3.2.2.1]; exact h2)
        have kO3 := B3.2.2.2.2.1
        rw [Rp] at kO3
        rw [B3.1, kO3, kO3, B3.2.2.2.1] at y
        refine y (fun e => h3 (hK9 _ ?_ e)) h3
        have g := bk_g9 X0 (t := a1.toNatClampNeg) (b := Int32.ofNat b) (by omega) (by
          have k := cnk r0.2.1
          rw [ofn_i (by have := cnk (x := zA κ (zR κ weBackFirsts (zR κ soWeb a0)) (a1.toNatClampNeg + 1)) (by omega); have h2 : b < (zA κ (zR κ weBackFirsts (zR κ soWeb a0)) (a1.toNatClampNeg + 1)).toNatClampNeg := h2; omega)]
          have h1 : (zA κ (zR κ weBackFirsts (zR κ soWeb a0)) a1.toNatClampNeg).toNatClampNeg ≤ b := h1
          omega) (by
          have k := cnk (x := zA κ (zR κ weBackFirsts (zR κ soWeb a0)) (a1.toNatClampNeg + 1)) (by omega)
          have h2 : b < (zA κ (zR κ weBackFirsts (zR κ soWeb a0)) (a1.toNatClampNeg + 1)).toNatClampNeg := h2
          rw [ofn_i (by omega)]
          omega)
        have gs := g.2.1
        have ob : (Int32.ofNat b).toNatClampNeg = b := cl_5 (by
          have k := cnk (x := zA κ (zR κ weBackFirsts (zR κ soWeb a0)) (a1.toNatClampNeg + 1)) (by omega)
          have h2 : b < (zA κ (zR κ weBackFirsts (zR κ soWeb a0)) (a1.toNatClampNeg + 1)).toNatClampNeg := h2
          omega)
        rw [ob] at gs
        have ks := cnk gs.1
        show (zA κ _ _).toNatClampNeg < m9
        omega
      have w80 : 0 < nuN κ_8 (zR κ soWhole a0) := zj.1 (by decide)
      intro W10
      intro M11
      intro T12
      refine So_sumInflow_q6 W10 T12 ρ m9 P9 V9 (vV_f15 W Ta0 N0 Zt8 r0.1.2.2 (fun r h e => by omega) V0 hV9) (fun s hs y => hK9 s hs (by have B := bx_f15 W Ta0 Zt8 X0; rw [B.2.2.2.2.1, B.2.2.2.2.1] at y; exact y)) hB8 ?_ (fun κ_13 q14 => ?_)
      · refine ⟨⟨N8, S8⟩, X8.1, V8, p1, by rw [ew8]; exact w8, ?_⟩
        rw [el8, l8.2.1, l3.2.1]
        exact p4
      obtain ⟨q14, z9⟩ := q14
      have zs := z9
      rw [ec8, es8, ew8, el8, l8.2.1, l3.2.1] at q14
      obtain ⟨Zs, ⟨N13, S13⟩, Ds, Es⟩ := q14
      have Zt : zF (soF ρ (fun r => r < 100) (zR κ soCalc a0)) κ κ_13 := Zt8.tr (soF_m (fun r z => by rcases z with (z | z | z) | (z | z | z | z | z | z) <;> omega) Zs)
      have X13 := svX9_f W Ta0 soF_fr Zt X0
      have U13 := vU9_f W Ta0 Zt
      have xv13 := X13.1.2.2.2
      have ew13 : zR κ_13 soWhole a0 = (zR κ soWhole a0) := (soF_r9 Zt (by decide)).1
      have es13 : zR κ_13 soSum a0 = (zR κ soSum a0) := (soF_r9 Zt (by decide)).1
      have ec13 : zR κ_13 soCalc a0 = (zR κ soCalc a0) := (soF_r9 Zt (by decide)).1
      have w13 := soF_B (c := 0) W10 (w := (zR κ soWhole a0)) (by rw [← ew8]; exact ty_soWhole W10 (Zt8.t Ta0 (by decide))) Zs (by rw [S0.1.1]; unfold suR9 unR9 adR9; decide)
      have lsu : nuN κ_13 (zR κ soSum a0) < pB9 4000 := by
        have q2 : (nuN κ_8 (zR κ soWhole a0) + 1) * pB9 11 ≤ pB9 1900 * pB9 11 := Nat.mul_le_mul_right _ w8
        rw [← pB9_a] at q2
        exact Nat.lt_of_le_of_lt (Nat.le_trans Ds q2) (pB9_s (by decide))
      intro W15
      intro M16
      refine ⟨?_, ?_⟩
      · rw [inb_iff]; omega  -- b4
      refine ex_some ?_ (fun u17 hu17 => ?_)
      · exact ⟨_, by rw [U13.1]; exact vk1⟩  -- e5
      intro T18
      intro T19
      intro T20
      intro T21
      have eu : u17 = vU9 κ a0 a1.toNatClampNeg := Option.some.inj (hu17.symm.trans (by rw [U13.1]; exact vk1))
      subst eu
      refine So_keep_q6 W15 T18 T19 T20 T21 ρ (100 + 8 * a1.toNatClampNeg) 7 1 ?_ (fun r22 κ_23 q24 => ?_)
      · refine ⟨⟨N13, S13⟩, ⟨vk2, by omega, by omega, by omega⟩, ⟨S13.1.2.2.2.2.1, Or.inl ⟨by decide, by decide⟩, by decide⟩, ⟨S13.1.1, Or.inl ⟨by decide, by decide⟩, by decide⟩, by rw [es13]; exact lsu, ?_⟩
        rw [ew13, w13.2.1]
        exact Nat.lt_of_lt_of_le w8 (pB9_l (by decide))
      obtain ⟨q24, z9⟩ := q24
      have zk := z9
      intro W25
      intro M26
      refine ⟨?_, h _ _ ?_⟩
      · exact q24.1  -- b7
      · refine and_5 ?_ (fun o9 => ?_)  -- q8
        · rw [ew13, es13, ec13, w13.2.1] at q24
          obtain ⟨b, ⟨Zk, N23, S23⟩, _, K⟩ := q24
          have l23 := soF_B (c := 0) W15 (w := (zR κ soLess a0)) (Zt.t (ty_soLess W Ta0) (by decide)) Zk (by rw [S0.1.2.2.2.2.2.1]; unfold kpR9 stR9; omega)
          refine ⟨b, ⟨(soF_m (fun r z => Or.inl z) Zt).tr (soF_m (fun r z => voR9_k z) Zk), N23, S23⟩, by rw [l23.2.1]; exact Es, fun z => ?_⟩
          obtain ⟨⟨k1, k2⟩, k3, k4, k5⟩ := K z
          intro _
          rw [k4, k5]
          have gd := Nat.gcd_dvd_right (nuN κ_13 (zR κ soSum a0)) (nuN κ_8 (zR κ soWhole a0))
          exact ⟨k1, k2, dz9_mul (dz9_div Dj gd)⟩
        · rw [ew13, es13, ec13, w13.2.1] at q24
          obtain ⟨b, ⟨Zk, N23, S23⟩, _, K⟩ := q24
          rw [es8, ew8, B8.2.2.1, B8.2.2.1, bi_f15 W Ta0 Zt8 X0] at zs
          rw [es13, ew13, w13.2.1] at zk
          have x0 : 0 < in15 κ a0 V9 a1 := by
            have y := hE.2 c1
            unfold in15
            split <;> grind
          exact kp_15 w80 x0 zs zk (fun z => (K z).2)
    · skip
      refine ⟨fun c27 => ?_, fun c27 => ?_⟩
      · skip
        refine h _ _ ?_
        · refine and_5 ?_ (fun o9 => ?_)  -- q9
          · exact ⟨Or.inr rfl, ⟨zF.rf, N0, S0⟩, Nat.le_refl _, fun _ => vsK9_m (Nat.dvd_mul_right _ _) vk3⟩
          · have e : in15 κ a0 V9 a1 = 0 := by
              unfold in15
              rw [if_neg c27, hE.1 c1, Rat.add_zero]
            rw [e]
            have v := (hV9 a1.toNatClampNeg (by omega)).1
            rw [hz9] at v
            exact ⟨⟨fun _ => by unfold f2W8; decide, fun _ z => absurd z (by decide)⟩, fun _ => v⟩
      · skip
        refine ⟨?_, ?_⟩
        · rw [inb_iff]; omega  -- b10
        refine ex_some ?_ (fun u28 hu28 => ?_)
        · exact ⟨_, vk1⟩  -- e11
        intro T29
        have eu : u28 = vU9 κ a0 a1.toNatClampNeg := Option.some.inj (hu28.symm.trans vk1)
        subst eu
        refine Ra_putOne_c W134 T29 20 ?_ (fun κ_30 q31 => ?_)
        · exact gk.2.2.1  -- p12
        intro W32
        intro M33
        refine h _ _ ?_
        · refine and_5 ?_ (fun o9 => ?_)  -- q13
          · obtain ⟨Zo, Jo, Vo⟩ := q31
            have R := ra_w9 W134 Ta0 N0 S0 vk2 (by omega) (by omega) (by omega) Zo Jo
            have Z9 : zF (soF ρ (voR9 (100 + 8 * a1.toNatClampNeg)) (zR κ soCalc a0)) κ κ_30 := soF_m (fun r z => Or.inr z) (R.2 _)
            have l9 := soF_B (c := 0) W134 (ty_soLess W134 Ta0) (R.2 (zR κ soCalc a0)) (by rw [S0.1.2.2.2.2.2.1]; omega)
            refine ⟨Or.inr rfl, ⟨Z9, R.1⟩, Nat.le_of_eq l9.2.1, fun _ _ => ?_⟩
            rw [Vo.2.1, Vo.2.2]
            refine ⟨by decide, by decide, ?_⟩
            rw [Nat.one_mul]
            exact Or.inr (Nat.dvd_mul_left _ _)
          · have e : in15 κ a0 V9 a1 = 1 := by
              unfold in15
              rw [if_pos c27, hE.1 c1, Rat.add_zero]
            rw [e]
            obtain ⟨Zo, Jo, Vo⟩ := q31
            exact ⟨⟨fun _ => by unfold f2W8; decide, fun _ z => absurd z (by decide)⟩, fun _ => ⟨Vo.1, Vo.2.1, Vo.2.2⟩⟩
  refine ⟨?_, ?_⟩
  · rw [inb_iff]; omega  -- b14
  intro x34 hx34
  unfold w_So_visitOne_15
  refine ⟨fun n l0 l1 l2 l3 l4 τ => n = ((zA κ (zR κ weBackFirsts (zR κ soWeb a0)) (a1.toNatClampNeg + 1)).toInt - l4.toInt).toNat ∧ ((κ = τ ∧ a0 = l0 ∧ a1 = l1 ∧ (0 ≤ l2.toInt ∧ l2.toInt ≤ l4.toInt) ∧ ((zA κ (zR κ weBackFirsts (zR κ soWeb a0)) a1.toNatClampNeg).toInt ≤ l4.toInt ∧ l4.toInt ≤ (zA κ (zR κ weBackFirsts (zR κ soWeb a0)) (a1.toNatClampNeg + 1)).toInt) ∧ (l2.toInt ≠ 0 → ((zA κ (zR κ weBackFirsts (zR κ soWeb a0)) a1.toNatClampNeg).toInt ≤ l3.toInt ∧ l3.toInt < (zA κ (zR κ weBackFirsts (zR κ soWeb a0)) (a1.toNatClampNeg + 1)).toInt) ∧ zI κ raSign (vU9 κ a0 (zA κ (zR κ weSources (zR κ soWeb a0)) l3.toNatClampNeg).toNatClampNeg) ≠ 0 ∧ (zA κ (zR κ weSources (zR κ soWeb a0)) l3.toNatClampNeg).toNatClampNeg ≠ a1.toNatClampNeg)) ∧ (l2.toInt = 0 → bi15 κ a0 V9 (bl15 κ a0 a1.toNatClampNeg) (l4.toNatClampNeg - bl15 κ a0 a1.toNatClampNeg) = 0) ∧ (l2.toInt = 1 → bi15 κ a0 V9 (bl15 κ a0 a1.toNatClampNeg) (l4.toNatClampNeg - bl15 κ a0 a1.toNatClampNeg) = un15 κ a0 V9 (bs15 κ a0 l3.toNatClampNeg) * (bw15 κ a0 l3.toNatClampNeg : Rat)) ∧ (0 < l2.toInt → 0 < bi15 κ a0 V9 (bl15 κ a0 a1.toNatClampNeg) (l4.toNatClampNeg - bl15 κ a0 a1.toNatClampNeg))), ⟨_, rfl, ?_⟩, ?_⟩
  · refine and_5 ?_ (fun o9 => ?_)  -- j15
    · exact ⟨rfl, rfl, rfl, ⟨by decide, by rw [hx34, t0i]; omega⟩, ⟨by rw [hx34]; exact Int.le_refl _, by rw [hx34]; exact r0.2.2.1⟩, fun z => absurd rfl z⟩
    · have e : x34.toNatClampNeg - bl15 κ a0 a1.toNatClampNeg = 0 := by rw [hx34]; exact Nat.sub_self _
      rw [e]
      exact ⟨fun _ => rfl, fun z => absurd z (by decide), fun z => absurd z (by decide)⟩
  rintro n15 _ _ x15_2 x15_3 x15_4 _ W15 T15_0 ⟨hn15, ⟨rfl, rfl, rfl, i15⟩, hE⟩
  refine ⟨?_, ?_⟩
  · rw [inb_iff, i1.2]; omega  -- b16
  refine ⟨fun c35 => ?_, fun c35 => ?_⟩
  · skip
    refine ⟨fun c36 => ?_, fun c36 => ?_⟩
    · skip
      refine hj134 _ _ _ _ W15 ?_ ?_
      · exact Ta0  -- t17
      · refine and_5 ?_ (fun o9 => ?_)  -- k18
        · exact ⟨rfl, rfl, rfl, trivial⟩
        · rw [i1.1, lei] at c35
          have k1 := cnk (x := zA κ (zR κ weBackFirsts (zR κ soWeb a0)) (a1.toNatClampNeg + 1)) (by omega)
          have k2 := cnk (x := x15_4) (by omega)
          have ek : bl15 κ a0 (a1.toNatClampNeg + 1) = x15_4.toNatClampNeg := by show (zA κ _ _).toNatClampNeg = _; omega
          rw [ek]
          refine ⟨fun z => hE.1 (by rw [z]; rfl), fun z => hE.2.2 ?_⟩
          have ne : x15_2.toInt ≠ 0 := fun y => z (Int32.toInt_inj.mp y)
          omega
    · skip
      refine ⟨fun c37 => ?_, fun c37 => ?_⟩
      · skip
        refine hj134 _ _ _ _ W15 ?_ ?_
        · exact Ta0  -- t19
        · refine and_5 ?_ (fun o9 => ?_)  -- k20
          · exact ⟨rfl, rfl, rfl, trivial⟩
          · rw [i1.1, lei] at c35
            have k1 := cnk (x := zA κ (zR κ weBackFirsts (zR κ soWeb a0)) (a1.toNatClampNeg + 1)) (by omega)
            have k2 := cnk (x := x15_4) (by omega)
            have ek : bl15 κ a0 (a1.toNatClampNeg + 1) = x15_4.toNatClampNeg := by show (zA κ _ _).toNatClampNeg = _; omega
            rw [ek]
            refine ⟨fun z => hE.1 (by rw [z]; rfl), fun z => hE.2.2 ?_⟩
            have ne : x15_2.toInt ≠ 0 := fun y => z (Int32.toInt_inj.mp y)
            omega
      · skip
        obtain ⟨_, _, i3⟩ := i15
        obtain ⟨⟨m1, m2⟩, m3, m4⟩ := i3 (by rw [c36]; decide)
        have g2 := bk_g9 X0 (t := a1.toNatClampNeg) (b := x15_3) (by omega) m1 m2
        have g3 := eg_9 X0 g2.2
        refine ⟨?_, ?_⟩
        · rw [inb_iff]; exact ⟨g2.1.1, g2.1.2.1⟩  -- b21
        intro x38 hx38
        obtain ⟨gs1, gs2⟩ := g2.2.1
        rw [← hx38] at gs1 gs2 m3 m4
        have ks := cnk gs1
        obtain ⟨w1, w2, w3⟩ := V0 x38.toNatClampNeg (by omega)
        obtain ⟨v5, v6, v7⟩ := w3 m3
        have gs := ra_g9 N0 w2 (by omega) (by omega) (by omega)
        refine ⟨?_, ?_⟩
        · rw [inb_iff]; omega  -- b22
        refine ⟨?_, ?_⟩
        · rw [inb_iff]; omega  -- b23
        refine ex_some ?_ (fun u39 hu39 => ?_)
        · exact ⟨_, vk1⟩  -- e24
        refine ex_some ?_ (fun u40 hu40 => ?_)
        · exact ⟨_, w1⟩  -- e25
        intro T41
        intro T42
        have eu : u39 = vU9 κ a0 a1.toNatClampNeg := Option.some.inj (hu39.symm.trans vk1)
        subst eu
        have ev : u40 = vU9 κ a0 x38.toNatClampNeg := Option.some.inj (hu40.symm.trans w1)
        subst ev
        have kt := k256 gs.2.2.2.1 v5
        have kb := k256 gs.2.2.2.2.1 v6
        refine Ra_copy_c W15 T41 T42 20 ?_ (fun κ_43 q44 => ?_)
        · exact ⟨gk.2.2.1, ⟨nuI_mono (by decide) gs.2.2.2.1, nuI_mono (by decide) gs.2.2.2.2.1, gs.2.2.2.2.2⟩, ⟨ro_n gk.2.1.1 gs.2.1.1 (by omega), ro_n gk.2.1.1 gs.2.1.2 (by omega), ro_n gk.2.1.2 gs.2.1.1 (by omega), ro_n gk.2.1.2 gs.2.1.2 (by omega)⟩, ⟨by omega, by omega⟩, by decide⟩  -- p26
        obtain ⟨Zc, Jc, Vc⟩ := q44
        have R4 := ra_w9 W Ta0 N0 S0 vk2 (by omega) (by omega) (by omega) Zc Jc
        have Z4 := R4.2 (zR κ soCalc a0)
        have X4 := svX9_f W Ta0 soF_fr Z4 X0
        have U4 := vU9_f W Ta0 Z4
        have T4 : zT κ_43 a0 = 12 := Z4.t Ta0 (by decide)
        have eb4 : zA κ_43 (zR κ_43 weBackFirsts (zR κ_43 soWeb a0)) = zA κ (zR κ weBackFirsts (zR κ soWeb a0)) := by rw [X4.2.1]; exact (we_f9 W soF_fr Z4 (ty_soWeb W Ta0) (f := weBackFirsts) (by decide)).2.1
        have g4 := bk_g9 X4.1 (t := a1.toNatClampNeg) (b := x15_3) (by omega) (by rw [eb4]; exact m1) (by rw [eb4]; exact m2)
        have g5 := eg_9 X4.1 g4.2
        have xv4 := X4.1.2.2.2
        intro W45
        intro M46
        refine ⟨?_, ?_⟩
        · rw [inb_iff]; omega  -- b27
        refine ⟨?_, ?_⟩
        · rw [inb_iff]; exact ⟨g4.1.1, g4.1.2.2.1⟩  -- b28
        refine ⟨?_, ?_⟩
        · rw [inb_iff]; exact g5.1  -- b29
        intro T47
        refine At_divisorOf_c W45 T47  ?_ (fun r48 q50 => ?_)
        · exact ⟨X4.1.2.2.1.1, gs1, by omega⟩  -- p30
        intro W51
        intro M52
        refine ex_some ?_ (fun u53 hu53 => ?_)
        · exact ⟨_, by rw [U4.1]; exact vk1⟩  -- e31
        intro T54
        have eu : u53 = vU9 κ a0 a1.toNatClampNeg := Option.some.inj (hu53.symm.trans (by rw [U4.1]; exact vk1))
        subst eu
        have kt4 := k256 Jc.1 (by rw [Vc.2.1]; exact v5)
        have kb4 := k256 Jc.2.1 (by rw [Vc.2.2]; exact v6)
        have rd : r48 = dvA κ (zR κ soAtlas a0) x38.toNatClampNeg := by
          have q := q50
          rw [X4.2.2.1] at q
          exact q.trans (dvA_f9 W soF_fr Z4 (ty_soAtlas W Ta0) _)
        refine Ra_scale_q6 W51 T54 20 ?_ (fun κ_55 q56 => ?_)
        · exact ⟨Jc, ⟨by omega, by omega⟩, by decide⟩  -- p32
        obtain ⟨q56, z9⟩ := q56
        have zsc := z9
        obtain ⟨Zd, Jd, Vd⟩ := q56
        have R5 := ra_w9 W45 T4 R4.1.1 R4.1.2 vk2 (by omega) (by omega) (by omega) Zd Jd
        have Z5 := Z4.tr (R5.2 (zR κ soCalc a0))
        have X5 := svX9_f W Ta0 soF_fr Z5 X0
        have U5 := vU9_f W Ta0 Z5
        have xv5 := X5.1.2.2.2
        intro W57
        intro M58
        refine ⟨?_, ?_⟩
        · rw [inb_iff]; omega  -- b33
        refine ex_some ?_ (fun u59 hu59 => ?_)
        · exact ⟨_, by rw [U5.1]; exact vk1⟩  -- e34
        intro T60
        have eu : u59 = vU9 κ a0 a1.toNatClampNeg := Option.some.inj (hu59.symm.trans (by rw [U5.1]; exact vk1))
        subst eu
        refine Ra_fits_q6 W57 T60  ?_ (fun r61 q63 => ?_)
        · exact ⟨nuI_mono (by decide) Jd.1, nuI_mono (by decide) Jd.2.1⟩  -- p35
        obtain ⟨q63, z9⟩ := q63
        have zf := z9
        intro W64
        intro M65
        refine ⟨?_, h _ _ ?_⟩
        · exact q63.1  -- b36
        · refine and_5 ?_ (fun o9 => ?_)  -- q37
          · have l9 := soF_B (c := 0) W (ty_soLess W Ta0) Z5 (by rw [S0.1.2.2.2.2.2.1]; omega)
            refine ⟨q63.1, ⟨soF_m (fun r z => Or.inr z) Z5, R5.1⟩, Nat.le_of_eq l9.2.1, fun z s => ?_⟩
            obtain ⟨f1, f2⟩ := q63.2 z
            have e5 : zR κ_55 raBottom (vU9 κ a0 a1.toNatClampNeg) = zR κ_43 raBottom (vU9 κ a0 a1.toNatClampNeg) := raF_r Zd (by decide) (by decide) (by decide)
            refine ⟨f1, f2, ?_⟩
            rcases Vd with Vd | ⟨⟨_, d2, _⟩, _, _, d3, d4⟩
            · exfalso
              have q : (zI κ_55 raSign (vU9 κ a0 a1.toNatClampNeg)).toInt = (0 : Int32).toInt := Vd.1
              exact s (Int32.toInt.inj q)
            · rw [e5]
              rw [Vc.2.2] at d3 d4
              have en : dvN9 κ (zR κ soAtlas a0) x38.toNatClampNeg = r48.toInt.toNat := by
                unfold dvN9
                rw [← rd]
                split <;> omega
              rw [en] at v7
              exact dz9_mul (dz9_of v7 d3 d4)
          · rw [i1.1, lei] at c35
            have k1 := cnk (x := zA κ (zR κ weBackFirsts (zR κ soWeb a0)) (a1.toNatClampNeg + 1)) (by omega)
            have k2 := cnk (x := x15_4) (by omega)
            have k3 := cnk (x := x15_3) (by omega)
            have kl := cnk r0.2.1
            have ek : bl15 κ a0 (a1.toNatClampNeg + 1) = x15_4.toNatClampNeg := by show (zA κ _ _).toNatClampNeg = _; omega
            have e1 := hE.2.1 (by rw [c36]; rfl)
            have es : bs15 κ a0 x15_3.toNatClampNeg = x38.toNatClampNeg := by rw [hx38]
            have wp := hP9 x15_3.toNatClampNeg (by show (zA κ _ _).toNatClampNeg ≤ _; omega) (by rw [ek]; omega)
            have B4 := bx_f15 W Ta0 Z4 X0
            have ew : (zA κ_43 (zR κ_43 atWeights (zR κ_43 soAtlas a0)) (zA κ_43 (zR κ_43 weEdges (zR κ_43 soWeb a0)) x15_3.toNatClampNeg).toNatClampNeg).toInt = bw15 κ a0 x15_3.toNatClampNeg := B4.2.1 x15_3.toNatClampNeg
            have dv := dv_9 X0 (k := x38.toNatClampNeg) (by omega)
            rw [← rd] at dv
            have dN : dvN9 κ (zR κ soAtlas a0) x38.toNatClampNeg = r48.toInt.toNat := by
              unfold dvN9
              rw [← rd]
              split <;> omega
            have vs := hV9 x38.toNatClampNeg (by omega)
            have c43 : rqW8 κ_43 (vU9 κ a0 a1.toNatClampNeg) (V9 x38.toNatClampNeg) := ⟨Vc.1.trans vs.1.1, Vc.2.1.trans vs.1.2.1, Vc.2.2.trans vs.1.2.2⟩
            have r55 := zsc _ c43 vs.2 (by rw [ew]; exact wp) (by omega)
            have ex : V9 x38.toNatClampNeg * mkRat (zA κ_43 (zR κ_43 atWeights (zR κ_43 soAtlas a0)) (zA κ_43 (zR κ_43 weEdges (zR κ_43 soWeb a0)) x15_3.toNatClampNeg).toNatClampNeg).toInt r48.toInt.toNat = in15 κ a0 V9 a1 := by
              unfold in15
              rw [if_neg (fun z => by rw [z] at c37; exact c37 (by decide)), ek, e1, es, ew]
              unfold un15
              rw [dN, mk_d, mk_d]
              show _ = 0 + _ * (1 * _) * _
              generalize ((r48.toInt.toNat : Nat) : Rat)⁻¹ = d
              grind
            rw [ex] at r55
            have fe : f2W8 (in15 κ a0 V9 a1) ↔ (nuN κ_55 (zR κ_55 raTop (vU9 κ a0 a1.toNatClampNeg)) < 2 ^ 256 ∧ nuN κ_55 (zR κ_55 raBottom (vU9 κ a0 a1.toNatClampNeg)) < 2 ^ 256) := by
              unfold f2W8
              rw [r55.2.1, r55.2.2]
            exact ⟨zf.trans fe.symm, fun _ => r55⟩
  · skip
    intro T66
    rw [i1.1, lei] at c35
    obtain ⟨i2, i3, i4⟩ := i15
    have ix := cn1 (x := x15_4) (by omega) (by omega)
    refine So_comesIn_q6 W15 T66 ρ m9 P9 ?_ (fun r67 q69 => ?_)
    · exact ⟨X0, V0, p1, i3.1, by omega⟩  -- p38
    obtain ⟨q69, z9⟩ := q69
    have zc := z9
    intro W70
    intro M71
    refine ⟨fun c72 => ?_, fun c72 => ?_⟩
    · skip
      intro x73 hx73
      refine lp_b5 ?_ (fun d9 => ⟨rfl, ?_⟩)
      · rw [hn15, hx73, ix.2]; omega  -- d39
      · refine and_5 ?_ (fun o9 => ?_)  -- i40
        · exact ⟨rfl, rfl, rfl, ⟨i2.1, by rw [hx73, ix.2]; omega⟩, ⟨by rw [hx73, ix.2]; omega, by rw [hx73, ix.2]; omega⟩, i4⟩
        · have g := bk_g9 X0 (t := a1.toNatClampNeg) (b := x15_4) (by omega) i3.1 (by omega)
          have gs := g.2.1
          have ks := cnk gs.1
          have k2 := cnk (x := x15_4) (by omega)
          have kl := cnk r0.2.1
          have z0 : V9 (bs15 κ a0 x15_4.toNatClampNeg) = 0 := by
            refine Decidable.byContradiction (fun ne => ?_)
            have hs : bs15 κ a0 x15_4.toNatClampNeg < m9 := by show (zA κ _ _).toNatClampNeg < m9; omega
            exact zc.mpr ⟨fun y => ne (hK9 _ hs y), (rq_015 (hV9 _ hs).1).mpr ne⟩ c72
          have e : x73.toNatClampNeg - bl15 κ a0 a1.toNatClampNeg = (x15_4.toNatClampNeg - bl15 κ a0 a1.toNatClampNeg) + 1 := by
            have : bl15 κ a0 a1.toNatClampNeg = (zA κ (zR κ weBackFirsts (zR κ soWeb a0)) a1.toNatClampNeg).toNatClampNeg := rfl
            rw [hx73, ix.1]; omega
          have e2 : bl15 κ a0 a1.toNatClampNeg + (x15_4.toNatClampNeg - bl15 κ a0 a1.toNatClampNeg) = x15_4.toNatClampNeg := by
            have : bl15 κ a0 a1.toNatClampNeg = (zA κ (zR κ weBackFirsts (zR κ soWeb a0)) a1.toNatClampNeg).toNatClampNeg := rfl
            omega
          rw [e, bi_s15, e2, un_015 z0, Rat.zero_mul, Rat.add_zero]
          exact hE
    · skip
      intro x74 hx74
      intro x75 hx75
      have iy := cn1 (x := x15_2) (by omega) (by omega)
      refine lp_b5 ?_ (fun d9 => ⟨rfl, ?_⟩)
      · rw [hn15, hx75, ix.2]; omega  -- d41
      · refine and_5 ?_ (fun o9 => ?_)  -- i42
        · exact ⟨rfl, rfl, rfl, ⟨by rw [hx74, iy.2]; omega, by rw [hx74, hx75, ix.2, iy.2]; omega⟩, ⟨by rw [hx75, ix.2]; omega, by rw [hx75, ix.2]; omega⟩, fun _ => ⟨⟨i3.1, by omega⟩, q69.2 c72⟩⟩
        · have g := bk_g9 X0 (t := a1.toNatClampNeg) (b := x15_4) (by omega) i3.1 (by omega)
          have gs := g.2.1
          have ks := cnk gs.1
          have k2 := cnk (x := x15_4) (by omega)
          have kl := cnk r0.2.1
          have kh := cnk (x := zA κ (zR κ weBackFirsts (zR κ soWeb a0)) (a1.toNatClampNeg + 1)) (by omega)
          have hs : bs15 κ a0 x15_4.toNatClampNeg < m9 := by show (zA κ _ _).toNatClampNeg < m9; omega
          have vv := hV9 _ hs
          have ne := (rq_015 vv.1).mp (zc.mp c72).2
          have bl : bl15 κ a0 a1.toNatClampNeg = (zA κ (zR κ weBackFirsts (zR κ soWeb a0)) a1.toNatClampNeg).toNatClampNeg := rfl
          have bh : bl15 κ a0 (a1.toNatClampNeg + 1) = (zA κ (zR κ weBackFirsts (zR κ soWeb a0)) (a1.toNatClampNeg + 1)).toNatClampNeg := rfl
          have wp := hP9 x15_4.toNatClampNeg (by omega) (by omega)
          have up := Rat.mul_pos (un_l15 (κ := κ) (a := a0) vv.2 ne) (Rat.intCast_pos.mpr wp)
          have e : x75.toNatClampNeg - bl15 κ a0 a1.toNatClampNeg = (x15_4.toNatClampNeg - bl15 κ a0 a1.toNatClampNeg) + 1 := by rw [hx75, ix.1]; omega
          have e2 : bl15 κ a0 a1.toNatClampNeg + (x15_4.toNatClampNeg - bl15 κ a0 a1.toNatClampNeg) = x15_4.toNatClampNeg := by omega
          rw [e, bi_s15, e2, hx74, iy.2]
          refine ⟨fun z => ?_, fun z => ?_, fun z => ?_⟩
          · exfalso
            omega
          · rw [hE.1 (by omega), Rat.zero_add]
          · by_cases c : x15_2.toInt = 0
            · rw [hE.1 c, Rat.zero_add]
              exact up
            · have y := hE.2.2 (by omega)
              grind

end
section
set_option maxHeartbeats 1600000
/-! the class: putting back, by its values -/
def cV15 (κ : zS) (a i j : Nat) : Nat := nuN κ (cU9 κ a i j)
theorem cV_c15 {ρ : Nat → Nat} {κ : zS} {a m i j : Nat} {M : Nat → Nat → Nat} (K : clI9 ρ κ a m M) (hi : i < m) (hj : j < m ∨ j = 32) : cV15 κ a i j = M i j := (K.2 i j hi hj).2.2
theorem sN_c15 {f g : Nat → Nat} {r : Nat} : ∀ {n : Nat}, (∀ i, r ≤ i → i < r + n → f i = g i) → sN15 f r n = sN15 g r n
  | 0, _ => rfl
  | n + 1, h => by
    show sN15 f r n + f (r + n) = sN15 g r n + g (r + n)
    rw [sN_c15 (n := n) (fun i h1 h2 => h i h1 (by omega)), h (r + n) (by omega) (by omega)]
def pbE15 (M : Nat → Nat → Nat) (x : Nat → Nat) (m r : Nat) : Prop := x r = (M (m - 1) (m - 1) * M r 32 + sN15 (fun c => M r c * x c) (r + 1) (m - (r + 1))) / M r r
theorem pb_c15 {M : Nat → Nat → Nat} {x y : Nat → Nat} {m r : Nat} (hr : r < m) (e : ∀ c, r ≤ c → c < m → x c = y c) (h : pbE15 M x m r) : pbE15 M y m r := by
  unfold pbE15 at h ⊢
  rw [← e r (Nat.le_refl _) hr, h]
  congr 2
  exact sN_c15 (fun c h1 h2 => by
    show M r c * x c = M r c * y c
    rw [e c (by omega) (by omega)])
theorem px_15 {x y z b : Int32} {m : Nat} (h0 : 0 ≤ x.toInt) (h1 : x.toInt + 1 < (m : Int)) (h2 : b.toInt ≤ y.toInt) (h3 : y.toInt ≤ b.toInt) (h4 : b.toInt = (m : Int)) (hz : z.toInt = x.toInt - 1) : x.toNatClampNeg < m - 1 ∧ y.toNatClampNeg = m ∧ (∀ r : Nat, z.toInt < (r : Int) → x.toNatClampNeg ≤ r) ∧ ∀ r : Nat, x.toNatClampNeg < r → x.toInt < (r : Int) := by
  have k1 := cnk h0
  have k2 := cnk (x := y) (by omega)
  refine ⟨by omega, by omega, fun r h => by omega, fun r h => by omega⟩

end
