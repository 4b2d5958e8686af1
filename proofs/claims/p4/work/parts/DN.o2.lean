set_option maxHeartbeats 1600000
/-! the class: Odds' showWeight -/
theorem capR_s9 {r : Nat} (h : r < 100) : capR r = 6500 := by
  unfold capR
  exact if_pos h
/-- a number of a short role copied into another -/
theorem cp_p9 {ρ : Nat → Nat} {κ : zS} {w v r q : Nat} (N : nmI ρ κ) (hw : ρ w = r) (hv : ρ v = q) (hr : nmR r ∧ r ≠ 10 ∧ r < 100) (hq : nmR q ∧ q ≠ 10 ∧ q < 100) (hne : r ≠ q) (l : nuN κ v < pB9 4000) : (2 ≤ (zN κ (zR κ nuLimbs w)) ∧ (zN κ (zR κ nuLimbs w)) ≤ 6500) ∧ nuB κ v 6500 ∧ w ≠ v ∧ nuK κ v + nuK κ v / 2 + 1 ≤ 6500 ∧ 6500 ≤ 30000000 := by
  have gw := nm_g N hw hr.1 hr.2.1
  have gv := nm_g N hv hq.1 hq.2.1
  rw [capR_s9 hr.2.2] at gw
  rw [capR_s9 hq.2.2] at gv
  have k := nuK_lt gv.1 l
  exact ⟨gw.2.2, gv.1.1, ro_n hw hv hne, by omega, by decide⟩
theorem cp_q9 {C : zC} {n0 s w v r q : Nat} {ρ : Nat → Nat} {κ κ' : zS} (W : zW C n0 κ) (Ts : zT κ s = 12) (N : nmI ρ κ) (I : soI ρ κ s) (hw : ρ w = r) (hv : ρ v = q) (hr : r < 100) (hq : nmR q ∧ q ≠ 10) (h : zF (nuF w) κ κ' ∧ nuB κ' w 6500 ∧ nuN κ' w = nuN κ v ∧ nuK κ' w = nuK κ v ∧ (nuZ κ v → nuZ κ' w)) : (nmI ρ κ' ∧ soI ρ κ' s) ∧ nuN κ' w = nuN κ v ∧ ∀ ca, zF (soF ρ (fun x => x = r) ca) κ κ' := by
  have gv := nm_g N hv hq.1 hq.2
  refine ⟨⟨nm_1 W N h.1 (by rw [hw, capR_s9 hr]; exact ⟨h.2.1, h.2.2.2.2 gv.1.2⟩), so_1 W Ts I h.1⟩, h.2.2.1, fun ca => soF_1 hw h.1⟩
theorem nmR_s9 : (nmR 1 ∧ nmR 7 ∧ nmR 8) ∧ nmR 15 ∧ nmR 6 := ⟨⟨Or.inl (by decide), Or.inl (by decide), Or.inl (by decide)⟩, Or.inl (by decide), Or.inl (by decide)⟩
theorem Od_showWeight_c {C : zC} {n0 : Nat} {a0 : Nat} {a1 : Int32} {a2 : Int32} {a3 : Nat} {κ : zS} {Q : zS → Prop} (W : zW C n0 κ) (Ta0 : zT κ a0 = 9) (Ta3 : zT κ a3 = 11) (ρ : Nat → Nat) (n9 P9 : Nat) (hp : (nmI ρ κ ∧ soI ρ κ (zR κ odSolver a0)) ∧ odX9 ρ κ a0 n9 P9 ∧ (0 < P9 ∧ P9 < pB9 1490) ∧ ρ a3 = 30) (h : ∀ (κ' : zS), ((zF (soF ρ shR9 (zR κ odCalc a0)) κ κ' ∧ nmI ρ κ' ∧ soI ρ κ' (zR κ odSolver a0)) ∧ nuN κ' (zR κ soLess (zR κ odSolver a0)) < pB9 4000) → Q κ') : zRun C 7 mOd_showWeight [.ref a0, .int a1, .int a2, .ref a3] κ (oV Q noX) := by
  refine Od_showWeight_run W Ta0 Ta3 ?_
  replace W := W.lo (Nat.le_trans W.1.2.1 W.1.2.2) (Nat.le_refl (zn κ))
  unfold w_Od_showWeight_0
  obtain ⟨⟨N0, S0⟩, X0, ⟨P0, P1⟩, r30⟩ := hp
  have ts := ty_odSolver W Ta0
  have hn := X0.2.2.1.1.2.2.1
  have h1 := S0.1.1
  have h7 := S0.1.2.2.2.2.1
  have h8 := S0.1.2.2.2.2.2.1
  have h20 := S0.1.2.2.2.2.2.2
  have h15 := X0.2.1
  have g1 := nm_g N0 (w := (zR κ soWhole (zR κ odSolver a0))) h1 (Or.inl ⟨by decide, by decide⟩) (by decide)
  have o1 : (1 : Int64).toInt.toNat = 1 := rfl
  have b4 : pB9 1502 ≤ pB9 4000 := pB9_l (by decide)
  have b0 : pB9 1490 ≤ pB9 1502 := pB9_l (by decide)
  have tW := ty_soWhole W ts
  have tS := ty_soSum W ts
  have tL := ty_soLess W ts
  have tH := ty_odHeld W Ta0
  have hj192 : ∀ (l0 : Nat) (l3 : Nat) (τ : zS), zW C (zn κ) τ → zT τ l0 = 9 → zT τ l3 = 11 → (a0 = l0 ∧ a3 = l3 ∧ (zF (soF ρ shR9 (zR κ odCalc a0)) κ τ ∧ nmI ρ τ ∧ soI ρ τ (zR κ odSolver a0)) ∧ nuN τ (zR κ odHeld a0) < pB9 1502 ∧ nuN τ (zR κ soSum (zR κ odSolver a0)) < pB9 1502 ∧ nuN τ (zR κ soLess (zR κ odSolver a0)) < pB9 1502) → w_Od_showWeight_192 C (zn κ) Q  l0 l3 τ := by
    rintro _ _ τ192 W192 T192_0 T192_1 ⟨rfl, rfl, j192⟩
    unfold w_Od_showWeight_192
    intro T1
    intro T2
    obtain ⟨⟨Z1, N1, S1⟩, B0, B1, B2⟩ := j192
    obtain ⟨X1, e1, _, _⟩ := odX9_f W Ta0 N0 Z1 shR9_l X0
    have es : zR τ192 odSolver a0 = (zR κ odSolver a0) := e1 odSolver (Or.inl (by decide)) a0
    have ec : zR τ192 odCalc a0 = (zR κ odCalc a0) := e1 odCalc (Or.inl (by decide)) a0
    have eh : zR τ192 odHeld a0 = (zR κ odHeld a0) := e1 odHeld (Or.inl (by decide)) a0
    have eu : zR τ192 soSum (zR κ odSolver a0) = (zR κ soSum (zR κ odSolver a0)) := e1 soSum (Or.inr (by decide)) _
    have el : zR τ192 soLess (zR κ odSolver a0) = (zR κ soLess (zR κ odSolver a0)) := e1 soLess (Or.inr (by decide)) _
    have ep : zR τ192 soPart (zR κ odSolver a0) = (zR κ soPart (zR κ odSolver a0)) := e1 soPart (Or.inr (by decide)) _
    have eca : zR τ192 soCalc (zR κ odSolver a0) = (zR κ odCalc a0) := by
      have y := X1.1.2
      rw [es, ec] at y
      exact y
    have ts1 : zT τ192 (zR κ odSolver a0) = 12 := Z1.t ts (by decide)
    refine So_settle_c W192 T1 T2 ρ 15 ?_ (fun κ_3 q4 => ?_)
    · rw [es, eh, eu, el]
      exact ⟨⟨N1, S1⟩, ⟨h15, Or.inr rfl⟩, Nat.lt_of_lt_of_le B0 b4, Nat.lt_of_lt_of_le B1 b4, Nat.lt_of_lt_of_le B2 b4⟩
    rw [es, eh, eu, el, ep, eca] at q4
    obtain ⟨Zt, ⟨Nt, St⟩, O⟩ := q4
    have et := fun f (hf : f / 100 = 9 ∨ f / 100 = 12) b => (odX9_f W192 T192_0 N1 Zt (fun r h z => by rcases z with z | z | z | z <;> omega) X1).2.1 f hf b
    have es3 : zR κ_3 odSolver a0 = (zR κ odSolver a0) := (et odSolver (Or.inl (by decide)) a0).trans es
    have ep3 : zR κ_3 soPart (zR κ odSolver a0) = (zR κ soPart (zR κ odSolver a0)) := (et soPart (Or.inr (by decide)) _).trans ep
    have gp := ra_t9 Nt h20 (Or.inl rfl)
    have go := ra_t9 Nt r30 (Or.inr rfl)
    have lt4 : nuN κ_3 (zR κ_3 raTop (zR κ soPart (zR κ odSolver a0))) < pB9 4000 ∧ nuN κ_3 (zR κ_3 raBottom (zR κ soPart (zR κ odSolver a0))) < pB9 4000 := by
      rw [(soF_r9 Zt (f := raTop) (by decide)).1, (soF_r9 Zt (f := raBottom) (by decide)).1]
      have p4 : 1 < pB9 4000 := Nat.lt_of_lt_of_le (show 1 < pB9 1 by unfold pB9; decide) (pB9_l (by decide))
      rcases O with ⟨_, _, o1', o2'⟩ | ⟨_, _, o1', o2'⟩
      · rw [o1', o2']
        exact ⟨pB9_p, p4⟩
      · rw [o1', o2']
        refine ⟨Nat.lt_of_le_of_lt (Nat.div_le_self _ _) ?_, Nat.lt_of_le_of_lt (Nat.div_le_self _ _) (Nat.lt_of_lt_of_le B0 b4)⟩
        generalize pB9 1502 = B at *
        generalize pB9 4000 = B' at *
        omega
    have kt := nuK_lt gp.2.2.1 lt4.1
    have kb := nuK_lt gp.2.2.2.1 lt4.2
    intro W5
    intro M6
    intro T7
    intro T8
    refine Ra_copy_c W5 T7 T8 6500 ?_ (fun κ_9 q10 => ?_)
    · rw [es3, ep3]
      exact ⟨go.2.1, ⟨nuI_mono (by decide) gp.2.2.1, nuI_mono (by decide) gp.2.2.2.1, gp.2.2.2.2⟩, ⟨ro_n go.1.1 gp.1.1 (by decide), ro_n go.1.1 gp.1.2 (by decide), ro_n go.1.2 gp.1.1 (by decide), ro_n go.1.2 gp.1.2 (by decide)⟩, ⟨by omega, by omega⟩, by decide⟩
    intro W11
    intro M12
    refine h _ ?_
    · rw [es3, ep3] at q10
      obtain ⟨Zc, Jc, Vc⟩ := q10
      have R5 := ra_s9 W5 (Zt.t ts1 (by decide)) Nt St r30 (Or.inr rfl) Zc Jc
      have Z5 := R5.2 (zR κ odCalc a0)
      have l3 := soF_B (c := 0) (w := (zR κ soLess (zR κ odSolver a0))) W192 (Z1.t tL (by decide)) Zt (by rw [h8]; unfold stR9; decide)
      have l9 := soF_B (c := 0) (w := (zR κ soLess (zR κ odSolver a0))) W5 (Zt.t (Z1.t tL (by decide)) (by decide)) Z5 (by rw [h8]; decide)
      refine ⟨⟨(Z1.tr (soF_m (fun r z => by unfold shR9; rcases z with z | z | z | z <;> omega) Zt)).tr (soF_m (fun r z => by unfold shR9; omega) Z5), R5.1⟩, ?_⟩
      rw [l9.2.1, l3.2.1]
      exact Nat.lt_of_lt_of_le B2 b4
  have hj147 : ∀ (l0 : Nat) (l1 : Int32) (l2 : Int32) (l3 : Nat) (τ : zS), zW C (zn κ) τ → zT τ l0 = 9 → zT τ l3 = 11 → (a0 = l0 ∧ a1 = l1 ∧ a2 = l2 ∧ a3 = l3 ∧ (zF (soF ρ shR9 (zR κ odCalc a0)) κ τ ∧ nmI ρ τ ∧ soI ρ τ (zR κ odSolver a0)) ∧ nuN τ (zR κ soWhole (zR κ odSolver a0)) < pB9 1490 ∧ nuN τ (zR κ odHeld a0) < pB9 1502) → w_Od_showWeight_147 C (zn κ) Q  l0 l1 l2 l3 τ := by
    rintro _ _ _ _ τ147 W147 T147_0 T147_1 ⟨rfl, rfl, rfl, rfl, j147⟩
    unfold w_Od_showWeight_147
    intro T13
    obtain ⟨⟨Z1, N1, S1⟩, Bw, B0⟩ := j147
    obtain ⟨X1, e1, _, _⟩ := odX9_f W Ta0 N0 Z1 shR9_l X0
    have es : zR τ147 odSolver a0 = (zR κ odSolver a0) := e1 odSolver (Or.inl (by decide)) a0
    have ec : zR τ147 odCalc a0 = (zR κ odCalc a0) := e1 odCalc (Or.inl (by decide)) a0
    have eu : zR τ147 soSum (zR κ odSolver a0) = (zR κ soSum (zR κ odSolver a0)) := e1 soSum (Or.inr (by decide)) _
    have el : zR τ147 soLess (zR κ odSolver a0) = (zR κ soLess (zR κ odSolver a0)) := e1 soLess (Or.inr (by decide)) _
    have ew : zR τ147 soWhole (zR κ odSolver a0) = (zR κ soWhole (zR κ odSolver a0)) := e1 soWhole (Or.inr (by decide)) _
    refine Od_weigh_c W147 T13 ρ n9 P9 ?_ (fun κ_14 q15 => ?_)
    · rw [es, ew]
      exact ⟨⟨N1, S1⟩, X1, Bw⟩
    rw [es, ec, eu, el] at q15
    obtain ⟨⟨Zg, Ng, Sg⟩, Bs, Bl⟩ := q15
    have Z14 : zF (soF ρ shR9 (zR κ odCalc a0)) κ κ_14 := Z1.tr (soF_m (fun r z => by unfold shR9; unfold wgR9 at z; omega) Zg)
    have h14 := (soF_B (c := 0) W147 (Z1.t tH (by decide)) Zg (by rw [h15]; exact wgR9_n.2.1)).2.1
    have w14 := (soF_B (c := 0) W147 (Z1.t tW (by decide)) Zg (by rw [h1]; exact wgR9_n.1)).2.1
    have T14 : zT κ_14 a0 = 9 := Z14.t Ta0 (by decide)
    have e2 := (odX9_f W Ta0 N0 Z14 shR9_l X0).2.1
    have es2 : zR κ_14 odSolver a0 = (zR κ odSolver a0) := e2 odSolver (Or.inl (by decide)) a0
    have eu2 : zR κ_14 soSum (zR κ odSolver a0) = (zR κ soSum (zR κ odSolver a0)) := e2 soSum (Or.inr (by decide)) _
    have el2 : zR κ_14 soLess (zR κ odSolver a0) = (zR κ soLess (zR κ odSolver a0)) := e2 soLess (Or.inr (by decide)) _
    have ts14 : zT κ_14 (zR κ odSolver a0) = 12 := Z14.t ts (by decide)
    intro W16
    intro M17
    refine ⟨fun c18 => ?_, fun c18 => ?_⟩
    · skip
      refine hj192 _ _ _ W16 ?_ ?_ ?_
      · exact T14  -- t5
      · exact Z14.t Ta3 (by decide)  -- t6
      · exact ⟨rfl, rfl, ⟨Z14, Ng, Sg⟩, by rw [h14]; exact B0, Bs, Bl⟩  -- k7
    · skip
      intro T19
      intro T20
      refine Nu_copy_c W16 T19 T20 6500 6500 ?_ (fun κ_21 q22 => ?_)
      · rw [es2, eu2, el2]
        exact cp_p9 Ng h8 h7 ⟨nmR_s9.1.2.2, by decide, by decide⟩ ⟨nmR_s9.1.2.1, by decide, by decide⟩ (by decide) (Nat.lt_of_lt_of_le Bs b4)
      rw [es2, eu2, el2] at q22
      obtain ⟨⟨Na, Sa⟩, Va, Za⟩ := cp_q9 W16 ts14 Ng Sg h8 h7 (by decide) ⟨nmR_s9.1.2.1, by decide⟩ q22
      have Za0 := Za (zR κ odCalc a0)
      have Z21 : zF (soF ρ shR9 (zR κ odCalc a0)) κ κ_21 := Z14.tr (soF_m (fun r z => by unfold shR9; omega) Za0)
      have e3 := (odX9_f W Ta0 N0 Z21 shR9_l X0).2.1
      have es3 : zR κ_21 odSolver a0 = (zR κ odSolver a0) := e3 odSolver (Or.inl (by decide)) a0
      have eu3 : zR κ_21 soSum (zR κ odSolver a0) = (zR κ soSum (zR κ odSolver a0)) := e3 soSum (Or.inr (by decide)) _
      have ew3 : zR κ_21 soWhole (zR κ odSolver a0) = (zR κ soWhole (zR κ odSolver a0)) := e3 soWhole (Or.inr (by decide)) _
      have w21 := (soF_B (c := 0) W16 (Z14.t tW (by decide)) Za0 (by rw [h1]; decide)).2.1
      have h21 := (soF_B (c := 0) W16 (Z14.t tH (by decide)) Za0 (by rw [h15]; decide)).2.1
      intro W23
      intro M24
      intro T25
      intro T26
      refine Nu_copy_c W23 T25 T26 6500 6500 ?_ (fun κ_27 q28 => ?_)
      · rw [es3, eu3, ew3]
        exact cp_p9 Na h7 h1 ⟨nmR_s9.1.2.1, by decide, by decide⟩ ⟨nmR_s9.1.1, by decide, by decide⟩ (by decide) (by rw [w21, w14]; exact Nat.lt_of_lt_of_le Bw (pB9_l (by decide)))
      intro W29
      intro M30
      rw [es3, eu3, ew3] at q28
      obtain ⟨⟨Nb, Sb⟩, Vb, Zb⟩ := cp_q9 W23 (Z21.t ts (by decide)) Na Sa h7 h1 (by decide) ⟨nmR_s9.1.1, by decide⟩ q28
      have Zb0 := Zb (zR κ odCalc a0)
      have Z27 : zF (soF ρ shR9 (zR κ odCalc a0)) κ κ_27 := Z21.tr (soF_m (fun r z => by unfold shR9; omega) Zb0)
      have l27 := (soF_B (c := 0) W23 (Z21.t tL (by decide)) Zb0 (by rw [h8]; decide)).2.1
      have h27 := (soF_B (c := 0) W23 (Z21.t tH (by decide)) Zb0 (by rw [h15]; decide)).2.1
      refine hj192 _ _ _ W29 ?_ ?_ ?_
      · exact Z27.t Ta0 (by decide)  -- t10
      · exact Z27.t Ta3 (by decide)  -- t11
      · exact ⟨rfl, rfl, ⟨Z27, Nb, Sb⟩, by rw [h27, h21, h14]; exact B0, by rw [Vb, w21, w14]; exact Nat.lt_of_lt_of_le Bw b0, by rw [l27, Va]; exact Bs⟩  -- k12
  have hj22 : ∀ (l0 : Nat) (l1 : Int32) (l2 : Int32) (l3 : Nat) (s0 : Int32) (τ : zS), zW C (zn κ) τ → zT τ l0 = 9 → zT τ l3 = 11 → (κ = τ ∧ a0 = l0 ∧ a1 = l1 ∧ a2 = l2 ∧ a3 = l3 ∧ True) → w_Od_showWeight_22 C (zn κ) Q  l0 l1 l2 l3 s0 τ := by
    rintro _ _ _ _ y22_s0 _ W22 T22_0 T22_1 ⟨rfl, rfl, rfl, rfl, rfl, j22⟩
    unfold w_Od_showWeight_22
    intro T31
    refine Nu_put_c W22 T31 6500 ?_ (fun κ_32 q33 => ?_)
    · exact ⟨by decide, g1.2.2⟩  -- p13
    intro W34
    intro M35
    obtain ⟨Fp, ⟨Rp, Np⟩, Ip, Vp⟩ := q33
    have Zp : zF (soF ρ shR9 (zR κ odCalc a0)) κ κ_32 := soF_1 (by rw [h1]; unfold shR9; decide) Fp
    unfold w_Od_showWeight_38
    refine ⟨fun n l0 l1 l2 l3 l4 l5 τ => n = ((n9 : Int) - l5.toInt).toNat ∧ (a0 = l0 ∧ a1 = l1 ∧ a2 = l2 ∧ a3 = l3 ∧ (zF (soF ρ shR9 (zR κ odCalc a0)) κ τ ∧ nmI ρ τ ∧ soI ρ τ (zR κ odSolver a0)) ∧ dz9 (nuN τ (zR κ soWhole (zR κ odSolver a0))) P9 ∧ (0 ≤ l5.toInt ∧ l5.toInt ≤ n9)), ⟨_, rfl, ?_⟩, ?_⟩
    · exact ⟨rfl, rfl, rfl, rfl, ⟨Zp, nm_1 W N0 Fp (by rw [h1]; exact Ip), so_1 W ts S0 Fp⟩, by rw [Vp, o1]; exact Or.inr (Nat.one_dvd _), ⟨by decide, by rw [t0i]; omega⟩⟩  -- j14
    rintro n38 _ _ _ _ x38_4 x38_5 κ38 W38 T38_0 T38_1 ⟨hn38, rfl, rfl, rfl, rfl, i38⟩
    obtain ⟨⟨Z1, N1, S1⟩, D1, l5⟩ := i38
    obtain ⟨X1, e1, _, _⟩ := odX9_f W Ta0 N0 Z1 shR9_l X0
    have es : zR κ38 odSolver a0 = (zR κ odSolver a0) := e1 odSolver (Or.inl (by decide)) a0
    have ec : zR κ38 odCalc a0 = (zR κ odCalc a0) := e1 odCalc (Or.inl (by decide)) a0
    have eh : zR κ38 odHeld a0 = (zR κ odHeld a0) := e1 odHeld (Or.inl (by decide)) a0
    have ew : zR κ38 soWhole (zR κ odSolver a0) = (zR κ soWhole (zR κ odSolver a0)) := e1 soWhole (Or.inr (by decide)) _
    have ep : zR κ38 soPart (zR κ odSolver a0) = (zR κ soPart (zR κ odSolver a0)) := e1 soPart (Or.inr (by decide)) _
    have tot1 := X1.2.2.1.1.2.2.2.1
    have lw1 : nuN κ38 (zR κ soWhole (zR κ odSolver a0)) < pB9 1490 := Nat.lt_of_le_of_lt (dz9_le D1 P0) P1
    have ts1 : zT κ38 (zR κ odSolver a0) = 12 := Z1.t ts (by decide)
    have kl := cnk l5.1
    refine ⟨fun c36 => ?_, fun c36 => ?_⟩
    · skip
      intro T37
      intro T38
      refine Nu_copy_c W38 T37 T38 6500 6500 ?_ (fun κ_39 q40 => ?_)
      · rw [es, eh, ew]
        exact cp_p9 N1 h15 h1 ⟨nmR_s9.2.1, by decide, by decide⟩ ⟨nmR_s9.1.1, by decide, by decide⟩ (by decide) (Nat.lt_of_lt_of_le lw1 (pB9_l (by decide)))
      rw [es, eh, ew] at q40
      obtain ⟨⟨Na, Sa⟩, Va, Za⟩ := cp_q9 W38 ts1 N1 S1 h15 h1 (by decide) ⟨nmR_s9.1.1, by decide⟩ q40
      have Za0 := Za (zR κ odCalc a0)
      have Z39 : zF (soF ρ shR9 (zR κ odCalc a0)) κ κ_39 := Z1.tr (soF_m (fun r z => by unfold shR9; omega) Za0)
      obtain ⟨X2, e2, _, _⟩ := odX9_f W Ta0 N0 Z39 shR9_l X0
      have w39 := (soF_B (c := 0) W38 (Z1.t tW (by decide)) Za0 (by rw [h1]; decide)).2.1
      have T39 : zT κ_39 a0 = 9 := Z39.t Ta0 (by decide)
      have es2 : zR κ_39 odSolver a0 = (zR κ odSolver a0) := e2 odSolver (Or.inl (by decide)) a0
      have ec2 : zR κ_39 odCalc a0 = (zR κ odCalc a0) := e2 odCalc (Or.inl (by decide)) a0
      have ew2 : zR κ_39 soWhole (zR κ odSolver a0) = (zR κ soWhole (zR κ odSolver a0)) := e2 soWhole (Or.inr (by decide)) _
      have eu2 : zR κ_39 soSum (zR κ odSolver a0) = (zR κ soSum (zR κ odSolver a0)) := e2 soSum (Or.inr (by decide)) _
      have el2 : zR κ_39 soLess (zR κ odSolver a0) = (zR κ soLess (zR κ odSolver a0)) := e2 soLess (Or.inr (by decide)) _
      intro W41
      intro M42
      refine ⟨fun c43 => ?_, fun c43 => ?_⟩
      · skip
        refine hj147 _ _ _ _ _ W41 ?_ ?_ ?_
        · exact T39  -- t16
        · exact Z39.t Ta3 (by decide)  -- t17
        · exact ⟨rfl, rfl, rfl, rfl, ⟨Z39, Na, Sa⟩, by rw [w39]; exact lw1, by rw [Va]; exact Nat.lt_of_lt_of_le lw1 b0⟩  -- k18
      · skip
        intro T44
        refine Od_weigh_c W41 T44 ρ n9 P9 ?_ (fun κ_45 q46 => ?_)
        · rw [es2, ew2, w39]
          exact ⟨⟨Na, Sa⟩, X2, lw1⟩
        rw [es2, ec2, eu2, el2] at q46
        obtain ⟨⟨Zg, Ng, Sg⟩, Bs, Bl⟩ := q46
        have Z45 : zF (soF ρ shR9 (zR κ odCalc a0)) κ κ_45 := Z39.tr (soF_m (fun r z => by unfold shR9; unfold wgR9 at z; omega) Zg)
        have e3 := (odX9_f W Ta0 N0 Z45 shR9_l X0).2.1
        have es3 : zR κ_45 odSolver a0 = (zR κ odSolver a0) := e3 odSolver (Or.inl (by decide)) a0
        have eu3 : zR κ_45 soSum (zR κ odSolver a0) = (zR κ soSum (zR κ odSolver a0)) := e3 soSum (Or.inr (by decide)) _
        have eh3 : zR κ_45 odHeld a0 = (zR κ odHeld a0) := e3 odHeld (Or.inl (by decide)) a0
        have w45 := (soF_B (c := 0) W41 (Z39.t tW (by decide)) Zg (by rw [h1]; exact wgR9_n.1)).2.1
        intro W47
        intro M48
        intro T49
        intro T50
        refine Nu_copy_c W47 T49 T50 6500 6500 ?_ (fun κ_51 q52 => ?_)
        · rw [es3, eu3, eh3]
          exact cp_p9 Ng h15 h7 ⟨nmR_s9.2.1, by decide, by decide⟩ ⟨nmR_s9.1.2.1, by decide, by decide⟩ (by decide) (Nat.lt_of_lt_of_le Bs b4)
        intro W53
        intro M54
        rw [es3, eu3, eh3] at q52
        obtain ⟨⟨Nb, Sb⟩, Vb, Zb⟩ := cp_q9 W47 (Z45.t ts (by decide)) Ng Sg h15 h7 (by decide) ⟨nmR_s9.1.2.1, by decide⟩ q52
        have Zb0 := Zb (zR κ odCalc a0)
        have Z51 : zF (soF ρ shR9 (zR κ odCalc a0)) κ κ_51 := Z45.tr (soF_m (fun r z => by unfold shR9; omega) Zb0)
        have w51 := (soF_B (c := 0) W47 (Z45.t tW (by decide)) Zb0 (by rw [h1]; decide)).2.1
        refine hj147 _ _ _ _ _ W53 ?_ ?_ ?_
        · exact Z51.t Ta0 (by decide)  -- t21
        · exact Z51.t Ta3 (by decide)  -- t22
        · exact ⟨rfl, rfl, rfl, rfl, ⟨Z51, Nb, Sb⟩, by rw [w51, w45, w39]; exact lw1, by rw [Vb]; exact Bs⟩  -- k23
    · skip
      intro T55
      rw [lei, tot1] at c36
      have ix := cn1 (x := x38_5) l5.1 (by omega)
      refine Od_unitsOf_c W38 T55 ρ n9 P9 ?_ (fun r56 q58 => ?_)
      · exact ⟨X1, l5.1, by omega⟩  -- p24
      intro W59
      intro M60
      refine ⟨fun c61 => ?_, fun c61 => ?_⟩
      · skip
        intro x62 hx62
        refine ⟨_, ?_, rfl, ?_⟩
        · rw [hn38, hx62, ix.2]; omega  -- d25
        · exact ⟨rfl, rfl, rfl, rfl, ⟨Z1, N1, S1⟩, D1, ⟨by rw [hx62, ix.2]; omega, by rw [hx62, ix.2]; omega⟩⟩  -- i26
      · skip
        intro T63
        have sg := q58.2.2 (fun z => c61 ((lg_cmp_eq _ _).mpr z))
        have S1' : soI ρ κ38 (zR κ38 odSolver a0) := by rw [es]; exact S1
        refine So_unit_c2 W59 T63 ρ (vU9 κ38 (zR κ38 odSolver a0) x38_5.toNatClampNeg) ?_ (fun κ_64 q65 => ?_)
        · exact od_u9 N1 S1' X1 l5.1 (by omega) sg  -- p27
        obtain ⟨⟨Zu, Nu9, Su9⟩, tu, bu, du⟩ := od_v9 X1 l5.1 (by omega) sg q65
        rw [ec] at Zu
        rw [es] at Su9 tu bu du
        rw [ep] at tu bu du
        have Z64 : zF (soF ρ shR9 (zR κ odCalc a0)) κ κ_64 := Z1.tr (soF_m (fun r z => by unfold shR9; rcases z with z | z | z <;> omega) Zu)
        obtain ⟨X2, e2, _, _⟩ := odX9_f W Ta0 N0 Z64 shR9_l X0
        have es2 : zR κ_64 odSolver a0 = (zR κ odSolver a0) := e2 odSolver (Or.inl (by decide)) a0
        have ec2 : zR κ_64 odCalc a0 = (zR κ odCalc a0) := e2 odCalc (Or.inl (by decide)) a0
        have ew2 : zR κ_64 soWhole (zR κ odSolver a0) = (zR κ soWhole (zR κ odSolver a0)) := e2 soWhole (Or.inr (by decide)) _
        have ep2 : zR κ_64 soPart (zR κ odSolver a0) = (zR κ soPart (zR κ odSolver a0)) := e2 soPart (Or.inr (by decide)) _
        have eca : zR κ_64 soCalc (zR κ odSolver a0) = (zR κ odCalc a0) := by
          have y := X2.1.2
          rw [es2, ec2] at y
          exact y
        have eb2 : zR κ_64 raBottom (zR κ soPart (zR κ odSolver a0)) = zR κ38 raBottom (zR κ soPart (zR κ odSolver a0)) := (soF_r9 Zu (by decide)).1
        have w64 := (soF_B (c := 0) W38 (Z1.t tW (by decide)) Zu (by rw [h1]; unfold unR9; decide)).2.1
        have b22 : ρ (zR κ_64 raBottom (zR κ soPart (zR κ odSolver a0))) = 22 := (ra_t9 Nu9 h20 (Or.inl rfl)).1.2
        intro W66
        intro M67
        intro T68
        intro T69
        intro T70
        refine Ca_join_c W66 T68 T69 T70 6500 2000 6500 6500 ?_ (fun κ_71 q72 => ?_)
        · have J := jn_p (w := zR κ_64 raBottom (zR κ soPart (zR κ odSolver a0))) Nu9 Su9 b22 (Or.inr (Or.inr (Or.inl rfl))) ⟨by decide, by decide, by decide⟩ (by rw [ew2, w64]; exact Nat.lt_of_lt_of_le lw1 (pB9_l (by decide))) (by rw [eb2]; exact bu)
          rw [es2, ec2, ep2, ← eca]
          exact J
        intro W73
        intro M74
        intro x75 hx75
        rw [es2, ec2, ep2, ← eca] at q72
        have J := jn_q W66 Nu9 Su9 q72
        have Vj := q72.2.2.2
        rw [ew2, w64, eb2] at Vj
        rw [eca] at J
        refine ⟨_, ?_, rfl, ?_⟩
        · rw [hn38, hx75, ix.2]; omega  -- d29
        · refine ⟨rfl, rfl, rfl, rfl, ⟨Z64.tr (soF_m (fun r z => by unfold shR9; rcases z with z | z | z <;> omega) J.2.1), J.1⟩, ?_, ⟨by rw [hx75, ix.2]; omega, by rw [hx75, ix.2]; omega⟩⟩
          rw [Vj]
          exact dz9_lcm D1 du
  refine ⟨fun c76 => ?_, fun c76 => ?_⟩
  · skip
    refine ⟨fun c77 => ?_, fun c77 => ?_⟩
    · skip
      refine hj22 _ _ _ _ _ _ W ?_ ?_ ?_
      · exact Ta0  -- t31
      · exact Ta3  -- t32
      · exact ⟨rfl, rfl, rfl, rfl, rfl, trivial⟩  -- k33
    · skip
      refine hj22 _ _ _ _ _ _ W ?_ ?_ ?_
      · exact Ta0  -- t34
      · exact Ta3  -- t35
      · exact ⟨rfl, rfl, rfl, rfl, rfl, trivial⟩  -- k36
  · skip
    refine hj22 _ _ _ _ _ _ W ?_ ?_ ?_
    · exact Ta0  -- t37
    · exact Ta3  -- t38
    · exact ⟨rfl, rfl, rfl, rfl, rfl, trivial⟩  -- k39
