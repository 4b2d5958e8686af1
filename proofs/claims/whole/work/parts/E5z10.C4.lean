section
set_option maxHeartbeats 1600000
/-! the class: rowsAgree -/
theorem Od_rowsAgree_q6 {C : zC} {n0 : Nat} {a0 : Nat} {a1 : Int32} {a2 : Int32} {a3 : Int32} {κ : zS} {Q : Int32 → zS → Prop} (W : zW C n0 κ) (Ta0 : zT κ a0 = 9) (ρ : Nat → Nat) (n9 P9 : Nat) (V9 : Nat → Rat) (S9 : SM24 κ κ a0 n9 V9) (hp : agD9 ρ κ a0 n9 P9 ∧ (0 < P9 ∧ P9 < pB9 1490) ∧ (0 ≤ a1.toInt ∧ 1 ≤ a3.toInt ∧ a3.toInt ≤ a2.toInt ∧ a1.toInt + a2.toInt * a3.toInt ≤ 1000)) (h : ∀ (v : Int32) (κ' : zS), ((∃ ρ' : Nat → Nat, roG9 ρ κ κ' a0 n9 P9 ρ') ∧ (SM24 κ κ' a0 n9 V9 ∧ (v ≠ 0 ↔ ag24 κ a0 n9 V9 a1.toInt a2.toInt a3.toInt))) → Q v κ') : zRun C 7 mOd_rowsAgree [.ref a0, .int a1, .int a2, .int a3] κ (oI Q noX) := by
  refine Od_rowsAgree_run W Ta0 ?_
  replace W := W.lo (Nat.le_trans W.1.2.1 W.1.2.2) (Nat.le_refl (zn κ))
  unfold w_Od_rowsAgree_0
  obtain ⟨A0, hP, b0, w1, tw, mm⟩ := hp
  have ts := ty_odSolver W Ta0
  have h1 := A0.1.2.1.1
  have g1 := nm_g A0.1.1 (w := (zR κ soWhole (zR κ odSolver a0))) h1 (Or.inl ⟨by decide, by decide⟩) (by decide)
  have w31 := sq_9 w1 tw (by omega)
  have pp : 0 ≤ a2.toInt * a3.toInt := Int.mul_nonneg (by omega) (by omega)
  have em : (a2 * a3).toInt = a2.toInt * a3.toInt := mul_i (by omega) (by omega)
  have ea : (a1 + a2 * a3).toInt = a1.toInt + a2.toInt * a3.toInt := by rw [add_i (by rw [em]; omega) (by rw [em]; omega), em]
  have m1 := ml_9 (x := 0) (y := a2.toInt) (z := a3.toInt) (by omega) (by omega) w1
  rw [Int.zero_mul] at m1
  have k3 := cnk (x := a3) (by omega)
  have b4 : pB9 1502 ≤ pB9 4000 := pB9_l (by decide)
  have o1 : (1 : Int64).toInt.toNat = 1 := rfl
  intro T1
  refine Nu_put_c W T1 6500 ?_ (fun κ_2 q3 => ?_)
  · exact ⟨by decide, g1.2.2⟩  -- p1
  intro W4
  intro M5
  obtain ⟨Fp, ⟨Rp, Np⟩, Ip, Vp⟩ := q3
  have Zp : zF (soF ρ (fun r => r = 1) (zR κ odCalc a0)) κ κ_2 := soF_1 h1 Fp
  have lp := (soF_B (c := 0) W (ty_soLess W ts) Zp (by rw [A0.1.2.1.2.2.2.2.2.1]; decide)).2.1
  have Gp := ag_so9 W Ta0 (R := fun r => r = 1) (fun r h2 h3 z => by omega) A0 Zp ⟨nm_1 W A0.1.1 Fp (by rw [h1]; exact Ip), so_1 W ts A0.1.2 Fp⟩ (by rw [Vp, o1]; exact Or.inr (Nat.one_dvd _)) (by rw [lp]; exact A0.2.2.2.1.2)
  unfold w_Od_rowsAgree_14
  refine ⟨fun n l0 l1 l2 l3 l4 τ => n = (a1.toInt + a2.toInt * a3.toInt - l4.toInt).toNat ∧ ((a0 = l0 ∧ a1 = l1 ∧ a2 = l2 ∧ a3 = l3 ∧ (∃ ρ' : Nat → Nat, roG9 ρ κ τ a0 n9 P9 ρ') ∧ (0 ≤ l4.toInt ∧ l4.toInt ≤ a1.toInt + a2.toInt * a3.toInt)) ∧ SM24 κ τ a0 n9 V9 ∧ ∃ D, DV24 κ τ a0 n9 V9 a1.toInt.toNat l4.toInt.toNat D), ⟨_, rfl, ?_⟩, ?_⟩
  · refine and_5 ?_ (fun o9 => ?_)  -- j2
    · exact ⟨rfl, rfl, rfl, rfl, ⟨ρ, fun _ _ => rfl, Gp.1, Zp.mono (fun f b z => Or.inl (z.elim (fun y => Or.inl ⟨Or.inl (by have q : ρ b = 1 := y.1; omega), y.2⟩) Or.inr)), fun f hf b c hb => Gp.2.1 f hf b, zE_so9 W Ta0 Zp⟩, b0, by omega⟩
    · have e0 := Gp.2.1
      refine ⟨sm_so24 W Ta0 A0.1.1 A0.2.1 Zp (fun r h2 h3 z => by omega) S9, 1, ?_, by decide, fun c c0 c1 => by omega⟩
      rw [e0 odSolver (by decide), e0 soWhole (by decide), Vp]
      rfl
  rintro n14 _ _ _ _ x14_4 κ14 W14 T14_0 ⟨hn14, ⟨rfl, rfl, rfl, rfl, i14⟩, hE⟩
  obtain ⟨⟨ρ1, G1⟩, l40, l41⟩ := i14
  refine ⟨fun c6 => ?_, fun c6 => ?_⟩
  · skip
    unfold w_Od_rowsAgree_40
    refine ⟨fun n l0 l1 l2 l3 l4 τ => n = (a3.toInt - l4.toInt).toNat ∧ ((a0 = l0 ∧ a1 = l1 ∧ a2 = l2 ∧ a3 = l3 ∧ (∃ ρ' : Nat → Nat, roG9 ρ κ τ a0 n9 P9 ρ' ∧ edG9 τ a0 l4.toNatClampNeg) ∧ (0 ≤ l4.toInt ∧ l4.toInt ≤ a3.toInt)) ∧ SM24 κ τ a0 n9 V9 ∧ ∃ D, DV24 κ τ a0 n9 V9 a1.toInt.toNat (a1.toInt + a2.toInt * a3.toInt).toNat D ∧ EV24 κ τ a0 n9 V9 a1.toInt.toNat l4.toInt.toNat D), ⟨_, rfl, ?_⟩, ?_⟩
    · refine and_5 ?_ (fun o9 => ?_)  -- j3
      · exact ⟨rfl, rfl, rfl, rfl, ⟨ρ1, G1, fun j hj => absurd hj (Nat.not_lt_zero _)⟩, by decide, by rw [t0i]; omega⟩
      · obtain ⟨S, D, d1, d2, d3⟩ := hE
        have c6' := lei.mp c6
        rw [ea] at c6'
        refine ⟨S, D, ⟨d1, d2, fun c c0 c1 => d3 c c0 (by omega)⟩, fun j hj => absurd hj (by rw [t0i]; omega)⟩
    rintro n40 _ _ _ _ x40_4 κ40 W40 T40_0 ⟨hn40, ⟨rfl, rfl, rfl, rfl, i40⟩, hE⟩
    obtain ⟨⟨ρ2, G2, E2⟩, m40, m41⟩ := i40
    have k4 := cnk m40
    refine ⟨fun c7 => ?_, fun c7 => ?_⟩
    · skip
      unfold w_Od_rowsAgree_80
      refine ⟨fun n l0 l1 l2 l3 l4 τ => n = (a2.toInt - l4.toInt).toNat ∧ ((a0 = l0 ∧ a1 = l1 ∧ a2 = l2 ∧ a3 = l3 ∧ (∃ ρ' : Nat → Nat, roG9 ρ κ τ a0 n9 P9 ρ' ∧ edG9 τ a0 a3.toNatClampNeg) ∧ (1 ≤ l4.toInt ∧ l4.toInt ≤ a2.toInt)) ∧ SM24 κ τ a0 n9 V9 ∧ ∃ D, DV24 κ τ a0 n9 V9 a1.toInt.toNat (a1.toInt + a2.toInt * a3.toInt).toNat D ∧ EV24 κ τ a0 n9 V9 a1.toInt.toNat a3.toInt.toNat D ∧ ag24 κ a0 n9 V9 a1.toInt l4.toInt a3.toInt), ⟨_, rfl, ?_⟩, ?_⟩
      · refine and_5 ?_ (fun o9 => ?_)  -- j4
        · rw [lei] at c7
          rw [show x40_4.toNatClampNeg = a3.toNatClampNeg by omega] at E2
          exact ⟨rfl, rfl, rfl, rfl, ⟨ρ2, G2, E2⟩, by decide, by rw [t1i]; omega⟩
        · obtain ⟨S, D, d1, e1⟩ := hE
          have c7' := lei.mp c7
          rw [show x40_4.toInt = a3.toInt by omega] at e1
          refine ⟨S, D, d1, e1, fun r c r0 r1 c0 c1 => ?_⟩
          rw [t1i] at r1
          rw [show r = 0 by omega]
          exact re_024
      rintro n80 _ _ _ _ x80_4 κ80 W80 T80_0 ⟨hn80, ⟨rfl, rfl, rfl, rfl, i80⟩, hE⟩
      obtain ⟨⟨ρ3, G3, E3⟩, r40, r41⟩ := i80
      refine ⟨fun c8 => ?_, fun c8 => ?_⟩
      · skip
        refine h _ _ ?_
        · refine and_5 ?_ (fun o9 => ?_)  -- q5
          · exact ⟨ρ3, G3⟩
          · obtain ⟨S, D, d1, e1, g1⟩ := hE
            have c8' := lei.mp c8
            exact ⟨S, fun _ r c r0 r1 c0 c1 => g1 r c r0 (by omega) c0 c1, fun _ => by decide⟩
      · skip
        intro x9 hx9
        intro T10
        rw [lei] at c8
        have ml := ml_9 (x := x80_4.toInt) (y := a2.toInt) (z := a3.toInt) (by omega) (by omega) w1
        have em9 : (x80_4 * a3).toInt = x80_4.toInt * a3.toInt := mul_i (by omega) (by omega)
        have e9 : x9.toInt = a1.toInt + x80_4.toInt * a3.toInt := by rw [hx9, add_i (by rw [em9]; omega) (by rw [em9]; omega), em9]
        have A3 := G3.2.1
        refine Od_throughCell_q6 W80 T10 ρ3 n9 P9 V9 hE.1.1 hE.1.2.1 hE.1.2.2.1 (by obtain ⟨S, D, d1, _⟩ := hE; have kx := cnk (x := x9) (by omega); exact fun _ => dv_b24 S d1 (by omega) (by omega)) ?_ (fun κ_11 q12 => ?_)
        · exact ⟨A3.1, A3.2.1, hP, A3.2.2.1, ⟨by omega, by omega⟩, A3.2.2.2.1.1, A3.2.2.2.1.2⟩  -- p6
        obtain ⟨q12, z9⟩ := q12
        have zt := z9
        have Q := tc_s9 W80 T80_0 A3 q12
        obtain ⟨A11, r11, ed11, hd11⟩ := Q
        have G11 := ro_so9 W Ta0 W80 G3 q12.1.1 (fun r z => by unfold tcR9 at z; omega) A11 r11
        have T11 : zT κ_11 a0 = 9 := q12.1.1.t T80_0 (by decide)
        have B11 := q12.2.1
        rw [← r11 soSum (by decide), ← r11 odSolver (by decide)] at B11
        have cp := cp_p9 (w := zR κ_11 odHeld a0) (v := zR κ_11 soSum (zR κ_11 odSolver a0)) A11.1.1 A11.2.1.2.1 A11.1.2.1.2.2.2.2.1 ⟨nmR_s9.2.1, by decide, by decide⟩ ⟨nmR_s9.1.2.1, by decide, by decide⟩ (by decide) (Nat.lt_of_lt_of_le B11 b4)
        intro W13
        intro M14
        intro T15
        intro T16
        refine Nu_copy_c W13 T15 T16 6500 6500 ?_ (fun κ_17 q18 => ?_)
        · exact cp  -- p7
        intro W19
        intro M20
        have gv := nm_g A11.1.1 (w := zR κ_11 soSum (zR κ_11 odSolver a0)) A11.1.2.1.2.2.2.2.1 nmR_s9.1.2.1 (by decide)
        have Q17 := nw_s9 W13 T11 A11 A11.2.1.2.1 (Or.inl (by decide)) (by decide) q18.1 ⟨q18.2.1, q18.2.2.2.2 gv.1.2⟩ (fun z => absurd z (by decide))
        obtain ⟨A17, r17, nu17, eq17, z17⟩ := Q17
        have G17 := ro_so9 W Ta0 W13 G11 (z17 _) (fun r z => Or.inl (by omega)) A17 r17
        have E17 := ed_k9 W13 T11 A11 (by omega) (r17 odEdges (by decide) a0) eq17 (fun v tv hv => nu17 v tv (by omega)) (ed11 _ (by omega) E3)
        have H17 : nuN κ_17 (zR κ_17 odHeld a0) < pB9 1502 := by
          rw [r17 odHeld (by decide), q18.2.2.1]
          exact B11
        have ix8 := cn1 (x := x80_4) (by omega) (by have := ihi a2; omega)
        unfold w_Od_rowsAgree_118
        refine ⟨fun n l0 l1 l2 l3 l4 l5 l6 τ => n = (a3.toInt - l6.toInt).toNat ∧ ((a0 = l0 ∧ a1 = l1 ∧ a2 = l2 ∧ a3 = l3 ∧ (∃ ρ' : Nat → Nat, roG9 ρ κ τ a0 n9 P9 ρ' ∧ edG9 τ a0 a3.toNatClampNeg ∧ nuN τ (zR τ odHeld a0) < pB9 1502) ∧ (x80_4 = l4 ∧ x9 = l5) ∧ (1 ≤ l6.toInt ∧ l6.toInt ≤ a3.toInt)) ∧ SM24 κ τ a0 n9 V9 ∧ ∃ D, DV24 κ τ a0 n9 V9 a1.toInt.toNat (a1.toInt + a2.toInt * a3.toInt).toNat D ∧ EV24 κ τ a0 n9 V9 a1.toInt.toNat a3.toInt.toNat D ∧ ag24 κ a0 n9 V9 a1.toInt l4.toInt a3.toInt ∧ ((nuN τ (zR τ odHeld a0) : Nat) : Rat) = WC24 κ a0 n9 V9 (a1.toInt + l4.toInt * a3.toInt).toNat * (D : Rat) ∧ ∀ c, 0 ≤ c → c < l6.toInt → re24 κ a0 n9 V9 a1.toInt a3.toInt l4.toInt c), ⟨_, rfl, ?_⟩, ?_⟩
        · refine and_5 ?_ (fun o9 => ?_)  -- j8
          · exact ⟨rfl, rfl, rfl, rfl, ⟨ρ3, G17, E17, H17⟩, ⟨rfl, rfl⟩, by decide, by rw [t1i]; omega⟩
          · obtain ⟨S, D, ⟨d1, d2, d3⟩, e1, g1⟩ := hE
            have kx := cnk (x := x9) (by omega)
            have S11 := sm_so24 W80 T80_0 A3.1.1 A3.2.1 q12.1.1 (fun r h2 h3 z => by unfold tcR9 at z; omega) S
            have S17 := sm_so24 W13 T11 A11.1.1 A11.2.1 (z17 0) (fun r h2 h3 z => by omega) S11
            obtain ⟨y1, y2⟩ := zt.1 rfl
            have w11 : nuN κ_11 (zR κ_11 soWhole (zR κ_11 odSolver a0)) = D := by rw [r11 odSolver (by decide), r11 soWhole (by decide), y1]; exact d1
            have w17 := (wh_n24 W13 T11 A11 r17 nu17 (by decide)).trans w11
            have E11 := ev_k24 W80 T80_0 A3 (by omega) (r11 odEdges (by decide) a0) (G_q24 W80 T80_0 q12.1.1) (fun v tv hv => (soF_B (c := 0) W80 tv q12.1.1 (by unfold tcR9; omega)).2.1) e1
            have E17' := ev_k24 W13 T11 A11 (by omega) (r17 odEdges (by decide) a0) eq17 (fun v tv hv => nu17 v tv (by omega)) E11
            refine ⟨S17, D, ⟨w17, d2, d3⟩, E17', g1, ?_, fun c c0 c1 => ?_⟩
            · rw [r17 odHeld (by decide), q18.2.2.1, r11 soSum (by decide), r11 odSolver (by decide), y2, d1, S.2.2.2.2.2]
              rw [show x9.toNatClampNeg = (a1.toInt + x80_4.toInt * a3.toInt).toNat by omega]
            · rw [t1i] at c1
              rw [show c = 0 by omega]
              exact re_c24
        rintro n118 _ _ _ _ x118_4 x118_5 x118_6 κ118 W118 T118_0 ⟨hn118, ⟨rfl, rfl, rfl, rfl, i118⟩, hE⟩
        obtain ⟨⟨ρ4, G4, E4, H4⟩, ⟨rfl, rfl⟩, s60, s61⟩ := i118
        have k6 := cnk (x := x118_6) (by omega)
        refine ⟨fun c21 => ?_, fun c21 => ?_⟩
        · skip
          intro x22 hx22
          refine lp_b5 ?_ (fun d9 => ⟨rfl, ?_⟩)
          · rw [hn80, hx22, ix8.2]; omega  -- d9
          · refine and_5 ?_ (fun o9 => ?_)  -- i10
            · exact ⟨rfl, rfl, rfl, rfl, ⟨ρ4, G4, E4⟩, by rw [hx22, ix8.2]; omega, by rw [hx22, ix8.2]; omega⟩
            · obtain ⟨S, D, d1, e1, g1, g2, g3⟩ := hE
              have c21' := lei.mp c21
              refine ⟨S, D, d1, e1, fun r c r0 r1 c0 c1 => ?_⟩
              rw [hx22, ix8.2] at r1
              by_cases z : r = x80_4.toInt
              · rw [z]
                exact g3 c c0 (by omega)
              · exact g1 r c r0 (by omega) c0 c1
        · skip
          intro T23
          rw [lei] at c21
          have A4 := G4.2.1
          have ei : (x9 + x118_6).toInt = x9.toInt + x118_6.toInt := add_i (by omega) (by omega)
          have ix := cn1 (x := x118_6) (by omega) (by omega)
          refine Od_throughCell_q6 W118 T23 ρ4 n9 P9 V9 hE.1.1 hE.1.2.1 hE.1.2.2.1 (by obtain ⟨S, D, d1, _⟩ := hE; have kx := cnk (x := x9 + x118_6) (by omega); exact fun _ => dv_b24 S d1 (by omega) (by omega)) ?_ (fun κ_24 q25 => ?_)
          · exact ⟨A4.1, A4.2.1, hP, A4.2.2.1, ⟨by rw [ei]; omega, by rw [ei]; omega⟩, A4.2.2.2.1.1, A4.2.2.2.1.2⟩  -- p11
          obtain ⟨q25, z9⟩ := q25
          have zt2 := z9
          have Q := tc_s9 W118 T118_0 A4 q25
          obtain ⟨A24, r24, ed24, hd24⟩ := Q
          have G24 := ro_so9 W Ta0 W118 G4 q25.1.1 (fun r z => by unfold tcR9 at z; omega) A24 r24
          have T24 : zT κ_24 a0 = 9 := q25.1.1.t T118_0 (by decide)
          have B24 := q25.2.1
          rw [← r24 soSum (by decide), ← r24 odSolver (by decide)] at B24
          have E24 := ed24 _ (by omega) E4
          have H24 : nuN κ_24 (zR κ_24 odHeld a0) < pB9 1502 := by
            rw [r24 odHeld (by decide), hd24]
            exact H4
          obtain ⟨u0, hu0, bu0⟩ := E24 0 (by omega)
          obtain ⟨u6, hu6, bu6⟩ := E24 x118_6.toNatClampNeg (by omega)
          have ru0 := A24.2.2.2.2.1 0 u0 (by decide) hu0
          have ru6 := A24.2.2.2.2.1 _ u6 (by omega) hu6
          have g7 := nm_g A24.1.1 (w := zR κ_24 soSum (zR κ_24 odSolver a0)) A24.1.2.1.2.2.2.2.1 nmR_s9.1.2.1 (by decide)
          have g8 := nm_g A24.1.1 (w := zR κ_24 soLess (zR κ_24 odSolver a0)) A24.1.2.1.2.2.2.2.2.1 nmR_s9.1.2.2 (by decide)
          have gu0 := nm_g A24.1.1 (w := u0) ru0 (Or.inr (Or.inr (Or.inr (Or.inr (Or.inr (Or.inr (by decide))))))) (by decide)
          have k7 := nuK_lt g7.1 B24
          have ku0 := nuK_lt gu0.1 bu0
          intro W26
          intro M27
          intro T28
          refine Od_edge_c2 W26 T28 u0 ?_ (fun r29 κ_30 q31 => ?_)
          · exact ⟨A24.2.2.1.1.2.2.2.2.2.2, by decide, hu0⟩  -- p12
          obtain ⟨ek, eu⟩ := q31
          subst ek
          subst eu
          intro W32
          intro M33
          intro T34
          intro T35
          intro T36
          intro T37
          refine Nu_product_c W32 T35 T36 T37 6500 30000000 30000000 ?_ (fun κ_38 q39 => ?_)
          · exact ⟨g8.2.2, ⟨nuI_mono (by decide) g7.1, nuI_mono (by decide) gu0.1⟩, ⟨ro_n A24.1.2.1.2.2.2.2.2.1 A24.1.2.1.2.2.2.2.1 (by decide), ro_n A24.1.2.1.2.2.2.2.2.1 ru0 (by decide)⟩, by omega, by decide⟩  -- p13
          have pl : nuN κ_38 (zR κ_24 soLess (zR κ_24 odSolver a0)) < pB9 4000 := by
            rw [q39.2.2]
            have q : nuN κ_24 (zR κ_24 soSum (zR κ_24 odSolver a0)) * nuN κ_24 r29 ≤ pB9 1502 * pB9 1502 := Nat.mul_le_mul (Nat.le_of_lt B24) (Nat.le_of_lt bu0)
            rw [← pB9_a] at q
            exact Nat.lt_of_le_of_lt q (pB9_s (by decide))
          have Q38 := nw_s9 W32 T24 A24 A24.1.2.1.2.2.2.2.2.1 (Or.inl (by decide)) (by decide) q39.1 q39.2.1 (fun _ => pl)
          obtain ⟨A38, r38, nu38, eq38, z38⟩ := Q38
          have G38 := ro_so9 W Ta0 W32 G24 (z38 _) (fun r z => Or.inl (by omega)) A38 r38
          have T38 : zT κ_38 a0 = 9 := q39.1.t T24 (by decide)
          have E38 := ed_k9 W26 T24 A24 (by omega) (r38 odEdges (by decide) a0) eq38 (fun v tv hv => nu38 v tv (by omega)) E24
          have th24 := ty_odHeld W26 T24
          have H38 : nuN κ_38 (zR κ_38 odHeld a0) < pB9 1502 := by
            rw [r38 odHeld (by decide), nu38 _ th24 (by rw [A24.2.1.2.1]; decide)]
            exact H24
          have tu6 := W26.2.2.2.1 _ _ _ (ty_odEdges W26 T24) hu6
          have bu6' : nuN κ_38 u6 < pB9 1502 := by rw [nu38 _ tu6 (by rw [ru6]; omega)]; exact bu6
          have hu6' : zQ κ_38 (zR κ_38 odEdges a0) x118_6.toNatClampNeg = some u6 := by rw [r38 odEdges (by decide), eq38]; exact hu6
          have g15 := nm_g A38.1.1 (w := zR κ_38 odHeld a0) A38.2.1.2.1 nmR_s9.2.1 (by decide)
          have g6 := nm_g A38.1.1 (w := zR κ_38 soTerm (zR κ_38 odSolver a0)) A38.1.2.1.2.2.2.1 nmR_s9.2.2 (by decide)
          have gu6 := nm_g A38.1.1 (w := u6) ru6 (Or.inr (Or.inr (Or.inr (Or.inr (Or.inr (Or.inr (by omega))))))) (by omega)
          have k15 := nuK_lt g15.1 H38
          have ku6 := nuK_lt gu6.1 bu6'
          intro W40
          intro M41
          intro T42
          refine Od_edge_c2 W40 T42 u6 ?_ (fun r43 κ_44 q45 => ?_)
          · exact ⟨A38.2.2.1.1.2.2.2.2.2.2, ⟨by omega, by omega⟩, hu6'⟩  -- p14
          obtain ⟨ek6, eu6⟩ := q45
          subst ek6
          subst eu6
          intro W46
          intro M47
          intro T48
          intro T49
          intro T50
          intro T51
          refine Nu_product_c W46 T49 T50 T51 6500 30000000 30000000 ?_ (fun κ_52 q53 => ?_)
          · exact ⟨g6.2.2, ⟨nuI_mono (by decide) g15.1, nuI_mono (show capR (2000000 + x118_6.toNatClampNeg) ≤ 30000000 by unfold capR; rw [if_neg (by omega), if_neg (by omega), if_neg (by omega)]; decide) gu6.1⟩, ⟨ro_n A38.1.2.1.2.2.2.1 A38.2.1.2.1 (by decide), ro_n A38.1.2.1.2.2.2.1 ru6 (by omega)⟩, by omega, by decide⟩  -- p15
          have Q52 := nw_s9 W46 T38 A38 A38.1.2.1.2.2.2.1 (Or.inl (by decide)) (by decide) q53.1 q53.2.1 (fun z => absurd z (by decide))
          obtain ⟨A52, r52, nu52, eq52, z52⟩ := Q52
          have G52 := ro_so9 W Ta0 W46 G38 (z52 _) (fun r z => Or.inl (by omega)) A52 r52
          have E52 := ed_k9 W46 T38 A38 (by omega) (r52 odEdges (by decide) a0) eq52 (fun v tv hv => nu52 v tv (by omega)) E38
          have H52 : nuN κ_52 (zR κ_52 odHeld a0) < pB9 1502 := by
            rw [r52 odHeld (by decide), nu52 _ (ty_odHeld W46 T38) (by rw [A38.2.1.2.1]; decide)]
            exact H38
          have c8' := nm_g A52.1.1 (w := zR κ_52 soLess (zR κ_52 odSolver a0)) A52.1.2.1.2.2.2.2.2.1 nmR_s9.1.2.2 (by decide)
          have c6' := nm_g A52.1.1 (w := zR κ_52 soTerm (zR κ_52 odSolver a0)) A52.1.2.1.2.2.2.1 nmR_s9.2.2 (by decide)
          intro W54
          intro M55
          intro T56
          intro T57
          refine Nu_compare_c W54 T56 T57 6500 6500 ?_ (fun r58 q60 => ?_)
          · exact ⟨c8'.1, c6'.1⟩  -- p16
          intro W61
          intro M62
          refine ⟨fun c63 => ?_, fun c63 => ?_⟩
          · skip
            intro x64 hx64
            refine lp_b5 ?_ (fun d9 => ⟨rfl, ?_⟩)
            · rw [hn118, hx64, ix.2]; omega  -- d17
            · refine and_5 ?_ (fun o9 => ?_)  -- i18
              · exact ⟨rfl, rfl, rfl, rfl, ⟨ρ4, G52, E52, H52⟩, ⟨rfl, rfl⟩, by rw [hx64, ix.2]; omega, by rw [hx64, ix.2]; omega⟩
              · obtain ⟨S, D, ⟨d1, d2, d3⟩, e1, g1, g2, g3⟩ := hE
                have kx := cnk (x := x9 + x118_6) (by omega)
                have S24 := sm_so24 W118 T118_0 A4.1.1 A4.2.1 q25.1.1 (fun r h2 h3 z => by unfold tcR9 at z; omega) S
                obtain ⟨y1, y2⟩ := zt2.1 rfl
                have w24 : nuN κ_24 (zR κ_24 soWhole (zR κ_24 odSolver a0)) = D := by rw [r24 odSolver (by decide), r24 soWhole (by decide), y1]; exact d1
                have v24 := ev_k24 W118 T118_0 A4 (by omega) (r24 odEdges (by decide) a0) (G_q24 W118 T118_0 q25.1.1) (fun v tv hv => (soF_B (c := 0) W118 tv q25.1.1 (by unfold tcR9; omega)).2.1) e1
                have s24 : ((nuN κ_24 (zR κ_24 soSum (zR κ_24 odSolver a0)) : Nat) : Rat) = WC24 κ a0 n9 V9 (a1.toInt + x80_4.toInt * a3.toInt + x118_6.toInt).toNat * (D : Rat) := by
                  rw [r24 soSum (by decide), r24 odSolver (by decide), y2, d1, S.2.2.2.2.2, show (x9 + x118_6).toNatClampNeg = (a1.toInt + x80_4.toInt * a3.toInt + x118_6.toInt).toNat by omega]
                obtain ⟨z0, hz0, b0'⟩ := v24 0 (by omega)
                rw [hu0] at hz0
                obtain ⟨z6, hz6, b6'⟩ := v24 x118_6.toNatClampNeg (by omega)
                rw [hu6] at hz6
                rw [← Option.some.inj hz0] at b0'
                rw [← Option.some.inj hz6] at b6'
                have h24 : ((nuN κ_24 (zR κ_24 odHeld a0) : Nat) : Rat) = WC24 κ a0 n9 V9 (a1.toInt + x80_4.toInt * a3.toInt).toNat * (D : Rat) := by rw [r24 odHeld (by decide), hd24]; exact g2
                have h38 : nuN κ_38 (zR κ_38 odHeld a0) = nuN κ_24 (zR κ_24 odHeld a0) := by rw [r38 odHeld (by decide), nu38 _ th24 (by rw [A24.2.1.2.1]; decide)]
                have l52 : nuN κ_52 (zR κ_52 soLess (zR κ_52 odSolver a0)) = nuN κ_24 (zR κ_24 soSum (zR κ_24 odSolver a0)) * nuN κ_24 r29 := by rw [r52 odSolver (by decide), r52 soLess (by decide), nu52 _ (ty_soLess W46 (ty_odSolver W46 T38)) (by rw [A38.1.2.1.2.2.2.2.2.1]; decide), r38 odSolver (by decide), r38 soLess (by decide), q39.2.2]
                have t52 : nuN κ_52 (zR κ_52 soTerm (zR κ_52 odSolver a0)) = nuN κ_24 (zR κ_24 odHeld a0) * nuN κ_24 r43 := by rw [r52 odSolver (by decide), r52 soTerm (by decide), q53.2.2, h38, nu38 r43 tu6 (by rw [ru6]; omega)]
                have eb6 : a1.toInt.toNat + x118_6.toNatClampNeg = (a1.toInt + x118_6.toInt).toNat := by omega
                rw [eb6] at b6'
                rw [Nat.add_zero] at b0'
                have key : nuN κ_52 (zR κ_52 soLess (zR κ_52 odSolver a0)) = nuN κ_52 (zR κ_52 soTerm (zR κ_52 odSolver a0)) ↔ re24 κ a0 n9 V9 a1.toInt a3.toInt x80_4.toInt x118_6.toInt := by
                  rw [l52, t52]
                  exact pr_e24 d2 s24 b0' h24 b6'
                have S38 := sm_so24 W32 T24 A24.1.1 A24.2.1 (z38 0) (fun r h2 h3 z => by omega) S24
                have S52 := sm_so24 W46 T38 A38.1.1 A38.2.1 (z52 0) (fun r h2 h3 z => by omega) S38
                have w38 := (wh_n24 W32 T24 A24 r38 nu38 (by decide)).trans w24
                have w52 := (wh_n24 W46 T38 A38 r52 nu52 (by decide)).trans w38
                have v38 := ev_k24 W32 T24 A24 (by omega) (r38 odEdges (by decide) a0) eq38 (fun v tv hv => nu38 v tv (by omega)) v24
                have v52 := ev_k24 W46 T38 A38 (by omega) (r52 odEdges (by decide) a0) eq52 (fun v tv hv => nu52 v tv (by omega)) v38
                have h52 : nuN κ_52 (zR κ_52 odHeld a0) = nuN κ_38 (zR κ_38 odHeld a0) := by rw [r52 odHeld (by decide), nu52 _ (ty_odHeld W46 T38) (by rw [A38.2.1.2.1]; decide)]
                refine ⟨S52, D, ⟨w52, d2, d3⟩, v52, g1, by rw [h52, h38]; exact h24, fun c c0 c1 => ?_⟩
                rw [hx64, ix.2] at c1
                by_cases z : c = x118_6.toInt
                · rw [z]
                  refine key.mp ?_
                  rcases q60 with y | y | y
                  · have q := y.1
                    rw [c63] at q
                    exact absurd q (by decide)
                  · exact y.2
                  · have q := y.1
                    rw [c63] at q
                    exact absurd q (by decide)
                · exact g3 c c0 (by omega)
          · skip
            refine h _ _ ?_
            · refine and_5 ?_ (fun o9 => ?_)  -- q19
              · exact ⟨ρ4, G52⟩
              · obtain ⟨S, D, ⟨d1, d2, d3⟩, e1, g1, g2, g3⟩ := hE
                have kx := cnk (x := x9 + x118_6) (by omega)
                have S24 := sm_so24 W118 T118_0 A4.1.1 A4.2.1 q25.1.1 (fun r h2 h3 z => by unfold tcR9 at z; omega) S
                obtain ⟨y1, y2⟩ := zt2.1 rfl
                have w24 : nuN κ_24 (zR κ_24 soWhole (zR κ_24 odSolver a0)) = D := by rw [r24 odSolver (by decide), r24 soWhole (by decide), y1]; exact d1
                have v24 := ev_k24 W118 T118_0 A4 (by omega) (r24 odEdges (by decide) a0) (G_q24 W118 T118_0 q25.1.1) (fun v tv hv => (soF_B (c := 0) W118 tv q25.1.1 (by unfold tcR9; omega)).2.1) e1
                have s24 : ((nuN κ_24 (zR κ_24 soSum (zR κ_24 odSolver a0)) : Nat) : Rat) = WC24 κ a0 n9 V9 (a1.toInt + x80_4.toInt * a3.toInt + x118_6.toInt).toNat * (D : Rat) := by
                  rw [r24 soSum (by decide), r24 odSolver (by decide), y2, d1, S.2.2.2.2.2, show (x9 + x118_6).toNatClampNeg = (a1.toInt + x80_4.toInt * a3.toInt + x118_6.toInt).toNat by omega]
                obtain ⟨z0, hz0, b0'⟩ := v24 0 (by omega)
                rw [hu0] at hz0
                obtain ⟨z6, hz6, b6'⟩ := v24 x118_6.toNatClampNeg (by omega)
                rw [hu6] at hz6
                rw [← Option.some.inj hz0] at b0'
                rw [← Option.some.inj hz6] at b6'
                have h24 : ((nuN κ_24 (zR κ_24 odHeld a0) : Nat) : Rat) = WC24 κ a0 n9 V9 (a1.toInt + x80_4.toInt * a3.toInt).toNat * (D : Rat) := by rw [r24 odHeld (by decide), hd24]; exact g2
                have h38 : nuN κ_38 (zR κ_38 odHeld a0) = nuN κ_24 (zR κ_24 odHeld a0) := by rw [r38 odHeld (by decide), nu38 _ th24 (by rw [A24.2.1.2.1]; decide)]
                have l52 : nuN κ_52 (zR κ_52 soLess (zR κ_52 odSolver a0)) = nuN κ_24 (zR κ_24 soSum (zR κ_24 odSolver a0)) * nuN κ_24 r29 := by rw [r52 odSolver (by decide), r52 soLess (by decide), nu52 _ (ty_soLess W46 (ty_odSolver W46 T38)) (by rw [A38.1.2.1.2.2.2.2.2.1]; decide), r38 odSolver (by decide), r38 soLess (by decide), q39.2.2]
                have t52 : nuN κ_52 (zR κ_52 soTerm (zR κ_52 odSolver a0)) = nuN κ_24 (zR κ_24 odHeld a0) * nuN κ_24 r43 := by rw [r52 odSolver (by decide), r52 soTerm (by decide), q53.2.2, h38, nu38 r43 tu6 (by rw [ru6]; omega)]
                have eb6 : a1.toInt.toNat + x118_6.toNatClampNeg = (a1.toInt + x118_6.toInt).toNat := by omega
                rw [eb6] at b6'
                rw [Nat.add_zero] at b0'
                have key : nuN κ_52 (zR κ_52 soLess (zR κ_52 odSolver a0)) = nuN κ_52 (zR κ_52 soTerm (zR κ_52 odSolver a0)) ↔ re24 κ a0 n9 V9 a1.toInt a3.toInt x80_4.toInt x118_6.toInt := by
                  rw [l52, t52]
                  exact pr_e24 d2 s24 b0' h24 b6'
                have S38 := sm_so24 W32 T24 A24.1.1 A24.2.1 (z38 0) (fun r h2 h3 z => by omega) S24
                have S52 := sm_so24 W46 T38 A38.1.1 A38.2.1 (z52 0) (fun r h2 h3 z => by omega) S38
                refine ⟨S52, fun z => absurd rfl z, fun F => ?_⟩
                exfalso
                have y := key.mpr (F x80_4.toInt x118_6.toInt (by omega) (by omega) (by omega) (by omega))
                rcases q60 with w | w | w
                · omega
                · exact c63 (Int32.toInt_inj.mp (by rw [w.1]; rfl))
                · omega
    · skip
      intro T65
      rw [lei] at c7
      have A2 := G2.2.1
      have ei : (a1 + x40_4).toInt = a1.toInt + x40_4.toInt := add_i (by omega) (by omega)
      have ix := cn1 (x := x40_4) (by omega) (by omega)
      refine Od_throughCell_q6 W40 T65 ρ2 n9 P9 V9 hE.1.1 hE.1.2.1 hE.1.2.2.1 (by obtain ⟨S, D, d1, _⟩ := hE; have kx := cnk (x := a1 + x40_4) (by omega); exact fun _ => dv_b24 S d1 (by omega) (by omega)) ?_ (fun κ_66 q67 => ?_)
      · exact ⟨A2.1, A2.2.1, hP, A2.2.2.1, ⟨by rw [ei]; omega, by rw [ei]; omega⟩, A2.2.2.2.1.1, A2.2.2.2.1.2⟩  -- p20
      obtain ⟨q67, z9⟩ := q67
      have zt := z9
      have Q := tc_s9 W40 T40_0 A2 q67
      obtain ⟨A66, r66, ed66, hd66⟩ := Q
      have G66 := ro_so9 W Ta0 W40 G2 q67.1.1 (fun r z => by unfold tcR9 at z; omega) A66 r66
      have T66 : zT κ_66 a0 = 9 := q67.1.1.t T40_0 (by decide)
      have B66 := q67.2.1
      rw [← r66 soSum (by decide), ← r66 odSolver (by decide)] at B66
      have E66 := ed66 _ (by omega) E2
      intro W68
      intro M69
      intro T70
      refine Od_edge_c W68 T70 ρ2 n9 P9 ?_ (fun r71 κ_72 q73 => ?_)
      · exact ⟨A66, m40, by omega⟩  -- p21
      have ts66 := ty_odSolver W68 T66
      obtain ⟨⟨Z72, Kz72⟩, ⟨ρ5, h5, A72, rv⟩, hq, ⟨er72, ok72⟩, rr72, nn72⟩ := q73
      have G72 := ro_e9 W G66 Z72 Kz72 h5 A72 er72 rr72
      have T72 : zT κ_72 a0 = 9 := Z72.t T66 (by decide)
      have B72 : nuN κ_72 (zR κ_72 soSum (zR κ_72 odSolver a0)) < pB9 1502 := by
        rw [rr72 odSolver a0 8 T66 (by decide), rr72 soSum _ 11 ts66 (by decide), nn72 _ (ty_soSum W68 ts66)]
        exact B66
      have gv := nm_g A72.1.1 (w := zR κ_72 soSum (zR κ_72 odSolver a0)) A72.1.2.1.2.2.2.2.1 nmR_s9.1.2.1 (by decide)
      have ge := nm_g A72.1.1 (w := r71) rv (Or.inr (Or.inr (Or.inr (Or.inr (Or.inr (Or.inr (by omega))))))) (by omega)
      have cpe : capR (2000000 + x40_4.toNatClampNeg) = 3000 := by
        unfold capR
        rw [if_neg (by omega), if_neg (by omega), if_neg (by omega)]
      rw [cpe] at ge
      have kv := nuK_lt gv.1 B72
      intro W74
      intro M75
      intro T76
      intro T77
      intro T78
      refine Nu_copy_c W74 T77 T78 3000 6500 ?_ (fun κ_79 q80 => ?_)
      · exact ⟨ge.2.2, gv.1.1, ro_n rv A72.1.2.1.2.2.2.2.1 (by omega), by omega, by decide⟩  -- p22
      intro W81
      intro M82
      intro x83 hx83
      have Q79 := nw_s9 W74 T72 A72 rv (Or.inr (by omega)) (by omega) q80.1 (by rw [cpe]; exact ⟨q80.2.1, q80.2.2.2.2 gv.1.2⟩) (fun z => by omega)
      obtain ⟨A79, r79, nu79, eq79, z79⟩ := Q79
      have G79 := ro_so9 W Ta0 W74 G72 (z79 _) (fun r z => Or.inr (by omega)) A79 r79
      have E79 : edG9 κ_79 a0 (x40_4.toNatClampNeg + 1) := fun j hj => by
        by_cases z : j = x40_4.toNatClampNeg
        · refine ⟨r71, ?_, ?_⟩
          · rw [r79 odEdges (by decide), eq79, er72, z]; exact hq
          · rw [q80.2.2.1]; exact B72
        · obtain ⟨u, hu, hb⟩ := E66 j (by omega)
          have tu := W68.2.2.2.1 _ _ _ (ty_odEdges W68 T66) hu
          have hu2 := ok72 j u hu
          have ru := A72.2.2.2.2.1 j u (by omega) (by rw [er72]; exact hu2)
          refine ⟨u, ?_, ?_⟩
          · rw [r79 odEdges (by decide), eq79, er72]; exact hu2
          · rw [nu79 u (Z72.t tu (by decide)) (by omega), nn72 u tu]
            exact hb
      refine lp_b5 ?_ (fun d9 => ⟨rfl, ?_⟩)
      · rw [hn40, hx83, ix.2]; omega  -- d23
      · refine and_5 ?_ (fun o9 => ?_)  -- i24
        · exact ⟨rfl, rfl, rfl, rfl, ⟨ρ5, G79, by rw [hx83, ix.1]; exact E79⟩, by rw [hx83, ix.2]; omega, by rw [hx83, ix.2]; omega⟩
        · obtain ⟨S, D, ⟨d1, d2, d3⟩, e1⟩ := hE
          have kx := cnk (x := a1 + x40_4) (by omega)
          have S66 := sm_so24 W40 T40_0 A2.1.1 A2.2.1 q67.1.1 (fun r h2 h3 z => by unfold tcR9 at z; omega) S
          have S72 := sm_ed24 W68 T66 Z72 rr72 nn72 (fun k hk => W68.2.2.2.2.1 _ _ _ (ty_soVisits W68 ts66) (A66.2.1.2.2.2.1 k hk).1) S66
          have S79 := sm_so24 W74 T72 A72.1.1 A72.2.1 (z79 0) (fun r h2 h3 z => by omega) S72
          obtain ⟨y1, y2⟩ := zt.1 rfl
          have w66 : nuN κ_66 (zR κ_66 soWhole (zR κ_66 odSolver a0)) = D := by rw [r66 odSolver (by decide), r66 soWhole (by decide), y1]; exact d1
          have w72 : nuN κ_72 (zR κ_72 soWhole (zR κ_72 odSolver a0)) = D := by rw [rr72 odSolver a0 8 T66 (by decide), rr72 soWhole _ 11 ts66 (by decide), nn72 _ (ty_soWhole W68 ts66)]; exact w66
          have w79 := (wh_n24 W74 T72 A72 r79 nu79 (by omega)).trans w72
          have v66 := ev_k24 W40 T40_0 A2 (by omega) (r66 odEdges (by decide) a0) (G_q24 W40 T40_0 q67.1.1) (fun v tv hv => (soF_B (c := 0) W40 tv q67.1.1 (by unfold tcR9; omega)).2.1) e1
          refine ⟨S79, D, ⟨w79, d2, d3⟩, fun j hj => ?_⟩
          rw [hx83, ix.2] at hj
          by_cases z : j = x40_4.toNatClampNeg
          · refine ⟨r71, ?_, ?_⟩
            · rw [r79 odEdges (by decide), eq79, er72, z]; exact hq
            · rw [q80.2.2.1, rr72 odSolver a0 8 T66 (by decide), rr72 soSum _ 11 ts66 (by decide), nn72 _ (ty_soSum W68 ts66), r66 soSum (by decide), r66 odSolver (by decide), y2, d1, S.2.2.2.2.2, show (a1 + x40_4).toNatClampNeg = a1.toInt.toNat + j by omega]
          · obtain ⟨u, hu, hb⟩ := v66 j (by omega)
            have tu := W68.2.2.2.1 _ _ _ (ty_odEdges W68 T66) hu
            have hu2 := ok72 j u hu
            have ru := A72.2.2.2.2.1 j u (by omega) (by rw [er72]; exact hu2)
            exact ⟨u, by rw [r79 odEdges (by decide), eq79, er72]; exact hu2, by rw [nu79 u (Z72.t tu (by decide)) (by omega), nn72 u tu]; exact hb⟩
  · skip
    intro T84
    rw [lei, ea] at c6
    have A1 := G1.2.1
    have ix := cn1 (x := x14_4) (by omega) (by omega)
    refine Od_throughCell_q6 W14 T84 ρ1 n9 P9 V9 hE.1.1 hE.1.2.1 hE.1.2.2.1 (fun z => absurd z (by decide)) ?_ (fun κ_85 q86 => ?_)
    · exact ⟨A1.1, A1.2.1, hP, A1.2.2.1, ⟨l40, by omega⟩, A1.2.2.2.1.1, A1.2.2.2.1.2⟩  -- p25
    obtain ⟨q86, z9⟩ := q86
    have zt := z9
    intro W87
    intro M88
    intro x89 hx89
    have Q := tc_s9 W14 T14_0 A1 q86
    obtain ⟨A85, r85, ed85, hd85⟩ := Q
    have G85 := ro_so9 W Ta0 W14 G1 q86.1.1 (fun r z => by unfold tcR9 at z; omega) A85 r85
    refine lp_b5 ?_ (fun d9 => ⟨rfl, ?_⟩)
    · rw [hn14, hx89, ix.2]; omega  -- d26
    · refine and_5 ?_ (fun o9 => ?_)  -- i27
      · exact ⟨rfl, rfl, rfl, rfl, ⟨ρ1, G85⟩, by rw [hx89, ix.2]; omega, by rw [hx89, ix.2]; omega⟩
      · obtain ⟨S, D, d1, d2, d3⟩ := hE
        have c0 := cnk (x := x14_4) (by omega)
        have S85 := sm_so24 W14 T14_0 A1.1.1 A1.2.1 q86.1.1 (fun r h2 h3 z => by unfold tcR9 at z; omega) S
        obtain ⟨⟨y1, y2⟩, y3⟩ := zt.2 (by decide)
        refine ⟨S85, nuN κ14 (zR κ14 soWhole (zR κ14 odSolver a0)) * 0 + nuN κ_85 (zR κ14 soWhole (zR κ14 odSolver a0)), ?_, ?_, fun c h1 h2 k hk => ?_⟩
        · rw [r85 odSolver (by decide), r85 soWhole (by decide)]; omega
        · rw [Nat.mul_zero, Nat.zero_add]
          exact y2 (by rw [d1]; exact d2)
        · rw [Nat.mul_zero, Nat.zero_add]
          rw [hx89, ix.2] at h2
          by_cases z : c = x14_4.toNatClampNeg
          · obtain ⟨i, hi⟩ := hk
            have q := y3 k ⟨i, (S.2.2.2.1 _ _ _).mpr (by rw [← z]; exact hi)⟩
            rw [S.2.2.2.2.1] at q
            exact q
          · have q := d3 c h1 (by omega) k hk
            rw [← d1] at q
            exact Nat.dvd_trans q y1

end
section
set_option maxHeartbeats 1600000
/-! the class: tablesAgree -/
theorem Od_tablesAgree_q6 {C : zC} {n0 : Nat} {a0 : Nat} {κ : zS} {Q : Int32 → zS → Prop} (W : zW C n0 κ) (Ta0 : zT κ a0 = 9) (ρ : Nat → Nat) (n9 P9 : Nat) (V9 : Nat → Rat) (S9 : SM24 κ κ a0 n9 V9) (hp : agD9 ρ κ a0 n9 P9 ∧ (0 < P9 ∧ P9 < pB9 1490) ∧ (grI9 κ a0 ∧ gI9 κ a0 1000 1000) ∧ (∃ c : Int, c ≤ 1000 ∧ plC9 κ κ a0 ((zI κ hoTotal (zR κ odGroups a0)).toInt) c)) (h : ∀ (v : Int32) (κ' : zS), ((nb v ∧ ∃ ρ' : Nat → Nat, roH9 ρ κ κ' a0 n9 P9 ρ') ∧ (v ≠ 0 ↔ ∀ g : Int32, 0 ≤ g.toInt → g.toInt < (zI κ hoTotal (zR κ odGroups a0)).toInt → pV9 κ (zR κ odGroups a0) g 0 = 0 → tg24 κ a0 n9 V9 g)) → Q v κ') : zRun C 8 mOd_tablesAgree [.ref a0] κ (oI Q noX) := by
  refine Od_tablesAgree_run W Ta0 ?_
  replace W := W.lo (Nat.le_trans W.1.2.1 W.1.2.2) (Nat.le_refl (zn κ))
  unfold w_Od_tablesAgree_0
  obtain ⟨A0, hP, ⟨G0, I0⟩, c9, hc, pl⟩ := hp
  have tM := G0.1.1.2.1
  have L0 := A0.2.2.1.1
  unfold w_Od_tablesAgree_2
  refine ⟨fun n l0 l1 τ => n = ((zI κ hoTotal (zR κ odGroups a0)).toInt - l1.toInt).toNat ∧ ((a0 = l0 ∧ (∃ ρ' : Nat → Nat, roH9 ρ κ τ a0 n9 P9 ρ') ∧ (0 ≤ l1.toInt ∧ l1.toInt ≤ (zI κ hoTotal (zR κ odGroups a0)).toInt)) ∧ SM24 κ τ a0 n9 V9 ∧ ∀ g : Int32, 0 ≤ g.toInt → g.toInt < l1.toInt → pV9 κ (zR κ odGroups a0) g 0 = 0 → tg24 κ a0 n9 V9 g), ⟨_, rfl, ?_⟩, ?_⟩
  · refine and_5 ?_ (fun o9 => ?_)  -- j1
    · exact ⟨rfl, ⟨ρ, fun _ _ => rfl, A0, zF.rf, fun _ _ _ _ _ => rfl, zE9.rf⟩, by decide, by rw [t0i]; exact tM.1⟩
    · exact ⟨S9, fun g g0 g1 => by rw [t0i] at g1; omega⟩
  rintro n2 _ x2_1 κ2 W2 T2_0 ⟨hn2, ⟨rfl, i2⟩, hE⟩
  obtain ⟨⟨ρ1, G1⟩, l10, l11⟩ := i2
  obtain ⟨⟨eg, pv, tt, hI⟩, rw9⟩ := ro_k9 W Ta0 G1
  have wl := rw9 odLefts (by decide +kernel) (by decide)
  have wr := rw9 odRights (by decide +kernel) (by decide)
  have wb := rw9 odBases (by decide +kernel) (by decide)
  have k1 := cnk l10
  refine ⟨fun c1 => ?_, fun c1 => ?_⟩
  · skip
    refine h _ _ ?_
    · refine and_5 ?_ (fun o9 => ?_)  -- q2
      · exact ⟨nb_1, ρ1, G1⟩
      · have c1' := lei.mp c1
        rw [eg, tt] at c1'
        exact ⟨fun _ g g0 g1 => hE.2 g g0 (by omega), fun _ => by decide⟩
  · skip
    intro T2
    rw [lei, eg, tt] at c1
    have ix := cn1 (x := x2_1) l10 (by omega)
    refine Ho_part_c2 W2 T2 3000 3 8192 ?_ (fun r3 q5 => ?_)
    · rw [eg]
      exact ⟨hI G0.1.1, Or.inr (Or.inr ⟨rfl, rfl, rfl⟩)⟩
    intro W6
    intro M7
    rw [eg, pv] at q5
    refine ⟨fun c8 => ?_, fun c8 => ?_⟩
    · skip
      intro x9 hx9
      refine lp_b5 ?_ (fun d9 => ⟨rfl, ?_⟩)
      · rw [hn2, hx9, ix.2]; omega  -- d4
      · refine and_5 ?_ (fun o9 => ?_)  -- i5
        · exact ⟨rfl, ⟨ρ1, G1⟩, by rw [hx9, ix.2]; omega, by rw [hx9, ix.2]; omega⟩
        · refine ⟨hE.1, fun g g0 g1 gt => ?_⟩
          rw [hx9, ix.2] at g1
          by_cases z : g.toInt = x2_1.toInt
          · rw [Int32.toInt_inj.mp z] at gt
            exact absurd (q5.trans gt) c8
          · exact hE.2 g g0 (by omega) gt
    · skip
      refine ⟨?_, ?_⟩
      · rw [inb_iff, wl.2.2, L0.1]; omega  -- b6
      refine ⟨?_, ?_⟩
      · rw [inb_iff, wr.2.2, L0.2.1]; omega  -- b7
      intro x10 hx10
      rw [wl.2.1, wr.2.1] at hx10
      have tag : pV9 κ (zR κ odGroups a0) x2_1 0 = 0 := by rw [← q5]; exact c8
      obtain ⟨⟨a1l, a2l⟩, a1r, a2r⟩ := (I0 x2_1 l10 (by omega)).1 tag
      have pq := pl x2_1 l10 (by omega) tag
      refine ⟨fun c11 => ?_, fun c11 => ?_⟩
      · skip
        intro x12 hx12
        refine lp_b5 ?_ (fun d9 => ⟨rfl, ?_⟩)
        · rw [hn2, hx12, ix.2]; omega  -- d8
        · refine and_5 ?_ (fun o9 => ?_)  -- i9
          · exact ⟨rfl, ⟨ρ1, G1⟩, by rw [hx12, ix.2]; omega, by rw [hx12, ix.2]; omega⟩
          · refine ⟨hE.1, fun g g0 g1 gt => ?_⟩
            rw [hx12, ix.2] at g1
            by_cases z : g.toInt = x2_1.toInt
            · rw [Int32.toInt_inj.mp z]
              intro y
              rw [hx10] at c11
              exact absurd c11 y
            · exact hE.2 g g0 (by omega) gt
      · skip
        refine ⟨?_, ?_⟩
        · rw [inb_iff, wb.2.2, L0.2.2.1]; omega  -- b10
        refine ⟨?_, ?_⟩
        · rw [inb_iff, wl.2.2, L0.1]; omega  -- b11
        refine ⟨?_, ?_⟩
        · rw [inb_iff, wr.2.2, L0.2.1]; omega  -- b12
        intro T13
        refine Od_rowsAgree_q6 W6 T13 ρ1 n9 P9 V9 (sm_r24 hE.1.1 hE.1.2.1 hE.1.2.2.1) ?_ (fun r14 κ_15 q16 => ?_)
        · rw [hx10] at c11 ⊢
          have m := mn_9 a1l a1r c11
          rw [wb.2.1, wl.2.1, wr.2.1]
          exact ⟨G1.2.1, hP, pq.1, m.1, m.2.1, by rw [m.2.2]; omega⟩
        obtain ⟨q16, z9⟩ := q16
        have zt := z9
        intro W17
        intro M18
        obtain ⟨ρ2, G2⟩ := q16
        have G3 := ro_h9 (ro_t9 W Ta0 G1 G2)
        refine ⟨fun c19 => ?_, fun c19 => ?_⟩
        · skip
          intro x20 hx20
          refine lp_b5 ?_ (fun d9 => ⟨rfl, ?_⟩)
          · rw [hn2, hx20, ix.2]; omega  -- d14
          · refine and_5 ?_ (fun o9 => ?_)  -- i15
            · exact ⟨rfl, ⟨ρ2, G3⟩, by rw [hx20, ix.2]; omega, by rw [hx20, ix.2]; omega⟩
            · refine ⟨sm_t24 hE.1 zt.1, fun g g0 g1 gt => ?_⟩
              rw [hx20, ix.2] at g1
              by_cases z : g.toInt = x2_1.toInt
              · rw [Int32.toInt_inj.mp z]
                intro y
                have q := zt.2.mp (by first | exact c19 | exact fun w => c19 w)
                rw [ag_e24 hE.1.2.2.2.2.2, wb.2.1, wl.2.1, wr.2.1, hx10] at q
                exact q
              · exact hE.2 g g0 (by omega) gt
        · skip
          refine h _ _ ?_
          · refine and_5 ?_ (fun o9 => ?_)  -- q16
            · exact ⟨nb_0, ρ2, G3⟩
            · refine ⟨fun z => absurd rfl z, fun F => ?_⟩
              exfalso
              rw [hx10] at c11
              have y := F x2_1 l10 (by omega) tag c11
              have q := zt.2
              rw [ag_e24 hE.1.2.2.2.2.2, wb.2.1, wl.2.1, wr.2.1, hx10] at q
              first | exact q.mpr y c19 | exact c19 (q.mpr y)

end
section
set_option maxHeartbeats 1600000
/-! both sides: a cell's weight is what the endings in it weigh -/
theorem wc_e24 {κ : zS} {a n c : Nat} {σ : rS} {V : Nat → Rat} (h : VS16 κ (zR κ odSolver a) (zR κ odAtlas a) n σ V) : WC24 κ a n V c = ws24 σ (shp24 σ (fun e => (zA κ (zR κ odCellOf a) e).toNatClampNeg = c)) n := smQ_c (fun k hk => by
  have T := h.1
  have B := tb_n15 T
  have X := tb_k15 T hk
  have f := T.2.1 k hk
  have fk : fN24 κ a k = loN σ k := by unfold fN24; rw [f.1]; rfl
  have fk1 : fN24 κ a (k + 1) - loN σ k = leN σ k := by unfold fN24; rw [f.2]; rfl
  have m := mk_s16 (c := vt16 σ k) (f := fun d => twI σ k (loN σ k + d) * shp24 σ (fun e => (zA κ (zR κ odCellOf a) e).toNatClampNeg = c) (loN σ k + d)) (T := (tTI σ k).toNat) (n := leN σ k)
  refine Eq.trans ?_ m.symm
  rw [vS_t16 h k hk, fk, fk1]
  unfold un15
  rw [h.2.1, dv_16 T hk]
  by_cases z : V k = 0
  · rw [z, Rat.zero_mul, Rat.zero_mul, Rat.zero_mul]
  · have e : sI (fun d => wq24 κ a c k (fun _ => True) (loN σ k + d)) (leN σ k) = sI (fun d => twI σ k (loN σ k + d) * shp24 σ (fun e => (zA κ (zR κ odCellOf a) e).toNatClampNeg = c) (loN σ k + d)) (leN σ k) := sI_c (fun d hd => by
      have c0 := cnk X.1
      have l0 : ((loN σ k : Nat) : Int) = (σ.2.2.1 76 k).toInt := c0
      have c1 := cnk (x := σ.2.2.1 76 (k + 1)) (by omega)
      have hi : loN σ k + d < (σ.2.2.1 76 (k + 1)).toNatClampNeg := by unfold leN at hd; omega
      have ei : (Int32.ofNat (loN σ k + d)).toInt = ((loN σ k + d : Nat) : Int) := ofn_i (by omega)
      have ni : (Int32.ofNat (loN σ k + d)).toNatClampNeg = loN σ k + d := cl_5 (by omega)
      have tk := tk_16 T hk (i := Int32.ofNat (loN σ k + d)) (by rw [f.1, ei]; omega) (by rw [f.2, ei]; omega)
      rw [ni] at tk
      have r := T.2.2.1 (loN σ k + d) (by omega)
      have sg := rq_015 (h.2.2.1 k hk).1
      by_cases s : she24 σ (fun e => (zA κ (zR κ odCellOf a) e).toNatClampNeg = c) (loN σ k + d)
      · have s1 : shp24 σ (fun e => (zA κ (zR κ odCellOf a) e).toNatClampNeg = c) (loN σ k + d) = 1 := iv_124 s
        rw [s1, Int.mul_one]
        have cx : (cx24 κ a (Int32.ofNat (loN σ k + d))).toNatClampNeg = c := by
          unfold cx24
          rw [ni, r.2.1]
          exact s.2
        by_cases t : zA κ (zR κ atChooses (zR κ odAtlas a)) k = 0 ∨ Int32.ofNat (loN σ k + d) = zA κ (zR κ atFirsts (zR κ odAtlas a)) k + zA κ (zR κ atPlan (zR κ odAtlas a)) k
        · rw [wq_124 ⟨⟨by rw [ni, r.1]; exact s.1, t, sg.mpr z⟩, cx⟩ trivial, tk.2 t]
        · rw [wq_024 (fun y => t y.1.1.2.1), tk.1 t]
      · have s0 : shp24 σ (fun e => (zA κ (zR κ odCellOf a) e).toNatClampNeg = c) (loN σ k + d) = 0 := iv_024 s
        rw [s0, Int.mul_zero]
        refine wq_024 (fun y => s ⟨?_, ?_⟩)
        · have q := y.1.1.1
          rw [ni, r.1] at q
          exact q
        · have q := y.1.2
          unfold cx24 at q
          rw [ni, r.2.1] at q
          exact q)
    rw [e, mk_d, mk_d]
    have i1 : ((1 : Int) : Rat) = 1 := rfl
    rw [i1]
    grind)
/-- the endings that count, of both sides -/
theorem hm_h24 {κ : zS} {a n e : Nat} {σ : rS} {V : Nat → Rat} (h : VS16 κ (zR κ odSolver a) (zR κ odAtlas a) n σ V) (n70 : ¬ σ.1 70 = 0) (HV : ∀ k, k < n → (vsV σ k ≠ 0 ↔ V k ≠ 0)) : hm24 κ a n e ↔ hv24 σ e := by
  have T := h.1
  have B := tb_n15 T
  constructor
  · rintro ⟨k, i, hk, h1, h2, ⟨e1, e2, e3⟩, h5⟩
    have X := tb_k15 T hk
    have f := T.2.1 k hk
    rw [f.1] at h1
    rw [f.2] at h2
    have c0 := cnk X.1
    have c1 := cnk (x := σ.2.2.1 76 (k + 1)) (by omega)
    have ci := cnk (x := i) (by omega)
    have r := T.2.2.1 i.toNatClampNeg (by omega)
    have c := T.2.2.2.1 k hk
    rw [r.1] at e1
    rw [r.2.1] at h5
    refine Or.inr ⟨k, i.toNatClampNeg, by rw [← (n7_16 h).1]; exact hk, (HV k hk).mpr ((rq_015 (h.2.2.1 k hk).1).mp e3), ⟨by unfold loN; omega, by omega⟩, ⟨e1, ?_⟩, h5⟩
    rw [c.1, f.1, c.2.2] at e2
    rcases e2 with y | y
    · exact Or.inl y
    · exact Or.inr (by rw [← y]; omega)
  · rintro (z | ⟨k, i, hk, vv, ⟨l1, l2⟩, ⟨n1, n2⟩, ne⟩)
    · exact absurd z n70
    · rw [← (n7_16 h).1] at hk
      have X := tb_k15 T hk
      have f := T.2.1 k hk
      have c0 := cnk X.1
      have l0 : ((loN σ k : Nat) : Int) = (σ.2.2.1 76 k).toInt := c0
      have c1 := cnk (x := σ.2.2.1 76 (k + 1)) (by omega)
      have ei : (Int32.ofNat i).toInt = (i : Int) := ofn_i (by omega)
      have ni : (Int32.ofNat i).toNatClampNeg = i := cl_5 (by omega)
      have r := T.2.2.1 i (by omega)
      have c := T.2.2.2.1 k hk
      refine ⟨k, Int32.ofNat i, hk, by rw [f.1, ei]; omega, by rw [f.2, ei]; omega, ⟨by rw [ni, r.1]; exact n1, ?_, (rq_015 (h.2.2.1 k hk).1).mpr ((HV k hk).mp vv)⟩, by rw [ni, r.2.1]; exact ne⟩
      rw [c.1, f.1, c.2.2]
      rcases n2 with y | y
      · exact Or.inl y
      · exact Or.inr (Int32.toInt_inj.mp (by rw [ei]; exact y))

end
section
set_option maxHeartbeats 1600000
/-! tables of endings: their rows and columns, by values -/
section
variable {κ τ : zS} {a n : Nat} {i j t : Int32}
/-- a group's row, by its parts -/
theorem rp_24 {β : zS} {e T : Int32} {L R : Nat} (t3 : (zI τ hoTotal (zR τ odGroups a)).toInt ≤ 3000) (h : ro24 τ τ a i j t e T L R) : ((Int32.ofNat L).toInt = (L : Int) ∧ (Int32.ofNat L).toNatClampNeg = L ∧ (L : Int) < (zI τ hoTotal (zR τ odGroups a)).toInt) ∧ ((Int32.ofNat R).toInt = (R : Int) ∧ (Int32.ofNat R).toNatClampNeg = R ∧ (R : Int) < (zI τ hoTotal (zR τ odGroups a)).toInt) ∧ (pV9 τ (zR τ odGroups a) T 0 = 0 ∧ pV9 τ (zR τ odGroups a) T 1 = (if t = -1 then 0 else pV9 τ (zR τ atEndings (zR τ odAtlas a)) e t)) ∧ (pV9 τ (zR τ odGroups a) (Int32.ofNat L) 0 = 1 ∧ pV9 τ (zR τ odGroups a) (Int32.ofNat L) 1 = T ∧ pV9 τ (zR τ odGroups a) (Int32.ofNat L) 2 = pV9 τ (zR τ atEndings (zR τ odAtlas a)) e i) ∧ (pV9 τ (zR τ odGroups a) (Int32.ofNat R) 0 = 2 ∧ pV9 τ (zR τ odGroups a) (Int32.ofNat R) 1 = T ∧ pV9 τ (zR τ odGroups a) (Int32.ofNat R) 2 = pV9 τ (zR τ atEndings (zR τ odAtlas a)) e j) := by
  obtain ⟨T0, h1, h2, h3⟩ := h
  have b2 := h2.1.1
  have b3 := h3.1.1
  have eL : (Int32.ofNat L).toInt = (L : Int) := ofn_i (by omega)
  have nL : (Int32.ofNat L).toNatClampNeg = L := cl_5 (by omega)
  have eR : (Int32.ofNat R).toInt = (R : Int) := ofn_i (by omega)
  have nR : (Int32.ofNat R).toNatClampNeg = R := cl_5 (by omega)
  have qT : ∀ x : Int32, 0 ≤ x.toInt → x.toInt < (3 : Int32).toInt → pV9 τ (zR τ odGroups a) T x = tK9 τ a e t x.toNatClampNeg := fun x x0 x1 => pV9_k T0 h1.1 x0 x1
  have qL : ∀ x : Int32, 0 ≤ x.toInt → x.toInt < (3 : Int32).toInt → pV9 τ (zR τ odGroups a) (Int32.ofNat L) x = k39 1 T (pV9 τ (zR τ atEndings (zR τ odAtlas a)) e i) x.toNatClampNeg := fun x x0 x1 => pV9_k (by omega) (by rw [nL]; exact h2.1) x0 x1
  have qR : ∀ x : Int32, 0 ≤ x.toInt → x.toInt < (3 : Int32).toInt → pV9 τ (zR τ odGroups a) (Int32.ofNat R) x = k39 2 T (pV9 τ (zR τ atEndings (zR τ odAtlas a)) e j) x.toNatClampNeg := fun x x0 x1 => pV9_k (by omega) (by rw [nR]; exact h3.1) x0 x1
  exact ⟨⟨eL, nL, b2⟩, ⟨eR, nR, b3⟩, ⟨qT 0 (by decide) (by decide), qT 1 (by decide) (by decide)⟩, ⟨qL 0 (by decide) (by decide), qL 1 (by decide) (by decide), qL 2 (by decide) (by decide)⟩, qR 0 (by decide) (by decide), qR 1 (by decide) (by decide), qR 2 (by decide) (by decide)⟩
/-- the table is the third's value; in a table the row is the first's and the column the second's -/
theorem ro_t24 {e f T T' : Int32} {L R L' R' : Nat} (t3 : (zI τ hoTotal (zR τ odGroups a)).toInt ≤ 3000) (h : ro24 τ τ a i j t e T L R) (h' : ro24 τ τ a i j t f T' L' R') : T = T' ↔ (t = -1 ∨ pV9 τ (zR τ atEndings (zR τ odAtlas a)) e t = pV9 τ (zR τ atEndings (zR τ odAtlas a)) f t) := by
  have p := (rp_24 (β := τ) t3 h).2.2.1.2
  have p' := (rp_24 (β := τ) t3 h').2.2.1.2
  constructor
  · intro z
    by_cases c : t = -1
    · exact Or.inl c
    · rw [z, p', if_neg c, if_neg c] at p
      exact Or.inr p.symm
  · intro z
    have k : tK9 τ a e t = tK9 τ a f t := by
      unfold tK9
      rcases z with z | z
      · rw [if_pos z, if_pos z]
      · rw [z]
    have u := h.2.1
    rw [k] at u
    have w := hkS_u24 u h'.2.1
    have c1 := cnk h.1
    have c2 := cnk h'.1
    exact Int32.toInt_inj.mp (by omega)
theorem ro_v24 {e f T : Int32} {L R L' R' : Nat} (G : gr24 τ a) (t3 : (zI τ hoTotal (zR τ odGroups a)).toInt ≤ 3000) (h : ro24 τ τ a i j t e T L R) (h' : ro24 τ τ a i j t f T L' R') : (pV9 τ (zR τ atEndings (zR τ odAtlas a)) e i = pV9 τ (zR τ atEndings (zR τ odAtlas a)) f i ↔ (zA τ (zR τ odRanks a) L).toInt = (zA τ (zR τ odRanks a) L').toInt) ∧ (pV9 τ (zR τ atEndings (zR τ odAtlas a)) e j = pV9 τ (zR τ atEndings (zR τ odAtlas a)) f j ↔ (zA τ (zR τ odRanks a) R).toInt = (zA τ (zR τ odRanks a) R').toInt) := by
  obtain ⟨⟨l1, l2, l3⟩, ⟨r1, r2, r3⟩, _, ⟨p1, p2, p3⟩, q1, q2, q3⟩ := rp_24 (β := τ) t3 h
  obtain ⟨⟨l1', l2', l3'⟩, ⟨r1', r2', r3'⟩, _, ⟨p1', p2', p3'⟩, q1', q2', q3'⟩ := rp_24 (β := τ) t3 h'
  refine ⟨⟨fun z => ?_, fun z => ?_⟩, fun z => ?_, fun z => ?_⟩
  · have u := h.2.2.1
    rw [z] at u
    rw [hkS_u24 u h'.2.2.1]
  · have y := G.1 (Int32.ofNat L) (Int32.ofNat L') ⟨by omega, by omega⟩ ⟨by omega, by omega⟩ (p1.trans p1'.symm) (Or.inl p1) (p2.trans p2'.symm) (by rw [l2, l2']; exact Int32.toInt_inj.mp z)
    rw [← p3, y, p3']
  · have u := h.2.2.2
    rw [z] at u
    rw [hkS_u24 u h'.2.2.2]
  · have y := G.1 (Int32.ofNat R) (Int32.ofNat R') ⟨by omega, by omega⟩ ⟨by omega, by omega⟩ (q1.trans q1'.symm) (Or.inr q1) (q2.trans q2'.symm) (by rw [r2, r2']; exact Int32.toInt_inj.mp z)
    rw [← q3, y, q3']
/-- each table, each row, each column is of an ending that counts -/
theorem st_g24 (S : st24 κ τ a n i j t) {g : Int32} (g0 : 0 ≤ g.toInt) (g1 : g.toInt < (zI τ hoTotal (zR τ odGroups a)).toInt) (gt : pV9 τ (zR τ odGroups a) g 0 = 0) : (∃ e L R, he24 κ a n e ∧ ro24 τ τ a i j t e g L R) ∧ (∀ r : Int, 0 ≤ r → r < (zA τ (zR τ odLefts a) g.toNatClampNeg).toInt → ∃ e L R, he24 κ a n e ∧ ro24 τ τ a i j t e g L R ∧ (zA τ (zR τ odRanks a) L).toInt = r) ∧ (∀ r : Int, 0 ≤ r → r < (zA τ (zR τ odRights a) g.toNatClampNeg).toInt → ∃ e L R, he24 κ a n e ∧ ro24 τ τ a i j t e g L R ∧ (zA τ (zR τ odRanks a) R).toInt = r) := by
  obtain ⟨G, ⟨I, t3⟩, U, _⟩ := S
  have kg := cnk g0
  have gl := (I g g0 g1).1 gt
  have o1 : ((1 : Int32) : Int32) ≠ 0 := by decide
  have o2 : (2 : Int32) ≠ 0 := by decide
  have o3 : (1 : Int32) ≠ 2 := by decide
  refine ⟨?_, fun r r0 r1 => ?_, fun r r0 r1 => ?_⟩
  · obtain ⟨e, T, L, R, h1, h2, h3⟩ := U g.toNatClampNeg (by omega)
    obtain ⟨⟨l1, l2, l3⟩, ⟨r1, r2, r3⟩, ⟨z1, _⟩, ⟨p1, p2, p3⟩, q1, q2, q3⟩ := rp_24 (β := τ) t3 h2
    have kT := cnk h2.1
    rcases h3 with y | y | y
    · have eT : T = g := Int32.toInt_inj.mp (by omega)
      rw [eT] at h2
      exact ⟨e, L, R, h1, h2⟩
    · have eg : Int32.ofNat L = g := Int32.toInt_inj.mp (by omega)
      rw [eg, gt] at p1
      exact absurd p1.symm o1
    · have eg : Int32.ofNat R = g := Int32.toInt_inj.mp (by omega)
      rw [eg, gt] at q1
      exact absurd q1.symm o2
  · have er : (Int32.ofInt r).toInt = r := Int32.toInt_ofInt_of_le (by have := gl.1.2; omega) (by have := gl.1.2; omega)
    obtain ⟨x, x1, x2, x3, x4⟩ := (G.2 g ⟨g0, g1⟩ gt).1 (Int32.ofInt r) (by omega) (by omega)
    have kx := cnk x1.1
    obtain ⟨e, T, L, R, h1, h2, h3⟩ := U x.toNatClampNeg (by omega)
    obtain ⟨⟨l1, l2, l3⟩, ⟨r1', r2, r3⟩, ⟨z1, _⟩, ⟨p1, p2, p3⟩, q1, q2, q3⟩ := rp_24 (β := τ) t3 h2
    have kT := cnk h2.1
    rcases h3 with y | y | y
    · have eT : T = x := Int32.toInt_inj.mp (by omega)
      rw [eT] at z1
      exact absurd (x2.symm.trans z1) o1
    · have eg : Int32.ofNat L = x := Int32.toInt_inj.mp (by omega)
      rw [eg] at p2
      have eT : T = g := p2.symm.trans x3
      rw [eT] at h2
      exact ⟨e, L, R, h1, h2, by rw [← y, x4]; exact er⟩
    · have eg : Int32.ofNat R = x := Int32.toInt_inj.mp (by omega)
      rw [eg] at q1
      exact absurd (x2.symm.trans q1) o3
  · have er : (Int32.ofInt r).toInt = r := Int32.toInt_ofInt_of_le (by have := gl.2.2; omega) (by have := gl.2.2; omega)
    obtain ⟨x, x1, x2, x3, x4⟩ := (G.2 g ⟨g0, g1⟩ gt).2 (Int32.ofInt r) (by omega) (by omega)
    have kx := cnk x1.1
    obtain ⟨e, T, L, R, h1, h2, h3⟩ := U x.toNatClampNeg (by omega)
    obtain ⟨⟨l1, l2, l3⟩, ⟨r1', r2, r3⟩, ⟨z1, _⟩, ⟨p1, p2, p3⟩, q1, q2, q3⟩ := rp_24 (β := τ) t3 h2
    have kT := cnk h2.1
    rcases h3 with y | y | y
    · have eT : T = x := Int32.toInt_inj.mp (by omega)
      rw [eT] at z1
      exact absurd (x2.symm.trans z1) o2
    · have eg : Int32.ofNat L = x := Int32.toInt_inj.mp (by omega)
      rw [eg] at p1
      exact absurd (p1.symm.trans x2) o3
    · have eg : Int32.ofNat R = x := Int32.toInt_inj.mp (by omega)
      rw [eg] at q2
      have eT : T = g := q2.symm.trans x3
      rw [eT] at h2
      exact ⟨e, L, R, h1, h2, by rw [← y, x4]; exact er⟩
end

end
section
set_option maxHeartbeats 1600000
/-! both sides: one table -/
/-- what holds of both sides behind arrange -/
def GH24 (κ τ : zS) (a n m : Nat) (σ : rS) (V : Nat → Rat) (i j t : Int32) : Prop := VS16 τ (zR τ odSolver a) (zR τ odAtlas a) n σ V ∧ st24 κ τ a n i j t ∧ (¬ σ.1 70 ≤ 0 ∧ m = (σ.1 71).toNatClampNeg ∧ m ≤ 1000) ∧ (∀ k, k < n → (vsV σ k ≠ 0 ↔ V k ≠ 0)) ∧ (∀ e, hm24 κ a n e ↔ hv24 σ e) ∧ (∀ e, hv24 σ e → e < m) ∧ (∀ e, he24 κ a n e → ∀ x, (x = i ∨ x = j ∨ (x = t ∧ t ≠ -1)) → pV9 τ (zR τ atEndings (zR τ odAtlas a)) e x = to24 σ e.toNatClampNeg x) ∧ (¬ i = -1 ∧ ¬ j = -1)
section
variable {κ τ : zS} {a n m : Nat} {σ : rS} {V : Nat → Rat} {i j t : Int32}
theorem gh_e24 (H : GH24 κ τ a n m σ V i j t) {x : Nat} (h : hv24 σ x) : he24 κ a n (Int32.ofNat x) ∧ (Int32.ofNat x).toNatClampNeg = x := by
  have l := H.2.2.2.2.2.1 x h
  have l2 := H.2.2.1.2.2
  have e : (Int32.ofNat x).toInt = (x : Int) := ofn_i (by omega)
  have k : (Int32.ofNat x).toNatClampNeg = x := cl_5 (by omega)
  exact ⟨⟨⟨by omega, by omega⟩, by rw [k]; exact (H.2.2.2.2.1 x).mpr h⟩, k⟩
theorem gh_t24 (H : GH24 κ τ a n m σ V i j t) {e f T T' : Int32} {L R L' R' : Nat} (he : he24 κ a n e) (hf : he24 κ a n f) (h : ro24 τ τ a i j t e T L R) (h' : ro24 τ τ a i j t f T' L' R') : T = T' ↔ (t = -1 ∨ to24 σ e.toNatClampNeg t = to24 σ f.toNatClampNeg t) := by
  rw [ro_t24 H.2.1.2.1.2 h h']
  by_cases c : t = -1
  · exact ⟨fun _ => Or.inl c, fun _ => Or.inl c⟩
  · rw [H.2.2.2.2.2.2.1 e he t (Or.inr (Or.inr ⟨rfl, c⟩)), H.2.2.2.2.2.2.1 f hf t (Or.inr (Or.inr ⟨rfl, c⟩))]
theorem gh_p24 (H : GH24 κ τ a n m σ V i j t) : ∀ k, k < n → vsV σ k ≠ 0 → 0 < vt16 σ k := fun k hk hv => by
  rw [vS_t16 H.1 k hk]
  have ne := (H.2.2.2.1 k hk).mp hv
  have nn := (H.1.2.2.1 k hk).2
  exact Rat.not_le.mp (fun z => ne (Rat.le_antisymm z nn))
theorem fq_t24 (H : GH24 κ τ a n m σ V i j t) {e0 g : Int32} {L0 R0 : Nat} (he0 : he24 κ a n e0) (r0 : ro24 τ τ a i j t e0 g L0 R0) : ∃ ra rb : Nat → Nat, (∀ e, he24 κ a n e → ∀ L R, ro24 τ τ a i j t e g L R → seh24 σ t (to24 σ e0.toNatClampNeg t) e.toNatClampNeg ∧ (ra e.toNatClampNeg : Int) = (zA τ (zR τ odRanks a) L).toInt ∧ (rb e.toNatClampNeg : Int) = (zA τ (zR τ odRanks a) R).toInt) ∧ (∀ x, x < m → seh24 σ t (to24 σ e0.toNatClampNeg t) x → ∃ L R, he24 κ a n (Int32.ofNat x) ∧ (Int32.ofNat x).toNatClampNeg = x ∧ ro24 τ τ a i j t (Int32.ofNat x) g L R) ∧ (fq24 σ n m i j t (to24 σ e0.toNatClampNeg t) ↔ (∀ r c, r < (zA τ (zR τ odLefts a) g.toNatClampNeg).toInt.toNat → c < (zA τ (zR τ odRights a) g.toNatClampNeg).toInt.toNat → ∃ e, e < m ∧ (seh24 σ t (to24 σ e0.toNatClampNeg t) e ∧ ra e = r) ∧ rb e = c) ∧ ∀ r c, r < (zA τ (zR τ odLefts a) g.toNatClampNeg).toInt.toNat → c < (zA τ (zR τ odRights a) g.toNatClampNeg).toInt.toNat → wc24 (seh24 σ t (to24 σ e0.toNatClampNeg t)) (we24 σ n) ra rb m r c * wc24 (seh24 σ t (to24 σ e0.toNatClampNeg t)) (we24 σ n) ra rb m 0 0 = wc24 (seh24 σ t (to24 σ e0.toNatClampNeg t)) (we24 σ n) ra rb m r 0 * wc24 (seh24 σ t (to24 σ e0.toNatClampNeg t)) (we24 σ n) ra rb m 0 c) := by
  obtain ⟨F, hF⟩ : ∃ F : Nat → Nat × Nat, ∀ x, (∃ L R, ro24 τ τ a i j t (Int32.ofNat x) g L R) → ro24 τ τ a i j t (Int32.ofNat x) g (F x).1 (F x).2 := by
    refine ⟨fun x => Classical.epsilon (fun p : Nat × Nat => ro24 τ τ a i j t (Int32.ofNat x) g p.1 p.2), fun x ⟨L, R, h⟩ => ?_⟩
    exact Classical.epsilon_spec (p := fun p : Nat × Nat => ro24 τ τ a i j t (Int32.ofNat x) g p.1 p.2) ⟨(L, R), h⟩
  have G := H.2.1.1
  have I := H.2.1.2.1.1
  have t3 := H.2.1.2.1.2
  have KE : ∀ x, seh24 σ t (to24 σ e0.toNatClampNeg t) x → he24 κ a n (Int32.ofNat x) ∧ (Int32.ofNat x).toNatClampNeg = x ∧ ro24 τ τ a i j t (Int32.ofNat x) g (F x).1 (F x).2 := fun x hx => by
    obtain ⟨h1, k1⟩ := gh_e24 H hx.1
    obtain ⟨T, L, R, h2⟩ := H.2.1.2.2.2 _ h1
    have eT := (gh_t24 H h1 he0 h2 r0).mpr (by rw [k1]; exact hx.2)
    rw [eT] at h2
    exact ⟨h1, k1, hF x ⟨L, R, h2⟩⟩
  have KC : ∀ e, he24 κ a n e → ∀ L R, ro24 τ τ a i j t e g L R → seh24 σ t (to24 σ e0.toNatClampNeg t) e.toNatClampNeg := fun e he L R h => ⟨(H.2.2.2.2.1 _).mp he.2, (gh_t24 H he he0 h r0).mp rfl⟩
  have bd : ∀ x, seh24 σ t (to24 σ e0.toNatClampNeg t) x → _ := fun x hx => ro_k24 I t3 (KE x hx).2.2
  have gk := (ro_k24 I t3 r0).1
  have vals := fun (x : Nat) hx (y : Nat) hy => ro_v24 G t3 (KE x hx).2.2 (KE y hy).2.2
  have vi : ∀ x (hx : seh24 σ t (to24 σ e0.toNatClampNeg t) x), pV9 τ (zR τ atEndings (zR τ odAtlas a)) (Int32.ofNat x) i = to24 σ x i ∧ pV9 τ (zR τ atEndings (zR τ odAtlas a)) (Int32.ofNat x) j = to24 σ x j := fun x hx => by
    have k := KE x hx
    have u := H.2.2.2.2.2.2.1 _ k.1 i (Or.inl rfl)
    have w := H.2.2.2.2.2.2.1 _ k.1 j (Or.inr (Or.inl rfl))
    rw [k.2.1] at u w
    exact ⟨u, w⟩
  refine ⟨fun x => (zA τ (zR τ odRanks a) (F x).1).toInt.toNat, fun x => (zA τ (zR τ odRanks a) (F x).2).toInt.toNat, fun e he L R h => ?_, fun x _ hx => ⟨_, _, KE x hx⟩, ?_⟩
  · have c := KC e he L R h
    have k := KE _ c
    have o : Int32.ofNat e.toNatClampNeg = e := on_24 he.1.1 (by have := he.1.2; omega)
    have kk := k.2.2
    rw [o] at kk
    have b := bd _ c
    obtain ⟨_, u2, u3⟩ := ro_u24 kk h
    refine ⟨c, ?_, ?_⟩
    · show (((zA τ (zR τ odRanks a) (F e.toNatClampNeg).1).toInt.toNat : Nat) : Int) = _
      rw [Int.toNat_of_nonneg b.2.1.1, u2]
    · show (((zA τ (zR τ odRanks a) (F e.toNatClampNeg).2).toInt.toNat : Nat) : Int) = _
      rw [Int.toNat_of_nonneg b.2.2.1.1, u3]
  · have sg := st_g24 H.2.1 r0.1 gk.1 gk.2
    rw [fq_l24 H.1.1.1.1 (n7_16 H.1).1 H.2.2.1.2.1 H.2.2.1.1 (gh_p24 H) H.2.2.2.2.2.2.2.1 H.2.2.2.2.2.2.2.2]
    refine lab_24 (fun e _ he => (we_h24 H.1.1.1.1 (n7_16 H.1).1 (fun z => H.2.2.1.1 (by rw [z]; decide)) (gh_p24 H)).1 he.1) (fun e _ he => ?_) (fun e _ he => ?_) (fun e f _ _ he hf => ?_) (fun e f _ _ he hf => ?_) (fun r hr => ?_) (fun c hc => ?_)
    · have b := bd e he
      omega
    · have b := bd e he
      omega
    · have b := bd e he
      have b' := bd f hf
      have v := (vals e he f hf).1
      rw [(vi e he).1, (vi f hf).1] at v
      rw [v]
      omega
    · have b := bd e he
      have b' := bd f hf
      have v := (vals e he f hf).2
      rw [(vi e he).2, (vi f hf).2] at v
      rw [v]
      omega
    · obtain ⟨e, L, R, h1, h2, h3⟩ := sg.2.1 r (Int.natCast_nonneg r) (by omega)
      have c := KC e h1 L R h2
      have o : Int32.ofNat e.toNatClampNeg = e := on_24 h1.1.1 (by have := h1.1.2; omega)
      have kk := (KE _ c).2.2
      rw [o] at kk
      obtain ⟨_, u2, u3⟩ := ro_u24 kk h2
      exact ⟨e.toNatClampNeg, H.2.2.2.2.2.1 _ c.1, c, by rw [u2, h3]; rfl⟩
    · obtain ⟨e, L, R, h1, h2, h3⟩ := sg.2.2 c (Int.natCast_nonneg c) (by omega)
      have cc := KC e h1 L R h2
      have o : Int32.ofNat e.toNatClampNeg = e := on_24 h1.1.1 (by have := h1.1.2; omega)
      have kk := (KE _ cc).2.2
      rw [o] at kk
      obtain ⟨_, u2, u3⟩ := ro_u24 kk h2
      exact ⟨e.toNatClampNeg, H.2.2.2.2.2.1 _ cc.1, cc, by rw [u3, h3]; rfl⟩
end

end
section
set_option maxHeartbeats 1600000
/-! both sides: cells of a table -/
section
variable {κ τ : zS} {a n m : Nat} {σ : rS} {V : Nat → Rat} {i j t : Int32}
theorem wc_w24 (H : GH24 κ τ a n m σ V i j t) (A : ar24 κ τ a n i j t) {E : Nat → Prop} {ra rb : Nat → Nat} {g : Int32} (g0 : 0 ≤ g.toInt) (g1 : g.toInt < (zI τ hoTotal (zR τ odGroups a)).toInt) (gt : pV9 τ (zR τ odGroups a) g 0 = 0) (h1 : ∀ e, he24 κ a n e → ∀ L R, ro24 τ τ a i j t e g L R → E e.toNatClampNeg ∧ (ra e.toNatClampNeg : Int) = (zA τ (zR τ odRanks a) L).toInt ∧ (rb e.toNatClampNeg : Int) = (zA τ (zR τ odRanks a) R).toInt) (h2 : ∀ x, x < m → E x → ∃ L R, he24 κ a n (Int32.ofNat x) ∧ (Int32.ofNat x).toNatClampNeg = x ∧ ro24 τ τ a i j t (Int32.ofNat x) g L R) {p q : Int} (p0 : 0 ≤ p) (p1 : p < (zA τ (zR τ odLefts a) g.toNatClampNeg).toInt) (q0 : 0 ≤ q) (q1 : q < (zA τ (zR τ odRights a) g.toNatClampNeg).toInt) : wc24 E (we24 σ n) ra rb m p.toNat q.toNat = WC24 τ a n V (ci24 (zA τ (zR τ odBases a) g.toNatClampNeg).toInt (zA τ (zR τ odLefts a) g.toNatClampNeg).toInt (zA τ (zR τ odRights a) g.toNatClampNeg).toInt p q).toNat := by
  obtain ⟨D, X, _⟩ := A
  have I := H.2.1.2.1.1
  have t3 := H.2.1.2.1.2
  have n0 : ¬ σ.1 70 = 0 := fun z => H.2.2.1.1 (by rw [z]; decide)
  have nn : ∀ y, y < (zI τ hoTotal (zR τ odGroups a)).toInt.toNat → 0 ≤ bt24 τ a y := fun y hy => bt_n24 I (by omega) t3
  have gT := (I g g0 g1).1 gt
  have kg := cnk g0
  have bg := bt_p24 g0 (by omega) gt
  have cb := ci_b24 (b := sI (bt24 τ a) g.toNatClampNeg) p0 p1 q0 q1 gT.1.2 gT.2.2
  rw [← bg] at cb
  have z0 := sI_m24 (f := bt24 τ a) (k := 0) (n := g.toNatClampNeg) (Nat.zero_le _) (fun i hi => nn i (by omega))
  have z0' : (0 : Int) ≤ sI (bt24 τ a) g.toNatClampNeg := z0
  rw [wc_e24 H.1, D g g0 g1 gt]
  rw [ws_p24 H.1.1.1.1.1 (n7_16 H.1).1 H.2.2.1.2.1, sw_h24 (H := hv24 σ) (fun e _ _ nh => (we_h24 H.1.1.1.1 (n7_16 H.1).1 n0 (gh_p24 H)).2 nh)]
  refine sw_c24 (fun x hx => ⟨fun y => ?_, fun y => ?_⟩)
  · obtain ⟨⟨e1, e2⟩, e3⟩ := y
    obtain ⟨L, R, f1, f2, f3⟩ := h2 x hx e1
    obtain ⟨u1, u2, u3⟩ := h1 _ f1 L R f3
    obtain ⟨T', L', R', w1, w2⟩ := X _ f1
    obtain ⟨v1, v2, v3⟩ := ro_u24 f3 w1
    subst v1 v2 v3
    rw [ce_i24 I t3 D w1] at w2
    rw [f2] at u2 u3 w2
    refine ⟨by rw [← f2]; exact (H.2.2.2.2.1 _).mp f1.2, ?_⟩
    have i0 := ix_n24 I t3 w1
    have kq := cnk (x := zA τ (zR τ odCellOf a) x) (by omega)
    have er : (zA τ (zR τ odRanks a) L).toInt = p := by omega
    have eq : (zA τ (zR τ odRanks a) R).toInt = q := by omega
    unfold ix24 at w2
    rw [er, eq] at w2
    omega
  · obtain ⟨e1, e2⟩ := y
    obtain ⟨f1, f2⟩ := gh_e24 H e1
    obtain ⟨T, L, R, w1, w2⟩ := X _ f1
    rw [ce_i24 I t3 D w1] at w2
    rw [f2] at w2
    have i0 := ix_n24 I t3 w1
    have ib := ix_b24 I t3 w1
    have kq := cnk (x := zA τ (zR τ odCellOf a) x) (by omega)
    have ei : ix24 τ a T L R = ci24 (sI (bt24 τ a) g.toNatClampNeg) (zA τ (zR τ odLefts a) g.toNatClampNeg).toInt (zA τ (zR τ odRights a) g.toNatClampNeg).toInt p q := by omega
    obtain ⟨⟨k1, k2⟩, ⟨k3, k4⟩, ⟨k5, k6⟩, k7, k8⟩ := ro_k24 I t3 w1
    have kT := cnk w1.1
    rw [ei] at ib
    have eT := dc_u24 nn (by omega) (by omega) ib cb
    have eT' : T = g := Int32.toInt_inj.mp (by omega)
    subst eT'
    have u := ci_u24 k3 k4 k5 k6 p0 p1 q0 q1 ei
    obtain ⟨y1, y2, y3⟩ := h1 _ f1 L R w1
    rw [f2] at y1 y2 y3
    exact ⟨⟨y1, by omega⟩, by omega⟩
end

end
section
set_option maxHeartbeats 1600000
/-! both sides: all tables -/
section
variable {κ τ : zS} {a n m : Nat} {σ : rS} {V : Nat → Rat} {i j t : Int32}
theorem tg_c24 {g : Int32} : tg24 τ a n V g ↔ ∀ p q : Int, 0 ≤ p → p < (zA τ (zR τ odLefts a) g.toNatClampNeg).toInt → 0 ≤ q → q < (zA τ (zR τ odRights a) g.toNatClampNeg).toInt → WC24 τ a n V (ci24 (zA τ (zR τ odBases a) g.toNatClampNeg).toInt (zA τ (zR τ odLefts a) g.toNatClampNeg).toInt (zA τ (zR τ odRights a) g.toNatClampNeg).toInt p q).toNat * WC24 τ a n V (ci24 (zA τ (zR τ odBases a) g.toNatClampNeg).toInt (zA τ (zR τ odLefts a) g.toNatClampNeg).toInt (zA τ (zR τ odRights a) g.toNatClampNeg).toInt 0 0).toNat = WC24 τ a n V (ci24 (zA τ (zR τ odBases a) g.toNatClampNeg).toInt (zA τ (zR τ odLefts a) g.toNatClampNeg).toInt (zA τ (zR τ odRights a) g.toNatClampNeg).toInt p 0).toNat * WC24 τ a n V (ci24 (zA τ (zR τ odBases a) g.toNatClampNeg).toInt (zA τ (zR τ odLefts a) g.toNatClampNeg).toInt (zA τ (zR τ odRights a) g.toNatClampNeg).toInt 0 q).toNat := by
  unfold tg24 ag24 re24
  generalize zA τ (zR τ odLefts a) g.toNatClampNeg = lf
  generalize zA τ (zR τ odRights a) g.toNatClampNeg = rt
  generalize (zA τ (zR τ odBases a) g.toNatClampNeg).toInt = b
  by_cases c : lf.toInt < rt.toInt
  · have c1 : ¬ rt < lf := by rw [lti]; omega
    have c2 : lf < rt := by rw [lti]; omega
    rw [if_neg c1, if_pos c2]
    have ci : ∀ p q, ci24 b lf.toInt rt.toInt p q = b + (q * lf.toInt + p) := fun p q => by unfold ci24; rw [if_pos c]
    simp only [ci]
    constructor
    · intro F p q p0 p1 q0 q1
      by_cases z : lf ≤ (1 : Int32)
      · rw [lei, t1i] at z
        rw [show p = 0 by omega, Rat.mul_comm]
      · have y := F z q p q0 q1 p0 p1
        rw [show b + (q * lf.toInt + p) = b + q * lf.toInt + p by omega, show b + (0 * lf.toInt + 0) = b by omega, show b + (0 * lf.toInt + p) = b + p by omega, show b + (q * lf.toInt + 0) = b + q * lf.toInt by omega, y, Rat.mul_comm]
    · intro F _ r c r0 r1 c0 c1'
      have y := F c r c0 c1' r0 r1
      rw [show b + (r * lf.toInt + c) = b + r * lf.toInt + c by omega, show b + (0 * lf.toInt + 0) = b by omega, show b + (0 * lf.toInt + c) = b + c by omega, show b + (r * lf.toInt + 0) = b + r * lf.toInt by omega] at y
      rw [y, Rat.mul_comm]
  · have c2 : ¬ lf < rt := by rw [lti]; omega
    have em : (if rt < lf then rt else lf) = rt := by
      split
      · rfl
      · rename_i z
        rw [lti] at z
        exact Int32.toInt_inj.mp (by omega)
    rw [em, if_neg c2]
    have ci : ∀ p q, ci24 b lf.toInt rt.toInt p q = b + (p * rt.toInt + q) := fun p q => by unfold ci24; rw [if_neg c]
    simp only [ci]
    constructor
    · intro F p q p0 p1 q0 q1
      by_cases z : rt ≤ (1 : Int32)
      · rw [lei, t1i] at z
        rw [show q = 0 by omega]
      · have y := F z p q p0 p1 q0 q1
        rw [show b + (p * rt.toInt + q) = b + p * rt.toInt + q by omega, show b + (0 * rt.toInt + 0) = b by omega, show b + (p * rt.toInt + 0) = b + p * rt.toInt by omega, show b + (0 * rt.toInt + q) = b + q by omega, y]
    · intro F _ r c r0 r1 c0 c1'
      have y := F r c r0 r1 c0 c1'
      rw [show b + (r * rt.toInt + c) = b + r * rt.toInt + c by omega, show b + (0 * rt.toInt + 0) = b by omega, show b + (r * rt.toInt + 0) = b + r * rt.toInt by omega, show b + (0 * rt.toInt + c) = b + c by omega] at y
      exact y
/-- all that the class tells is all that the reference tells -/
theorem gl_24 (H : GH24 κ τ a n m σ V i j t) (Hv : full24 κ τ a n i j t → ar24 κ τ a n i j t) : (full24 κ τ a n i j t ∧ ∀ g : Int32, 0 ≤ g.toInt → g.toInt < (zI τ hoTotal (zR τ odGroups a)).toInt → pV9 τ (zR τ odGroups a) g 0 = 0 → tg24 τ a n V g) ↔ ∀ e0, e0 < m → hv24 σ e0 → fq24 σ n m i j t (to24 σ e0 t) := by
  have I := H.2.1.2.1.1
  have t3 := H.2.1.2.1.2
  have zt : (0 : Int).toNat = 0 := rfl
  constructor
  · rintro ⟨F, G⟩ e0 l0 h0
    obtain ⟨f1, f2⟩ := gh_e24 H h0
    obtain ⟨g, L0, R0, r0⟩ := H.2.1.2.2.2 _ f1
    have gk := (ro_k24 I t3 r0).1
    obtain ⟨ra, rb, h1, h2, h3⟩ := fq_t24 H f1 r0
    rw [f2] at h1 h2 h3
    rw [h3]
    refine ⟨fun r c hr hc => ?_, fun r c hr hc => ?_⟩
    · obtain ⟨e, L, R, y1, y2, y3, y4⟩ := F g r0.1 gk.1 gk.2 r c (Int.natCast_nonneg r) (by omega) (Int.natCast_nonneg c) (by omega)
      obtain ⟨u1, u2, u3⟩ := h1 e y1 L R y2
      exact ⟨e.toNatClampNeg, H.2.2.2.2.2.1 _ u1.1, ⟨u1, by omega⟩, by omega⟩
    · have A := Hv F
      have W := fun p q p0 p1 q0 q1 => wc_w24 H A r0.1 gk.1 gk.2 h1 h2 (p := p) (q := q) p0 p1 q0 q1
      have y := tg_c24.mp (G g r0.1 gk.1 gk.2) r c (Int.natCast_nonneg r) (by omega) (Int.natCast_nonneg c) (by omega)
      rw [← W r c (Int.natCast_nonneg r) (by omega) (Int.natCast_nonneg c) (by omega), ← W 0 0 (Int.le_refl _) (by omega) (Int.le_refl _) (by omega), ← W r 0 (Int.natCast_nonneg r) (by omega) (Int.le_refl _) (by omega), ← W 0 c (Int.le_refl _) (by omega) (Int.natCast_nonneg c) (by omega)] at y
      exact y
  · intro Q
    have key : ∀ g : Int32, 0 ≤ g.toInt → g.toInt < (zI τ hoTotal (zR τ odGroups a)).toInt → pV9 τ (zR τ odGroups a) g 0 = 0 → ∃ (E : Nat → Prop) (ra rb : Nat → Nat), (∀ e, he24 κ a n e → ∀ L R, ro24 τ τ a i j t e g L R → E e.toNatClampNeg ∧ (ra e.toNatClampNeg : Int) = (zA τ (zR τ odRanks a) L).toInt ∧ (rb e.toNatClampNeg : Int) = (zA τ (zR τ odRanks a) R).toInt) ∧ (∀ x, x < m → E x → ∃ L R, he24 κ a n (Int32.ofNat x) ∧ (Int32.ofNat x).toNatClampNeg = x ∧ ro24 τ τ a i j t (Int32.ofNat x) g L R) ∧ (∀ r c, r < (zA τ (zR τ odLefts a) g.toNatClampNeg).toInt.toNat → c < (zA τ (zR τ odRights a) g.toNatClampNeg).toInt.toNat → ∃ e, e < m ∧ (E e ∧ ra e = r) ∧ rb e = c) ∧ ∀ r c, r < (zA τ (zR τ odLefts a) g.toNatClampNeg).toInt.toNat → c < (zA τ (zR τ odRights a) g.toNatClampNeg).toInt.toNat → wc24 E (we24 σ n) ra rb m r c * wc24 E (we24 σ n) ra rb m 0 0 = wc24 E (we24 σ n) ra rb m r 0 * wc24 E (we24 σ n) ra rb m 0 c := fun g g0 g1 gt => by
      obtain ⟨e, L, R, y1, y2⟩ := (st_g24 H.2.1 g0 g1 gt).1
      obtain ⟨ra, rb, h1, h2, h3⟩ := fq_t24 H y1 y2
      have hv := (H.2.2.2.2.1 _).mp y1.2
      have q := h3.mp (Q _ (H.2.2.2.2.2.1 _ hv) hv)
      exact ⟨_, ra, rb, h1, h2, q.1, q.2⟩
    have F : full24 κ τ a n i j t := fun g g0 g1 gt p q p0 p1 q0 q1 => by
      obtain ⟨E, ra, rb, h1, h2, h3, _⟩ := key g g0 g1 gt
      obtain ⟨x, x1, ⟨x2, x3⟩, x4⟩ := h3 p.toNat q.toNat (by omega) (by omega)
      obtain ⟨L, R, y1, y2, y3⟩ := h2 x x1 x2
      obtain ⟨u1, u2, u3⟩ := h1 _ y1 L R y3
      rw [y2] at u2 u3
      exact ⟨_, L, R, y1, y3, by omega, by omega⟩
    refine ⟨F, fun g g0 g1 gt => tg_c24.mpr (fun p q p0 p1 q0 q1 => ?_)⟩
    obtain ⟨E, ra, rb, h1, h2, _, h4⟩ := key g g0 g1 gt
    have W := fun p q p0 p1 q0 q1 => wc_w24 H (Hv F) g0 g1 gt h1 h2 (p := p) (q := q) p0 p1 q0 q1
    rw [← W p q p0 p1 q0 q1, ← W 0 0 (Int.le_refl _) (by omega) (Int.le_refl _) (by omega), ← W p 0 p0 p1 (Int.le_refl _) (by omega), ← W 0 q (Int.le_refl _) (by omega) q0 q1]
    exact h4 p.toNat q.toNat (by omega) (by omega)
end

end
section
set_option maxHeartbeats 1600000
/-! what is told of both sides stays where the groups are made -/
theorem vs_f24 {C : zC} {n0 a n : Nat} {F : Nat → Nat → Prop} {κ τ : zS} {σ : rS} {V : Nat → Rat} (W : zW C n0 κ) (Ta : zT κ a = 9) (Z : zF F κ τ) (nF : ∀ f b c, zT κ b = c + 1 → (f / 100 = 3 ∨ f / 100 = 8 ∨ f / 100 = 11 ∨ f / 100 = 12) → ¬ F f b) (eS : zR τ odSolver a = zR κ odSolver a) (eA : zR τ odAtlas a = zR κ odAtlas a) (A' : atW τ (zR τ odAtlas a) n) (vt : ∀ k, k < n → zT κ (vU9 κ (zR κ odSolver a) k) = 11) (h : VS16 κ (zR κ odSolver a) (zR κ odAtlas a) n σ V) : VS16 τ (zR τ odSolver a) (zR τ odAtlas a) n σ V := by
  obtain ⟨⟨⟨t1, t2, t3⟩, t4, t5, t6, t7⟩, ea, hv, h4⟩ := h
  have ts := ty_odSolver W Ta
  have tA := ty_odAtlas W Ta
  have a3 : ∀ f, (∃ t, zr f = some t ∧ 20 ≤ t) → f / 100 = 3 → zA τ (zR τ f (zR τ odAtlas a)) = zA κ (zR κ f (zR κ odAtlas a)) := fun f h0 h2 => by
    obtain ⟨t, h1, ht⟩ := h0
    rw [eA]
    exact (Z.row W h1 ht (tA.trans h2.symm) (nF f _ 2 tA (Or.inl h2))).1
  have i3 : zI τ atNexts (zR τ odAtlas a) = zI κ atNexts (zR κ odAtlas a) := by rw [eA]; exact Z.i (nF atNexts _ 2 tA (by decide))
  have T : ∀ f, f = atFirsts ∨ f = atSorts ∨ f = atNumbers ∨ f = atWeights ∨ f = atChooses ∨ f = atTotals ∨ f = atPlan → zA τ (zR τ f (zR τ odAtlas a)) = zA κ (zR κ f (zR κ odAtlas a)) := fun f hf => by
    refine a3 f ?_ ?_
    · rcases hf with y | y | y | y | y | y | y <;> rw [y] <;> first | exact ⟨20, by decide +kernel, by decide⟩ | exact ⟨21, by decide +kernel, by decide⟩ | exact ⟨23, by decide +kernel, by decide⟩ | exact ⟨24, by decide +kernel, by decide⟩ | exact ⟨25, by decide +kernel, by decide⟩
    · rcases hf with y | y | y | y | y | y | y <;> rw [y] <;> decide
  refine ⟨⟨⟨t1, t2, A'⟩, ?_, ?_, ?_, t7⟩, ?_, ?_, h4⟩
  · rw [T atFirsts (Or.inl rfl)]
    exact t4
  · rw [i3, T atSorts (Or.inr (Or.inl rfl)), T atNumbers (Or.inr (Or.inr (Or.inl rfl))), T atWeights (Or.inr (Or.inr (Or.inr (Or.inl rfl))))]
    exact t5
  · rw [T atChooses (Or.inr (Or.inr (Or.inr (Or.inr (Or.inl rfl))))), T atTotals (Or.inr (Or.inr (Or.inr (Or.inr (Or.inr (Or.inl rfl)))))), T atPlan (Or.inr (Or.inr (Or.inr (Or.inr (Or.inr (Or.inr rfl))))))]
    exact t6
  · rw [eS, eA, Z.r (nF soAtlas _ 11 ts (by decide))]
    exact ea
  · intro k hk
    obtain ⟨⟨h1, h2, h3⟩, h5⟩ := hv k hk
    have tv := vt k hk
    have vu : vU9 τ (zR τ odSolver a) k = vU9 κ (zR κ odSolver a) k := by
      rw [eS]
      unfold vU9
      rw [(Z.row W (show zr soVisits = some 25 by decide +kernel) (by decide) (ts.trans rfl) (nF soVisits _ 11 ts (by decide))).2.2]
    have nu : ∀ y, zT κ y = 8 → nuN τ y = nuN κ y := fun y ty => (nuB_z (c := 0) W ty Z (nF nuLimbs _ 7 ty (by decide)) (nF nuLength _ 7 ty (by decide))).2.2.1
    rw [vu]
    refine ⟨⟨?_, ?_, ?_⟩, h5⟩
    · rw [Z.i (nF raSign _ 10 tv (by decide))]
      exact h1
    · rw [Z.r (nF raTop _ 10 tv (by decide)), nu _ (ty_raTop W tv)]
      exact h2
    · rw [Z.r (nF raBottom _ 10 tv (by decide)), nu _ (ty_raBottom W tv)]
      exact h3

end
section
set_option maxHeartbeats 1600000
/-! independent, given: both sides from before arrange to the answer -/
theorem ar_g24 {a g f b : Nat} (h : f / 100 = 3 ∨ f / 100 = 8 ∨ f / 100 = 11 ∨ f / 100 = 12) : ¬ arO9 a g f b := fun z => by
  rcases z with z | ⟨_, y | y | y | y⟩
  · have y := z.2
    omega
  · rw [y] at h
    exact absurd h (by decide)
  · rw [y] at h
    exact absurd h (by decide)
  · rw [y] at h
    exact absurd h (by decide)
  · rw [y] at h
    exact absurd h (by decide)
theorem vv_24 {σ : rS} {k : Nat} {q : Rat} (h : vR15 σ k q) (o : σ.2.2.1 95 k ≠ 0 ↔ cnE σ k) (z : ¬ cnE σ k → q = 0) (N : vOK σ k) : vsV σ k ≠ 0 ↔ q ≠ 0 := by
  constructor
  · intro v e
    unfold vsV at v
    by_cases c1 : σ.2.2.1 95 k = 0
    · rw [if_pos c1] at v
      exact v rfl
    · rw [if_neg c1] at v
      by_cases c2 : σ.2.2.1 102 (34 * k) ≤ 0
      · rw [if_pos c2] at v
        exact v rfl
      · obtain ⟨l0, l1, _, l3⟩ := N.1
        have hn := h.1
        rw [e] at hn
        have hn : dv (σ.2.2.1 102) (34 * k + 1) (σ.2.2.1 102 (34 * k)).toNatClampNeg = 0 := hn
        rcases l3 with y | ⟨t, y, y2⟩
        · have y : (σ.2.2.1 102 (34 * k)).toInt.toNat = 0 := y
          refine c2 ?_
          rw [lei, t0i]
          omega
        · rw [y, dv_s] at hn
          have p : 0 < 65536 ^ t := Nat.pow_pos (by decide)
          have m := Nat.mul_pos (Nat.pos_of_ne_zero y2) p
          omega
  · intro ne v
    have e := vt_16 h o z
    unfold vt16 at e
    rw [if_pos v] at e
    exact ne e.symm
/-- what holds of both sides before arrange -/
def HC24 (κ : zS) (a n : Nat) (σ : rS) (V : Nat → Rat) : Prop := (n = (σ.1 70).toNatClampNeg ∧ (σ.1 71).toNatClampNeg ≤ 1000) ∧ VS16 κ (zR κ odSolver a) (zR κ odAtlas a) n σ V ∧ (∀ k, k < n → vOK σ k) ∧ zI κ hoTotal (zR κ atEndings (zR κ odAtlas a)) = σ.1 71 ∧ (∀ e x : Int32, 0 ≤ e.toInt → e.toInt < (σ.1 71).toInt → gl24 σ x → pV9 κ (zR κ atEndings (zR κ odAtlas a)) e x = to24 σ e.toNatClampNeg x) ∧ (σ.1 70 ≤ 0 → σ.1 71 = 1)
theorem he_n24 {ρ : Nat → Nat} {κ : zS} {a n P k : Nat} {x : Int32} (X : odX9 ρ κ a n P) (hk : k < n) (h1 : (zA κ (zR κ atFirsts (zR κ odAtlas a)) k).toInt ≤ x.toInt) (h2 : x.toInt < (zA κ (zR κ atFirsts (zR κ odAtlas a)) (k + 1)).toInt) (c : cE9 κ a k x) : 0 ≤ (zA κ (zR κ atNumbers (zR κ odAtlas a)) x.toNatClampNeg).toInt ∧ (zA κ (zR κ atNumbers (zR κ odAtlas a)) x.toNatClampNeg).toInt < (zI κ hoTotal (zR κ atEndings (zR κ odAtlas a))).toInt := by
  obtain ⟨⟨f0, _, _⟩, nx, _⟩ := X.2.2.1.1.2.2.2.2.2 k hk
  have kx := cnk (x := x) (by omega)
  exact (nx x.toNatClampNeg (by omega) (by omega)).2.1 c.1
section
variable {C : zC} {n0 a n P : Nat} {ρ : Nat → Nat} {κ τ : zS} {σ : rS} {V : Nat → Rat} {i j t : Int32}
theorem hk_24 (H : HC24 κ a n σ V) : ∀ k, k < n → (vsV σ k ≠ 0 ↔ V k ≠ 0) := fun k hk => vv_24 (H.2.1.2.2.2.1 k hk) (H.2.1.2.2.2.2.1 k hk) (fun z => H.2.1.2.2.2.2.2.1 k hk z) (H.2.2.1 k hk)
theorem hb_24 (H : HC24 κ a n σ V) (X : odX9 ρ κ a n P) {e : Nat} (h : hm24 κ a n e) : e < (σ.1 71).toNatClampNeg := by
  obtain ⟨k, x, hk, h1, h2, c, ee⟩ := h
  have b := he_n24 X hk h1 h2 c
  rw [H.2.2.2.1] at b
  have k1 := cnk b.1
  have k2 := cnk (x := σ.1 71) (by omega)
  rw [← ee]
  omega
theorem vs_24 (W : zW C n0 κ) (Ta : zT κ a = 9) (X : odX9 ρ κ a n P) (hg : zR κ atStates (zR κ odAtlas a) ≠ zR κ odGroups a ∧ zR κ atEndings (zR κ odAtlas a) ≠ zR κ odGroups a) (Z : zF (arO9 a (zR κ odGroups a)) κ τ) (H : HC24 κ a n σ V) : VS16 τ (zR τ odSolver a) (zR τ odAtlas a) n σ V := by
  have O := od_t9 W Ta (ty_odGroups W Ta) arO9_t Z hg.1 hg.2 X
  exact vs_f24 W Ta Z (fun f b c _ h => ar_g24 h) (O.2.2.1 odSolver (by decide) (by decide)) (O.2.2.1 odAtlas (by decide) (by decide)) O.1.2.2.1.1 (fun k hk => W.2.2.2.2.1 _ _ _ (ty_soVisits W (ty_odSolver W Ta)) (X.2.2.2.1 k hk).1) H.2.1
theorem en_24 (W : zW C n0 κ) (Ta : zT κ a = 9) (X : odX9 ρ κ a n P) (hg : zR κ atStates (zR κ odAtlas a) ≠ zR κ odGroups a ∧ zR κ atEndings (zR κ odAtlas a) ≠ zR κ odGroups a) (Z : zF (arO9 a (zR κ odGroups a)) κ τ) : pV9 τ (zR τ atEndings (zR τ odAtlas a)) = pV9 κ (zR κ atEndings (zR κ odAtlas a)) ∧ zI τ hoTotal (zR τ atEndings (zR τ odAtlas a)) = zI κ hoTotal (zR κ atEndings (zR κ odAtlas a)) := by
  have O := od_t9 W Ta (ty_odGroups W Ta) arO9_t Z hg.1 hg.2 X
  have te := ty_atEndings W (ty_odAtlas W Ta)
  have hh := ho_o9 (M := 1000) (D := 35) (S := 2048) W (frT9_o arO9_t) Z te hg.2
  have eA : zR τ odAtlas a = zR κ odAtlas a := O.2.2.1 odAtlas (by decide) (by decide)
  rw [eA, O.2.2.2.2.2]
  exact hh.2
theorem gh_m24 (W : zW C n0 κ) (Ta : zT κ a = 9) (X : odX9 ρ κ a n P) (hg : zR κ atStates (zR κ odAtlas a) ≠ zR κ odGroups a ∧ zR κ atEndings (zR κ odAtlas a) ≠ zR κ odGroups a) (Z : zF (arO9 a (zR κ odGroups a)) κ τ) (H : HC24 κ a n σ V) (S : st24 κ τ a n i j t) (n70 : ¬ σ.1 70 ≤ 0) (gi : gl24 σ i) (gj : gl24 σ j) (gt : t = -1 ∨ gl24 σ t) : GH24 κ τ a n (σ.1 71).toNatClampNeg σ V i j t := by
  have HV := hk_24 H
  have HM : ∀ e, hm24 κ a n e ↔ hv24 σ e := fun e => hm_h24 H.2.1 (fun z => n70 (by rw [z]; decide)) HV
  refine ⟨vs_24 W Ta X hg Z H, S, ⟨n70, rfl, H.1.2⟩, HV, HM, fun e he => hb_24 H X ((HM e).mpr he), fun e he x hx => ?_, fun z => ?_, fun z => ?_⟩
  · rw [(en_24 W Ta X hg Z).1]
    have l := hb_24 H X he.2
    rw [nc_5, nc_5] at l
    have e0 := he.1.1
    refine H.2.2.2.2.1 e x e0 (by omega) ?_
    rcases hx with y | y | ⟨y, y2⟩
    · rw [y]; exact gi
    · rw [y]; exact gj
    · rw [y]; exact gt.resolve_left y2
  · rw [z] at gi
    exact absurd gi.1 (by decide)
  · rw [z] at gj
    exact absurd gj.1 (by decide)
theorem sm_m24 (W : zW C n0 κ) (Ta : zT κ a = 9) (X : odX9 ρ κ a n P) (hg : zR κ atStates (zR κ odAtlas a) ≠ zR κ odGroups a ∧ zR κ atEndings (zR κ odAtlas a) ≠ zR κ odGroups a) (Z : zF (arO9 a (zR κ odGroups a)) κ τ) (H : HC24 κ a n σ V) (S : st24 κ τ a n i j t) (A : ar24 κ τ a n i j t) : SM24 τ τ a n V := by
  have O := od_t9 W Ta (ty_odGroups W Ta) arO9_t Z hg.1 hg.2 X
  refine sm_r24 (vs_24 W Ta X hg Z H).2.2.1 A.2.2 (fun x hx => ?_)
  obtain ⟨k, hk, h1, h2, c⟩ := hx
  have b := he_n24 O.1 hk h1 h2 c
  have m := H.1.2
  rw [(en_24 W Ta X hg Z).2, H.2.2.2.1] at b
  rw [nc_5] at m
  have he : he24 κ a n (zA τ (zR τ atNumbers (zR τ odAtlas a)) x.toNatClampNeg) := ⟨⟨b.1, by omega⟩, (hm_e24 (O.2.2.2.1 atFirsts (by decide)).1 (O.2.2.2.1 atNumbers (by decide)).1 O.2.1).mp ⟨k, x, hk, h1, h2, c, rfl⟩⟩
  obtain ⟨T, L, R, r, ev⟩ := A.2.1 _ he
  unfold cx24
  rw [ev, ce_i24 S.2.1.1 S.2.1.2 A.1 r]
  exact ix_n24 S.2.1.1 S.2.1.2 r
theorem fin_24 (W : zW C n0 κ) (Ta : zT κ a = 9) (X : odX9 ρ κ a n P) (hg : zR κ atStates (zR κ odAtlas a) ≠ zR κ odGroups a ∧ zR κ atEndings (zR κ odAtlas a) ≠ zR κ odGroups a) (Z : zF (arO9 a (zR κ odGroups a)) κ τ) (H : HC24 κ a n σ V) (S : st24 κ τ a n i j t) (Hv : full24 κ τ a n i j t → ar24 κ τ a n i j t) (gi : gl24 σ i) (gj : gl24 σ j) (gt : t = -1 ∨ gl24 σ t) : (full24 κ τ a n i j t ∧ ∀ g : Int32, 0 ≤ g.toInt → g.toInt < (zI τ hoTotal (zR τ odGroups a)).toInt → pV9 τ (zR τ odGroups a) g 0 = 0 → tg24 τ a n V g) ↔ ∀ e0, e0 < (σ.1 71).toNatClampNeg → hv24 σ e0 → fq24 σ n (σ.1 71).toNatClampNeg i j t (to24 σ e0 t) := by
  by_cases n70 : σ.1 70 ≤ 0
  · have nz : n = 0 := by
      have y := n70
      rw [lei, t0i] at y
      rw [H.1.1, nc_5]
      omega
    have no : ∀ e, ¬ he24 κ a n e := fun e h => by
      obtain ⟨k, x, hk, _⟩ := h.2
      omega
    have T0 : ¬ 0 < (zI τ hoTotal (zR τ odGroups a)).toInt := fun z => by
      obtain ⟨e, T, L, R, h, _⟩ := S.2.2.1 0 z
      exact no e h
    have m1 : (σ.1 71).toNatClampNeg = 1 := by
      rw [H.2.2.2.2.2 n70]
      decide
    constructor
    · intro _ x _ _ e f he hf se sf
      have ee : e = 0 := by omega
      have ef : f = 0 := by omega
      subst ee ef
      exact ⟨⟨0, by omega, se, rfl, rfl⟩, fun z => absurd n70 z⟩
    · intro _
      exact ⟨fun g g0 g1 => absurd g1 (by omega), fun g g0 g1 => absurd g1 (by omega)⟩
  · exact gl_24 (gh_m24 W Ta X hg Z H S n70 gi gj gt) Hv
end
theorem fq_n24 {σ : rS} {n m : Nat} {i j : Int32} : (∀ e0, e0 < m → hv24 σ e0 → fq24 σ n m i j (-1) (to24 σ e0 (-1))) ↔ fq24 σ n m i j (-1) 0 := by
  have se : ∀ x y e, seh24 σ (-1) x e → seh24 σ (-1) y e := fun x y e h => ⟨h.1, Or.inl rfl⟩
  have sh : ∀ x y a b c d, sh24 σ a b c d (-1) x = sh24 σ a b c d (-1) y := fun x y a b c d => by
    funext k
    unfold sh24
    have e : cd24 σ (σ.2.2.1 78 k).toNatClampNeg (-1) x = cd24 σ (σ.2.2.1 78 k).toNatClampNeg (-1) y := propext ⟨fun _ => Or.inl rfl, fun _ => Or.inl rfl⟩
    rw [e]
  have pq : ∀ x y u w, pq24 σ n i j (-1) x u w → pq24 σ n i j (-1) y u w := fun x y u w h => by
    unfold pq24 at h ⊢
    rw [sh y x, sh y x, sh y x, sh y x]
    exact h
  have F : ∀ x y, fq24 σ n m i j (-1) x → fq24 σ n m i j (-1) y := fun x y h e f he hf s1 s2 => by
    obtain ⟨⟨g, g1, g2, g3⟩, g4⟩ := h e f he hf (se _ _ _ s1) (se _ _ _ s2)
    exact ⟨⟨g, g1, se _ _ _ g2, g3⟩, fun z => pq x y _ _ (g4 z)⟩
  exact ⟨fun H e f he hf s1 s2 => F _ 0 (H e he s1.1) e f he hf s1 s2, fun H e0 _ _ => F 0 _ H⟩

end
section
set_option maxHeartbeats 1600000
/-! the class: ChanceWorks' explore, decide -/
/-- atlas, where its plan, machine and web alone may be touched -/
theorem chB_w9 {C : zC} {n0 a : Nat} {F : Nat → Nat → Prop} {κ τ : zS} (W : zW C n0 κ) (T : zT κ a = 15) (Z : zF F κ τ) (hO : ∀ f, f / 100 = 15 → f ≠ chDrawnWeights → f ≠ chDrawnTotals → zR τ f a = zR κ f a) (n3 : ∀ f, f / 100 = 3 → f ≠ atPlan → ¬ F f (zR κ chAtlas a)) (ns : un9 F (zR κ atStates (zR κ chAtlas a)) 6) (ne : un9 F (zR κ atEndings (zR κ chAtlas a)) 6) (nc : un9 F (zR κ atCode (zR κ chAtlas a)) 5) (hm : maL τ (zR κ chMachine a)) (hw : (weU τ (zR κ atWeb (zR κ chAtlas a)) ∨ weM τ (zR κ atWeb (zR κ chAtlas a))) ∧ weL τ (zR κ atWeb (zR κ chAtlas a))) (hA : (atU τ (zR κ chAtlas a) ∨ atM τ (zR κ chAtlas a)) ∧ atL τ (zR κ chAtlas a)) (hN : zI κ atExplored (zR κ chAtlas a) ≠ 0 → ∃ n, atW τ (zR κ chAtlas a) n) (B : chB9 κ a) : chB9 τ a ∧ (zI τ atExplored (zR κ chAtlas a) = zI κ atExplored (zR κ chAtlas a)) ∧ (∀ f, f / 100 = 3 → f ≠ atPlan → zR τ f (zR κ chAtlas a) = zR κ f (zR κ chAtlas a)) ∧ zI τ hoTotal (zR κ atStates (zR κ chAtlas a)) = zI κ hoTotal (zR κ atStates (zR κ chAtlas a)) := by
  have tA := ty_chAtlas W T
  obtain ⟨⟨⟨b1, b2, b3, b4⟩, b5, _, b8, b9⟩, c1, c2⟩ := B
  have S := ho_u9 (M := 1000) (D := 142) (S := 2048) Z W (ty_atStates W tA) ns
  have E := ho_u9 (M := 1000) (D := 35) (S := 2048) Z W (ty_atEndings W tA) ne
  have K := co_u9 Z W (ty_atCode W tA) nc
  have ex : zI τ atExplored (zR κ chAtlas a) = zI κ atExplored (zR κ chAtlas a) := Z.i (n3 _ (by decide) (by decide))
  have r : ∀ f, f / 100 = 3 → f ≠ atPlan → zR τ f (zR κ chAtlas a) = zR κ f (zR κ chAtlas a) := fun f h1 h2 => Z.r (n3 f h1 h2)
  refine ⟨?_, ex, r, S.2.2⟩
  unfold chB9 atI
  rw [hO chAtlas (by decide) (by decide) (by decide), hO chMachine (by decide) (by decide) (by decide), hO chCode (by decide) (by decide) (by decide), r atMachine (by decide) (by decide), r atWeb (by decide) (by decide), r atStates (by decide) (by decide), r atEndings (by decide) (by decide), r atCode (by decide) (by decide), ex, S.2.2]
  refine ⟨⟨⟨hA.1, hA.2, ⟨?_, ?_⟩, b4⟩, by rw [c1]; exact hm, hw, b8, hN⟩, c1, fun z => ⟨⟨(c2 z).1.1, by rw [Z.i (n3 atNexts (by decide) (by decide))]; exact (c2 z).1.2⟩, fun y => ?_⟩⟩
  · rw [r atStates (by decide) (by decide)]; exact S.1 b3.1
  · rw [r atEndings (by decide) (by decide)]; exact E.1 b3.2
  · intro i hi
    rw [r atCode (by decide) (by decide), K.2.1, K.2.2] at hi
    rw [r atEndings (by decide) (by decide), E.2.1]
    exact (c2 z).2 y i hi
/-- a call that touches atlas, machine, web, their hoards and the Solver's marks -/
theorem chI_e9 {C : zC} {n0 a : Nat} {L : Int} {ρ : Nat → Nat} {F : Nat → Nat → Prop} {κ τ : zS} (W : zW C n0 κ) (T : zT κ a = 15) (Z : zF F κ τ) (hF : ∀ f x, F f x → zT κ x = 3 ∨ zT κ x = 7 ∨ zT κ x = 14 ∨ (zT κ x = 6 ∧ x ≠ zR κ odGroups (zR κ chOdds a)) ∨ (x = zR κ chSolver a ∧ (f = soSolved ∨ f = soPlanned))) (hB : chB9 τ a) (hr : zR τ atStates (zR κ chAtlas a) = zR κ atStates (zR κ chAtlas a) ∧ zR τ atEndings (zR κ chAtlas a) = zR κ atEndings (zR κ chAtlas a) ∧ zR τ atWeb (zR κ chAtlas a) = zR κ atWeb (zR κ chAtlas a)) (hS9 : chS9 ρ τ a) (I : chI9 ρ κ a L) : chI9 ρ τ a L ∧ (∃ F, zF F κ τ) ∧ pC7 κ τ a := by
  obtain ⟨⟨A1, ⟨⟨A2, A3⟩, A4⟩, A5, A6⟩, B, ⟨C1, C2, C3, C4⟩, _, ⟨D1, D2, D3, ⟨D4, D5⟩, D6, D7⟩, E0, L0, K0⟩ := I
  have tS := ty_chSolver W T
  have tO := ty_chOdds W T
  have no : ∀ x K, zT κ x = K → K ≠ 3 ∧ K ≠ 7 ∧ K ≠ 14 ∧ K ≠ 6 ∧ K ≠ 12 → ∀ f, ¬ F f x := fun x K h1 h2 f z => by
    rcases hF f x z with y | y | y | y | y
    · exact h2.1 (h1.symm.trans y)
    · exact h2.2.1 (h1.symm.trans y)
    · exact h2.2.2.1 (h1.symm.trans y)
    · exact h2.2.2.2.1 (h1.symm.trans y.1)
    · rw [y.1, tS] at h1
      exact h2.2.2.2.2 h1.symm
  have nS : ∀ f, f ≠ soSolved → f ≠ soPlanned → ¬ F f (zR κ chSolver a) := fun f h1 h2 z => by
    rcases hF f _ z with y | y | y | y | y
    · rw [tS] at y; exact absurd y (by decide)
    · rw [tS] at y; exact absurd y (by decide)
    · rw [tS] at y; exact absurd y (by decide)
    · have y1 := y.1
      rw [tS] at y1; exact absurd y1 (by decide)
    · exact y.2.elim h1 h2
  have tG := ty_odGroups W tO
  have nG : ∀ f, ¬ F f (zR κ odGroups (zR κ chOdds a)) := fun f z => by
    rcases hF f _ z with y | y | y | y | y
    · rw [tG] at y; exact absurd y (by decide)
    · rw [tG] at y; exact absurd y (by decide)
    · rw [tG] at y; exact absurd y (by decide)
    · exact y.2 rfl
    · have y1 := y.1
      rw [y1, tS] at tG; exact absurd tG (by decide)
  have E := chE_u9 W T Z (fun f _ => no a 15 T (by decide) f) E0
  have o := E.2.1
  have hS := rs_h9 W tS C1 Z (fun f w y => no w 8 y (by decide) f) (fun f w y => no w 11 y (by decide) f) (fun f w y => no w 4 y (by decide) f) nS
  have P := pa_u9 Z W (ty_chParser W T) (fun f _ => no _ 10 (ty_chParser W T) (by decide) f) A5
  have K1 := co_u9 Z W (ty_chCode W T) (fun f _ => no _ 5 (ty_chCode W T) (by decide) f)
  have K2 := co_u9 Z W (ty_chSpare W T) (fun f _ => no _ 5 (ty_chSpare W T) (by decide) f)
  have G := odd_u9 Z W tO (fun f _ => no _ 9 tO (by decide) f)
  have H := ho_u9 (M := 3000) (D := 3) (S := 8192) Z W tG (fun f _ => nG f)
  have A := ta_u9 Z W (ty_chTape W T) (fun f _ => no _ 13 (ty_chTape W T) (by decide) f) A1
  have rS : ∀ f, f ≠ soSolved → f ≠ soPlanned → zR τ f (zR κ chSolver a) = zR κ f (zR κ chSolver a) := fun f h1 h2 => Z.r (nS f h1 h2)
  refine ⟨⟨⟨?_, ?_, ?_⟩, hB, ?_, hS9, ?_, E.1, ?_, ?_⟩, ⟨_, Z⟩, pC_v7 W T Z (fun f _ => no a 15 T (by decide) f) (fun f _ => no _ 13 (ty_chTape W T) (by decide) f) (fun f _ => no _ 5 (ty_chCode W T) (by decide) f)⟩
  · rw [o chTape (by decide)]; exact A.1
  · rw [o chCode (by decide), o chSpare (by decide)]
    exact ⟨⟨K1.1 A2, K2.1 A3⟩, A4⟩
  · rw [o chParser (by decide), o chTape (by decide)]
    exact ⟨P.1, P.2.trans A6⟩
  · unfold chC9
    rw [o chSolver (by decide), o chAtlas (by decide), o chShown (by decide), rS soTaken (by decide) (by decide), rS soAtlas (by decide) (by decide), rS soWeb (by decide) (by decide), Z.l (ty_soTaken W tS), hr.2.2]
    exact ⟨hS.1, C2, C3, C4⟩
  · unfold chD9
    rw [o chSolver (by decide), o chAtlas (by decide), o chOdds (by decide), G.2.2.2.2, G.2.2.1, G.2.2.2.1, G.1 odAtlas (by decide), G.1 odSolver (by decide), G.1 odCalc (by decide), G.1 odHeld (by decide), G.1 odGroups (by decide), rS soCalc (by decide) (by decide), hr.1, hr.2.1]
    exact ⟨D1, D2, ⟨G.2.1 D3.1, D3.2⟩, ⟨H.1 D4, D5⟩, D6, D7⟩
  · rw [o chTape (by decide), A.2]; exact L0
  · exact cK_z9 W T Z (o chSolver (by decide)) (o chOdds (by decide)) (fun b hb => no b 0 (zT_o9 W hb) (by decide) 0) (fun f hf => nS f (by rcases hf with y | y | y <;> rw [y] <;> decide) (by rcases hf with y | y | y <;> rw [y] <;> decide)) (Nat.le_of_eq (nE_z9 W tO Z (no _ 9 tO (by decide) _)).symm) K0
/-- the Solver's marks, perhaps the plan, are stored -/
def mkF9 (κ : zS) (a : Nat) : Nat → Nat → Prop := fun f x => (x = zR κ chSolver a ∧ (f = soSolved ∨ f = soPlanned)) ∨ (x = zR κ chAtlas a ∧ f = atPlan)
theorem chI_m9 {C : zC} {n0 a : Nat} {L : Int} {ρ : Nat → Nat} {κ τ : zS} (W : zW C n0 κ) (T : zT κ a = 15) (Z : zF (mkF9 κ a) κ τ) (R : zR τ = zR κ) (h0 : zI τ soSolved (zR κ chSolver a) = 0) (h1 : zI τ soPlanned (zR κ chSolver a) = 0 ∨ zI τ soPlanned (zR κ chSolver a) = zI κ soPlanned (zR κ chSolver a)) (I : chI9 ρ κ a L) : chI9 ρ τ a L ∧ (∃ F, zF F κ τ) ∧ pB8 κ τ a := by
  have tA := ty_chAtlas W T
  have tS := ty_chSolver W T
  have tm := ty_chMachine W T
  have no : ∀ x K, zT κ x = K → K ≠ 3 ∧ K ≠ 12 → ∀ f, ¬ mkF9 κ a f x := fun x K h1 h2 f z => by
    rcases z with z | z
    · rw [z.1, tS] at h1; exact h2.2 h1.symm
    · rw [z.1, tA] at h1; exact h2.1 h1.symm
  have n3 : ∀ f, f / 100 = 3 → f ≠ atPlan → ¬ mkF9 κ a f (zR κ chAtlas a) := fun f hf h2 z => by
    rcases z with z | z
    · rw [z.1, tS] at tA; exact absurd tA (by decide)
    · exact h2 z.2
  have g := at_u9 Z W tA n3 (by rw [R])
  have M := atM_u9 g
  have B := I.2.1
  have iS := (ho_u9 (M := 1000) (D := 142) (S := 2048) Z W (ty_atStates W tA) (fun f _ => no _ 6 (ty_atStates W tA) (by decide) f)).2.2
  have iE := (ho_u9 (M := 1000) (D := 142) (S := 2048) Z W (ty_atEndings W tA) (fun f _ => no _ 6 (ty_atEndings W tA) (by decide) f)).2.2
  have Wn : ∀ n, atW τ (zR κ chAtlas a) n ↔ atW κ (zR κ chAtlas a) n := fun n => atW_u9 g (Z.i (n3 _ (by decide) (by decide))) iS iE
  have V := we_u9 Z W (ty_atWeb W tA) (fun f _ => no _ 14 (ty_atWeb W tA) (by decide) f)
  have ma : maL κ (zR κ chMachine a) := by
    have y := B.1.2.1
    rw [B.2.1] at y
    exact y
  have hB := chB_w9 W T Z (fun f _ _ _ => by rw [R]) n3 (fun f _ => no _ 6 (ty_atStates W tA) (by decide) f) (fun f _ => no _ 6 (ty_atEndings W tA) (by decide) f) (fun f _ => no _ 5 (ty_atCode W tA) (by decide) f) (ma_u9 Z W tm (fun f _ => no _ 7 tm (by decide) f) ma) ⟨B.1.2.2.1.1.elim (fun z => Or.inl (V.2.1 z)) (fun z => Or.inr (V.1 z)), V.2.2 B.1.2.2.1.2⟩ ⟨B.1.1.1.elim (fun z => Or.inl (M.2.1 z)) (fun z => Or.inr (M.1 z)), M.2.2 B.1.1.2.1⟩ (fun z => by
    obtain ⟨n, hn⟩ := B.1.2.2.2.2 z
    exact ⟨n, (Wn n).mpr hn⟩) B
  refine pB_w8 (kB_z8 W T Z (no a 15 T (by decide) _) n3 (fun f _ => no _ 6 (ty_atStates W tA) (by decide) f) (fun f _ => no _ 6 (ty_atEndings W tA) (by decide) f)) (chI_e9 W T Z (fun f x z => ?_) hB.1 ⟨by rw [R], by rw [R], by rw [R]⟩ ?_ I)
  · rcases z with z | z
    · exact Or.inr (Or.inr (Or.inr (Or.inr z)))
    · left; rw [z.1]; exact tA
  · unfold chS9
    rw [R, hB.2.1]
    refine ⟨fun z => absurd h0 z, fun z => ?_⟩
    have z' : zI κ soPlanned (zR κ chSolver a) ≠ 0 := by
      rcases h1 with y | y
      · exact absurd y z
      · rw [y] at z; exact z
    obtain ⟨x1, x3⟩ := I.2.2.2.1.2 z'
    have nw : ¬ mkF9 κ a soWorths (zR κ chSolver a) := fun y => by
      rcases y with y | y
      · exact y.2.elim (fun q => absurd q (by decide)) (fun q => absurd q (by decide))
      · exact absurd y.2 (by decide)
    have q := (Z.row W (show zr soWorths = some 25 by decide +kernel) (by decide) (tS.trans (by decide)) nw).2.2
    rw [R] at q
    rw [q, Z.l (ty_soWorths W tS)]
    exact ⟨x1, fun n hn => x3 n ((Wn n).mp hn)⟩
theorem Ch_explore_c {C : zC} {n0 : Nat} {a0 : Nat} {a1 : Int32} {κ : zS} {Q : Int32 → zS → Prop} {X : zXp} (W : zW C n0 κ) (Ta0 : zT κ a0 = 15) (ρ : Nat → Nat) (L9 : Int) (hp : chI9 ρ κ a0 L9) (h : ∀ (v : Int32) (κ' : zS), (chI9 ρ κ' a0 L9 ∧ (∃ F, zF F κ κ') ∧ pC7 κ κ' a0) → Q v κ') (hx : ∀ (cls : String) (κ' : zS), ((cls = "java/lang/IllegalArgumentException" ∨ cls = "java/lang/IllegalStateException") ∧ κ' = ut κ) → X cls κ') : zRun C 8 mCh_explore [.ref a0, .int a1] κ (oI Q X) := by
  refine Ch_explore_run W Ta0 ?_
  replace W := W.lo (Nat.le_trans W.1.2.1 W.1.2.2) (Nat.le_refl (zn κ))
  unfold w_Ch_explore_0
  refine ⟨fun c1 => ?_, fun c1 => ?_⟩
  · skip
    refine ⟨fun c2 => ?_, fun c2 => ?_⟩
    · skip
      intro κ_3 hκ_3
      refine hx _ _ ?_
      · exact ⟨Or.inl rfl, hκ_3⟩  -- x1
    · skip
      refine ⟨fun c4 => ?_, fun c4 => ?_⟩
      · skip
        intro κ_5 hκ_5
        intro W6
        intro κ_7 hκ_7
        intro W8
        intro T9
        intro T10
        refine At_discover_c2 W8 T9 T10  ?_ (fun r11 κ_12 q13 => ?_)
        · have R5 : zR κ_5 = zR κ := by rw [hκ_5]; rfl
          have Z5 : zF (mkF9 κ a0) κ κ_5 := by rw [hκ_5]; exact zF_ui (Or.inl ⟨rfl, Or.inl rfl⟩)
          rw [R5] at hκ_7
          have Z7 : zF (mkF9 κ a0) κ κ_7 := Z5.tr (by rw [hκ_7]; exact zF_ui (Or.inl ⟨rfl, Or.inr rfl⟩))
          have R7 : zR κ_7 = zR κ := by rw [hκ_7]; exact R5
          have s5 : zI κ_5 soSolved (zR κ chSolver a0) = 0 := by rw [hκ_5]; exact if_pos ⟨rfl, rfl⟩
          have s7 : zI κ_7 soSolved (zR κ chSolver a0) = 0 := by
            rw [hκ_7]
            exact s5
          have p7 : zI κ_7 soPlanned (zR κ chSolver a0) = 0 := by rw [hκ_7]; exact if_pos ⟨rfl, rfl⟩
          have I7 := chI_m9 W Ta0 Z7 R7 s7 (Or.inl p7) hp
          have T7 := Z7.t Ta0 (by decide)
          rw [lti] at c2
          rw [lei] at c4
          have e1 : (1 : Int32).toInt = 1 := rfl
          have e1000 : (1000 : Int32).toInt = 1000 := rfl
          exact ⟨I7.1.2.1.1, I7.1.1.2.1.1.1, by omega, by omega⟩
        intro W14
        intro M15
        refine h _ _ ?_
        · have R5 : zR κ_5 = zR κ := by rw [hκ_5]; rfl
          have Z5 : zF (mkF9 κ a0) κ κ_5 := by rw [hκ_5]; exact zF_ui (Or.inl ⟨rfl, Or.inl rfl⟩)
          rw [R5] at hκ_7
          have Z7 : zF (mkF9 κ a0) κ κ_7 := Z5.tr (by rw [hκ_7]; exact zF_ui (Or.inl ⟨rfl, Or.inr rfl⟩))
          have R7 : zR κ_7 = zR κ := by rw [hκ_7]; exact R5
          have s5 : zI κ_5 soSolved (zR κ chSolver a0) = 0 := by rw [hκ_5]; exact if_pos ⟨rfl, rfl⟩
          have s7 : zI κ_7 soSolved (zR κ chSolver a0) = 0 := by
            rw [hκ_7]
            exact s5
          have p7 : zI κ_7 soPlanned (zR κ chSolver a0) = 0 := by rw [hκ_7]; exact if_pos ⟨rfl, rfl⟩
          have I7 := chI_m9 W Ta0 Z7 R7 s7 (Or.inl p7) hp
          have T7 := Z7.t Ta0 (by decide)
          have tA7 := ty_chAtlas W8 T7
          have tS7 := ty_chSolver W8 T7
          have Ds := I7.1.2.2.2.2.1.2.2.2.2.2
          have na : ∀ f, ¬ dsF κ_7 (zR κ_7 chAtlas a0) f a0 := fun f z => by
            have y1 := ty_atMachine W8 tA7
            have y2 := ty_atStates W8 tA7
            have y3 := ty_atEndings W8 tA7
            have y4 := ty_atWeb W8 tA7
            rcases z with (z | z | z | z) | z
            · have z1 := z.1
              rw [← z1, T7] at tA7; exact absurd tA7 (by decide)
            · rw [← z, T7] at y1; exact absurd y1 (by decide)
            · rw [← z, T7] at y2; exact absurd y2 (by decide)
            · rw [← z, T7] at y3; exact absurd y3 (by decide)
            · rw [← z, T7] at y4; exact absurd y4 (by decide)
          have nr : ∀ f, f < 304 → zR κ_12 f (zR κ_7 chAtlas a0) = zR κ_7 f (zR κ_7 chAtlas a0) := fun f hf => q13.1.r (fun z => by
            have y1 := ty_atMachine W8 tA7
            have y2 := ty_atStates W8 tA7
            have y3 := ty_atEndings W8 tA7
            have y4 := ty_atWeb W8 tA7
            rcases z with (z | z | z | z) | z
            · omega
            · rw [← z, tA7] at y1; exact absurd y1 (by decide)
            · rw [← z, tA7] at y2; exact absurd y2 (by decide)
            · rw [← z, tA7] at y3; exact absurd y3 (by decide)
            · rw [← z, tA7] at y4; exact absurd y4 (by decide))
          have ns : ∀ f, ¬ dsF κ_7 (zR κ_7 chAtlas a0) f (zR κ_7 chSolver a0) := fun f z => by
            have y1 := ty_atMachine W8 tA7
            have y2 := ty_atStates W8 tA7
            have y3 := ty_atEndings W8 tA7
            have y4 := ty_atWeb W8 tA7
            rcases z with (z | z | z | z) | z
            · have z1 := z.1
              rw [← z1, tS7] at tA7; exact absurd tA7 (by decide)
            · rw [← z, tS7] at y1; exact absurd y1 (by decide)
            · rw [← z, tS7] at y2; exact absurd y2 (by decide)
            · rw [← z, tS7] at y3; exact absurd y3 (by decide)
            · rw [← z, tS7] at y4; exact absurd y4 (by decide)
          have R := chI_e9 (ρ := ρ) (L := L9) W8 T7 q13.1 (fun f x z => by
            rcases z with (z | z | z | z) | z
            · left; rw [z.1]; exact tA7
            · right; left; rw [z]; exact ty_atMachine W8 tA7
            · right; right; right; left; rw [z]; exact ⟨ty_atStates W8 tA7, Ds.1⟩
            · right; right; right; left; rw [z]; exact ⟨ty_atEndings W8 tA7, Ds.2⟩
            · right; right; left; rw [z]; exact ty_atWeb W8 tA7) (by
            unfold chB9
            rw [q13.1.r (na chAtlas), q13.1.r (na chMachine), q13.1.r (na chCode), nr atMachine (by decide)]
            exact ⟨q13.2.1, I7.1.2.1.2.1, fun z => ⟨⟨q13.2.2.1, (q13.2.2.2 z).1⟩, (q13.2.2.2 z).2⟩⟩) ⟨nr _ (by decide), nr _ (by decide), nr _ (by decide)⟩ (by
            unfold chS9
            rw [q13.1.r (na chSolver), q13.1.i (ns soSolved), q13.1.i (ns soPlanned), R7, s7, p7]
            exact ⟨fun z => absurd rfl z, fun z => absurd rfl z⟩) I7.1
          obtain ⟨F5, G5⟩ := R.2.1
          exact ⟨R.1, ⟨fun _ _ => True, (Z7.mono (fun _ _ _ => trivial)).tr (G5.mono (fun _ _ _ => trivial))⟩, pC_t7 I7.2.2.1 R.2.2⟩
      · skip
        intro κ_16 hκ_16
        refine hx _ _ ?_
        · exact ⟨Or.inl rfl, hκ_16⟩  -- x4
  · skip
    intro κ_17 hκ_17
    refine hx _ _ ?_
    · exact ⟨Or.inr rfl, hκ_17⟩  -- x5

theorem Ch_decide_c {C : zC} {n0 : Nat} {a0 : Nat} {a1 : Int32} {a2 : Int32} {κ : zS} {Q : Int32 → zS → Prop} {X : zXp} (W : zW C n0 κ) (Ta0 : zT κ a0 = 15) (ρ : Nat → Nat) (L9 : Int) (hp : chI9 ρ κ a0 L9) (h : ∀ (v : Int32) (κ' : zS), (chI9 ρ κ' a0 L9 ∧ (∃ F, zF F κ κ') ∧ pB8 κ κ' a0) → Q v κ') (hx : ∀ (cls : String) (κ' : zS), (cls = "java/lang/IndexOutOfBoundsException" ∧ κ' = ut κ) → X cls κ') : zRun C 8 mCh_decide [.ref a0, .int a1, .int a2] κ (oI Q X) := by
  refine Ch_decide_run W Ta0 ?_
  replace W := W.lo (Nat.le_trans W.1.2.1 W.1.2.2) (Nat.le_refl (zn κ))
  unfold w_Ch_decide_0
  intro T1
  refine At_holds_c W T1  (fun r2 q4 => ?_)
  intro W5
  intro M6
  refine ⟨fun c7 => ?_, fun c7 => ?_⟩
  · skip
    intro κ_8 hκ_8
    refine hx _ _ ?_
    · exact ⟨rfl, hκ_8⟩  -- x1
  · skip
    refine ⟨?_, ?_⟩
    · have H := ch_h9 hp q4 c7
      rw [inb_iff, H.2.1.2.2.2.2.1]
      have y := H.2.2.1
      omega
    refine ⟨fun c9 => ?_, fun c9 => ?_⟩
    · skip
      intro κ_10 hκ_10
      refine hx _ _ ?_
      · exact ⟨rfl, hκ_10⟩  -- x3
    · skip
      refine ⟨fun c11 => ?_, fun c11 => ?_⟩
      · skip
        intro κ_12 hκ_12
        refine hx _ _ ?_
        · exact ⟨rfl, hκ_12⟩  -- x4
      · skip
        intro T13
        refine At_waysOf_c W5 T13  ?_ (fun r14 q16 => ?_)
        · have H := ch_h9 hp q4 c7
          exact ⟨H.2.1.1, H.2.2.1⟩
        intro W17
        intro M18
        refine ⟨fun c19 => ?_, fun c19 => ?_⟩
        · skip
          refine ⟨?_, ?_⟩
          · have H := ch_h9 hp q4 c7
            rw [inb_iff, H.2.1.2.2.2.1]
            have y := H.2.2.1
            omega
          intro x20 hx20
          refine ⟨?_, ?_⟩
          · have H := ch_h9 hp q4 c7
            rw [inb_iff, H.2.1.2.2.2.1]
            have y := H.2.2.1
            omega
          intro κ_21 hκ_21
          intro W22
          intro κ_23 hκ_23
          intro W24
          refine h _ _ ?_
          · have o := W.o (show zr atPlan = some 20 by decide +kernel) (by decide) ((ty_chAtlas W Ta0).trans (by decide))
            have R1 : zR κ_21 = zR κ := by rw [hκ_21]; rfl
            have Z1 : zF (mkF9 κ a0) κ κ_21 := by rw [hκ_21]; exact zF_ua (by rw [o]; exact Or.inr ⟨rfl, rfl⟩)
            rw [R1] at hκ_23
            have Z3 : zF (mkF9 κ a0) κ κ_23 := Z1.tr (by rw [hκ_23]; exact zF_ui (Or.inl ⟨rfl, Or.inl rfl⟩))
            have R3 : zR κ_23 = zR κ := by rw [hκ_23]; exact R1
            refine chI_m9 W Ta0 Z3 R3 (by rw [hκ_23]; exact if_pos ⟨rfl, rfl⟩) (Or.inr ?_) hp
            rw [hκ_23, hκ_21]
            rfl
        · skip
          intro κ_25 hκ_25
          refine hx _ _ ?_
          · exact ⟨rfl, hκ_25⟩  -- x9

end
section
set_option maxHeartbeats 1600000
/-! the class: explore by what it answers -/
theorem Ch_explore_c7 {C : zC} {n0 : Nat} {a0 : Nat} {a1 : Int32} {κ : zS} {Q : Int32 → zS → Prop} {X : zXp} (W : zW C n0 κ) (Ta0 : zT κ a0 = 15) (ρ : Nat → Nat) (L9 : Int) (σ9 : rS) (hr8 : RC8 κ a0 σ9) (hp : chI9 ρ κ a0 L9) (h : ∀ (v : Int32) (κ' : zS), (chI9 ρ κ' a0 L9 ∧ (∃ F, zF F κ κ') ∧ pX16 κ κ' a0 ∧ (zI κ chReady a0 ≠ 0 ∧ 1 ≤ a1 ∧ a1 ≤ 1000) ∧ ∃ σc r, gxE a1 σ9 = (σc, r) ∧ ((r = 0 ∧ v = -1 ∧ zI κ' atExplored (zR κ' chAtlas a0) = 0) ∨ (r = 1 ∧ v = σc.1 70 ∧ zI κ' atExplored (zR κ' chAtlas a0) ≠ 0 ∧ ∃ nv s w, CR7 nv s w (cu7 κ (zR κ chCode a0)) σ9 ∧ AT8 w s (av8 κ' (zR κ' chAtlas a0)) σc ∧ hC8 ((av8 κ' (zR κ' chAtlas a0)).2 11) σc ∧ rC8 ((av8 κ' (zR κ' chAtlas a0)).1 3) ((av8 κ' (zR κ' chAtlas a0)).1 4) σc ∧ pz8 κ' (zR κ' chAtlas a0) ∧ (∃ n, SH6 κ' (zR κ' atStates (zR κ' chAtlas a0)) w s n σc ∧ σc.1 70 = Int32.ofNat n ∧ HT6 n σc)))) → Q v κ') (hx : ∀ (cls : String) (κ' : zS), (((cls = "java/lang/IllegalArgumentException" ∧ zI κ chReady a0 ≠ 0 ∧ ¬ (1 ≤ a1 ∧ a1 ≤ 1000)) ∨ (cls = "java/lang/IllegalStateException" ∧ zI κ chReady a0 = 0)) ∧ κ' = ut κ) → X cls κ') : zRun C 8 mCh_explore [.ref a0, .int a1] κ (oI Q X) := by
  refine Ch_explore_run W Ta0 ?_
  replace W := W.lo (Nat.le_trans W.1.2.1 W.1.2.2) (Nat.le_refl (zn κ))
  unfold w_Ch_explore_0
  refine ⟨fun c1 => ?_, fun c1 => ?_⟩
  · skip
    refine ⟨fun c2 => ?_, fun c2 => ?_⟩
    · skip
      intro κ_3 hκ_3
      refine hx _ _ ?_
      · exact ⟨Or.inl ⟨rfl, c1, fun z => absurd z.1 (fun y => by rw [lei] at y; rw [lti] at c2; omega)⟩, hκ_3⟩  -- x1
    · skip
      refine ⟨fun c4 => ?_, fun c4 => ?_⟩
      · skip
        intro κ_5 hκ_5
        intro W6
        intro κ_7 hκ_7
        intro W8
        intro T9
        intro T10
        have R5 : zR κ_5 = zR κ := by rw [hκ_5]; rfl
        have Z5 : zF (mkF9 κ a0) κ κ_5 := by rw [hκ_5]; exact zF_ui (Or.inl ⟨rfl, Or.inl rfl⟩)
        have hk7 := hκ_7
        rw [R5] at hk7
        have Z7 : zF (mkF9 κ a0) κ κ_7 := Z5.tr (by rw [hk7]; exact zF_ui (Or.inl ⟨rfl, Or.inr rfl⟩))
        have R7 : zR κ_7 = zR κ := by rw [hk7]; exact R5
        have s5 : zI κ_5 soSolved (zR κ chSolver a0) = 0 := by rw [hκ_5]; exact if_pos ⟨rfl, rfl⟩
        have s7 : zI κ_7 soSolved (zR κ chSolver a0) = 0 := by
          rw [hk7]
          exact s5
        have p7 : zI κ_7 soPlanned (zR κ chSolver a0) = 0 := by rw [hk7]; exact if_pos ⟨rfl, rfl⟩
        have I7 := chI_m9 W Ta0 Z7 R7 s7 (Or.inl p7) hp
        obtain ⟨u9, s9, w9, cr9⟩ := hr8.1.2.2 (fun z => absurd (hr8.1.2.1.mp z) c1)
        have hR9 : CR6 u9 s9 w9 (am6 (ur κ_7 maCode (zR κ_7 atMachine (zR κ_7 chAtlas a0)) (zR κ_7 chCode a0)) (zR κ_7 atMachine (zR κ_7 chAtlas a0))) σ9 := by
          have ma := I7.1.2.1.1.2.1
          have ro : ∀ f b, f ≠ maCode → zR (ur κ_7 maCode (zR κ_7 atMachine (zR κ_7 chAtlas a0)) (zR κ_7 chCode a0)) f b = zR κ_7 f b := fun f b q => if_neg (fun y => q y.1)
          have ee := I7.2.2.1.2.2.1
          refine CR_76 cr9 (fun g hg => ?_) (fun g hg => ?_) ⟨?_, ?_, ?_⟩
          · rw [← ee]; exact cu_a7.1 g hg
          · rw [← ee]; exact cu_a7.2 g hg
          · rw [(am_rw6 (f := 705) (by decide)).2, ro _ _ (by decide)]; exact ma.2.1
          · rw [(am_rw6 (f := 707) (by decide)).2, ro _ _ (by decide)]; exact ma.2.2.1
          · rw [(am_rw6 (f := 701) (by decide)).2, ro _ _ (by decide)]; exact ma.1
        have b1 : 1 ≤ a1.toInt := by
          have c2' := c2
          rw [lti, show (1 : Int32).toInt = 1 from rfl] at c2'
          omega
        have b2 : a1.toInt ≤ 1000 := by
          have c4' := c4
          rw [lei, show (1000 : Int32).toInt = 1000 from rfl] at c4'
          omega
        have hl9 : a1 = Int32.ofNat a1.toInt.toNat := Int32.toInt_inj.mp (by rw [ofn_i (by omega)]; omega)
        refine At_discover_q6 W8 T9 T10 u9 s9 w9 a1.toInt.toNat σ9 hR9 hl9 (by omega) ?_ (fun r11 κ_12 q13z => ?_)
        · exact ⟨I7.1.2.1.1, I7.1.1.2.1.1.1, b1, b2⟩
        obtain ⟨q13, qz⟩ := q13z
        intro W14
        intro M15
        refine h _ _ ?_
        · have T7 := Z7.t Ta0 (by decide)
          have tA7 := ty_chAtlas W8 T7
          have tS7 := ty_chSolver W8 T7
          have Ds := I7.1.2.2.2.2.1.2.2.2.2.2
          have na : ∀ f, ¬ dsF κ_7 (zR κ_7 chAtlas a0) f a0 := fun f z => by
            have y1 := ty_atMachine W8 tA7
            have y2 := ty_atStates W8 tA7
            have y3 := ty_atEndings W8 tA7
            have y4 := ty_atWeb W8 tA7
            rcases z with (z | z | z | z) | z
            · have z1 := z.1
              rw [← z1, T7] at tA7; exact absurd tA7 (by decide)
            · rw [← z, T7] at y1; exact absurd y1 (by decide)
            · rw [← z, T7] at y2; exact absurd y2 (by decide)
            · rw [← z, T7] at y3; exact absurd y3 (by decide)
            · rw [← z, T7] at y4; exact absurd y4 (by decide)
          have nr : ∀ f, f < 304 → zR κ_12 f (zR κ_7 chAtlas a0) = zR κ_7 f (zR κ_7 chAtlas a0) := fun f hf => q13.1.r (fun z => by
            have y1 := ty_atMachine W8 tA7
            have y2 := ty_atStates W8 tA7
            have y3 := ty_atEndings W8 tA7
            have y4 := ty_atWeb W8 tA7
            rcases z with (z | z | z | z) | z
            · omega
            · rw [← z, tA7] at y1; exact absurd y1 (by decide)
            · rw [← z, tA7] at y2; exact absurd y2 (by decide)
            · rw [← z, tA7] at y3; exact absurd y3 (by decide)
            · rw [← z, tA7] at y4; exact absurd y4 (by decide))
          have ns : ∀ f, ¬ dsF κ_7 (zR κ_7 chAtlas a0) f (zR κ_7 chSolver a0) := fun f z => by
            have y1 := ty_atMachine W8 tA7
            have y2 := ty_atStates W8 tA7
            have y3 := ty_atEndings W8 tA7
            have y4 := ty_atWeb W8 tA7
            rcases z with (z | z | z | z) | z
            · have z1 := z.1
              rw [← z1, tS7] at tA7; exact absurd tA7 (by decide)
            · rw [← z, tS7] at y1; exact absurd y1 (by decide)
            · rw [← z, tS7] at y2; exact absurd y2 (by decide)
            · rw [← z, tS7] at y3; exact absurd y3 (by decide)
            · rw [← z, tS7] at y4; exact absurd y4 (by decide)
          have R := chI_e9 (ρ := ρ) (L := L9) W8 T7 q13.1 (fun f x z => by
            rcases z with (z | z | z | z) | z
            · left; rw [z.1]; exact tA7
            · right; left; rw [z]; exact ty_atMachine W8 tA7
            · right; right; right; left; rw [z]; exact ⟨ty_atStates W8 tA7, Ds.1⟩
            · right; right; right; left; rw [z]; exact ⟨ty_atEndings W8 tA7, Ds.2⟩
            · right; right; left; rw [z]; exact ty_atWeb W8 tA7) (by
            unfold chB9
            rw [q13.1.r (na chAtlas), q13.1.r (na chMachine), q13.1.r (na chCode), nr atMachine (by decide)]
            exact ⟨q13.2.1, I7.1.2.1.2.1, fun z => ⟨⟨q13.2.2.1, (q13.2.2.2 z).1⟩, (q13.2.2.2 z).2⟩⟩) ⟨nr _ (by decide), nr _ (by decide), nr _ (by decide)⟩ (by
            unfold chS9
            rw [q13.1.r (na chSolver), q13.1.i (ns soSolved), q13.1.i (ns soPlanned), R7, s7, p7]
            exact ⟨fun z => absurd rfl z, fun z => absurd rfl z⟩) I7.1
          obtain ⟨F5, G5⟩ := R.2.1
          have nm : ∀ f, ¬ mkF9 κ a0 f a0 := fun f z => by
            have y1 := ty_chSolver W Ta0
            have y2 := ty_chAtlas W Ta0
            rcases z with z | z
            · rw [← z.1, Ta0] at y1; exact absurd y1 (by decide)
            · rw [← z.1, Ta0] at y2; exact absurd y2 (by decide)
          have so9 : zI κ_12 soSolved (zR κ_12 chSolver a0) = 0 := by rw [q13.1.r (na chSolver), q13.1.i (ns soSolved), R7]; exact s7
          have pl9 : zI κ_12 soPlanned (zR κ_12 chSolver a0) = 0 := by rw [q13.1.r (na chSolver), q13.1.i (ns soPlanned), R7]; exact p7
          have s7k : kS16 κ κ_7 a0 := kS_z16 W Z7 (fun f w e z => by
            rcases z with z | z
            · rw [z.1, ty_chSolver W Ta0] at e; exact absurd e (by decide)
            · rw [z.1, ty_chAtlas W Ta0] at e; exact absurd e (by decide)) (fun f w e z => by
            rcases z with z | z
            · rw [z.1, ty_chSolver W Ta0] at e; exact absurd e (by decide)
            · rw [z.1, ty_chAtlas W Ta0] at e; exact absurd e (by decide)) (nm chShown)
          have s12k : kS16 κ_7 κ_12 a0 := kS_z16 W8 q13.1 (fun f w e z => by
            rcases z with (z | z | z | z) | z
            · rw [z.1, tA7] at e; exact absurd e (by decide)
            · rw [z, ty_atMachine W8 tA7] at e; exact absurd e (by decide)
            · rw [z, ty_atStates W8 tA7] at e; exact absurd e (by decide)
            · rw [z, ty_atEndings W8 tA7] at e; exact absurd e (by decide)
            · rw [z, ty_atWeb W8 tA7] at e; exact absurd e (by decide)) (fun f w e z => by
            rcases z with (z | z | z | z) | z
            · rw [z.1, tA7] at e; exact absurd e (by decide)
            · rw [z, ty_atMachine W8 tA7] at e; exact absurd e (by decide)
            · rw [z, ty_atStates W8 tA7] at e; exact absurd e (by decide)
            · rw [z, ty_atEndings W8 tA7] at e; exact absurd e (by decide)
            · rw [z, ty_atWeb W8 tA7] at e; exact absurd e (by decide)) (na chShown)
          have d7k : kD16 κ κ_7 a0 := dr_o16 W Ta0 Z7 (nm chDrawnWeights) (nm chDrawnTotals)
          have d12k : kD16 κ_7 κ_12 a0 := dr_o16 W8 T7 q13.1 (na chDrawnWeights) (na chDrawnTotals)
          exact ⟨R.1, ⟨fun _ _ => True, (Z7.mono (fun _ _ _ => trivial)).tr (G5.mono (fun _ _ _ => trivial))⟩, ⟨pC_t7 I7.2.2.1 R.2.2, ⟨so9, pl9⟩, kS_t16 s7k s12k, kD_t16 d7k d12k⟩, ⟨c1, by rw [lei]; exact b1, c4⟩, by
            obtain ⟨σc, r, g1, g2⟩ := qz
            have w34 : w9 ≤ 34 := by
              obtain ⟨_, _, _, _, _, _, _, _, _, _, _, ⟨_, y, _⟩, _⟩ := id cr9
              exact y
            refine ⟨σc, r, g1, ?_⟩
            rw [q13.1.r (na chAtlas)]
            exact g2.elim Or.inl (fun y => Or.inr ⟨y.1, y.2.1, y.2.2.1, u9, s9, w9, cr9, AT_d8 y.2.2.2.1 w34, y.2.2.2.2.1, y.2.2.2.2.2.1, y.2.2.2.2.2.2, SX_21 y.2.2.2.1⟩)⟩
      · skip
        intro κ_16 hκ_16
        refine hx _ _ ?_
        · exact ⟨Or.inl ⟨rfl, c1, fun z => c4 z.2⟩, hκ_16⟩  -- x4
  · skip
    intro κ_17 hκ_17
    refine hx _ _ ?_
    · exact ⟨Or.inr ⟨rfl, by first | exact c1 | (exact Classical.not_not.mp c1)⟩, hκ_17⟩  -- x5
/-- explore, of both sides: what holds behind it -/
def XC8 (κ : zS) (a : Nat) (σ : rS) (p : Int32) (κ' : zS) : Prop := (pC8 κ κ' a ∧ ¬ (zI κ chReady a ≠ 0 ∧ 1 ≤ p ∧ p ≤ 1000)) ∨ (pX16 κ κ' a ∧ (zI κ chReady a ≠ 0 ∧ 1 ≤ p ∧ p ≤ 1000) ∧ ∃ σc r, gxE p σ = (σc, r) ∧ ((r = 0 ∧ zI κ' atExplored (zR κ' chAtlas a) = 0) ∨ (r = 1 ∧ zI κ' atExplored (zR κ' chAtlas a) ≠ 0 ∧ ∃ nv s w, CR7 nv s w (cu7 κ (zR κ chCode a)) σ ∧ AT8 w s (av8 κ' (zR κ' chAtlas a)) σc ∧ hC8 ((av8 κ' (zR κ' chAtlas a)).2 11) σc ∧ rC8 ((av8 κ' (zR κ' chAtlas a)).1 3) ((av8 κ' (zR κ' chAtlas a)).1 4) σc ∧ pz8 κ' (zR κ' chAtlas a) ∧ (∃ n, SH6 κ' (zR κ' atStates (zR κ' chAtlas a)) w s n σc ∧ σc.1 70 = Int32.ofNat n ∧ HT6 n σc))))
theorem rx_8 {κ κ' : zS} {a : Nat} {σ σ' : rS} {p v : Int32} (ht : RC8 κ a σ) (k : pR7 σ σ') (X : XS22 p σ σ' v) (h : XC8 κ a σ p κ') : RC8 κ' a σ' := by
  have i14 := ht.1.2.1
  obtain ⟨⟨⟨X, xw⟩, xu, x94⟩, kd, kq, ke⟩ := X
  rcases h with ⟨c, n⟩ | ⟨c, y, σc, r, g1, g2⟩
  · have cd : cd9x σ p ≠ 0 := by
      unfold cd9x
      by_cases z : σ.1 14 = 0
      · rw [if_pos z]; decide
      · rw [if_neg z, if_neg (fun q => n ⟨fun e => z (i14.mpr e), q⟩)]; decide
    rcases X.1.2 with ⟨_, _, f1, f2⟩ | ⟨z, _⟩
    · exact re_8 ⟨k, fun g hg => f1 g ((by decide : ∀ g, g ∈ ke8 → g ≠ 0) g hg), fun g _ => by rw [f2], by rw [f2], kN_f16 (fun g hg => f1 g ((by decide : ∀ g, g ∈ kf16 → g ≠ 0) g hg)) (fun g _ => by rw [f2]) (nM_r16 (by rw [f2]) (by rw [f2]))⟩ ht c
    · exact absurd z cd
  · have cd : cd9x σ p = 0 := by
      unfold cd9x
      rw [if_neg (fun z => y.1 (i14.mp z)), if_pos y.2]
    obtain ⟨⟨x1, x2⟩, xz⟩ := X
    rw [cd] at x2
    obtain ⟨c, ⟨so9, pl9⟩, cks, ckd⟩ := c
    have z94 := x94 (x1.trans cd)
    have RT : RT21 κ' a σ' ∧ RP23 κ' a σ' ∧ RK16 κ' a σ' := ⟨RT_k21 ht.2.2.2.2.1 c.2.2.2.1 kd, RP_k23 ht.2.2.2.2.2.1 c.2.2.1 c.2.2.2.2 (kP_q23 kq), RS_016 so9 z94.1, RW_016 pl9 z94.2, RH_k16 ht.2.2.2.2.2.2.2.2.1 cks ke.1 (nM_515 ke.2), RD_k16 ht.2.2.2.2.2.2.2.2.2 ckd (kq.1 106 (by decide)) (kq.1 109 (by decide)) (nM_716 ke.2)⟩
    refine ⟨re_7 k ht.1 c, ?_⟩
    rcases x2 with x2 | ⟨_, σd, s, d1, d2⟩
    · exact absurd rfl x2.1
    have e := g1.symm.trans d1
    have e1 : σc = σd := congrArg Prod.fst e
    have e2 : r = s := congrArg Prod.snd e
    rcases g2 with ⟨r0, x0⟩ | ⟨r1, x1', nv, s9, w, cr, at8, hc8, rc8, pz, n9, sx1, sx2, sx3⟩
    · rcases d2 with ⟨_, _, z69, zno⟩ | ⟨s0, _⟩
      · exact ⟨⟨fun _ => x0, fun _ => z69⟩, fun z => absurd z69 z, fun _ => zno, RT⟩
      · exact absurd (e2.symm.trans r0) s0
    · rcases d2 with ⟨s0, _⟩ | ⟨_, _, z69, ag, hl, rg⟩
      · exact absurd (r1.symm.trans (e2.trans s0)) (by decide)
      · have TX : TX21 κ' a σ' := by
          rw [e1] at sx1 sx2 sx3
          refine ⟨nv, s9, w, by rw [c.2.2.1]; exact CR_k7 cr k.2, ⟨n9, SH_w21 HS_r6 sx1 (s150_21 cr) (fun i hi => by rw [ag.2 30 (Or.inl (by decide))]) (ag.2 73 (Or.inr (by decide))), by rw [ag.1 70 (by decide)]; exact sx2, fun j hj => ?_⟩, by rw [c.2.2.1]; exact TW_x21 (xw (x1.trans cd) z69) cr⟩
          rw [ag.2 74 (Or.inr (by decide)), ag.2 73 (Or.inr (by decide))]
          exact sx3 j hj
        refine ⟨⟨fun z => absurd z z69, fun z => absurd z x1'⟩, fun _ => ⟨⟨nv, s9, w, ?_, ?_⟩, by rw [e1] at hc8 rc8; exact ⟨HQ_x8 hc8 hl (ag.1 70 (by decide)), RQ_x8 rc8 rg, (xz (x1.trans cd) z69).1, fun j hj => (pz j (Nat.lt_of_lt_of_le hj (n7_q8 (xz (x1.trans cd) z69).1.1))).trans ((xz (x1.trans cd) z69).2 j hj).symm, TX, xu (x1.trans cd) z69⟩⟩, fun z => absurd z z69, RT⟩
        · rw [c.2.2.1]
          exact CR_k7 cr k.2
        · rw [e1] at at8
          exact AT_k8 at8 (fun g q => ag.1 g (by omega)) (fun g q => ag.2 g (Or.inr ((by decide : ∀ g, g ∈ kt8 → 73 ≤ g ∧ g ≤ 82) g q)))

end
