set_option maxHeartbeats 1600000
/-! the class: Solver's sumInflow -/
def suR9 : Nat → Prop := fun r => unR9 r ∨ adR9 r
theorem suR9_l : ∀ r, 100 ≤ r → ¬ suR9 r := fun r h z => by
  rcases z with (z | z | z) | (z | z | z | z | z | z) <;> omega
/-- how much one link may bring -/
def sM9 : Nat := 2 ^ 287
theorem sm_b9 {i : Nat} (h : i ≤ 20000) : 1 + i * sM9 ≤ pB9 11 := by
  have l : i * sM9 ≤ 20000 * sM9 := Nat.mul_le_mul_right _ h
  have m : 1 + 20000 * sM9 ≤ pB9 11 := by unfold sM9 pB9; decide
  exact Nat.le_trans (Nat.add_le_add_left l 1) m
theorem pB9_l {m n : Nat} (h : m ≤ n) : pB9 m ≤ pB9 n := Nat.pow_le_pow_right (by decide) h
theorem pB9_s {m n : Nat} (h : m < n) : pB9 m < pB9 n := Nat.pow_lt_pow_right (by decide) h
theorem pB9_p {m : Nat} : 0 < pB9 m := Nat.pow_pos (by decide)
theorem tm_b9 {T w q h : Nat} (h1 : T < 2 ^ 256) (h2 : w < 2147483648) (h3 : q ≤ h) : T * w * q ≤ h * sM9 := by
  have e : sM9 = 2 ^ 256 * 2147483648 := by unfold sM9; decide
  rw [e, Nat.mul_comm h]
  exact Nat.mul_le_mul (Nat.mul_le_mul (Nat.le_of_lt h1) (Nat.le_of_lt h2)) h3
theorem sm_s9 {h i s t : Nat} (hs : s ≤ h * (1 + i * sM9)) (ht : t ≤ h * sM9) : s + t ≤ h * (1 + (i + 1) * sM9) := by
  have e : h * (1 + (i + 1) * sM9) = h * (1 + i * sM9) + h * sM9 := by rw [Nat.add_mul, Nat.one_mul, ← Nat.add_assoc, Nat.mul_add]
  rw [e]
  exact Nat.add_le_add hs ht
/-- the next behind a link -/
theorem eg_9 {κ : zS} {a n t : Nat} {s e : Int32} (X : svX9 κ a n) (G : gdE (lkD κ (zR κ soAtlas a) 1) (zA κ (zR κ atFirsts (zR κ soAtlas a))) n t s e) : (0 ≤ e.toInt ∧ e.toInt < (zN κ (zR κ atWeights (zR κ soAtlas a)))) ∧ 0 ≤ (zA κ (zR κ atWeights (zR κ soAtlas a)) e.toNatClampNeg).toInt := by
  obtain ⟨_, _, A, _⟩ := X
  obtain ⟨⟨g1, g2⟩, ⟨g3, g4⟩, _⟩ := G
  obtain ⟨_, AL, _, _, A5, A6⟩ := A
  have ks := cnk g1
  have E := A6 s.toNatClampNeg (by omega)
  obtain ⟨⟨e1, e2, e3⟩, e4, _⟩ := E
  have e0 : 0 ≤ e.toInt := by omega
  have ke := cnk e0
  have l := AL.1.2
  exact ⟨⟨e0, by rw [l]; omega⟩, (e4 e.toNatClampNeg (by omega) (by omega)).2.2⟩
theorem So_sumInflow_c {C : zC} {n0 : Nat} {a0 : Nat} {a1 : Int32} {κ : zS} {Q : zS → Prop} (W : zW C n0 κ) (Ta0 : zT κ a0 = 12) (ρ : Nat → Nat) (m9 P9 : Nat) (hp : (nmI ρ κ ∧ soI ρ κ a0) ∧ svX9 κ a0 m9 ∧ vsI9 ρ κ a0 m9 P9 ∧ (0 ≤ a1.toInt ∧ a1.toInt < m9) ∧ nuN κ (zR κ soWhole a0) < pB9 1900 ∧ nuN κ (zR κ soLess a0) < pB9 4000) (h : ∀ (κ' : zS), (zF (soF ρ suR9 (zR κ soCalc a0)) κ κ' ∧ (nmI ρ κ' ∧ soI ρ κ' a0) ∧ nuN κ' (zR κ soSum a0) ≤ (nuN κ (zR κ soWhole a0) + 1) * pB9 11 ∧ nuN κ' (zR κ soLess a0) ≤ nuN κ (zR κ soLess a0)) → Q κ') : zRun C 5 mSo_sumInflow [.ref a0, .int a1] κ (oV Q noX) := by
  refine So_sumInflow_run W Ta0 ?_
  replace W := W.lo (Nat.le_trans W.1.2.1 W.1.2.2) (Nat.le_refl (zn κ))
  unfold w_So_sumInflow_0
  obtain ⟨⟨N0, S0⟩, X0, V0, p1, p2, p3⟩ := hp
  have kn := cnk p1.1
  have r0 := bk_r9 X0 (t := a1.toNatClampNeg) (by omega)
  have g1 := nm_g N0 S0.1.1 (Or.inl ⟨by decide, by decide⟩) (by decide)
  have g7 := nm_g N0 S0.1.2.2.2.2.1 (Or.inl ⟨by decide, by decide⟩) (by decide)
  have ne17 := ro_n S0.1.1 S0.1.2.2.2.2.1 (by decide)
  have z64 : (0 : Int64).toInt = 0 := rfl
  have hj23 : ∀ (l0 : Nat) (l1 : Int32) (τ : zS), zW C (zn κ) τ → zT τ l0 = 12 → (a0 = l0 ∧ a1 = l1 ∧ zF (soF ρ suR9 (zR κ soCalc a0)) κ τ ∧ (nmI ρ τ ∧ soI ρ τ a0) ∧ nuN τ (zR κ soSum a0) ≤ nuN κ (zR κ soWhole a0) ∧ nuN τ (zR κ soLess a0) ≤ nuN κ (zR κ soLess a0)) → w_So_sumInflow_23 C (zn κ) Q  l0 l1 τ := by
    rintro _ _ τ23 W23 T23_0 ⟨rfl, rfl, j23⟩
    unfold w_So_sumInflow_23
    obtain ⟨Zj, ⟨Nj, Sj⟩, Dj, Ej⟩ := j23
    have Xj := svX9_f W Ta0 soF_fr Zj X0
    have ebj : zA τ23 (zR τ23 weBackFirsts (zR τ23 soWeb a0)) = zA κ (zR κ weBackFirsts (zR κ soWeb a0)) := by rw [Xj.2.1]; exact (we_f9 W soF_fr Zj (ty_soWeb W Ta0) (f := weBackFirsts) (by decide)).2.1
    have rj := bk_r9 Xj.1 (t := a1.toNatClampNeg) (by omega)
    refine ⟨?_, ?_⟩
    · rw [inb_iff]; omega  -- b1
    intro x1 hx1
    unfold w_So_sumInflow_33
    refine ⟨fun n l0 l1 l2 τ => n = ((zA κ (zR κ weBackFirsts (zR κ soWeb a0)) (a1.toNatClampNeg + 1)).toInt - l2.toInt).toNat ∧ (a0 = l0 ∧ a1 = l1 ∧ (zF (soF ρ suR9 (zR κ soCalc a0)) κ τ ∧ nmI ρ τ ∧ soI ρ τ a0) ∧ nuN τ (zR κ soSum a0) ≤ (nuN κ (zR κ soWhole a0) + 1) * (1 + (l2.toInt - (zA κ (zR κ weBackFirsts (zR κ soWeb a0)) a1.toNatClampNeg).toInt).toNat * sM9) ∧ nuN τ (zR κ soLess a0) ≤ nuN κ (zR κ soLess a0) ∧ (zA κ (zR κ weBackFirsts (zR κ soWeb a0)) a1.toNatClampNeg).toInt ≤ l2.toInt ∧ l2.toInt ≤ (zA κ (zR κ weBackFirsts (zR κ soWeb a0)) (a1.toNatClampNeg + 1)).toInt), ⟨_, rfl, ?_⟩, ?_⟩
    · refine ⟨rfl, rfl, ⟨Zj, Nj, Sj⟩, ?_, Ej, by rw [hx1, ebj]; exact Int.le_refl _, by rw [hx1, ebj]; omega⟩
      exact Nat.le_trans (Nat.le_trans Dj (Nat.le_succ _)) (Nat.le_mul_of_pos_right _ (by omega))
    rintro n33 _ _ x33_2 κ33 W33 T33_0 ⟨hn33, rfl, rfl, i33⟩
    obtain ⟨⟨Z1, N1, S1⟩, D1, E1, l1, l2u⟩ := i33
    have X1 := svX9_f W Ta0 soF_fr Z1 X0
    have V1 := vsI9_f W Ta0 N0 Z1 r0.1.2.2 suR9_l V0
    have eb : zA κ33 (zR κ33 weBackFirsts (zR κ33 soWeb a0)) = zA κ (zR κ weBackFirsts (zR κ soWeb a0)) := by rw [X1.2.1]; exact (we_f9 W soF_fr Z1 (ty_soWeb W Ta0) (f := weBackFirsts) (by decide)).2.1
    have r1 := bk_r9 X1.1 (t := a1.toNatClampNeg) (by omega)
    have i1 := cn1 p1.1 (by omega)
    have ec1 : zR κ33 soCalc a0 = (zR κ soCalc a0) := (soF_r9 Z1 (by decide)).1
    have ew1 : zR κ33 soWhole a0 = (zR κ soWhole a0) := (soF_r9 Z1 (by decide)).1
    have es1 : zR κ33 soSum a0 = (zR κ soSum a0) := (soF_r9 Z1 (by decide)).1
    have el1 : zR κ33 soLess a0 = (zR κ soLess a0) := (soF_r9 Z1 (by decide)).1
    have bw1 := soF_B (c := 0) W (ty_soWhole W Ta0) Z1 (by rw [S0.1.1]; unfold suR9 unR9 adR9; decide)
    refine ⟨?_, ?_⟩
    · rw [inb_iff, i1.2]; omega  -- b3
    refine ⟨fun c2 => ?_, fun c2 => ?_⟩
    · skip
      refine h _ ?_
      · refine ⟨Z1, ⟨N1, S1⟩, ?_, E1⟩
        refine Nat.le_trans D1 (Nat.mul_le_mul_left _ (sm_b9 ?_))
        omega
    · skip
      intro T3
      rw [i1.1, eb, lei] at c2
      have ix := cn1 (x := x33_2) (by omega) (by omega)
      have g2 := bk_g9 X1.1 (t := a1.toNatClampNeg) (b := x33_2) (by omega) (by rw [eb]; exact l1) (by rw [eb]; omega)
      refine So_comesIn_c W33 T3 ρ m9 P9 ?_ (fun r4 q6 => ?_)
      · exact ⟨X1.1, V1, p1, by rw [eb]; exact l1, by rw [eb]; omega⟩  -- p5
      intro W7
      intro M8
      refine ⟨fun c9 => ?_, fun c9 => ?_⟩
      · skip
        intro x10 hx10
        refine ⟨_, ?_, rfl, ?_⟩
        · rw [hn33, hx10, ix.2]; omega  -- d6
        · refine ⟨rfl, rfl, ⟨Z1, N1, S1⟩, ?_, E1, by rw [hx10, ix.2]; omega, by rw [hx10, ix.2]; omega⟩
          exact Nat.le_trans D1 (Nat.mul_le_mul_left _ (Nat.add_le_add_left (Nat.mul_le_mul_right _ (by rw [hx10, ix.2]; omega)) _))
      · skip
        refine ⟨?_, ?_⟩
        · rw [inb_iff]; exact ⟨g2.1.1, g2.1.2.1⟩  -- b8
        intro T11
        have ks := cnk g2.2.1.1
        have gs := g2.2.1
        have xv := X1.1.2.2.2
        obtain ⟨v1, v2, v3⟩ := V1 _ (show (zA κ33 (zR κ33 weSources (zR κ33 soWeb a0)) x33_2.toNatClampNeg).toNatClampNeg < m9 by omega)
        obtain ⟨v5, v6, v7⟩ := v3 (q6.2 c9).1
        refine So_unit_c2 W7 T11 ρ (vU9 κ33 a0 (zA κ33 (zR κ33 weSources (zR κ33 soWeb a0)) x33_2.toNatClampNeg).toNatClampNeg) ?_ (fun κ_12 q13 => ?_)
        · exact ⟨⟨N1, S1⟩, X1.1.2.2.1.1, ⟨g2.2.1.1, by omega, by omega⟩, ⟨v1, v2⟩, v5, v6⟩  -- p9
        obtain ⟨⟨Zu, Nu, Su⟩, _, tu, bd⟩ := q13
        have X2 := svX9_f W33 T33_0 soF_fr Zu X1.1
        have eb2 : zA κ_12 (zR κ_12 weBackFirsts (zR κ_12 soWeb a0)) = zA κ (zR κ weBackFirsts (zR κ soWeb a0)) := by rw [X2.2.1, (we_f9 W33 soF_fr Zu (ty_soWeb W33 T33_0) (f := weBackFirsts) (by decide)).2.1]; exact eb
        have g3 := bk_g9 X2.1 (t := a1.toNatClampNeg) (b := x33_2) (by omega) (by rw [eb2]; exact l1) (by rw [eb2]; omega)
        have g4 := eg_9 X2.1 g3.2
        have ec2 : zR κ_12 soCalc a0 = (zR κ soCalc a0) := (soF_r9 Zu (by decide)).1.trans ec1
        have ew2 : zR κ_12 soWhole a0 = (zR κ soWhole a0) := (soF_r9 Zu (by decide)).1.trans ew1
        have es2 : zR κ_12 soSum a0 = (zR κ soSum a0) := (soF_r9 Zu (by decide)).1.trans es1
        have el2 : zR κ_12 soLess a0 = (zR κ soLess a0) := (soF_r9 Zu (by decide)).1.trans el1
        have et2 : zR κ_12 raTop (zR κ_12 soPart a0) = zR κ33 raTop (zR κ33 soPart a0) := by rw [(soF_r9 Zu (f := soPart) (by decide)).1, (soF_r9 Zu (f := raTop) (by decide)).1]
        have eo2 : zR κ_12 raBottom (zR κ_12 soPart a0) = zR κ33 raBottom (zR κ33 soPart a0) := by rw [(soF_r9 Zu (f := soPart) (by decide)).1, (soF_r9 Zu (f := raBottom) (by decide)).1]
        have bw2 := soF_B (c := 0) W33 (w := (zR κ soWhole a0)) (by rw [← ew1]; exact ty_soWhole W33 T33_0) Zu (by rw [S0.1.1]; unfold unR9; decide)
        have bs2 := soF_B (c := 0) W33 (w := (zR κ soSum a0)) (by rw [← es1]; exact ty_soSum W33 T33_0) Zu (by rw [S0.1.2.2.2.2.1]; unfold unR9; decide)
        have bl2 := soF_B (c := 0) W33 (w := (zR κ soLess a0)) (by rw [← el1]; exact ty_soLess W33 T33_0) Zu (by rw [S0.1.2.2.2.2.2.1]; unfold unR9; decide)
        have tl : nuN κ_12 (zR κ33 raTop (zR κ33 soPart a0)) < 2 ^ 256 := Nat.lt_of_le_of_lt tu v5
        have h256 : 2 ^ 256 ≤ pB9 100 := by unfold pB9; decide
        have lS : nuN κ33 (zR κ soSum a0) < pB9 4000 := by
          have q1 := Nat.le_trans D1 (Nat.mul_le_mul_left _ (sm_b9 (i := (x33_2.toInt - (zA κ (zR κ weBackFirsts (zR κ soWeb a0)) a1.toNatClampNeg).toInt).toNat) (by omega)))
          have q2 : (nuN κ (zR κ soWhole a0) + 1) * pB9 11 ≤ pB9 1900 * pB9 11 := Nat.mul_le_mul_right _ p2
          rw [← pB9_a] at q2
          exact Nat.lt_of_le_of_lt (Nat.le_trans q1 q2) (pB9_s (by decide))
        have lW : nuN κ (zR κ soWhole a0) < pB9 2000 := Nat.lt_of_lt_of_le p2 (pB9_l (by decide))
        intro W14
        intro M15
        refine ⟨?_, ?_⟩
        · rw [inb_iff]; exact ⟨g3.1.1, g3.1.2.2.1⟩  -- b10
        refine ⟨?_, ?_⟩
        · rw [inb_iff]; exact g4.1  -- b11
        intro T16
        have ei := Int32.toInt_toInt64 (zA κ_12 (zR κ_12 atWeights (zR κ_12 soAtlas a0)) (zA κ_12 (zR κ_12 weEdges (zR κ_12 soWeb a0)) x33_2.toNatClampNeg).toNatClampNeg)
        have eh := ihi (zA κ_12 (zR κ_12 atWeights (zR κ_12 soAtlas a0)) (zA κ_12 (zR κ_12 weEdges (zR κ_12 soWeb a0)) x33_2.toNatClampNeg).toNatClampNeg)
        have e0 := g4.2
        refine So_addTerm_c2 W14 T16 ρ ?_ (fun κ_17 q18 => ?_)
        · rw [ew2, et2, es2, el2, bw2.2.1, bs2.2.1, bl2.2.1, bw1.2.1, ei]
          exact ⟨⟨Nu, Su⟩, ⟨by omega, by omega⟩, ⟨lW, Nat.lt_of_lt_of_le tl h256⟩, lS, Nat.lt_of_le_of_lt E1 p3⟩
        intro W19
        intro M20
        intro x21 hx21
        rw [ew2, et2, es2, el2, ec2, bw2.2.1, bs2.2.1, bl2.2.1, bw1.2.1, ei] at q18
        obtain ⟨Za, Na, A1, A2⟩ := q18
        rw [ec1] at Zu
        have Zf : zF (soF ρ suR9 (zR κ soCalc a0)) κ κ_17 := (Z1.tr (soF_m (fun r z => Or.inl z) Zu)).tr (soF_m (fun r z => Or.inr z) Za)
        have nx : (x21.toInt - (zA κ (zR κ weBackFirsts (zR κ soWeb a0)) a1.toNatClampNeg).toInt).toNat = (x33_2.toInt - (zA κ (zR κ weBackFirsts (zR κ soWeb a0)) a1.toNatClampNeg).toInt).toNat + 1 := by rw [hx21, ix.2]; omega
        refine ⟨_, ?_, rfl, ?_⟩
        · rw [hn33, hx21, ix.2]; omega  -- d13
        · by_cases z : 0 < (zA κ_12 (zR κ_12 atWeights (zR κ_12 soAtlas a0)) (zA κ_12 (zR κ_12 weEdges (zR κ_12 soWeb a0)) x33_2.toNatClampNeg).toNatClampNeg).toInt
          · obtain ⟨B1, B2⟩ := A1 z
            refine ⟨rfl, rfl, ⟨Zf, Na⟩, ?_, by rw [B2]; exact E1, by rw [hx21, ix.2]; omega, by rw [hx21, ix.2]; omega⟩
            rw [nx]
            exact Nat.le_trans B1 (sm_s9 D1 (tm_b9 tl (by omega) (Nat.le_refl _)))
          · obtain ⟨B1, B2⟩ := A2 z
            refine ⟨rfl, rfl, ⟨Zf, Na⟩, ?_, ?_, by rw [hx21, ix.2]; omega, by rw [hx21, ix.2]; omega⟩
            · rw [nx, B2]
              exact Nat.le_trans D1 (Nat.mul_le_mul_left _ (Nat.add_le_add_left (Nat.mul_le_mul_right _ (Nat.le_succ _)) _))
            · have w0 : (zA κ_12 (zR κ_12 atWeights (zR κ_12 soAtlas a0)) (zA κ_12 (zR κ_12 weEdges (zR κ_12 soWeb a0)) x33_2.toNatClampNeg).toNatClampNeg).toInt.natAbs = 0 := by omega
              rw [w0, Nat.mul_zero, Nat.zero_mul, Nat.add_zero] at B1
              exact Nat.le_trans B1 E1
  intro T22
  refine Nu_put_c W T22 6500 ?_ (fun κ_23 q24 => ?_)
  · exact ⟨by decide, g7.2.2⟩  -- p15
  obtain ⟨Fp, ⟨Rp, Np⟩, Ip, Vp⟩ := q24
  have Zp : zF (soF ρ suR9 (zR κ soCalc a0)) κ κ_23 := soF_1 (by rw [S0.1.2.2.2.2.1]; exact Or.inr (Or.inr (Or.inr (Or.inr (Or.inl rfl))))) Fp
  have Nq : nmI ρ κ_23 := nm_1 W N0 Fp (by rw [S0.1.2.2.2.2.1]; exact Ip)
  have Sq : soI ρ κ_23 a0 := so_1 W Ta0 S0 Fp
  have bl := nuB_z (c := 0) W (ty_soLess W Ta0) Fp (fun z => ro_n S0.1.2.2.2.2.2.1 S0.1.2.2.2.2.1 (by decide) z.1) (fun z => ro_n S0.1.2.2.2.2.2.1 S0.1.2.2.2.2.1 (by decide) z.1)
  have bw := nuB_z (c := 6500) W (ty_soWhole W Ta0) Fp (fun z => ne17 z.1) (fun z => ne17 z.1)
  intro W25
  intro M26
  refine ⟨fun c27 => ?_, fun c27 => ?_⟩
  · skip
    refine hj23 _ _ _ W25 ?_ ?_
    · exact Fp.t Ta0 (by decide)  -- t16
    · exact ⟨rfl, rfl, Zp, ⟨Nq, Sq⟩, by rw [Vp]; exact Nat.zero_le _, Nat.le_of_eq bl.2.2.1⟩  -- k17
  · skip
    intro T28
    intro T29
    refine Nu_copy_c W25 T28 T29 6500 6500 ?_ (fun κ_30 q31 => ?_)
    · rw [Rp]
      have k1 := nuK_lt g1.1 p2
      have ip := Ip.1.2.1
      rw [Rp] at ip
      exact ⟨ip, bw.1 g1.1.1, fun z => ne17 z.symm, by rw [bw.2.2.2]; omega, by decide⟩
    intro W32
    intro M33
    rw [Rp, bw.2.2.1] at q31
    obtain ⟨Fc, Bc, Vc, Kc, Zc⟩ := q31
    have bl3 := nuB_z (c := 0) W25 (Fp.t (ty_soLess W Ta0) (by decide)) Fc (fun z => ro_n S0.1.2.2.2.2.2.1 S0.1.2.2.2.2.1 (by decide) z.1) (fun z => ro_n S0.1.2.2.2.2.2.1 S0.1.2.2.2.2.1 (by decide) z.1)
    refine hj23 _ _ _ W32 ?_ ?_
    · exact Fc.t (Fp.t Ta0 (by decide)) (by decide)  -- t19
    · refine ⟨rfl, rfl, Zp.tr (soF_1 (by rw [S0.1.2.2.2.2.1]; exact Or.inr (Or.inr (Or.inr (Or.inr (Or.inl rfl))))) Fc), ⟨nm_1 W25 Nq Fc (by rw [S0.1.2.2.2.2.1]; exact ⟨Bc, Zc (bw.2.1 g1.1).2⟩), so_1 W25 (Fp.t Ta0 (by decide)) Sq Fc⟩, by rw [Vc]; exact Nat.le_refl _, by rw [bl3.2.2.1, bl.2.2.1]; exact Nat.le_refl _⟩  -- k20
