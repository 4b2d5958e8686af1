set_option maxHeartbeats 1600000
/-! the class: Odds' weigh, showWeight -/
def sU9 : Nat := 2 ^ 310
/-- how large a sum over i states can be -/
def uB9 (h i : Nat) : Nat := (h + 1) * (2147483648 + i * sU9)
theorem uB_0 {h x : Nat} (hx : x ≤ 2147483648) : x ≤ uB9 h 0 := by
  unfold uB9
  rw [Nat.zero_mul, Nat.add_zero]
  exact Nat.le_trans hx (Nat.le_mul_of_pos_left _ (Nat.succ_pos h))
theorem uB_m {h i x : Nat} (hx : x ≤ uB9 h i) : x ≤ uB9 h (i + 1) := Nat.le_trans hx (Nat.mul_le_mul_left _ (Nat.add_le_add_left (Nat.mul_le_mul_right _ (Nat.le_succ _)) _))
theorem uB_s {h i x t : Nat} (hx : x ≤ uB9 h i) (ht : t ≤ (h + 1) * sU9) : x + t ≤ uB9 h (i + 1) := by
  have e : uB9 h (i + 1) = uB9 h i + (h + 1) * sU9 := by
    unfold uB9
    rw [Nat.add_mul i 1, Nat.one_mul, ← Nat.add_assoc, Nat.mul_add]
  rw [e]
  exact Nat.add_le_add hx ht
theorem uB_l {h i x : Nat} (hh : h < pB9 1490) (hi : i ≤ 20000) (hx : x ≤ uB9 h i) : x < pB9 1502 := by
  have a : 2147483648 + i * sU9 ≤ pB9 11 := Nat.le_trans (Nat.add_le_add_left (Nat.mul_le_mul_right _ hi) _) (by unfold sU9 pB9; decide)
  have q : uB9 h i ≤ pB9 1490 * pB9 11 := Nat.mul_le_mul hh a
  rw [← pB9_a] at q
  exact Nat.lt_of_le_of_lt (Nat.le_trans hx q) (pB9_s (by decide))
theorem tm_u9 {T w h : Nat} (h1 : T < 2 ^ 256) (h2 : w ≤ 17179869184000000) : T * w * (h + 1) ≤ (h + 1) * sU9 := by
  have e : 2 ^ 256 * 17179869184000000 ≤ sU9 := by unfold sU9; decide
  rw [Nat.mul_comm (h + 1)]
  exact Nat.mul_le_mul (Nat.le_trans (Nat.mul_le_mul (Nat.le_of_lt h1) h2) e) (Nat.le_refl _)
def wgR9 : Nat → Prop := fun r => (4 ≤ r ∧ r ≤ 8) ∨ r = 10 ∨ (20 ≤ r ∧ r ≤ 22)
theorem wgR9_l : ∀ r, 100 ≤ r → ¬ wgR9 r := fun r h z => by
  unfold wgR9 at z
  omega
theorem wgR9_n : ¬ wgR9 1 ∧ ¬ wgR9 15 ∧ ¬ wgR9 30 := by
  unfold wgR9
  omega
/-- a state's unit may be found -/
theorem od_u9 {ρ : Nat → Nat} {κ : zS} {a n P : Nat} {k : Int32} (N : nmI ρ κ) (I : soI ρ κ (zR κ odSolver a)) (X : odX9 ρ κ a n P) (k0 : 0 ≤ k.toInt) (k1 : k.toInt < n) (sg : zI κ raSign (vU9 κ (zR κ odSolver a) k.toNatClampNeg) ≠ 0) : (nmI ρ κ ∧ soI ρ κ (zR κ odSolver a)) ∧ atM κ (zR κ soAtlas (zR κ odSolver a)) ∧ (0 ≤ k.toInt ∧ k.toInt < 1000 ∧ k.toInt < (zN κ (zR κ soVisits (zR κ odSolver a)))) ∧ (zQ κ (zR κ soVisits (zR κ odSolver a)) k.toNatClampNeg = some (vU9 κ (zR κ odSolver a) k.toNatClampNeg) ∧ ρ (vU9 κ (zR κ odSolver a) k.toNatClampNeg) = 100 + 8 * k.toNatClampNeg) ∧ (nuN κ (zR κ raTop (vU9 κ (zR κ odSolver a) k.toNatClampNeg)) < 2 ^ 256 ∧ nuN κ (zR κ raBottom (vU9 κ (zR κ odSolver a) k.toNatClampNeg)) < 2 ^ 256) := by
  obtain ⟨⟨x1, x2⟩, x3, ⟨x4, x5⟩, x6, _, _⟩ := X
  have kk := cnk k0
  have hn := x4.2.2.1
  obtain ⟨v1, v2, v3⟩ := x6 k.toNatClampNeg (by omega)
  obtain ⟨t1, t2, _⟩ := v3 sg
  rw [x1]
  exact ⟨⟨N, I⟩, x4.1, ⟨k0, by omega, by omega⟩, ⟨v1, v2⟩, t1, t2⟩
/-- and what it is -/
theorem od_v9 {ρ : Nat → Nat} {κ κ' : zS} {a n P : Nat} {k : Int32} (X : odX9 ρ κ a n P) (k0 : 0 ≤ k.toInt) (k1 : k.toInt < n) (sg : zI κ raSign (vU9 κ (zR κ odSolver a) k.toNatClampNeg) ≠ 0) (q : (zF (soF ρ unR9 (zR κ soCalc (zR κ odSolver a))) κ κ' ∧ nmI ρ κ' ∧ soI ρ κ' (zR κ odSolver a)) ∧ (zI κ' raSign (zR κ soPart (zR κ odSolver a))).toInt = (zI κ raSign (vU9 κ (zR κ odSolver a) k.toNatClampNeg)).toInt ∧ nuN κ' (zR κ raTop (zR κ soPart (zR κ odSolver a))) ≤ nuN κ (zR κ raTop (vU9 κ (zR κ odSolver a) k.toNatClampNeg)) ∧ nuN κ' (zR κ raBottom (zR κ soPart (zR κ odSolver a))) ∣ nuN κ (zR κ raBottom (vU9 κ (zR κ odSolver a) k.toNatClampNeg)) * (if (dvA κ (zR κ soAtlas (zR κ odSolver a)) k.toNatClampNeg).toInt ≤ 1 then 1 else (dvA κ (zR κ soAtlas (zR κ odSolver a)) k.toNatClampNeg).toInt.toNat) ∧ nuN κ' (zR κ raBottom (zR κ soPart (zR κ odSolver a))) ≤ nuN κ (zR κ raBottom (vU9 κ (zR κ odSolver a) k.toNatClampNeg)) * (if (dvA κ (zR κ soAtlas (zR κ odSolver a)) k.toNatClampNeg).toInt ≤ 1 then 1 else (dvA κ (zR κ soAtlas (zR κ odSolver a)) k.toNatClampNeg).toInt.toNat)) : (zF (soF ρ unR9 (zR κ odCalc a)) κ κ' ∧ nmI ρ κ' ∧ soI ρ κ' (zR κ odSolver a)) ∧ nuN κ' (zR κ raTop (zR κ soPart (zR κ odSolver a))) < 2 ^ 256 ∧ nuN κ' (zR κ raBottom (zR κ soPart (zR κ odSolver a))) < pB9 100 ∧ dz9 (nuN κ' (zR κ raBottom (zR κ soPart (zR κ odSolver a)))) P := by
  obtain ⟨⟨x1, x2⟩, x3, ⟨x4, x5⟩, x6, _, _⟩ := X
  have kk := cnk k0
  obtain ⟨v1, v2, v3⟩ := x6 k.toNatClampNeg (by omega)
  obtain ⟨t1, t2, t3⟩ := v3 sg
  obtain ⟨Q, _, q2, q3, q4⟩ := q
  rw [x2] at Q
  rw [x1] at q3 q4 t3
  refine ⟨Q, Nat.lt_of_le_of_lt q2 t1, ?_, dz9_of t3 q3 q4⟩
  have d8 : (if (dvA κ (zR κ odAtlas a) k.toNatClampNeg).toInt ≤ 1 then 1 else (dvA κ (zR κ odAtlas a) k.toNatClampNeg).toInt.toNat) ≤ 2147483648 := by
    have u := ihi (dvA κ (zR κ odAtlas a) k.toNatClampNeg)
    split
    · decide
    · omega
  have e : 2 ^ 256 * 2147483648 < pB9 100 := by unfold pB9; decide
  exact Nat.lt_of_le_of_lt q4 (Nat.lt_of_le_of_lt (Nat.mul_le_mul (Nat.le_of_lt t2) d8) e)
theorem Od_weigh_c {C : zC} {n0 : Nat} {a0 : Nat} {a1 : Int32} {a2 : Int32} {κ : zS} {Q : zS → Prop} (W : zW C n0 κ) (Ta0 : zT κ a0 = 9) (ρ : Nat → Nat) (n9 P9 : Nat) (hp : (nmI ρ κ ∧ soI ρ κ (zR κ odSolver a0)) ∧ odX9 ρ κ a0 n9 P9 ∧ nuN κ (zR κ soWhole (zR κ odSolver a0)) < pB9 1490) (h : ∀ (κ' : zS), ((zF (soF ρ wgR9 (zR κ odCalc a0)) κ κ' ∧ nmI ρ κ' ∧ soI ρ κ' (zR κ odSolver a0)) ∧ nuN κ' (zR κ soSum (zR κ odSolver a0)) < pB9 1502 ∧ nuN κ' (zR κ soLess (zR κ odSolver a0)) < pB9 1502) → Q κ') : zRun C 5 mOd_weigh [.ref a0, .int a1, .int a2] κ (oV Q noX) := by
  refine Od_weigh_run W Ta0 ?_
  replace W := W.lo (Nat.le_trans W.1.2.1 W.1.2.2) (Nat.le_refl (zn κ))
  unfold w_Od_weigh_0
  obtain ⟨⟨N0, S0⟩, X0, W0⟩ := hp
  have ts := ty_odSolver W Ta0
  have A0 := X0.2.2.1.1
  have hn := A0.2.2.1
  have tot := A0.2.2.2.1
  have h8 := S0.1.2.2.2.2.2.1
  have h7 := S0.1.2.2.2.2.1
  have g7 := nm_g N0 (w := (zR κ soSum (zR κ odSolver a0))) h7 (Or.inl ⟨by decide, by decide⟩) (by decide)
  have hj34 : ∀ (l0 : Nat) (l1 : Int32) (l2 : Int32) (l3 : Int32) (s0 : Nat) (s1 : Int64) (τ : zS), zW C (zn κ) τ → zT τ l0 = 9 → zT τ s0 = 8 → (κ = τ ∧ a0 = l0 ∧ a1 = l1 ∧ a2 = l2 ∧ l3.toInt = (n9 : Int) ∧ s0 = (zR κ soSum (zR κ odSolver a0)) ∧ 0 ≤ s1.toInt ∧ s1.toInt ≤ 2147483648) → w_Od_weigh_34 C (zn κ) Q  l0 l1 l2 l3 s0 s1 τ := by
    rintro _ _ _ y34_3 y34_s0 y34_s1 _ W34 T34_0 T34_1 ⟨rfl, rfl, rfl, rfl, j34⟩
    unfold w_Od_weigh_34
    intro T1
    obtain ⟨t3, rfl, p0, p1⟩ := j34
    refine Nu_put_c W34 T1 6500 ?_ (fun κ_2 q3 => ?_)
    · exact ⟨⟨p0, by omega⟩, g7.2.2⟩  -- p1
    obtain ⟨Fs, ⟨Rs, Ns⟩, Is, Vs⟩ := q3
    have Zs : zF (soF ρ wgR9 (zR κ odCalc a0)) κ κ_2 := soF_1 (by rw [h7]; exact Or.inl ⟨by decide, by decide⟩) Fs
    have N2 : nmI ρ κ_2 := nm_1 W N0 Fs (by rw [h7]; exact Is)
    have S2 : soI ρ κ_2 (zR κ odSolver a0) := so_1 W ts S0 Fs
    have gl := nm_g N2 (w := (zR κ soLess (zR κ odSolver a0))) h8 (Or.inl ⟨by decide, by decide⟩) (by decide)
    have el2 : zR κ_2 soLess (zR κ_2 odSolver a0) = (zR κ soLess (zR κ odSolver a0)) := by rw [Rs]
    intro W4
    intro M5
    intro T6
    refine Nu_put_c W4 T6 6500 ?_ (fun κ_7 q8 => ?_)
    · rw [el2]
      exact ⟨by decide, gl.2.2⟩
    intro W9
    intro M10
    rw [el2] at q8
    obtain ⟨Fl, ⟨Rl, Nl⟩, Il, Vl⟩ := q8
    have Zl0 : zF (soF ρ (fun r => r = 8) (zR κ odCalc a0)) κ_2 κ_7 := soF_1 h8 Fl
    have Zl : zF (soF ρ wgR9 (zR κ odCalc a0)) κ κ_7 := Zs.tr (soF_m (fun r z => Or.inl (by omega)) Zl0)
    have ts2 : zT κ_2 (zR κ odSolver a0) = 12 := Fs.t ts (by decide)
    have s7 := (soF_B (c := 0) (w := (zR κ soSum (zR κ odSolver a0))) W4 (Fs.t (ty_soSum W ts) (by decide)) Zl0 (by rw [h7]; decide)).2.1
    unfold w_Od_weigh_51
    refine ⟨fun n l0 l1 l2 l3 l4 τ => n = (l3.toInt - l4.toInt).toNat ∧ (a0 = l0 ∧ a1 = l1 ∧ a2 = l2 ∧ (zF (soF ρ wgR9 (zR κ odCalc a0)) κ τ ∧ nmI ρ τ ∧ soI ρ τ (zR κ odSolver a0)) ∧ l3.toInt = (n9 : Int) ∧ (0 ≤ l4.toInt ∧ l4.toInt ≤ l3.toInt) ∧ nuN τ (zR κ soSum (zR κ odSolver a0)) ≤ uB9 (nuN κ (zR κ soWhole (zR κ odSolver a0))) l4.toNatClampNeg ∧ nuN τ (zR κ soLess (zR κ odSolver a0)) ≤ uB9 (nuN κ (zR κ soWhole (zR κ odSolver a0))) l4.toNatClampNeg), ⟨_, rfl, ?_⟩, ?_⟩
    · refine ⟨rfl, rfl, rfl, ⟨Zl, nm_1 W4 N2 Fl (by rw [h8]; exact Il), so_1 W4 ts2 S2 Fl⟩, t3, ⟨by decide, by rw [t0i]; omega⟩, ?_, ?_⟩
      · rw [s7, Vs]; exact uB_0 (by omega)
      · rw [Vl]; exact uB_0 (by decide)
    rintro n51 _ _ _ x51_3 x51_4 κ51 W51 T51_0 ⟨hn51, rfl, rfl, rfl, i51⟩
    obtain ⟨⟨Z1, N1, S1⟩, e3, l4, B1, B2⟩ := i51
    obtain ⟨X1, e1, _, _⟩ := odX9_f W Ta0 N0 Z1 wgR9_l X0
    have kl := cnk l4.1
    have es : zR κ51 odSolver a0 = (zR κ odSolver a0) := e1 odSolver (Or.inl (by decide)) a0
    have ec : zR κ51 odCalc a0 = (zR κ odCalc a0) := e1 odCalc (Or.inl (by decide)) a0
    have ew : zR κ51 soWhole (zR κ odSolver a0) = (zR κ soWhole (zR κ odSolver a0)) := e1 soWhole (Or.inr (by decide)) _
    have eu : zR κ51 soSum (zR κ odSolver a0) = (zR κ soSum (zR κ odSolver a0)) := e1 soSum (Or.inr (by decide)) _
    have el : zR κ51 soLess (zR κ odSolver a0) = (zR κ soLess (zR κ odSolver a0)) := e1 soLess (Or.inr (by decide)) _
    have ep : zR κ51 soPart (zR κ odSolver a0) = (zR κ soPart (zR κ odSolver a0)) := e1 soPart (Or.inr (by decide)) _
    have nW := (soF_B (c := 0) W (ty_soWhole W ts) Z1 (by rw [S0.1.1]; exact wgR9_n.1)).2.1
    refine ⟨fun c11 => ?_, fun c11 => ?_⟩
    · skip
      refine h _ ?_
      · exact ⟨⟨Z1, N1, S1⟩, uB_l W0 (by omega) B1, uB_l W0 (by omega) B2⟩  -- q4
    · skip
      intro T12
      rw [lei] at c11
      have ix := cn1 (x := x51_4) l4.1 (by omega)
      refine Od_unitsOf_c W51 T12 ρ n9 P9 ?_ (fun r13 q15 => ?_)
      · exact ⟨X1, l4.1, by omega⟩  -- p5
      intro W16
      intro M17
      refine ⟨fun c18 => ?_, fun c18 => ?_⟩
      · skip
        intro x19 hx19
        refine ⟨_, ?_, rfl, ?_⟩
        · rw [hn51, hx19, ix.2]; omega  -- d6
        · exact ⟨rfl, rfl, rfl, ⟨Z1, N1, S1⟩, e3, ⟨by rw [hx19, ix.2]; omega, by rw [hx19, ix.2]; omega⟩, by rw [hx19, ix.1]; exact uB_m B1, by rw [hx19, ix.1]; exact uB_m B2⟩  -- i7
      · skip
        intro T20
        have sg := q15.2.2 (fun z => c18 ((lg_cmp_eq _ _).mpr z))
        have S1' : soI ρ κ51 (zR κ51 odSolver a0) := by rw [es]; exact S1
        refine So_unit_c2 W16 T20 ρ (vU9 κ51 (zR κ51 odSolver a0) x51_4.toNatClampNeg) ?_ (fun κ_21 q22 => ?_)
        · exact od_u9 N1 S1' X1 l4.1 (by omega) sg  -- p8
        obtain ⟨⟨Zu, Nu9, Su9⟩, tu, bu, _⟩ := od_v9 X1 l4.1 (by omega) sg q22
        rw [ec] at Zu
        rw [es] at Su9 tu bu
        rw [ep] at tu bu
        obtain ⟨X2, e2, _, _⟩ := odX9_f W51 T51_0 N1 Zu (fun r h z => by rcases z with z | z | z <;> omega) X1
        have es2 : zR κ_21 odSolver a0 = (zR κ odSolver a0) := (e2 odSolver (Or.inl (by decide)) a0).trans es
        have ew2 : zR κ_21 soWhole (zR κ odSolver a0) = (zR κ soWhole (zR κ odSolver a0)) := (e2 soWhole (Or.inr (by decide)) _).trans ew
        have eu2 : zR κ_21 soSum (zR κ odSolver a0) = (zR κ soSum (zR κ odSolver a0)) := (e2 soSum (Or.inr (by decide)) _).trans eu
        have el2 : zR κ_21 soLess (zR κ odSolver a0) = (zR κ soLess (zR κ odSolver a0)) := (e2 soLess (Or.inr (by decide)) _).trans el
        have ep2 : zR κ_21 soPart (zR κ odSolver a0) = (zR κ soPart (zR κ odSolver a0)) := (e2 soPart (Or.inr (by decide)) _).trans ep
        have eca2 : zR κ_21 soCalc (zR κ odSolver a0) = (zR κ odCalc a0) := by
          have y := X2.1.2
          rw [es2] at y
          rw [y]
          exact (e2 odCalc (Or.inl (by decide)) a0).trans ec
        have ts1 : zT κ51 (zR κ odSolver a0) = 12 := Z1.t ts (by decide)
        have u1 : zT κ51 (zR κ soWhole (zR κ odSolver a0)) = 8 := Z1.t (ty_soWhole W ts) (by decide)
        have u2 : zT κ51 (zR κ soSum (zR κ odSolver a0)) = 8 := Z1.t (ty_soSum W ts) (by decide)
        have u3 : zT κ51 (zR κ soLess (zR κ odSolver a0)) = 8 := Z1.t (ty_soLess W ts) (by decide)
        have w2 := (soF_B (c := 0) W51 u1 Zu (by rw [S0.1.1]; unfold unR9; decide)).2.1
        have s2 := (soF_B (c := 0) W51 u2 Zu (by rw [h7]; unfold unR9; decide)).2.1
        have l2 := (soF_B (c := 0) W51 u3 Zu (by rw [h8]; unfold unR9; decide)).2.1
        have et2 : zR κ_21 raTop (zR κ soPart (zR κ odSolver a0)) = zR κ51 raTop (zR κ soPart (zR κ odSolver a0)) := (soF_r9 Zu (by decide)).1
        have b4 : pB9 1502 ≤ pB9 4000 := pB9_l (by decide)
        intro W23
        intro M24
        intro T25
        refine So_addTerm_c2 W23 T25 ρ ?_ (fun κ_26 q27 => ?_)
        · rw [es2, ew2, eu2, el2, ep2, et2, w2, s2, l2, nW]
          exact ⟨⟨Nu9, Su9⟩, ⟨by omega, by omega⟩, ⟨Nat.lt_of_lt_of_le W0 (pB9_l (by decide)), Nat.lt_of_lt_of_le tu (by unfold pB9; decide)⟩, Nat.lt_of_lt_of_le (uB_l W0 (by omega) B1) b4, Nat.lt_of_lt_of_le (uB_l W0 (by omega) B2) b4⟩
        intro W28
        intro M29
        intro x30 hx30
        rw [es2, ew2, eu2, el2, ep2, eca2, et2, w2, s2, l2, nW] at q27
        obtain ⟨Za, Na, A1, A2⟩ := q27
        have Zf : zF (soF ρ wgR9 (zR κ odCalc a0)) κ κ_26 := (Z1.tr (soF_m (fun r z => by unfold wgR9; rcases z with z | z | z <;> omega) Zu)).tr (soF_m (fun r z => by unfold wgR9; rcases z with z | z | z | z | z | z <;> omega) Za)
        have tmb : nuN κ_21 (zR κ51 raTop (zR κ soPart (zR κ odSolver a0))) * r13.toInt.natAbs * (nuN κ (zR κ soWhole (zR κ odSolver a0)) + 1) ≤ (nuN κ (zR κ soWhole (zR κ odSolver a0)) + 1) * sU9 := tm_u9 tu (by omega)
        refine ⟨_, ?_, rfl, ?_⟩
        · rw [hn51, hx30, ix.2]; omega  -- d10
        · refine ⟨rfl, rfl, rfl, ⟨Zf, Na⟩, e3, ⟨by rw [hx30, ix.2]; omega, by rw [hx30, ix.2]; omega⟩, ?_, ?_⟩
          · rw [hx30, ix.1]
            by_cases z : 0 < r13.toInt
            · exact Nat.le_trans (A1 z).1 (uB_s B1 tmb)
            · rw [(A2 z).2]; exact uB_m B1
          · rw [hx30, ix.1]
            by_cases z : 0 < r13.toInt
            · rw [(A1 z).2]; exact uB_m B2
            · exact Nat.le_trans (A2 z).1 (uB_s B2 tmb)
  intro x31 hx31
  refine ⟨fun c32 => ?_, fun c32 => ?_⟩
  · skip
    refine hj34 _ _ _ _ _ _ _ W ?_ ?_ ?_
    · exact Ta0  -- t12
    · exact ty_soSum W ts  -- t13
    · exact ⟨rfl, rfl, rfl, rfl, by rw [hx31]; exact tot, rfl, by decide, by decide⟩  -- k14
  · skip
    intro T33
    refine Od_share_c W T33  ?_ (fun r34 q36 => ?_)
    · exact ⟨X0.2.2.2.2.1.1, X0.2.2.2.2.2⟩  -- p15
    intro W37
    intro M38
    refine hj34 _ _ _ _ _ _ _ W37 ?_ ?_ ?_
    · exact Ta0  -- t16
    · exact ty_soSum W ts  -- t17
    · have z9 : n9 = 0 := by
        have y := congrArg Int32.toInt c32
        rw [hx31, t0i] at y
        omega
      exact ⟨rfl, rfl, rfl, rfl, by rw [hx31]; exact tot, rfl, q36.2.2 rfl (X0.2.2.2.2.1.2 z9), by omega⟩
