section
set_option maxHeartbeats 1600000
/-! the class: Odds' weigh, showWeight -/
def sU9 : Nat := 2 ^ 310
/-- how large a sum over i states can be -/
def uB9 (h i : Nat) : Nat := (h + 1) * (2147483648 + i * sU9)
theorem uB_0 {h x : Nat} (hx : x ≤ 2147483648) : x ≤ uB9 h 0 := by
  unfold uB9
  rw [Nat.zero_mul, Nat.add_zero]
  exact Nat.le_trans hx (Nat.le_mul_of_pos_left _ (Nat.succ_pos h))
theorem uB_m {h i x : Nat} (hx : x ≤ uB9 h i) : x ≤ uB9 h (i + 1) := Nat.le_trans hx (Nat.mul_le_mul_left _ (Nat.add_le_add_left (Nat.mul_le_mul_right _ (Nat.le_succ _)) _))
theorem uB_s {h i x t : Nat} (hx : x ≤ uB9 h i) (ht : t ≤ (h + 1) * sU9) : x + t ≤ uB9 h (i + 1) := by
  have e : uB9 h (i + 1) = uB9 h i + (h + 1) * sU9 := by
    unfold uB9
    rw [Nat.add_mul i 1, Nat.one_mul, ← Nat.add_assoc, Nat.mul_add]
  rw [e]
  exact Nat.add_le_add hx ht
theorem uB_l {h i x : Nat} (hh : h < pB9 1490) (hi : i ≤ 20000) (hx : x ≤ uB9 h i) : x < pB9 1502 := by
  have a : 2147483648 + i * sU9 ≤ pB9 11 := Nat.le_trans (Nat.add_le_add_left (Nat.mul_le_mul_right _ hi) _) (by unfold sU9 pB9; decide)
  have q : uB9 h i ≤ pB9 1490 * pB9 11 := Nat.mul_le_mul hh a
  rw [← pB9_a] at q
  exact Nat.lt_of_le_of_lt (Nat.le_trans hx q) (pB9_s (by decide))
theorem tm_u9 {T w h : Nat} (h1 : T < 2 ^ 256) (h2 : w ≤ 17179869184000000) : T * w * (h + 1) ≤ (h + 1) * sU9 := by
  have e : 2 ^ 256 * 17179869184000000 ≤ sU9 := by unfold sU9; decide
  rw [Nat.mul_comm (h + 1)]
  exact Nat.mul_le_mul (Nat.le_trans (Nat.mul_le_mul (Nat.le_of_lt h1) h2) e) (Nat.le_refl _)
def wgR9 : Nat → Prop := fun r => (4 ≤ r ∧ r ≤ 8) ∨ r = 10 ∨ (20 ≤ r ∧ r ≤ 22)
theorem wgR9_l : ∀ r, 100 ≤ r → ¬ wgR9 r := fun r h z => by
  unfold wgR9 at z
  omega
theorem wgR9_n : ¬ wgR9 1 ∧ ¬ wgR9 15 ∧ ¬ wgR9 30 := by
  unfold wgR9
  omega
/-- a state's unit may be found -/
theorem od_u9 {ρ : Nat → Nat} {κ : zS} {a n P : Nat} {k : Int32} (N : nmI ρ κ) (I : soI ρ κ (zR κ odSolver a)) (X : odX9 ρ κ a n P) (k0 : 0 ≤ k.toInt) (k1 : k.toInt < n) (sg : zI κ raSign (vU9 κ (zR κ odSolver a) k.toNatClampNeg) ≠ 0) : (nmI ρ κ ∧ soI ρ κ (zR κ odSolver a)) ∧ atM κ (zR κ soAtlas (zR κ odSolver a)) ∧ (0 ≤ k.toInt ∧ k.toInt < 1000 ∧ k.toInt < (zN κ (zR κ soVisits (zR κ odSolver a)))) ∧ (zQ κ (zR κ soVisits (zR κ odSolver a)) k.toNatClampNeg = some (vU9 κ (zR κ odSolver a) k.toNatClampNeg) ∧ ρ (vU9 κ (zR κ odSolver a) k.toNatClampNeg) = 100 + 8 * k.toNatClampNeg) ∧ (nuN κ (zR κ raTop (vU9 κ (zR κ odSolver a) k.toNatClampNeg)) < 2 ^ 256 ∧ nuN κ (zR κ raBottom (vU9 κ (zR κ odSolver a) k.toNatClampNeg)) < 2 ^ 256) := by
  obtain ⟨⟨x1, x2⟩, x3, ⟨x4, x5⟩, x6, _, _⟩ := X
  have kk := cnk k0
  have hn := x4.2.2.1
  obtain ⟨v1, v2, v3⟩ := x6 k.toNatClampNeg (by omega)
  obtain ⟨t1, t2, _⟩ := v3 sg
  rw [x1]
  exact ⟨⟨N, I⟩, x4.1, ⟨k0, by omega, by omega⟩, ⟨v1, v2⟩, t1, t2⟩
/-- and what it is -/
theorem od_v9 {ρ : Nat → Nat} {κ κ' : zS} {a n P : Nat} {k : Int32} (X : odX9 ρ κ a n P) (k0 : 0 ≤ k.toInt) (k1 : k.toInt < n) (sg : zI κ raSign (vU9 κ (zR κ odSolver a) k.toNatClampNeg) ≠ 0) (q : (zF (soF ρ unR9 (zR κ soCalc (zR κ odSolver a))) κ κ' ∧ nmI ρ κ' ∧ soI ρ κ' (zR κ odSolver a)) ∧ (zI κ' raSign (zR κ soPart (zR κ odSolver a))).toInt = (zI κ raSign (vU9 κ (zR κ odSolver a) k.toNatClampNeg)).toInt ∧ nuN κ' (zR κ raTop (zR κ soPart (zR κ odSolver a))) ≤ nuN κ (zR κ raTop (vU9 κ (zR κ odSolver a) k.toNatClampNeg)) ∧ nuN κ' (zR κ raBottom (zR κ soPart (zR κ odSolver a))) ∣ nuN κ (zR κ raBottom (vU9 κ (zR κ odSolver a) k.toNatClampNeg)) * (if (dvA κ (zR κ soAtlas (zR κ odSolver a)) k.toNatClampNeg).toInt ≤ 1 then 1 else (dvA κ (zR κ soAtlas (zR κ odSolver a)) k.toNatClampNeg).toInt.toNat) ∧ nuN κ' (zR κ raBottom (zR κ soPart (zR κ odSolver a))) ≤ nuN κ (zR κ raBottom (vU9 κ (zR κ odSolver a) k.toNatClampNeg)) * (if (dvA κ (zR κ soAtlas (zR κ odSolver a)) k.toNatClampNeg).toInt ≤ 1 then 1 else (dvA κ (zR κ soAtlas (zR κ odSolver a)) k.toNatClampNeg).toInt.toNat)) : (zF (soF ρ unR9 (zR κ odCalc a)) κ κ' ∧ nmI ρ κ' ∧ soI ρ κ' (zR κ odSolver a)) ∧ nuN κ' (zR κ raTop (zR κ soPart (zR κ odSolver a))) < 2 ^ 256 ∧ nuN κ' (zR κ raBottom (zR κ soPart (zR κ odSolver a))) < pB9 100 ∧ dz9 (nuN κ' (zR κ raBottom (zR κ soPart (zR κ odSolver a)))) P := by
  obtain ⟨⟨x1, x2⟩, x3, ⟨x4, x5⟩, x6, _, _⟩ := X
  have kk := cnk k0
  obtain ⟨v1, v2, v3⟩ := x6 k.toNatClampNeg (by omega)
  obtain ⟨t1, t2, t3⟩ := v3 sg
  obtain ⟨Q, _, q2, q3, q4⟩ := q
  rw [x2] at Q
  rw [x1] at q3 q4 t3
  refine ⟨Q, Nat.lt_of_le_of_lt q2 t1, ?_, dz9_of t3 q3 q4⟩
  have d8 : (if (dvA κ (zR κ odAtlas a) k.toNatClampNeg).toInt ≤ 1 then 1 else (dvA κ (zR κ odAtlas a) k.toNatClampNeg).toInt.toNat) ≤ 2147483648 := by
    have u := ihi (dvA κ (zR κ odAtlas a) k.toNatClampNeg)
    split
    · decide
    · omega
  have e : 2 ^ 256 * 2147483648 < pB9 100 := by unfold pB9; decide
  exact Nat.lt_of_le_of_lt q4 (Nat.lt_of_le_of_lt (Nat.mul_le_mul (Nat.le_of_lt t2) d8) e)
theorem Od_weigh_c {C : zC} {n0 : Nat} {a0 : Nat} {a1 : Int32} {a2 : Int32} {κ : zS} {Q : zS → Prop} (W : zW C n0 κ) (Ta0 : zT κ a0 = 9) (ρ : Nat → Nat) (n9 P9 : Nat) (hp : (nmI ρ κ ∧ soI ρ κ (zR κ odSolver a0)) ∧ odX9 ρ κ a0 n9 P9 ∧ nuN κ (zR κ soWhole (zR κ odSolver a0)) < pB9 1490) (h : ∀ (κ' : zS), ((zF (soF ρ wgR9 (zR κ odCalc a0)) κ κ' ∧ nmI ρ κ' ∧ soI ρ κ' (zR κ odSolver a0)) ∧ nuN κ' (zR κ soSum (zR κ odSolver a0)) < pB9 1502 ∧ nuN κ' (zR κ soLess (zR κ odSolver a0)) < pB9 1502) → Q κ') : zRun C 5 mOd_weigh [.ref a0, .int a1, .int a2] κ (oV Q noX) := by
  refine Od_weigh_run W Ta0 ?_
  replace W := W.lo (Nat.le_trans W.1.2.1 W.1.2.2) (Nat.le_refl (zn κ))
  unfold w_Od_weigh_0
  obtain ⟨⟨N0, S0⟩, X0, W0⟩ := hp
  have ts := ty_odSolver W Ta0
  have A0 := X0.2.2.1.1
  have hn := A0.2.2.1
  have tot := A0.2.2.2.1
  have h8 := S0.1.2.2.2.2.2.1
  have h7 := S0.1.2.2.2.2.1
  have g7 := nm_g N0 (w := (zR κ soSum (zR κ odSolver a0))) h7 (Or.inl ⟨by decide, by decide⟩) (by decide)
  have hj34 : ∀ (l0 : Nat) (l1 : Int32) (l2 : Int32) (l3 : Int32) (s0 : Nat) (s1 : Int64) (τ : zS), zW C (zn κ) τ → zT τ l0 = 9 → zT τ s0 = 8 → (κ = τ ∧ a0 = l0 ∧ a1 = l1 ∧ a2 = l2 ∧ l3.toInt = (n9 : Int) ∧ s0 = (zR κ soSum (zR κ odSolver a0)) ∧ 0 ≤ s1.toInt ∧ s1.toInt ≤ 2147483648) → w_Od_weigh_34 C (zn κ) Q  l0 l1 l2 l3 s0 s1 τ := by
    rintro _ _ _ y34_3 y34_s0 y34_s1 _ W34 T34_0 T34_1 ⟨rfl, rfl, rfl, rfl, j34⟩
    unfold w_Od_weigh_34
    intro T1
    obtain ⟨t3, rfl, p0, p1⟩ := j34
    refine Nu_put_c W34 T1 6500 ?_ (fun κ_2 q3 => ?_)
    · exact ⟨⟨p0, by omega⟩, g7.2.2⟩  -- p1
    obtain ⟨Fs, ⟨Rs, Ns⟩, Is, Vs⟩ := q3
    have Zs : zF (soF ρ wgR9 (zR κ odCalc a0)) κ κ_2 := soF_1 (by rw [h7]; exact Or.inl ⟨by decide, by decide⟩) Fs
    have N2 : nmI ρ κ_2 := nm_1 W N0 Fs (by rw [h7]; exact Is)
    have S2 : soI ρ κ_2 (zR κ odSolver a0) := so_1 W ts S0 Fs
    have gl := nm_g N2 (w := (zR κ soLess (zR κ odSolver a0))) h8 (Or.inl ⟨by decide, by decide⟩) (by decide)
    have el2 : zR κ_2 soLess (zR κ_2 odSolver a0) = (zR κ soLess (zR κ odSolver a0)) := by rw [Rs]
    intro W4
    intro M5
    intro T6
    refine Nu_put_c W4 T6 6500 ?_ (fun κ_7 q8 => ?_)
    · rw [el2]
      exact ⟨by decide, gl.2.2⟩
    intro W9
    intro M10
    rw [el2] at q8
    obtain ⟨Fl, ⟨Rl, Nl⟩, Il, Vl⟩ := q8
    have Zl0 : zF (soF ρ (fun r => r = 8) (zR κ odCalc a0)) κ_2 κ_7 := soF_1 h8 Fl
    have Zl : zF (soF ρ wgR9 (zR κ odCalc a0)) κ κ_7 := Zs.tr (soF_m (fun r z => Or.inl (by omega)) Zl0)
    have ts2 : zT κ_2 (zR κ odSolver a0) = 12 := Fs.t ts (by decide)
    have s7 := (soF_B (c := 0) (w := (zR κ soSum (zR κ odSolver a0))) W4 (Fs.t (ty_soSum W ts) (by decide)) Zl0 (by rw [h7]; decide)).2.1
    unfold w_Od_weigh_51
    refine ⟨fun n l0 l1 l2 l3 l4 τ => n = (l3.toInt - l4.toInt).toNat ∧ (a0 = l0 ∧ a1 = l1 ∧ a2 = l2 ∧ (zF (soF ρ wgR9 (zR κ odCalc a0)) κ τ ∧ nmI ρ τ ∧ soI ρ τ (zR κ odSolver a0)) ∧ l3.toInt = (n9 : Int) ∧ (0 ≤ l4.toInt ∧ l4.toInt ≤ l3.toInt) ∧ nuN τ (zR κ soSum (zR κ odSolver a0)) ≤ uB9 (nuN κ (zR κ soWhole (zR κ odSolver a0))) l4.toNatClampNeg ∧ nuN τ (zR κ soLess (zR κ odSolver a0)) ≤ uB9 (nuN κ (zR κ soWhole (zR κ odSolver a0))) l4.toNatClampNeg), ⟨_, rfl, ?_⟩, ?_⟩
    · refine ⟨rfl, rfl, rfl, ⟨Zl, nm_1 W4 N2 Fl (by rw [h8]; exact Il), so_1 W4 ts2 S2 Fl⟩, t3, ⟨by decide, by rw [t0i]; omega⟩, ?_, ?_⟩
      · rw [s7, Vs]; exact uB_0 (by omega)
      · rw [Vl]; exact uB_0 (by decide)
    rintro n51 _ _ _ x51_3 x51_4 κ51 W51 T51_0 ⟨hn51, rfl, rfl, rfl, i51⟩
    obtain ⟨⟨Z1, N1, S1⟩, e3, l4, B1, B2⟩ := i51
    obtain ⟨X1, e1, _, _⟩ := odX9_f W Ta0 N0 Z1 wgR9_l X0
    have kl := cnk l4.1
    have es : zR κ51 odSolver a0 = (zR κ odSolver a0) := e1 odSolver (Or.inl (by decide)) a0
    have ec : zR κ51 odCalc a0 = (zR κ odCalc a0) := e1 odCalc (Or.inl (by decide)) a0
    have ew : zR κ51 soWhole (zR κ odSolver a0) = (zR κ soWhole (zR κ odSolver a0)) := e1 soWhole (Or.inr (by decide)) _
    have eu : zR κ51 soSum (zR κ odSolver a0) = (zR κ soSum (zR κ odSolver a0)) := e1 soSum (Or.inr (by decide)) _
    have el : zR κ51 soLess (zR κ odSolver a0) = (zR κ soLess (zR κ odSolver a0)) := e1 soLess (Or.inr (by decide)) _
    have ep : zR κ51 soPart (zR κ odSolver a0) = (zR κ soPart (zR κ odSolver a0)) := e1 soPart (Or.inr (by decide)) _
    have nW := (soF_B (c := 0) W (ty_soWhole W ts) Z1 (by rw [S0.1.1]; exact wgR9_n.1)).2.1
    refine ⟨fun c11 => ?_, fun c11 => ?_⟩
    · skip
      refine h _ ?_
      · exact ⟨⟨Z1, N1, S1⟩, uB_l W0 (by omega) B1, uB_l W0 (by omega) B2⟩  -- q4
    · skip
      intro T12
      rw [lei] at c11
      have ix := cn1 (x := x51_4) l4.1 (by omega)
      refine Od_unitsOf_c W51 T12 ρ n9 P9 ?_ (fun r13 q15 => ?_)
      · exact ⟨X1, l4.1, by omega⟩  -- p5
      intro W16
      intro M17
      refine ⟨fun c18 => ?_, fun c18 => ?_⟩
      · skip
        intro x19 hx19
        refine ⟨_, ?_, rfl, ?_⟩
        · rw [hn51, hx19, ix.2]; omega  -- d6
        · exact ⟨rfl, rfl, rfl, ⟨Z1, N1, S1⟩, e3, ⟨by rw [hx19, ix.2]; omega, by rw [hx19, ix.2]; omega⟩, by rw [hx19, ix.1]; exact uB_m B1, by rw [hx19, ix.1]; exact uB_m B2⟩  -- i7
      · skip
        intro T20
        have sg := q15.2.2 (fun z => c18 ((lg_cmp_eq _ _).mpr z))
        have S1' : soI ρ κ51 (zR κ51 odSolver a0) := by rw [es]; exact S1
        refine So_unit_c2 W16 T20 ρ (vU9 κ51 (zR κ51 odSolver a0) x51_4.toNatClampNeg) ?_ (fun κ_21 q22 => ?_)
        · exact od_u9 N1 S1' X1 l4.1 (by omega) sg  -- p8
        obtain ⟨⟨Zu, Nu9, Su9⟩, tu, bu, _⟩ := od_v9 X1 l4.1 (by omega) sg q22
        rw [ec] at Zu
        rw [es] at Su9 tu bu
        rw [ep] at tu bu
        obtain ⟨X2, e2, _, _⟩ := odX9_f W51 T51_0 N1 Zu (fun r h z => by rcases z with z | z | z <;> omega) X1
        have es2 : zR κ_21 odSolver a0 = (zR κ odSolver a0) := (e2 odSolver (Or.inl (by decide)) a0).trans es
        have ew2 : zR κ_21 soWhole (zR κ odSolver a0) = (zR κ soWhole (zR κ odSolver a0)) := (e2 soWhole (Or.inr (by decide)) _).trans ew
        have eu2 : zR κ_21 soSum (zR κ odSolver a0) = (zR κ soSum (zR κ odSolver a0)) := (e2 soSum (Or.inr (by decide)) _).trans eu
        have el2 : zR κ_21 soLess (zR κ odSolver a0) = (zR κ soLess (zR κ odSolver a0)) := (e2 soLess (Or.inr (by decide)) _).trans el
        have ep2 : zR κ_21 soPart (zR κ odSolver a0) = (zR κ soPart (zR κ odSolver a0)) := (e2 soPart (Or.inr (by decide)) _).trans ep
        have eca2 : zR κ_21 soCalc (zR κ odSolver a0) = (zR κ odCalc a0) := by
          have y := X2.1.2
          rw [es2] at y
          rw [y]
          exact (e2 odCalc (Or.inl (by decide)) a0).trans ec
        have ts1 : zT κ51 (zR κ odSolver a0) = 12 := Z1.t ts (by decide)
        have u1 : zT κ51 (zR κ soWhole (zR κ odSolver a0)) = 8 := Z1.t (ty_soWhole W ts) (by decide)
        have u2 : zT κ51 (zR κ soSum (zR κ odSolver a0)) = 8 := Z1.t (ty_soSum W ts) (by decide)
        have u3 : zT κ51 (zR κ soLess (zR κ odSolver a0)) = 8 := Z1.t (ty_soLess W ts) (by decide)
        have w2 := (soF_B (c := 0) W51 u1 Zu (by rw [S0.1.1]; unfold unR9; decide)).2.1
        have s2 := (soF_B (c := 0) W51 u2 Zu (by rw [h7]; unfold unR9; decide)).2.1
        have l2 := (soF_B (c := 0) W51 u3 Zu (by rw [h8]; unfold unR9; decide)).2.1
        have et2 : zR κ_21 raTop (zR κ soPart (zR κ odSolver a0)) = zR κ51 raTop (zR κ soPart (zR κ odSolver a0)) := (soF_r9 Zu (by decide)).1
        have b4 : pB9 1502 ≤ pB9 4000 := pB9_l (by decide)
        intro W23
        intro M24
        intro T25
        refine So_addTerm_c2 W23 T25 ρ ?_ (fun κ_26 q27 => ?_)
        · rw [es2, ew2, eu2, el2, ep2, et2, w2, s2, l2, nW]
          exact ⟨⟨Nu9, Su9⟩, ⟨by omega, by omega⟩, ⟨Nat.lt_of_lt_of_le W0 (pB9_l (by decide)), Nat.lt_of_lt_of_le tu (by unfold pB9; decide)⟩, Nat.lt_of_lt_of_le (uB_l W0 (by omega) B1) b4, Nat.lt_of_lt_of_le (uB_l W0 (by omega) B2) b4⟩
        intro W28
        intro M29
        intro x30 hx30
        rw [es2, ew2, eu2, el2, ep2, eca2, et2, w2, s2, l2, nW] at q27
        obtain ⟨Za, Na, A1, A2⟩ := q27
        have Zf : zF (soF ρ wgR9 (zR κ odCalc a0)) κ κ_26 := (Z1.tr (soF_m (fun r z => by unfold wgR9; rcases z with z | z | z <;> omega) Zu)).tr (soF_m (fun r z => by unfold wgR9; rcases z with z | z | z | z | z | z <;> omega) Za)
        have tmb : nuN κ_21 (zR κ51 raTop (zR κ soPart (zR κ odSolver a0))) * r13.toInt.natAbs * (nuN κ (zR κ soWhole (zR κ odSolver a0)) + 1) ≤ (nuN κ (zR κ soWhole (zR κ odSolver a0)) + 1) * sU9 := tm_u9 tu (by omega)
        refine ⟨_, ?_, rfl, ?_⟩
        · rw [hn51, hx30, ix.2]; omega  -- d10
        · refine ⟨rfl, rfl, rfl, ⟨Zf, Na⟩, e3, ⟨by rw [hx30, ix.2]; omega, by rw [hx30, ix.2]; omega⟩, ?_, ?_⟩
          · rw [hx30, ix.1]
            by_cases z : 0 < r13.toInt
            · exact Nat.le_trans (A1 z).1 (uB_s B1 tmb)
            · rw [(A2 z).2]; exact uB_m B1
          · rw [hx30, ix.1]
            by_cases z : 0 < r13.toInt
            · rw [(A1 z).2]; exact uB_m B2
            · exact Nat.le_trans (A2 z).1 (uB_s B2 tmb)
  intro x31 hx31
  refine ⟨fun c32 => ?_, fun c32 => ?_⟩
  · skip
    refine hj34 _ _ _ _ _ _ _ W ?_ ?_ ?_
    · exact Ta0  -- t12
    · exact ty_soSum W ts  -- t13
    · exact ⟨rfl, rfl, rfl, rfl, by rw [hx31]; exact tot, rfl, by decide, by decide⟩  -- k14
  · skip
    intro T33
    refine Od_share_c W T33  ?_ (fun r34 q36 => ?_)
    · exact ⟨X0.2.2.2.2.1.1, X0.2.2.2.2.2⟩  -- p15
    intro W37
    intro M38
    refine hj34 _ _ _ _ _ _ _ W37 ?_ ?_ ?_
    · exact Ta0  -- t16
    · exact ty_soSum W ts  -- t17
    · have z9 : n9 = 0 := by
        have y := congrArg Int32.toInt c32
        rw [hx31, t0i] at y
        omega
      exact ⟨rfl, rfl, rfl, rfl, by rw [hx31]; exact tot, rfl, q36.2.2 rfl (X0.2.2.2.2.1.2 z9), by omega⟩

end
section
set_option maxHeartbeats 1600000
/-! the class: Odds' showWeight -/
theorem capR_s9 {r : Nat} (h : r < 100) : capR r = 6500 := by
  unfold capR
  exact if_pos h
/-- a number of a short role copied into another -/
theorem cp_p9 {ρ : Nat → Nat} {κ : zS} {w v r q : Nat} (N : nmI ρ κ) (hw : ρ w = r) (hv : ρ v = q) (hr : nmR r ∧ r ≠ 10 ∧ r < 100) (hq : nmR q ∧ q ≠ 10 ∧ q < 100) (hne : r ≠ q) (l : nuN κ v < pB9 4000) : (2 ≤ (zN κ (zR κ nuLimbs w)) ∧ (zN κ (zR κ nuLimbs w)) ≤ 6500) ∧ nuB κ v 6500 ∧ w ≠ v ∧ nuK κ v + nuK κ v / 2 + 1 ≤ 6500 ∧ 6500 ≤ 30000000 := by
  have gw := nm_g N hw hr.1 hr.2.1
  have gv := nm_g N hv hq.1 hq.2.1
  rw [capR_s9 hr.2.2] at gw
  rw [capR_s9 hq.2.2] at gv
  have k := nuK_lt gv.1 l
  exact ⟨gw.2.2, gv.1.1, ro_n hw hv hne, by omega, by decide⟩
theorem cp_q9 {C : zC} {n0 s w v r q : Nat} {ρ : Nat → Nat} {κ κ' : zS} (W : zW C n0 κ) (Ts : zT κ s = 12) (N : nmI ρ κ) (I : soI ρ κ s) (hw : ρ w = r) (hv : ρ v = q) (hr : r < 100) (hq : nmR q ∧ q ≠ 10) (h : zF (nuF w) κ κ' ∧ nuB κ' w 6500 ∧ nuN κ' w = nuN κ v ∧ nuK κ' w = nuK κ v ∧ (nuZ κ v → nuZ κ' w)) : (nmI ρ κ' ∧ soI ρ κ' s) ∧ nuN κ' w = nuN κ v ∧ ∀ ca, zF (soF ρ (fun x => x = r) ca) κ κ' := by
  have gv := nm_g N hv hq.1 hq.2
  refine ⟨⟨nm_1 W N h.1 (by rw [hw, capR_s9 hr]; exact ⟨h.2.1, h.2.2.2.2 gv.1.2⟩), so_1 W Ts I h.1⟩, h.2.2.1, fun ca => soF_1 hw h.1⟩
theorem nmR_s9 : (nmR 1 ∧ nmR 7 ∧ nmR 8) ∧ nmR 15 ∧ nmR 6 := ⟨⟨Or.inl (by decide), Or.inl (by decide), Or.inl (by decide)⟩, Or.inl (by decide), Or.inl (by decide)⟩
theorem Od_showWeight_c {C : zC} {n0 : Nat} {a0 : Nat} {a1 : Int32} {a2 : Int32} {a3 : Nat} {κ : zS} {Q : zS → Prop} (W : zW C n0 κ) (Ta0 : zT κ a0 = 9) (Ta3 : zT κ a3 = 11) (ρ : Nat → Nat) (n9 P9 : Nat) (hp : (nmI ρ κ ∧ soI ρ κ (zR κ odSolver a0)) ∧ odX9 ρ κ a0 n9 P9 ∧ (0 < P9 ∧ P9 < pB9 1490) ∧ ρ a3 = 30) (h : ∀ (κ' : zS), ((zF (soF ρ shR9 (zR κ odCalc a0)) κ κ' ∧ nmI ρ κ' ∧ soI ρ κ' (zR κ odSolver a0)) ∧ nuN κ' (zR κ soLess (zR κ odSolver a0)) < pB9 4000) → Q κ') : zRun C 7 mOd_showWeight [.ref a0, .int a1, .int a2, .ref a3] κ (oV Q noX) := by
  refine Od_showWeight_run W Ta0 Ta3 ?_
  replace W := W.lo (Nat.le_trans W.1.2.1 W.1.2.2) (Nat.le_refl (zn κ))
  unfold w_Od_showWeight_0
  obtain ⟨⟨N0, S0⟩, X0, ⟨P0, P1⟩, r30⟩ := hp
  have ts := ty_odSolver W Ta0
  have hn := X0.2.2.1.1.2.2.1
  have h1 := S0.1.1
  have h7 := S0.1.2.2.2.2.1
  have h8 := S0.1.2.2.2.2.2.1
  have h20 := S0.1.2.2.2.2.2.2
  have h15 := X0.2.1
  have g1 := nm_g N0 (w := (zR κ soWhole (zR κ odSolver a0))) h1 (Or.inl ⟨by decide, by decide⟩) (by decide)
  have o1 : (1 : Int64).toInt.toNat = 1 := rfl
  have b4 : pB9 1502 ≤ pB9 4000 := pB9_l (by decide)
  have b0 : pB9 1490 ≤ pB9 1502 := pB9_l (by decide)
  have tW := ty_soWhole W ts
  have tS := ty_soSum W ts
  have tL := ty_soLess W ts
  have tH := ty_odHeld W Ta0
  have hj192 : ∀ (l0 : Nat) (l3 : Nat) (τ : zS), zW C (zn κ) τ → zT τ l0 = 9 → zT τ l3 = 11 → (a0 = l0 ∧ a3 = l3 ∧ (zF (soF ρ shR9 (zR κ odCalc a0)) κ τ ∧ nmI ρ τ ∧ soI ρ τ (zR κ odSolver a0)) ∧ nuN τ (zR κ odHeld a0) < pB9 1502 ∧ nuN τ (zR κ soSum (zR κ odSolver a0)) < pB9 1502 ∧ nuN τ (zR κ soLess (zR κ odSolver a0)) < pB9 1502) → w_Od_showWeight_192 C (zn κ) Q  l0 l3 τ := by
    rintro _ _ τ192 W192 T192_0 T192_1 ⟨rfl, rfl, j192⟩
    unfold w_Od_showWeight_192
    intro T1
    intro T2
    obtain ⟨⟨Z1, N1, S1⟩, B0, B1, B2⟩ := j192
    obtain ⟨X1, e1, _, _⟩ := odX9_f W Ta0 N0 Z1 shR9_l X0
    have es : zR τ192 odSolver a0 = (zR κ odSolver a0) := e1 odSolver (Or.inl (by decide)) a0
    have ec : zR τ192 odCalc a0 = (zR κ odCalc a0) := e1 odCalc (Or.inl (by decide)) a0
    have eh : zR τ192 odHeld a0 = (zR κ odHeld a0) := e1 odHeld (Or.inl (by decide)) a0
    have eu : zR τ192 soSum (zR κ odSolver a0) = (zR κ soSum (zR κ odSolver a0)) := e1 soSum (Or.inr (by decide)) _
    have el : zR τ192 soLess (zR κ odSolver a0) = (zR κ soLess (zR κ odSolver a0)) := e1 soLess (Or.inr (by decide)) _
    have ep : zR τ192 soPart (zR κ odSolver a0) = (zR κ soPart (zR κ odSolver a0)) := e1 soPart (Or.inr (by decide)) _
    have eca : zR τ192 soCalc (zR κ odSolver a0) = (zR κ odCalc a0) := by
      have y := X1.1.2
      rw [es, ec] at y
      exact y
    have ts1 : zT τ192 (zR κ odSolver a0) = 12 := Z1.t ts (by decide)
    refine So_settle_c W192 T1 T2 ρ 15 ?_ (fun κ_3 q4 => ?_)
    · rw [es, eh, eu, el]
      exact ⟨⟨N1, S1⟩, ⟨h15, Or.inr rfl⟩, Nat.lt_of_lt_of_le B0 b4, Nat.lt_of_lt_of_le B1 b4, Nat.lt_of_lt_of_le B2 b4⟩
    rw [es, eh, eu, el, ep, eca] at q4
    obtain ⟨Zt, ⟨Nt, St⟩, O⟩ := q4
    have et := fun f (hf : f / 100 = 9 ∨ f / 100 = 12) b => (odX9_f W192 T192_0 N1 Zt (fun r h z => by rcases z with z | z | z | z <;> omega) X1).2.1 f hf b
    have es3 : zR κ_3 odSolver a0 = (zR κ odSolver a0) := (et odSolver (Or.inl (by decide)) a0).trans es
    have ep3 : zR κ_3 soPart (zR κ odSolver a0) = (zR κ soPart (zR κ odSolver a0)) := (et soPart (Or.inr (by decide)) _).trans ep
    have gp := ra_t9 Nt h20 (Or.inl rfl)
    have go := ra_t9 Nt r30 (Or.inr rfl)
    have lt4 : nuN κ_3 (zR κ_3 raTop (zR κ soPart (zR κ odSolver a0))) < pB9 4000 ∧ nuN κ_3 (zR κ_3 raBottom (zR κ soPart (zR κ odSolver a0))) < pB9 4000 := by
      rw [(soF_r9 Zt (f := raTop) (by decide)).1, (soF_r9 Zt (f := raBottom) (by decide)).1]
      have p4 : 1 < pB9 4000 := Nat.lt_of_lt_of_le (show 1 < pB9 1 by unfold pB9; decide) (pB9_l (by decide))
      rcases O with ⟨_, _, o1', o2'⟩ | ⟨_, _, o1', o2'⟩
      · rw [o1', o2']
        exact ⟨pB9_p, p4⟩
      · rw [o1', o2']
        refine ⟨Nat.lt_of_le_of_lt (Nat.div_le_self _ _) ?_, Nat.lt_of_le_of_lt (Nat.div_le_self _ _) (Nat.lt_of_lt_of_le B0 b4)⟩
        generalize pB9 1502 = B at *
        generalize pB9 4000 = B' at *
        omega
    have kt := nuK_lt gp.2.2.1 lt4.1
    have kb := nuK_lt gp.2.2.2.1 lt4.2
    intro W5
    intro M6
    intro T7
    intro T8
    refine Ra_copy_c W5 T7 T8 6500 ?_ (fun κ_9 q10 => ?_)
    · rw [es3, ep3]
      exact ⟨go.2.1, ⟨nuI_mono (by decide) gp.2.2.1, nuI_mono (by decide) gp.2.2.2.1, gp.2.2.2.2⟩, ⟨ro_n go.1.1 gp.1.1 (by decide), ro_n go.1.1 gp.1.2 (by decide), ro_n go.1.2 gp.1.1 (by decide), ro_n go.1.2 gp.1.2 (by decide)⟩, ⟨by omega, by omega⟩, by decide⟩
    intro W11
    intro M12
    refine h _ ?_
    · rw [es3, ep3] at q10
      obtain ⟨Zc, Jc, Vc⟩ := q10
      have R5 := ra_s9 W5 (Zt.t ts1 (by decide)) Nt St r30 (Or.inr rfl) Zc Jc
      have Z5 := R5.2 (zR κ odCalc a0)
      have l3 := soF_B (c := 0) (w := (zR κ soLess (zR κ odSolver a0))) W192 (Z1.t tL (by decide)) Zt (by rw [h8]; unfold stR9; decide)
      have l9 := soF_B (c := 0) (w := (zR κ soLess (zR κ odSolver a0))) W5 (Zt.t (Z1.t tL (by decide)) (by decide)) Z5 (by rw [h8]; decide)
      refine ⟨⟨(Z1.tr (soF_m (fun r z => by unfold shR9; rcases z with z | z | z | z <;> omega) Zt)).tr (soF_m (fun r z => by unfold shR9; omega) Z5), R5.1⟩, ?_⟩
      rw [l9.2.1, l3.2.1]
      exact Nat.lt_of_lt_of_le B2 b4
  have hj147 : ∀ (l0 : Nat) (l1 : Int32) (l2 : Int32) (l3 : Nat) (τ : zS), zW C (zn κ) τ → zT τ l0 = 9 → zT τ l3 = 11 → (a0 = l0 ∧ a1 = l1 ∧ a2 = l2 ∧ a3 = l3 ∧ (zF (soF ρ shR9 (zR κ odCalc a0)) κ τ ∧ nmI ρ τ ∧ soI ρ τ (zR κ odSolver a0)) ∧ nuN τ (zR κ soWhole (zR κ odSolver a0)) < pB9 1490 ∧ nuN τ (zR κ odHeld a0) < pB9 1502) → w_Od_showWeight_147 C (zn κ) Q  l0 l1 l2 l3 τ := by
    rintro _ _ _ _ τ147 W147 T147_0 T147_1 ⟨rfl, rfl, rfl, rfl, j147⟩
    unfold w_Od_showWeight_147
    intro T13
    obtain ⟨⟨Z1, N1, S1⟩, Bw, B0⟩ := j147
    obtain ⟨X1, e1, _, _⟩ := odX9_f W Ta0 N0 Z1 shR9_l X0
    have es : zR τ147 odSolver a0 = (zR κ odSolver a0) := e1 odSolver (Or.inl (by decide)) a0
    have ec : zR τ147 odCalc a0 = (zR κ odCalc a0) := e1 odCalc (Or.inl (by decide)) a0
    have eu : zR τ147 soSum (zR κ odSolver a0) = (zR κ soSum (zR κ odSolver a0)) := e1 soSum (Or.inr (by decide)) _
    have el : zR τ147 soLess (zR κ odSolver a0) = (zR κ soLess (zR κ odSolver a0)) := e1 soLess (Or.inr (by decide)) _
    have ew : zR τ147 soWhole (zR κ odSolver a0) = (zR κ soWhole (zR κ odSolver a0)) := e1 soWhole (Or.inr (by decide)) _
    refine Od_weigh_c W147 T13 ρ n9 P9 ?_ (fun κ_14 q15 => ?_)
    · rw [es, ew]
      exact ⟨⟨N1, S1⟩, X1, Bw⟩
    rw [es, ec, eu, el] at q15
    obtain ⟨⟨Zg, Ng, Sg⟩, Bs, Bl⟩ := q15
    have Z14 : zF (soF ρ shR9 (zR κ odCalc a0)) κ κ_14 := Z1.tr (soF_m (fun r z => by unfold shR9; unfold wgR9 at z; omega) Zg)
    have h14 := (soF_B (c := 0) W147 (Z1.t tH (by decide)) Zg (by rw [h15]; exact wgR9_n.2.1)).2.1
    have w14 := (soF_B (c := 0) W147 (Z1.t tW (by decide)) Zg (by rw [h1]; exact wgR9_n.1)).2.1
    have T14 : zT κ_14 a0 = 9 := Z14.t Ta0 (by decide)
    have e2 := (odX9_f W Ta0 N0 Z14 shR9_l X0).2.1
    have es2 : zR κ_14 odSolver a0 = (zR κ odSolver a0) := e2 odSolver (Or.inl (by decide)) a0
    have eu2 : zR κ_14 soSum (zR κ odSolver a0) = (zR κ soSum (zR κ odSolver a0)) := e2 soSum (Or.inr (by decide)) _
    have el2 : zR κ_14 soLess (zR κ odSolver a0) = (zR κ soLess (zR κ odSolver a0)) := e2 soLess (Or.inr (by decide)) _
    have ts14 : zT κ_14 (zR κ odSolver a0) = 12 := Z14.t ts (by decide)
    intro W16
    intro M17
    refine ⟨fun c18 => ?_, fun c18 => ?_⟩
    · skip
      refine hj192 _ _ _ W16 ?_ ?_ ?_
      · exact T14  -- t5
      · exact Z14.t Ta3 (by decide)  -- t6
      · exact ⟨rfl, rfl, ⟨Z14, Ng, Sg⟩, by rw [h14]; exact B0, Bs, Bl⟩  -- k7
    · skip
      intro T19
      intro T20
      refine Nu_copy_c W16 T19 T20 6500 6500 ?_ (fun κ_21 q22 => ?_)
      · rw [es2, eu2, el2]
        exact cp_p9 Ng h8 h7 ⟨nmR_s9.1.2.2, by decide, by decide⟩ ⟨nmR_s9.1.2.1, by decide, by decide⟩ (by decide) (Nat.lt_of_lt_of_le Bs b4)
      rw [es2, eu2, el2] at q22
      obtain ⟨⟨Na, Sa⟩, Va, Za⟩ := cp_q9 W16 ts14 Ng Sg h8 h7 (by decide) ⟨nmR_s9.1.2.1, by decide⟩ q22
      have Za0 := Za (zR κ odCalc a0)
      have Z21 : zF (soF ρ shR9 (zR κ odCalc a0)) κ κ_21 := Z14.tr (soF_m (fun r z => by unfold shR9; omega) Za0)
      have e3 := (odX9_f W Ta0 N0 Z21 shR9_l X0).2.1
      have es3 : zR κ_21 odSolver a0 = (zR κ odSolver a0) := e3 odSolver (Or.inl (by decide)) a0
      have eu3 : zR κ_21 soSum (zR κ odSolver a0) = (zR κ soSum (zR κ odSolver a0)) := e3 soSum (Or.inr (by decide)) _
      have ew3 : zR κ_21 soWhole (zR κ odSolver a0) = (zR κ soWhole (zR κ odSolver a0)) := e3 soWhole (Or.inr (by decide)) _
      have w21 := (soF_B (c := 0) W16 (Z14.t tW (by decide)) Za0 (by rw [h1]; decide)).2.1
      have h21 := (soF_B (c := 0) W16 (Z14.t tH (by decide)) Za0 (by rw [h15]; decide)).2.1
      intro W23
      intro M24
      intro T25
      intro T26
      refine Nu_copy_c W23 T25 T26 6500 6500 ?_ (fun κ_27 q28 => ?_)
      · rw [es3, eu3, ew3]
        exact cp_p9 Na h7 h1 ⟨nmR_s9.1.2.1, by decide, by decide⟩ ⟨nmR_s9.1.1, by decide, by decide⟩ (by decide) (by rw [w21, w14]; exact Nat.lt_of_lt_of_le Bw (pB9_l (by decide)))
      intro W29
      intro M30
      rw [es3, eu3, ew3] at q28
      obtain ⟨⟨Nb, Sb⟩, Vb, Zb⟩ := cp_q9 W23 (Z21.t ts (by decide)) Na Sa h7 h1 (by decide) ⟨nmR_s9.1.1, by decide⟩ q28
      have Zb0 := Zb (zR κ odCalc a0)
      have Z27 : zF (soF ρ shR9 (zR κ odCalc a0)) κ κ_27 := Z21.tr (soF_m (fun r z => by unfold shR9; omega) Zb0)
      have l27 := (soF_B (c := 0) W23 (Z21.t tL (by decide)) Zb0 (by rw [h8]; decide)).2.1
      have h27 := (soF_B (c := 0) W23 (Z21.t tH (by decide)) Zb0 (by rw [h15]; decide)).2.1
      refine hj192 _ _ _ W29 ?_ ?_ ?_
      · exact Z27.t Ta0 (by decide)  -- t10
      · exact Z27.t Ta3 (by decide)  -- t11
      · exact ⟨rfl, rfl, ⟨Z27, Nb, Sb⟩, by rw [h27, h21, h14]; exact B0, by rw [Vb, w21, w14]; exact Nat.lt_of_lt_of_le Bw b0, by rw [l27, Va]; exact Bs⟩  -- k12
  have hj22 : ∀ (l0 : Nat) (l1 : Int32) (l2 : Int32) (l3 : Nat) (s0 : Int32) (τ : zS), zW C (zn κ) τ → zT τ l0 = 9 → zT τ l3 = 11 → (κ = τ ∧ a0 = l0 ∧ a1 = l1 ∧ a2 = l2 ∧ a3 = l3 ∧ True) → w_Od_showWeight_22 C (zn κ) Q  l0 l1 l2 l3 s0 τ := by
    rintro _ _ _ _ y22_s0 _ W22 T22_0 T22_1 ⟨rfl, rfl, rfl, rfl, rfl, j22⟩
    unfold w_Od_showWeight_22
    intro T31
    refine Nu_put_c W22 T31 6500 ?_ (fun κ_32 q33 => ?_)
    · exact ⟨by decide, g1.2.2⟩  -- p13
    intro W34
    intro M35
    obtain ⟨Fp, ⟨Rp, Np⟩, Ip, Vp⟩ := q33
    have Zp : zF (soF ρ shR9 (zR κ odCalc a0)) κ κ_32 := soF_1 (by rw [h1]; unfold shR9; decide) Fp
    unfold w_Od_showWeight_38
    refine ⟨fun n l0 l1 l2 l3 l4 l5 τ => n = ((n9 : Int) - l5.toInt).toNat ∧ (a0 = l0 ∧ a1 = l1 ∧ a2 = l2 ∧ a3 = l3 ∧ (zF (soF ρ shR9 (zR κ odCalc a0)) κ τ ∧ nmI ρ τ ∧ soI ρ τ (zR κ odSolver a0)) ∧ dz9 (nuN τ (zR κ soWhole (zR κ odSolver a0))) P9 ∧ (0 ≤ l5.toInt ∧ l5.toInt ≤ n9)), ⟨_, rfl, ?_⟩, ?_⟩
    · exact ⟨rfl, rfl, rfl, rfl, ⟨Zp, nm_1 W N0 Fp (by rw [h1]; exact Ip), so_1 W ts S0 Fp⟩, by rw [Vp, o1]; exact Or.inr (Nat.one_dvd _), ⟨by decide, by rw [t0i]; omega⟩⟩  -- j14
    rintro n38 _ _ _ _ x38_4 x38_5 κ38 W38 T38_0 T38_1 ⟨hn38, rfl, rfl, rfl, rfl, i38⟩
    obtain ⟨⟨Z1, N1, S1⟩, D1, l5⟩ := i38
    obtain ⟨X1, e1, _, _⟩ := odX9_f W Ta0 N0 Z1 shR9_l X0
    have es : zR κ38 odSolver a0 = (zR κ odSolver a0) := e1 odSolver (Or.inl (by decide)) a0
    have ec : zR κ38 odCalc a0 = (zR κ odCalc a0) := e1 odCalc (Or.inl (by decide)) a0
    have eh : zR κ38 odHeld a0 = (zR κ odHeld a0) := e1 odHeld (Or.inl (by decide)) a0
    have ew : zR κ38 soWhole (zR κ odSolver a0) = (zR κ soWhole (zR κ odSolver a0)) := e1 soWhole (Or.inr (by decide)) _
    have ep : zR κ38 soPart (zR κ odSolver a0) = (zR κ soPart (zR κ odSolver a0)) := e1 soPart (Or.inr (by decide)) _
    have tot1 := X1.2.2.1.1.2.2.2.1
    have lw1 : nuN κ38 (zR κ soWhole (zR κ odSolver a0)) < pB9 1490 := Nat.lt_of_le_of_lt (dz9_le D1 P0) P1
    have ts1 : zT κ38 (zR κ odSolver a0) = 12 := Z1.t ts (by decide)
    have kl := cnk l5.1
    refine ⟨fun c36 => ?_, fun c36 => ?_⟩
    · skip
      intro T37
      intro T38
      refine Nu_copy_c W38 T37 T38 6500 6500 ?_ (fun κ_39 q40 => ?_)
      · rw [es, eh, ew]
        exact cp_p9 N1 h15 h1 ⟨nmR_s9.2.1, by decide, by decide⟩ ⟨nmR_s9.1.1, by decide, by decide⟩ (by decide) (Nat.lt_of_lt_of_le lw1 (pB9_l (by decide)))
      rw [es, eh, ew] at q40
      obtain ⟨⟨Na, Sa⟩, Va, Za⟩ := cp_q9 W38 ts1 N1 S1 h15 h1 (by decide) ⟨nmR_s9.1.1, by decide⟩ q40
      have Za0 := Za (zR κ odCalc a0)
      have Z39 : zF (soF ρ shR9 (zR κ odCalc a0)) κ κ_39 := Z1.tr (soF_m (fun r z => by unfold shR9; omega) Za0)
      obtain ⟨X2, e2, _, _⟩ := odX9_f W Ta0 N0 Z39 shR9_l X0
      have w39 := (soF_B (c := 0) W38 (Z1.t tW (by decide)) Za0 (by rw [h1]; decide)).2.1
      have T39 : zT κ_39 a0 = 9 := Z39.t Ta0 (by decide)
      have es2 : zR κ_39 odSolver a0 = (zR κ odSolver a0) := e2 odSolver (Or.inl (by decide)) a0
      have ec2 : zR κ_39 odCalc a0 = (zR κ odCalc a0) := e2 odCalc (Or.inl (by decide)) a0
      have ew2 : zR κ_39 soWhole (zR κ odSolver a0) = (zR κ soWhole (zR κ odSolver a0)) := e2 soWhole (Or.inr (by decide)) _
      have eu2 : zR κ_39 soSum (zR κ odSolver a0) = (zR κ soSum (zR κ odSolver a0)) := e2 soSum (Or.inr (by decide)) _
      have el2 : zR κ_39 soLess (zR κ odSolver a0) = (zR κ soLess (zR κ odSolver a0)) := e2 soLess (Or.inr (by decide)) _
      intro W41
      intro M42
      refine ⟨fun c43 => ?_, fun c43 => ?_⟩
      · skip
        refine hj147 _ _ _ _ _ W41 ?_ ?_ ?_
        · exact T39  -- t16
        · exact Z39.t Ta3 (by decide)  -- t17
        · exact ⟨rfl, rfl, rfl, rfl, ⟨Z39, Na, Sa⟩, by rw [w39]; exact lw1, by rw [Va]; exact Nat.lt_of_lt_of_le lw1 b0⟩  -- k18
      · skip
        intro T44
        refine Od_weigh_c W41 T44 ρ n9 P9 ?_ (fun κ_45 q46 => ?_)
        · rw [es2, ew2, w39]
          exact ⟨⟨Na, Sa⟩, X2, lw1⟩
        rw [es2, ec2, eu2, el2] at q46
        obtain ⟨⟨Zg, Ng, Sg⟩, Bs, Bl⟩ := q46
        have Z45 : zF (soF ρ shR9 (zR κ odCalc a0)) κ κ_45 := Z39.tr (soF_m (fun r z => by unfold shR9; unfold wgR9 at z; omega) Zg)
        have e3 := (odX9_f W Ta0 N0 Z45 shR9_l X0).2.1
        have es3 : zR κ_45 odSolver a0 = (zR κ odSolver a0) := e3 odSolver (Or.inl (by decide)) a0
        have eu3 : zR κ_45 soSum (zR κ odSolver a0) = (zR κ soSum (zR κ odSolver a0)) := e3 soSum (Or.inr (by decide)) _
        have eh3 : zR κ_45 odHeld a0 = (zR κ odHeld a0) := e3 odHeld (Or.inl (by decide)) a0
        have w45 := (soF_B (c := 0) W41 (Z39.t tW (by decide)) Zg (by rw [h1]; exact wgR9_n.1)).2.1
        intro W47
        intro M48
        intro T49
        intro T50
        refine Nu_copy_c W47 T49 T50 6500 6500 ?_ (fun κ_51 q52 => ?_)
        · rw [es3, eu3, eh3]
          exact cp_p9 Ng h15 h7 ⟨nmR_s9.2.1, by decide, by decide⟩ ⟨nmR_s9.1.2.1, by decide, by decide⟩ (by decide) (Nat.lt_of_lt_of_le Bs b4)
        intro W53
        intro M54
        rw [es3, eu3, eh3] at q52
        obtain ⟨⟨Nb, Sb⟩, Vb, Zb⟩ := cp_q9 W47 (Z45.t ts (by decide)) Ng Sg h15 h7 (by decide) ⟨nmR_s9.1.2.1, by decide⟩ q52
        have Zb0 := Zb (zR κ odCalc a0)
        have Z51 : zF (soF ρ shR9 (zR κ odCalc a0)) κ κ_51 := Z45.tr (soF_m (fun r z => by unfold shR9; omega) Zb0)
        have w51 := (soF_B (c := 0) W47 (Z45.t tW (by decide)) Zb0 (by rw [h1]; decide)).2.1
        refine hj147 _ _ _ _ _ W53 ?_ ?_ ?_
        · exact Z51.t Ta0 (by decide)  -- t21
        · exact Z51.t Ta3 (by decide)  -- t22
        · exact ⟨rfl, rfl, rfl, rfl, ⟨Z51, Nb, Sb⟩, by rw [w51, w45, w39]; exact lw1, by rw [Vb]; exact Bs⟩  -- k23
    · skip
      intro T55
      rw [lei, tot1] at c36
      have ix := cn1 (x := x38_5) l5.1 (by omega)
      refine Od_unitsOf_c W38 T55 ρ n9 P9 ?_ (fun r56 q58 => ?_)
      · exact ⟨X1, l5.1, by omega⟩  -- p24
      intro W59
      intro M60
      refine ⟨fun c61 => ?_, fun c61 => ?_⟩
      · skip
        intro x62 hx62
        refine ⟨_, ?_, rfl, ?_⟩
        · rw [hn38, hx62, ix.2]; omega  -- d25
        · exact ⟨rfl, rfl, rfl, rfl, ⟨Z1, N1, S1⟩, D1, ⟨by rw [hx62, ix.2]; omega, by rw [hx62, ix.2]; omega⟩⟩  -- i26
      · skip
        intro T63
        have sg := q58.2.2 (fun z => c61 ((lg_cmp_eq _ _).mpr z))
        have S1' : soI ρ κ38 (zR κ38 odSolver a0) := by rw [es]; exact S1
        refine So_unit_c2 W59 T63 ρ (vU9 κ38 (zR κ38 odSolver a0) x38_5.toNatClampNeg) ?_ (fun κ_64 q65 => ?_)
        · exact od_u9 N1 S1' X1 l5.1 (by omega) sg  -- p27
        obtain ⟨⟨Zu, Nu9, Su9⟩, tu, bu, du⟩ := od_v9 X1 l5.1 (by omega) sg q65
        rw [ec] at Zu
        rw [es] at Su9 tu bu du
        rw [ep] at tu bu du
        have Z64 : zF (soF ρ shR9 (zR κ odCalc a0)) κ κ_64 := Z1.tr (soF_m (fun r z => by unfold shR9; rcases z with z | z | z <;> omega) Zu)
        obtain ⟨X2, e2, _, _⟩ := odX9_f W Ta0 N0 Z64 shR9_l X0
        have es2 : zR κ_64 odSolver a0 = (zR κ odSolver a0) := e2 odSolver (Or.inl (by decide)) a0
        have ec2 : zR κ_64 odCalc a0 = (zR κ odCalc a0) := e2 odCalc (Or.inl (by decide)) a0
        have ew2 : zR κ_64 soWhole (zR κ odSolver a0) = (zR κ soWhole (zR κ odSolver a0)) := e2 soWhole (Or.inr (by decide)) _
        have ep2 : zR κ_64 soPart (zR κ odSolver a0) = (zR κ soPart (zR κ odSolver a0)) := e2 soPart (Or.inr (by decide)) _
        have eca : zR κ_64 soCalc (zR κ odSolver a0) = (zR κ odCalc a0) := by
          have y := X2.1.2
          rw [es2, ec2] at y
          exact y
        have eb2 : zR κ_64 raBottom (zR κ soPart (zR κ odSolver a0)) = zR κ38 raBottom (zR κ soPart (zR κ odSolver a0)) := (soF_r9 Zu (by decide)).1
        have w64 := (soF_B (c := 0) W38 (Z1.t tW (by decide)) Zu (by rw [h1]; unfold unR9; decide)).2.1
        have b22 : ρ (zR κ_64 raBottom (zR κ soPart (zR κ odSolver a0))) = 22 := (ra_t9 Nu9 h20 (Or.inl rfl)).1.2
        intro W66
        intro M67
        intro T68
        intro T69
        intro T70
        refine Ca_join_c W66 T68 T69 T70 6500 2000 6500 6500 ?_ (fun κ_71 q72 => ?_)
        · have J := jn_p (w := zR κ_64 raBottom (zR κ soPart (zR κ odSolver a0))) Nu9 Su9 b22 (Or.inr (Or.inr (Or.inl rfl))) ⟨by decide, by decide, by decide⟩ (by rw [ew2, w64]; exact Nat.lt_of_lt_of_le lw1 (pB9_l (by decide))) (by rw [eb2]; exact bu)
          rw [es2, ec2, ep2, ← eca]
          exact J
        intro W73
        intro M74
        intro x75 hx75
        rw [es2, ec2, ep2, ← eca] at q72
        have J := jn_q W66 Nu9 Su9 q72
        have Vj := q72.2.2.2
        rw [ew2, w64, eb2] at Vj
        rw [eca] at J
        refine ⟨_, ?_, rfl, ?_⟩
        · rw [hn38, hx75, ix.2]; omega  -- d29
        · refine ⟨rfl, rfl, rfl, rfl, ⟨Z64.tr (soF_m (fun r z => by unfold shR9; rcases z with z | z | z <;> omega) J.2.1), J.1⟩, ?_, ⟨by rw [hx75, ix.2]; omega, by rw [hx75, ix.2]; omega⟩⟩
          rw [Vj]
          exact dz9_lcm D1 du
  refine ⟨fun c76 => ?_, fun c76 => ?_⟩
  · skip
    refine ⟨fun c77 => ?_, fun c77 => ?_⟩
    · skip
      refine hj22 _ _ _ _ _ _ W ?_ ?_ ?_
      · exact Ta0  -- t31
      · exact Ta3  -- t32
      · exact ⟨rfl, rfl, rfl, rfl, rfl, trivial⟩  -- k33
    · skip
      refine hj22 _ _ _ _ _ _ W ?_ ?_ ?_
      · exact Ta0  -- t34
      · exact Ta3  -- t35
      · exact ⟨rfl, rfl, rfl, rfl, rfl, trivial⟩  -- k36
  · skip
    refine hj22 _ _ _ _ _ _ W ?_ ?_ ?_
    · exact Ta0  -- t37
    · exact Ta3  -- t38
    · exact ⟨rfl, rfl, rfl, rfl, rfl, trivial⟩  -- k39

end
section
set_option maxHeartbeats 1600000
/-! the class: Odds' groups -/
def k39 (a b c : Int32) : Nat → Int32 := fun i => if i = 0 then a else if i = 1 then b else c
theorem hhs_c9 {K K' : Nat → Int32} {x : Int32} : ∀ n, (∀ i, i < n → K i = K' i) → hhs9 K x n = hhs9 K' x n := by
  intro n
  induction n with
  | zero => intro _; rfl
  | succ n ih =>
    intro h
    show hst9 (hhs9 K x n) (K n) = hst9 (hhs9 K' x n) (K' n)
    rw [ih (fun i hi => h i (by omega)), h n (by omega)]
theorem hk_c9 {κ : zS} {h g : Nat} {K K' : Nat → Int32} {L : Int32} (hL : 0 ≤ L.toInt) (e : ∀ i, i < L.toNatClampNeg → K i = K' i) (H : hk9 κ h K L.toInt g) : hk9 κ h K' L.toInt g := by
  have k := cnk hL
  exact ⟨H.1, H.2.1, fun i hi => (H.2.2 i hi).trans (e i (by omega))⟩
theorem hkS_c9 {κ : zS} {h S g : Nat} {K K' : Nat → Int32} {L : Int32} (hL : 0 ≤ L.toInt) (e : ∀ i, i < L.toNatClampNeg → K i = K' i) (H : hkS9 κ h S K L g) : hkS9 κ h S K' L g := by
  obtain ⟨H1, j, H2, H3, H4⟩ := H
  have es : ∀ i, hs9 S K' L i = hs9 S K L i := fun i => by
    unfold hs9
    rw [hhs_c9 L.toNatClampNeg e]
  refine ⟨hk_c9 hL e H1, j, H2, fun i hi => ?_, by rw [es]; exact H4⟩
  rw [es]
  obtain ⟨a, b⟩ := H3 i hi
  exact ⟨a, fun z => b (hk_c9 hL (fun i hi => (e i hi).symm) z)⟩
theorem ho_t9 {C : zC} {n0 h : Nat} {F : Nat → Nat → Prop} {κ τ : zS} (W : zW C n0 κ) (T : zT κ h = 6) (Z : zF F κ τ) (hF : ∀ f b, F f b → f / 100 = 9) : (∀ S K L g, hkS9 τ h S K L g ↔ hkS9 κ h S K L g) ∧ (∀ S, hoU9 τ h S ↔ hoU9 κ h S) ∧ pV9 τ h = pV9 κ h ∧ zI τ hoTotal h = zI κ hoTotal h ∧ (∀ M D S, hoI κ h M D S → hoI τ h M D S) := by
  have n : ∀ f, f / 100 = 6 → ¬ F f h := fun f hf z => by
    have y := hF f h z
    omega
  have w : ∀ f, zr f = some 20 → f / 100 = 6 → zA τ (zR τ f h) = zA κ (zR κ f h) := fun f h1 h2 => (Z.row W h1 (by decide) (T.trans h2.symm) (n f h2)).1
  have s := w hoStarts (by decide +kernel) (by decide)
  have p := w hoPool (by decide +kernel) (by decide)
  have b := w hoTable (by decide +kernel) (by decide)
  have t : zI τ hoTotal h = zI κ hoTotal h := Z.i (n hoTotal (by decide))
  have k : hk9 τ h = hk9 κ h := by
    funext K L g
    unfold hk9
    rw [s, p, t]
  have wy : ∀ S, hkW9 τ h S = hkW9 κ h S := fun S => by
    funext K L j
    unfold hkW9
    rw [b, k]
  refine ⟨fun S K L g => ?_, fun S => ?_, ?_, t, fun M D S H => ?_⟩
  · unfold hkS9
    rw [b, k, wy]
  · unfold hoU9
    rw [b]
  · funext g i
    unfold pV9
    rw [t, s, p]
  · refine hoI_f H (fun f hf => Z.i (n f hf)) (fun f hf => ?_)
    have q : zr f = some 20 ∧ f / 100 = 6 := by rcases hf with rfl | rfl | rfl <;> decide +kernel
    have r := Z.r (n f q.2)
    refine ⟨r, ?_, Z.l (W.r q.1 (T.trans q.2.symm))⟩
    have y := w f q.1 q.2
    rw [r] at y
    exact y
/-- the groups in order -/
def grI9 (κ : zS) (a : Nat) : Prop := (hoI κ (zR κ odGroups a) 3000 3 8192 ∧ hoA κ (zR κ odGroups a) 3000 3 8192 ∧ hoU9 κ (zR κ odGroups a) 8192) ∧ (zN κ (zR κ odKey a)) = 3
/-- what the tables' steps touch -/
def tbF9 (a g : Nat) : Nat → Nat → Prop := fun f b => (b = a ∧ (f = odKey ∨ f = odLefts ∨ f = odRights ∨ f = odRanks)) ∨ hoF g f b
theorem tbF9_o {a g m : Nat} : frO9 m g (tbF9 a g) := fun f b z => by
  rcases z with ⟨_, z | z | z | z⟩ | ⟨y, z | z | z | z⟩
  · rw [z]; exact Or.inr (Or.inr (Or.inr (Or.inr (Or.inr (Or.inl (by decide))))))
  · rw [z]; exact Or.inr (Or.inr (Or.inr (Or.inr (Or.inr (Or.inl (by decide))))))
  · rw [z]; exact Or.inr (Or.inr (Or.inr (Or.inr (Or.inr (Or.inl (by decide))))))
  · rw [z]; exact Or.inr (Or.inr (Or.inr (Or.inr (Or.inr (Or.inl (by decide))))))
  · rw [z]; exact Or.inr (Or.inr (Or.inr (Or.inr (Or.inr (Or.inr (Or.inr ⟨by decide, y⟩))))))
  · rw [z]; exact Or.inr (Or.inr (Or.inr (Or.inr (Or.inr (Or.inr (Or.inr ⟨by decide, y⟩))))))
  · rw [z]; exact Or.inr (Or.inr (Or.inr (Or.inr (Or.inr (Or.inr (Or.inr ⟨by decide, y⟩))))))
  · rw [z]; exact Or.inr (Or.inr (Or.inr (Or.inr (Or.inr (Or.inr (Or.inr ⟨by decide, y⟩))))))
/-- a step of the tables -/
def tbS9 (κ κ' : zS) (a : Nat) : Prop := zF (tbF9 a (zR κ odGroups a)) κ κ' ∧ (∀ f, f / 100 = 9 → zR κ' f a = zR κ f a) ∧ grI9 κ' a ∧ ((zI κ hoTotal (zR κ odGroups a)).toInt ≤ (zI κ' hoTotal (zR κ odGroups a)).toInt ∧ (zI κ' hoTotal (zR κ odGroups a)).toInt ≤ (zI κ hoTotal (zR κ odGroups a)).toInt + 1) ∧ (∀ K L x, hkS9 κ (zR κ odGroups a) 8192 K L x → hkS9 κ' (zR κ odGroups a) 8192 K L x) ∧ ∀ x i : Int32, x.toInt < (zI κ hoTotal (zR κ odGroups a)).toInt → pV9 κ' (zR κ odGroups a) x i = pV9 κ (zR κ odGroups a) x i
/-- the rows of the tables stay -/
def tbN9 (κ κ' : zS) (a : Nat) : Prop := (zI κ' hoTotal (zR κ odGroups a)).toInt = (zI κ hoTotal (zR κ odGroups a)).toInt ∧ zA κ' (zR κ odLefts a) = zA κ (zR κ odLefts a) ∧ zA κ' (zR κ odRights a) = zA κ (zR κ odRights a) ∧ zA κ' (zR κ odRanks a) = zA κ (zR κ odRanks a)
theorem od_ow9 {C : zC} {n0 a f g : Nat} {κ : zS} (W : zW C n0 κ) (Ta : zT κ a = 9) (hf : zr f = some 20) (hg : zr g = some 20) (h1 : f / 100 = 9) (h2 : g / 100 = 9) (h : f ≠ g) : zR κ f a ≠ zR κ g a := ow_ne W hf (by decide) (Ta.trans h1.symm) hg (by decide) (Ta.trans h2.symm) h
theorem k39_i {a b c : Int32} {r : Nat → Int32} {i : Nat} (hi : i < (3 : Int32).toNatClampNeg) : upd (upd (upd r 0 a) 1 b) 2 c i = k39 a b c i := by
  have e : (3 : Int32).toNatClampNeg = 3 := rfl
  unfold upd k39
  by_cases z0 : i = 0
  · rw [if_neg (by omega), if_neg (by omega), if_pos z0, if_pos z0]
  · by_cases z1 : i = 1
    · rw [if_neg (by omega), if_pos z1, if_neg z0, if_pos z1]
    · rw [if_pos (by omega), if_neg z0, if_neg z1]
/-- a group is entered -/
def grP9 (κ κ' : zS) (g : Nat) (K : Nat → Int32) (v : Int32) : Prop := (0 ≤ v.toInt ∧ v.toInt < (zI κ' hoTotal g).toInt) ∧ hkS9 κ' g 8192 K 3 v.toNatClampNeg ∧ ((zI κ' hoTotal g).toInt = (zI κ hoTotal g).toInt ∨ ((zI κ' hoTotal g).toInt = (zI κ hoTotal g).toInt + 1 ∧ v.toInt = (zI κ hoTotal g).toInt)) ∧ ∀ x : Nat, hkS9 κ g 8192 K 3 x → (zI κ' hoTotal g).toInt = (zI κ hoTotal g).toInt ∧ v.toInt = (x : Int)
theorem Od_group_c {C : zC} {n0 : Nat} {a0 : Nat} {a1 : Int32} {a2 : Int32} {a3 : Int32} {κ : zS} {Q : Int32 → zS → Prop} (W : zW C n0 κ) (Ta0 : zT κ a0 = 9)  (hp : grI9 κ a0 ∧ ((zI κ hoTotal (zR κ odGroups a0)).toInt < 3000 ∨ ∃ x, hkS9 κ (zR κ odGroups a0) 8192 (k39 a1 a2 a3) 3 x)) (h : ∀ (v : Int32) (κ' : zS), (tbS9 κ κ' a0 ∧ zF (fun f b => (f = odKey ∧ b = a0) ∨ hoF (zR κ odGroups a0) f b) κ κ' ∧ grP9 κ κ' (zR κ odGroups a0) (k39 a1 a2 a3) v) → Q v κ') : zRun C 3 mOd_group [.ref a0, .int a1, .int a2, .int a3] κ (oI Q noX) := by
  refine Od_group_run W Ta0 ?_
  replace W := W.lo (Nat.le_trans W.1.2.1 W.1.2.2) (Nat.le_refl (zn κ))
  unfold w_Od_group_0
  obtain ⟨⟨⟨H1, H2, H3⟩, H4⟩, H5⟩ := hp
  have tg := ty_odGroups W Ta0
  have o := W.o (show zr odKey = some 20 by decide +kernel) (by decide) Ta0
  have l3 : zN κ (zR κ odKey a0) = 3 := H4
  have ag : a0 ≠ zR κ odGroups a0 := fun z => by rw [← z, Ta0] at tg; exact absurd tg (by decide)
  refine ⟨?_, ?_⟩
  · rw [inb_iff, l3]; decide  -- b1
  intro κ_1 hκ_1
  intro W2
  have r1 : zR κ_1 = zR κ := by rw [hκ_1]; rfl
  have n1 : zN κ_1 = zN κ := by rw [hκ_1]; rfl
  have o1 : zO κ_1 = zO κ := by rw [hκ_1]; rfl
  refine ⟨?_, ?_⟩
  · rw [inb_iff, r1, n1, l3]; decide  -- b2
  intro κ_3 hκ_3
  intro W4
  have r3 : zR κ_3 = zR κ := by rw [hκ_3]; exact r1
  have n3 : zN κ_3 = zN κ := by rw [hκ_3]; exact n1
  have o3 : zO κ_3 = zO κ := by rw [hκ_3]; exact o1
  refine ⟨?_, ?_⟩
  · rw [inb_iff, r3, n3, l3]; decide  -- b3
  intro κ_5 hκ_5
  intro W6
  intro T7
  intro T8
  have r5 : zR κ_5 = zR κ := by rw [hκ_5]; exact r3
  have n5 : zN κ_5 = zN κ := by rw [hκ_5]; exact n3
  have F1 : zF (oneF odKey a0) κ κ_1 := by rw [hκ_1]; exact zF_ua (by rw [o]; exact ⟨rfl, rfl⟩)
  have F3 : zF (oneF odKey a0) κ_1 κ_3 := by rw [hκ_3]; exact zF_ua (by rw [r1, o1, o]; exact ⟨rfl, rfl⟩)
  have F5 : zF (oneF odKey a0) κ_3 κ_5 := by rw [hκ_5]; exact zF_ua (by rw [r3, o3, o]; exact ⟨rfl, rfl⟩)
  have FF := (F1.tr F3).tr F5
  have x1 : zA κ_1 (zR κ odKey a0) = upd (zA κ (zR κ odKey a0)) 0 a1 := by rw [hκ_1]; exact if_pos rfl
  have x3 : zA κ_3 (zR κ odKey a0) = upd (zA κ_1 (zR κ odKey a0)) 1 a2 := by rw [hκ_3, r1]; exact if_pos rfl
  have x5 : zA κ_5 (zR κ odKey a0) = upd (zA κ_3 (zR κ odKey a0)) 2 a3 := by rw [hκ_5, r3]; exact if_pos rfl
  have K5 : ∀ i, i < (3 : Int32).toNatClampNeg → zA κ_5 (zR κ odKey a0) i = k39 a1 a2 a3 i := fun i hi => by
    rw [x5, x3, x1]
    exact k39_i hi
  obtain ⟨V1, V2, V3, V4, V5⟩ := ho_t9 W tg FF (fun f b z => by rw [z.1]; decide)
  have I5 := V5 _ _ _ H1
  have A5 : hoA κ_5 (zR κ odGroups a0) 3000 3 8192 := hoI_A I5 (Or.inr (by rw [r5, n5, H2.1]; decide))
  refine Ho_enter_c2 W6 T7 T8 3000 3 8192 ?_ (fun r9 κ_10 q11 => ?_)
  · rw [r5]
    exact ⟨I5, Or.inr (Or.inr ⟨rfl, rfl, rfl⟩), by decide, A5, (V2 _).mpr H3, by rw [n5, l3]; decide⟩
  intro W12
  intro M13
  refine h _ _ ?_
  · rw [r5] at q11
    obtain ⟨⟨Z7, I7, A7, v0, v1, e7⟩, u7, p7, s7, d7, f7, w7⟩ := q11
    have t3 : (3 : Int32).toInt = 3 := rfl
    have t30 : (3000 : Int32).toInt = 3000 := rfl
    have vn : 0 ≤ r9.toInt := by
      by_cases y : 0 ≤ r9.toInt
      · exact y
      · have q := f7 (by omega)
        rw [V4, t3, t30] at q
        rcases H5 with z | ⟨x, z⟩
        · omega
        · have w := (d7 x (hkS_c9 (by decide) (fun i hi => (K5 i hi).symm) ((V1 _ _ _ _).mpr z))).2
          omega
    rw [if_neg (by rw [lti, t0i]; omega)]
    have rr : ∀ f, f / 100 = 9 → zR κ_10 f a0 = zR κ f a0 := fun f _ => (Z7.r (fun z => ag z.1)).trans (by rw [r5])
    have tot : (zI κ_10 hoTotal (zR κ odGroups a0)).toInt = (zI κ hoTotal (zR κ odGroups a0)).toInt ∨ ((zI κ_10 hoTotal (zR κ odGroups a0)).toInt = (zI κ hoTotal (zR κ odGroups a0)).toInt + 1 ∧ r9.toInt = (zI κ hoTotal (zR κ odGroups a0)).toInt) := by
      rcases e7 with z | z
      · left
        rw [z, V4]
      · right
        have z1 := z.1
        have z2 := z.2.1
        rw [V4] at z1 z2
        exact ⟨z1, z2⟩
    have kl : zN κ_10 (zR κ odKey a0) = 3 := by
      rw [Z7.l (c := 19) (FF.t (ty_odKey W Ta0) (by decide)), n5]
      exact l3
    refine ⟨⟨(FF.mono (fun f b z => Or.inl ⟨z.2, Or.inl z.1⟩)).tr (Z7.mono (fun f b z => Or.inr z)), rr, ⟨?_, by rw [rr odKey (by decide)]; exact kl⟩, by omega, fun K L x H => p7 _ _ _ ((V1 _ _ _ _).mpr H), fun x i hx => by rw [w7 x i (by rw [V4]; exact hx), V3]⟩, (FF.mono (fun f b z => Or.inl z)).tr (Z7.mono (fun f b z => Or.inr z)), ⟨vn, v1⟩, hkS_c9 (by decide) K5 (s7 vn), tot, fun x H => ?_⟩
    · rw [rr odGroups (by decide)]
      exact ⟨I7, A7, u7⟩
    · have w := d7 x (hkS_c9 (by decide) (fun i hi => (K5 i hi).symm) ((V1 _ _ _ _).mpr H))
      exact ⟨by rw [w.1, V4], w.2⟩

/-- tables and their ranks in order -/
def gP9 (T : Int) (tag tb : Int32 → Int32) (lf rt rk : Nat → Int32) (ml mr : Int) : Prop := ∀ x : Int32, 0 ≤ x.toInt → x.toInt < T → (tag x = 0 → (0 ≤ (lf x.toNatClampNeg).toInt ∧ (lf x.toNatClampNeg).toInt ≤ ml) ∧ 0 ≤ (rt x.toNatClampNeg).toInt ∧ (rt x.toNatClampNeg).toInt ≤ mr) ∧ (tag x = 1 → ((0 ≤ (tb x).toInt ∧ (tb x).toInt < T) ∧ tag (tb x) = 0) ∧ 0 ≤ (rk x.toNatClampNeg).toInt ∧ (rk x.toNatClampNeg).toInt < (lf (tb x).toNatClampNeg).toInt) ∧ (tag x = 2 → ((0 ≤ (tb x).toInt ∧ (tb x).toInt < T) ∧ tag (tb x) = 0) ∧ 0 ≤ (rk x.toNatClampNeg).toInt ∧ (rk x.toNatClampNeg).toInt < (rt (tb x).toNatClampNeg).toInt)
theorem gp_m9 {T : Int} {tag tb : Int32 → Int32} {lf rt rk : Nat → Int32} {ml mr ml' mr' : Int} (h : gP9 T tag tb lf rt rk ml mr) (h1 : ml ≤ ml') (h2 : mr ≤ mr') : gP9 T tag tb lf rt rk ml' mr' := fun x x0 x1 => by
  obtain ⟨a, b, c⟩ := h x x0 x1
  exact ⟨fun z => ⟨⟨(a z).1.1, Int.le_trans (a z).1.2 h1⟩, (a z).2.1, Int.le_trans (a z).2.2 h2⟩, b, c⟩
/-- the same groups -/
theorem gp_e9 {T : Int} {tag tb tag' tb' : Int32 → Int32} {lf rt rk : Nat → Int32} {ml mr : Int} (h : gP9 T tag tb lf rt rk ml mr) (e1 : ∀ x, x.toInt < T → tag' x = tag x) (e2 : ∀ x, x.toInt < T → tb' x = tb x) : gP9 T tag' tb' lf rt rk ml mr := fun x x0 x1 => by
  rw [e1 x x1, e2 x x1]
  obtain ⟨a, b, c⟩ := h x x0 x1
  exact ⟨a, fun z => ⟨⟨(b z).1.1, by rw [e1 _ (b z).1.1.2]; exact (b z).1.2⟩, (b z).2⟩, fun z => ⟨⟨(c z).1.1, by rw [e1 _ (c z).1.1.2]; exact (c z).1.2⟩, (c z).2⟩⟩
/-- a new table -/
theorem gp_t9 {T : Int} {n : Int32} {tag tb tag' tb' : Int32 → Int32} {lf rt rk : Nat → Int32} {ml mr : Int} (h : gP9 T tag tb lf rt rk ml mr) (hn : n.toInt = T) (hT : 0 ≤ T) (e1 : ∀ x, x.toInt < T → tag' x = tag x) (e2 : ∀ x, x.toInt < T → tb' x = tb x) (en : tag' n = 0) (h1 : 0 ≤ ml) (h2 : 0 ≤ mr) : gP9 (T + 1) tag' tb' (upd lf n.toNatClampNeg 0) (upd rt n.toNatClampNeg 0) rk ml mr := fun x x0 x1 => by
  have kx := cnk x0
  have kn := cnk (x := n) (by omega)
  by_cases z : x.toInt = T
  · have ex : x = n := Int32.toInt_inj.mp (z.trans hn.symm)
    rw [ex, en]
    refine ⟨fun _ => ?_, fun y => absurd y (by decide), fun y => absurd y (by decide)⟩
    unfold upd
    rw [if_pos rfl, if_pos rfl, t0i]
    exact ⟨⟨Int.le_refl _, h1⟩, Int.le_refl _, h2⟩
  · have xl : x.toInt < T := by omega
    rw [e1 x xl, e2 x xl]
    obtain ⟨a, b, c⟩ := h x x0 xl
    have ne : ∀ y : Int32, 0 ≤ y.toInt → y.toInt < T → ∀ r : Nat → Int32, upd r n.toNatClampNeg 0 y.toNatClampNeg = r y.toNatClampNeg := fun y y0 y1 r => by
      have ky := cnk y0
      exact if_neg (by omega)
    refine ⟨fun q => ?_, fun q => ?_, fun q => ?_⟩
    · rw [ne x x0 xl, ne x x0 xl]
      exact a q
    · obtain ⟨⟨⟨q1, q2⟩, q3⟩, q4⟩ := b q
      rw [ne _ q1 q2, e1 _ q2]
      exact ⟨⟨⟨q1, by omega⟩, q3⟩, q4⟩
    · obtain ⟨⟨⟨q1, q2⟩, q3⟩, q4⟩ := c q
      rw [ne _ q1 q2, e1 _ q2]
      exact ⟨⟨⟨q1, by omega⟩, q3⟩, q4⟩
/-- a new number of the first -/
theorem gp_l9 {T : Int} {n t : Int32} {tag tb tag' tb' : Int32 → Int32} {lf rt rk : Nat → Int32} {ml mr : Int} (h : gP9 T tag tb lf rt rk ml mr) (hn : n.toInt = T) (hT : 0 ≤ T) (e1 : ∀ x, x.toInt < T → tag' x = tag x) (e2 : ∀ x, x.toInt < T → tb' x = tb x) (en : tag' n = 1) (et : tb' n = t) (t0 : 0 ≤ t.toInt) (t1 : t.toInt < T) (tt : tag t = 0) (hm : ml < 100000) : gP9 (T + 1) tag' tb' (upd lf t.toNatClampNeg (lf t.toNatClampNeg + 1)) rt (upd rk n.toNatClampNeg (lf t.toNatClampNeg)) (ml + 1) mr := fun x x0 x1 => by
  have kx := cnk x0
  have kn := cnk (x := n) (by omega)
  have kt := cnk t0
  obtain ⟨⟨ta, tb9⟩, _⟩ := (h t t0 t1).1 tt
  have i1 : (lf t.toNatClampNeg + 1).toInt = (lf t.toNatClampNeg).toInt + 1 := by rw [add_i (by rw [t1i]; omega) (by rw [t1i]; omega), t1i]
  have up : ∀ y : Int32, 0 ≤ y.toInt → (lf y.toNatClampNeg).toInt ≤ (upd lf t.toNatClampNeg (lf t.toNatClampNeg + 1) y.toNatClampNeg).toInt ∧ (upd lf t.toNatClampNeg (lf t.toNatClampNeg + 1) y.toNatClampNeg).toInt ≤ (lf y.toNatClampNeg).toInt + 1 := fun y y0 => by
    unfold upd
    by_cases w : y.toNatClampNeg = t.toNatClampNeg
    · rw [if_pos w, i1, w]; omega
    · rw [if_neg w]; omega
  by_cases z : x.toInt = T
  · have ex : x = n := Int32.toInt_inj.mp (z.trans hn.symm)
    rw [ex, en, et]
    refine ⟨fun y => absurd y (by decide), fun _ => ⟨⟨⟨t0, by omega⟩, by rw [e1 t t1]; exact tt⟩, ?_⟩, fun y => absurd y (by decide)⟩
    unfold upd
    rw [if_pos rfl, if_pos rfl, i1]
    omega
  · have xl : x.toInt < T := by omega
    rw [e1 x xl, e2 x xl]
    obtain ⟨a, b, c⟩ := h x x0 xl
    have ne : upd rk n.toNatClampNeg (lf t.toNatClampNeg) x.toNatClampNeg = rk x.toNatClampNeg := if_neg (by omega)
    refine ⟨fun q => ?_, fun q => ?_, fun q => ?_⟩
    · have u := up x x0
      have a1 := a q
      exact ⟨⟨by omega, by omega⟩, a1.2⟩
    · obtain ⟨⟨⟨q1, q2⟩, q3⟩, q4, q5⟩ := b q
      have u := up (tb x) q1
      rw [ne, e1 _ q2]
      exact ⟨⟨⟨q1, by omega⟩, q3⟩, q4, by omega⟩
    · obtain ⟨⟨⟨q1, q2⟩, q3⟩, q4⟩ := c q
      rw [ne, e1 _ q2]
      exact ⟨⟨⟨q1, by omega⟩, q3⟩, q4⟩
/-- a new number of the second -/
theorem gp_r9 {T : Int} {n t : Int32} {tag tb tag' tb' : Int32 → Int32} {lf rt rk : Nat → Int32} {ml mr : Int} (h : gP9 T tag tb lf rt rk ml mr) (hn : n.toInt = T) (hT : 0 ≤ T) (e1 : ∀ x, x.toInt < T → tag' x = tag x) (e2 : ∀ x, x.toInt < T → tb' x = tb x) (en : tag' n = 2) (et : tb' n = t) (t0 : 0 ≤ t.toInt) (t1 : t.toInt < T) (tt : tag t = 0) (hm : mr < 100000) : gP9 (T + 1) tag' tb' lf (upd rt t.toNatClampNeg (rt t.toNatClampNeg + 1)) (upd rk n.toNatClampNeg (rt t.toNatClampNeg)) ml (mr + 1) := fun x x0 x1 => by
  have kx := cnk x0
  have kn := cnk (x := n) (by omega)
  have kt := cnk t0
  obtain ⟨_, ta, tb9⟩ := (h t t0 t1).1 tt
  have i1 : (rt t.toNatClampNeg + 1).toInt = (rt t.toNatClampNeg).toInt + 1 := by rw [add_i (by rw [t1i]; omega) (by rw [t1i]; omega), t1i]
  have up : ∀ y : Int32, 0 ≤ y.toInt → (rt y.toNatClampNeg).toInt ≤ (upd rt t.toNatClampNeg (rt t.toNatClampNeg + 1) y.toNatClampNeg).toInt ∧ (upd rt t.toNatClampNeg (rt t.toNatClampNeg + 1) y.toNatClampNeg).toInt ≤ (rt y.toNatClampNeg).toInt + 1 := fun y y0 => by
    unfold upd
    by_cases w : y.toNatClampNeg = t.toNatClampNeg
    · rw [if_pos w, i1, w]; omega
    · rw [if_neg w]; omega
  by_cases z : x.toInt = T
  · have ex : x = n := Int32.toInt_inj.mp (z.trans hn.symm)
    rw [ex, en, et]
    refine ⟨fun y => absurd y (by decide), fun y => absurd y (by decide), fun _ => ⟨⟨⟨t0, by omega⟩, by rw [e1 t t1]; exact tt⟩, ?_⟩⟩
    unfold upd
    rw [if_pos rfl, if_pos rfl, i1]
    omega
  · have xl : x.toInt < T := by omega
    rw [e1 x xl, e2 x xl]
    obtain ⟨a, b, c⟩ := h x x0 xl
    have ne : upd rk n.toNatClampNeg (rt t.toNatClampNeg) x.toNatClampNeg = rk x.toNatClampNeg := if_neg (by omega)
    refine ⟨fun q => ?_, fun q => ?_, fun q => ?_⟩
    · have u := up x x0
      have a1 := a q
      exact ⟨a1.1, by omega, by omega⟩
    · obtain ⟨⟨⟨q1, q2⟩, q3⟩, q4⟩ := b q
      rw [ne, e1 _ q2]
      exact ⟨⟨⟨q1, by omega⟩, q3⟩, q4⟩
    · obtain ⟨⟨⟨q1, q2⟩, q3⟩, q4, q5⟩ := c q
      have u := up (tb x) q1
      rw [ne, e1 _ q2]
      exact ⟨⟨⟨q1, by omega⟩, q3⟩, q4, by omega⟩
def gI9 (κ : zS) (a : Nat) (ml mr : Int) : Prop := gP9 ((zI κ hoTotal (zR κ odGroups a)).toInt) (fun x => pV9 κ (zR κ odGroups a) x 0) (fun x => pV9 κ (zR κ odGroups a) x 1) (zA κ (zR κ odLefts a)) (zA κ (zR κ odRights a)) (zA κ (zR κ odRanks a)) ml mr
/-- the tables' rows are made -/
def tbL9 (κ : zS) (a : Nat) : Prop := (zN κ (zR κ odLefts a)) = 3000 ∧ (zN κ (zR κ odRights a)) = 3000 ∧ (zN κ (zR κ odBases a)) = 3000 ∧ (zN κ (zR κ odRanks a)) = 3000 ∧ (zN κ (zR κ odCellOf a)) = 1000 ∧ (zN κ (zR κ odHeads a)) = 1000 ∧ (zN κ (zR κ odEdges a)) = 31

end
section
set_option maxHeartbeats 1600000
/-! the class: Odds' tableOf, rankOf -/
theorem gr_w9 {C : zC} {n0 a g f : Nat} {κ τ : zS} (W : zW C n0 κ) (Ta : zT κ a = 9) (Z : zF (fun f b => (f = odKey ∧ b = a) ∨ hoF g f b) κ τ) (hg : a ≠ g) (hf : zr f = some 20) (h9 : f / 100 = 9) (hk : f ≠ odKey) : zR τ f a = zR κ f a ∧ zA τ (zR κ f a) = zA κ (zR κ f a) ∧ zN τ (zR κ f a) = zN κ (zR κ f a) := by
  have n : ¬ ((f = odKey ∧ a = a) ∨ hoF g f a) := fun z => by
    rcases z with z | z
    · exact hk z.1
    · exact hg z.1
  have r := Z.r n
  have w := (Z.row W hf (by decide) (Ta.trans h9.symm) n).1
  rw [r] at w
  exact ⟨r, w, Z.l (W.r hf (Ta.trans h9.symm))⟩
/-- a step among the tables' rows -/
theorem tb_u9 {C : zC} {n0 a : Nat} {κ τ τ' : zS} (Wt : zW C n0 τ) (Tt : zT τ a = 9) (S : tbS9 κ τ a) (Z : zF (fun f b => b = a ∧ (f = odLefts ∨ f = odRights ∨ f = odRanks)) τ τ') (eR : zR τ' = zR τ) (eN : zN τ' = zN τ) : tbS9 κ τ' a ∧ (∀ K L x, hkS9 τ' (zR κ odGroups a) 8192 K L x ↔ hkS9 τ (zR κ odGroups a) 8192 K L x) ∧ pV9 τ' (zR κ odGroups a) = pV9 τ (zR κ odGroups a) ∧ zI τ' hoTotal (zR κ odGroups a) = zI τ hoTotal (zR κ odGroups a) := by
  obtain ⟨s1, s2, s3, s4, s5, s6⟩ := S
  have tg : zT τ (zR κ odGroups a) = 6 := by
    rw [← s2 odGroups (by decide)]
    exact ty_odGroups Wt Tt
  obtain ⟨V1, V2, V3, V4, V5⟩ := ho_t9 Wt tg Z (fun f b z => by rcases z.2 with y | y | y <;> rw [y] <;> decide)
  refine ⟨⟨s1.tr (Z.mono (fun f b z => Or.inl ⟨z.1, Or.inr z.2⟩)), fun f hf => by rw [eR]; exact s2 f hf, ?_, by rw [V4]; exact s4, fun K L x H => (V1 _ _ _ _).mpr (s5 K L x H), fun x i hx => by rw [V3]; exact s6 x i hx⟩, fun K L x => V1 _ _ _ _, V3, V4⟩
  obtain ⟨⟨g1, g2, g3⟩, g4⟩ := s3
  unfold grI9
  rw [eR, eN]
  rw [s2 odGroups (by decide)] at g1 g2 g3 ⊢
  have I := V5 _ _ _ g1
  refine ⟨⟨I, hoI_A I (Or.inr ?_), (V2 _).mpr g3⟩, g4⟩
  rw [eR, eN, g2.1]
  decide
/-- the key of an ending's table -/
def tK9 (κ : zS) (a : Nat) (e t : Int32) : Nat → Int32 := k39 0 (if t = -1 then 0 else pV9 κ (zR κ atEndings (zR κ odAtlas a)) e t) 0
theorem tb_l9 {C : zC} {n0 a : Nat} {κ τ : zS} (W : zW C n0 κ) (Ta : zT κ a = 9) (S : tbS9 κ τ a) (L : tbL9 κ a) : tbL9 τ a := by
  obtain ⟨s1, s2, _⟩ := S
  obtain ⟨l1, l2, l3, l4, l5, l6, l7⟩ := L
  unfold tbL9
  rw [s2 odLefts (by decide), s2 odRights (by decide), s2 odBases (by decide), s2 odRanks (by decide), s2 odCellOf (by decide), s2 odHeads (by decide), s2 odEdges (by decide)]
  rw [s1.l (ty_odLefts W Ta), s1.l (ty_odRights W Ta), s1.l (ty_odBases W Ta), s1.l (ty_odRanks W Ta), s1.l (ty_odCellOf W Ta), s1.l (ty_odHeads W Ta), s1.l (ty_odEdges W Ta)]
  exact ⟨l1, l2, l3, l4, l5, l6, l7⟩
theorem Od_tableOf_c {C : zC} {n0 : Nat} {a0 : Nat} {a1 : Int32} {a2 : Int32} {κ : zS} {Q : Int32 → zS → Prop} (W : zW C n0 κ) (Ta0 : zT κ a0 = 9) (ml mr : Int) (hp : (grI9 κ a0 ∧ tbL9 κ a0 ∧ gI9 κ a0 ml mr) ∧ (0 ≤ ml ∧ 0 ≤ mr) ∧ hoI κ (zR κ atEndings (zR κ odAtlas a0)) 1000 35 2048 ∧ ((zI κ hoTotal (zR κ odGroups a0)).toInt < 3000 ∨ ∃ x, hkS9 κ (zR κ odGroups a0) 8192 (tK9 κ a0 a1 a2) 3 x)) (h : ∀ (v : Int32) (κ' : zS), (tbS9 κ κ' a0 ∧ gI9 κ' a0 ml mr ∧ (0 ≤ v.toInt ∧ v.toInt < (zI κ' hoTotal (zR κ odGroups a0)).toInt) ∧ hkS9 κ' (zR κ odGroups a0) 8192 (tK9 κ a0 a1 a2) 3 v.toNatClampNeg ∧ ∀ x : Nat, hkS9 κ (zR κ odGroups a0) 8192 (tK9 κ a0 a1 a2) 3 x → tbN9 κ κ' a0 ∧ v.toInt = (x : Int)) → Q v κ') : zRun C 4 mOd_tableOf [.ref a0, .int a1, .int a2] κ (oI Q noX) := by
  refine Od_tableOf_run W Ta0 ?_
  replace W := W.lo (Nat.le_trans W.1.2.1 W.1.2.2) (Nat.le_refl (zn κ))
  unfold w_Od_tableOf_0
  obtain ⟨⟨G0, L0, I0⟩, ⟨m1, m2⟩, E0, H5⟩ := hp
  have tg := ty_odGroups W Ta0
  have ag : a0 ≠ zR κ odGroups a0 := fun z => by rw [← z, Ta0] at tg; exact absurd tg (by decide)
  have tM := G0.1.1.2.1
  have hj31 : ∀ (l0 : Nat) (l3 : Int32) (s0 : Nat) (s1 : Int32) (s2 : Int32) (τ : zS), zW C (zn κ) τ → zT τ l0 = 9 → zT τ s0 = 9 → (κ = τ ∧ a0 = l0 ∧ l3 = zI κ hoTotal (zR κ odGroups a0) ∧ s0 = a0 ∧ s1 = 0 ∧ k39 s1 s2 0 = tK9 κ a0 a1 a2) → w_Od_tableOf_31 C (zn κ) Q  l0 l3 s0 s1 s2 τ := by
    rintro _ y31_3 y31_s0 y31_s1 y31_s2 _ W31 T31_0 T31_1 ⟨rfl, rfl, j31⟩
    unfold w_Od_tableOf_31
    intro T1
    obtain ⟨jt, rfl, j0, jk⟩ := j31
    refine Od_group_c W31 T1  ?_ (fun r2 κ_3 q4 => ?_)
    · rw [jk]
      exact ⟨G0, H5⟩
    intro W5
    intro M6
    rw [jk] at q4
    obtain ⟨S3, Z3, ⟨v0, v1⟩, hs, tt, dd⟩ := q4
    have wl := gr_w9 W Ta0 Z3 ag (f := odLefts) (by decide +kernel) (by decide) (by decide)
    have wr := gr_w9 W Ta0 Z3 ag (f := odRights) (by decide +kernel) (by decide) (by decide)
    have wk := gr_w9 W Ta0 Z3 ag (f := odRanks) (by decide +kernel) (by decide) (by decide)
    have eg := S3.2.1 odGroups (by decide)
    have T3 : zT κ_3 y31_s0 = 9 := Z3.t Ta0 (by decide)
    have tM3 := S3.2.2.1.1.1.2.1.2
    rw [eg] at tM3
    refine ⟨fun c7 => ?_, fun c7 => ?_⟩
    · skip
      refine h _ _ ?_
      · have te : (zI κ_3 hoTotal (zR κ odGroups y31_s0)).toInt = (zI κ hoTotal (zR κ odGroups y31_s0)).toInt := by
          rcases tt with z | z
          · exact z
          · exact absurd (Int32.toInt_inj.mp (by rw [jt]; exact z.2)) c7
        refine ⟨S3, ?_, ⟨v0, v1⟩, hs, fun x H => ⟨⟨te, wl.2.1, wr.2.1, wk.2.1⟩, (dd x H).2⟩⟩
        unfold gI9
        rw [eg, te, wl.1, wr.1, wk.1, wl.2.1, wr.2.1, wk.2.1]
        exact gp_e9 I0 (fun x hx => S3.2.2.2.2.2 x 0 hx) (fun x hx => S3.2.2.2.2.2 x 1 hx)
    · skip
      refine ⟨?_, ?_⟩
      · rw [inb_iff, wl.1, wl.2.2, L0.1]; omega  -- b3
      intro κ_8 hκ_8
      intro W9
      have r8 : zR κ_8 = zR κ_3 := by rw [hκ_8]; rfl
      have n8 : zN κ_8 = zN κ_3 := by rw [hκ_8]; rfl
      have o8 : zO κ_8 = zO κ_3 := by rw [hκ_8]; rfl
      refine ⟨?_, ?_⟩
      · rw [inb_iff, r8, n8, wr.1, wr.2.2, L0.2.1]; omega  -- b4
      intro κ_10 hκ_10
      intro W11
      refine h _ _ ?_
      · have r10 : zR κ_10 = zR κ_3 := by rw [hκ_10]; exact r8
        have n10 : zN κ_10 = zN κ_3 := by rw [hκ_10]; exact n8
        have rv : r2.toInt = (zI κ hoTotal (zR κ odGroups y31_s0)).toInt := by rw [c7, jt]
        have te : (zI κ_3 hoTotal (zR κ odGroups y31_s0)).toInt = (zI κ hoTotal (zR κ odGroups y31_s0)).toInt + 1 := by
          rcases tt with z | z
          · omega
          · exact z.1
        have ol := W5.o (show zr odLefts = some 20 by decide +kernel) (by decide) T3
        have or := W5.o (show zr odRights = some 20 by decide +kernel) (by decide) T3
        have Z10 : zF (fun f b => b = y31_s0 ∧ (f = odLefts ∨ f = odRights ∨ f = odRanks)) κ_3 κ_10 := by
          have a1 : zF (fun f b => b = y31_s0 ∧ (f = odLefts ∨ f = odRights ∨ f = odRanks)) κ_3 κ_8 := by rw [hκ_8]; exact zF_ua (by rw [ol]; exact ⟨rfl, Or.inl rfl⟩)
          have a2 : zF (fun f b => b = y31_s0 ∧ (f = odLefts ∨ f = odRights ∨ f = odRanks)) κ_8 κ_10 := by rw [hκ_10]; exact zF_ua (by rw [r8, o8, or]; exact ⟨rfl, Or.inr (Or.inl rfl)⟩)
          exact a1.tr a2
        have U := tb_u9 W5 T3 S3 Z10 r10 n10
        have nlr := od_ow9 W5 T3 (f := odLefts) (g := odRights) (by decide +kernel) (by decide +kernel) (by decide) (by decide) (by decide)
        have nkl := od_ow9 W5 T3 (f := odRanks) (g := odLefts) (by decide +kernel) (by decide +kernel) (by decide) (by decide) (by decide)
        have nkr := od_ow9 W5 T3 (f := odRanks) (g := odRights) (by decide +kernel) (by decide +kernel) (by decide) (by decide) (by decide)
        have xl : zA κ_10 (zR κ_3 odLefts y31_s0) = upd (zA κ (zR κ odLefts y31_s0)) r2.toNatClampNeg 0 := by
          rw [hκ_10, r8]
          refine (if_neg nlr).trans ?_
          rw [hκ_8]
          refine (if_pos rfl).trans ?_
          rw [wl.1]
          show upd (zA κ_3 (zR κ odLefts y31_s0)) _ _ = _
          rw [wl.2.1]
        have xr : zA κ_10 (zR κ_3 odRights y31_s0) = upd (zA κ (zR κ odRights y31_s0)) r2.toNatClampNeg 0 := by
          rw [hκ_10, r8]
          refine (if_pos rfl).trans ?_
          rw [hκ_8]
          show upd ((ua κ_3 (zR κ_3 odLefts y31_s0) r2.toNatClampNeg 0).2.2.2.2.1 (zR κ_3 odRights y31_s0)) _ _ = _
          have q : (ua κ_3 (zR κ_3 odLefts y31_s0) r2.toNatClampNeg 0).2.2.2.2.1 (zR κ_3 odRights y31_s0) = zA κ_3 (zR κ_3 odRights y31_s0) := if_neg (Ne.symm nlr)
          rw [q, wr.1, wr.2.1]
        have xk : zA κ_10 (zR κ_3 odRanks y31_s0) = zA κ (zR κ odRanks y31_s0) := by
          rw [hκ_10, r8]
          refine (if_neg nkr).trans ?_
          rw [hκ_8]
          refine (if_neg nkl).trans ?_
          show zA κ_3 (zR κ_3 odRanks y31_s0) = _
          rw [wk.1, wk.2.1]
        refine ⟨U.1, ?_, ⟨v0, by rw [U.2.2.2]; exact v1⟩, (U.2.1 _ _ _).mpr hs, fun x H => ?_⟩
        · unfold gI9
          rw [r10, xl, xr, xk, eg, U.2.2.2, U.2.2.1, te]
          refine gp_t9 I0 rv tM.1 (fun x hx => S3.2.2.2.2.2 x 0 hx) (fun x hx => S3.2.2.2.2.2 x 1 hx) ?_ m1 m2
          exact pV9_k (K := tK9 κ y31_s0 a1 a2) v0 hs.1 (by decide) (by decide)
        · have y := (dd x H).1
          omega
  intro x12 hx12
  refine ⟨fun c13 => ?_, fun c13 => ?_⟩
  · skip
    intro T14
    refine Ho_part_c2 W T14 1000 35 2048 ?_ (fun r15 q17 => ?_)
    · exact ⟨E0, Or.inr (Or.inl ⟨rfl, rfl, rfl⟩)⟩  -- p6
    intro W18
    intro M19
    refine hj31 _ _ _ _ _ _ W18 ?_ ?_ ?_
    · exact Ta0  -- t7
    · exact Ta0  -- t8
    · refine ⟨rfl, rfl, hx12, rfl, rfl, ?_⟩
      unfold tK9
      rw [if_neg c13, q17]
  · skip
    refine hj31 _ _ _ _ _ _ W ?_ ?_ ?_
    · exact Ta0  -- t10
    · exact Ta0  -- t11
    · refine ⟨rfl, rfl, hx12, rfl, rfl, ?_⟩
      unfold tK9
      rw [if_pos c13]

theorem Od_rankOf_c1 {C : zC} {n0 : Nat} {a0 : Nat} {a1 : Int32} {a2 : Int32} {a3 : Int32} {a4 : Nat} {κ : zS} {Q : Int32 → zS → Prop} (W : zW C n0 κ) (Ta0 : zT κ a0 = 9) (Ta4 : zT κ a4 = 20) (ml mr : Int) (hp : (grI9 κ a0 ∧ tbL9 κ a0 ∧ gI9 κ a0 ml mr) ∧ (ml < 100000 ∧ mr < 100000) ∧ (a1 = 1 ∧ a4 = zR κ odLefts a0) ∧ (0 ≤ a2.toInt ∧ a2.toInt < (zI κ hoTotal (zR κ odGroups a0)).toInt ∧ pV9 κ (zR κ odGroups a0) a2 0 = 0) ∧ ((zI κ hoTotal (zR κ odGroups a0)).toInt < 3000 ∨ ∃ x, hkS9 κ (zR κ odGroups a0) 8192 (k39 1 a2 a3) 3 x)) (h : ∀ (v : Int32) (κ' : zS), (∃ x : Int32, (tbS9 κ κ' a0 ∧ gI9 κ' a0 (ml + 1) mr ∧ (0 ≤ x.toInt ∧ x.toInt < (zI κ' hoTotal (zR κ odGroups a0)).toInt) ∧ hkS9 κ' (zR κ odGroups a0) 8192 (k39 1 a2 a3) 3 x.toNatClampNeg ∧ ∀ y : Nat, hkS9 κ (zR κ odGroups a0) 8192 (k39 1 a2 a3) 3 y → tbN9 κ κ' a0 ∧ x.toInt = (y : Int)) ∧ v = zA κ' (zR κ' odRanks a0) x.toNatClampNeg) → Q v κ') : zRun C 4 mOd_rankOf [.ref a0, .int a1, .int a2, .int a3, .ref a4] κ (oI Q noX) := by
  refine Od_rankOf_run W Ta0 Ta4 ?_
  replace W := W.lo (Nat.le_trans W.1.2.1 W.1.2.2) (Nat.le_refl (zn κ))
  unfold w_Od_rankOf_0
  obtain ⟨⟨G0, L0, I0⟩, ⟨m1, m2⟩, ⟨ea1, ea4⟩, ⟨t0, t1, tg0⟩, H5⟩ := hp
  subst ea1
  have tg := ty_odGroups W Ta0
  have ag : a0 ≠ zR κ odGroups a0 := fun z => by rw [← z, Ta0] at tg; exact absurd tg (by decide)
  have tM := G0.1.1.2.1
  have k2 := cnk t0
  have hj44 : ∀ (l0 : Nat) (l6 : Int32) (τ : zS), zW C (zn κ) τ → zT τ l0 = 9 → (a0 = l0 ∧ tbS9 κ τ a0 ∧ gI9 τ a0 (ml + 1) mr ∧ (0 ≤ l6.toInt ∧ l6.toInt < (zI τ hoTotal (zR κ odGroups a0)).toInt) ∧ hkS9 τ (zR κ odGroups a0) 8192 (k39 1 a2 a3) 3 l6.toNatClampNeg ∧ ∀ y : Nat, hkS9 κ (zR κ odGroups a0) 8192 (k39 1 a2 a3) 3 y → tbN9 κ τ a0 ∧ l6.toInt = (y : Int)) → w_Od_rankOf_44 C (zn κ) Q  l0 l6 τ := by
    rintro _ y44_6 τ44 W44 T44_0 ⟨rfl, j44⟩
    unfold w_Od_rankOf_44
    refine ⟨?_, ?_⟩
    · have q := j44.1.2.2.1.1.1.2.1.2
      rw [j44.1.2.1 odGroups (by decide)] at q
      rw [inb_iff, (tb_l9 W Ta0 j44.1 L0).2.2.2.1]
      exact ⟨j44.2.2.1.1, Int.lt_of_lt_of_le j44.2.2.1.2 q⟩
    refine h _ _ ?_
    · exact ⟨y44_6, j44, rfl⟩  -- q2
  intro x1 hx1
  intro T2
  refine Od_group_c W T2  ?_ (fun r3 κ_4 q5 => ?_)
  · exact ⟨G0, H5⟩  -- p3
  intro W6
  intro M7
  obtain ⟨S3, Z3, ⟨v0, v1⟩, hs, tt, dd⟩ := q5
  have wl := gr_w9 W Ta0 Z3 ag (f := odLefts) (by decide +kernel) (by decide) (by decide)
  have wr := gr_w9 W Ta0 Z3 ag (f := odRights) (by decide +kernel) (by decide) (by decide)
  have wk := gr_w9 W Ta0 Z3 ag (f := odRanks) (by decide +kernel) (by decide) (by decide)
  have eg := S3.2.1 odGroups (by decide)
  have T3 : zT κ_4 a0 = 9 := Z3.t Ta0 (by decide)
  have tM3 := S3.2.2.1.1.1.2.1.2
  rw [eg] at tM3
  refine ⟨fun c8 => ?_, fun c8 => ?_⟩
  · skip
    refine hj44 _ _ _ W6 ?_ ?_
    · exact T3  -- t4
    · have te : (zI κ_4 hoTotal (zR κ odGroups a0)).toInt = (zI κ hoTotal (zR κ odGroups a0)).toInt := by
        rcases tt with z | z
        · exact z
        · exact absurd (Int32.toInt_inj.mp (by rw [hx1]; exact z.2)) c8
      refine ⟨rfl, S3, ?_, ⟨v0, v1⟩, hs, fun x H => ⟨⟨te, wl.2.1, wr.2.1, wk.2.1⟩, (dd x H).2⟩⟩
      unfold gI9
      rw [eg, te, wl.1, wr.1, wk.1, wl.2.1, wr.2.1, wk.2.1]
      exact gp_m9 (gp_e9 I0 (fun x hx => S3.2.2.2.2.2 x 0 hx) (fun x hx => S3.2.2.2.2.2 x 1 hx)) (by omega) (Int.le_refl _)
  · skip
    refine ⟨?_, ?_⟩
    · rw [inb_iff, ea4, wl.2.2, L0.1]; omega  -- b6
    refine ⟨?_, ?_⟩
    · rw [inb_iff, wk.1, wk.2.2, L0.2.2.2.1]; omega  -- b7
    intro κ_9 hκ_9
    intro W10
    have r8 : zR κ_9 = zR κ_4 := by rw [hκ_9]; rfl
    have n8 : zN κ_9 = zN κ_4 := by rw [hκ_9]; rfl
    have o8 : zO κ_9 = zO κ_4 := by rw [hκ_9]; rfl
    refine ⟨?_, ?_⟩
    · rw [inb_iff, n8, ea4, wl.2.2, L0.1]; omega  -- b8
    refine ⟨?_, ?_⟩
    · rw [inb_iff, n8, ea4, wl.2.2, L0.1]; omega  -- b9
    intro κ_11 hκ_11
    intro W12
    have r10 : zR κ_11 = zR κ_4 := by rw [hκ_11]; exact r8
    have n10 : zN κ_11 = zN κ_4 := by rw [hκ_11]; exact n8
    have rv : r3.toInt = (zI κ hoTotal (zR κ odGroups a0)).toInt := by rw [c8, hx1]
    have te : (zI κ_4 hoTotal (zR κ odGroups a0)).toInt = (zI κ hoTotal (zR κ odGroups a0)).toInt + 1 := by
      rcases tt with z | z
      · omega
      · exact z.1
    have ol := W6.o (show zr odLefts = some 20 by decide +kernel) (by decide) T3
    have ok := W6.o (show zr odRanks = some 20 by decide +kernel) (by decide) T3
    rw [wl.1] at ol
    rw [ea4] at hκ_11 hκ_9
    have Z10 : zF (fun f b => b = a0 ∧ (f = odLefts ∨ f = odRights ∨ f = odRanks)) κ_4 κ_11 := by
      have a1 : zF (fun f b => b = a0 ∧ (f = odLefts ∨ f = odRights ∨ f = odRanks)) κ_4 κ_9 := by rw [hκ_9]; exact zF_ua (by rw [ok]; exact ⟨rfl, Or.inr (Or.inr rfl)⟩)
      have a2 : zF (fun f b => b = a0 ∧ (f = odLefts ∨ f = odRights ∨ f = odRanks)) κ_9 κ_11 := by rw [hκ_11]; exact zF_ua (by rw [o8, ol]; exact ⟨rfl, Or.inl rfl⟩)
      exact a1.tr a2
    have U := tb_u9 W6 T3 S3 Z10 r10 n10
    have nrl := od_ow9 W6 T3 (f := odRights) (g := odLefts) (by decide +kernel) (by decide +kernel) (by decide) (by decide) (by decide)
    have nkl := od_ow9 W6 T3 (f := odRanks) (g := odLefts) (by decide +kernel) (by decide +kernel) (by decide) (by decide) (by decide)
    have nkr := od_ow9 W6 T3 (f := odRanks) (g := odRights) (by decide +kernel) (by decide +kernel) (by decide) (by decide) (by decide)
    rw [wr.1, wl.1] at nrl
    rw [wk.1, wl.1] at nkl
    rw [wk.1, wr.1] at nkr
    rw [wk.1] at hκ_9
    have x9 : zA κ_9 (zR κ odLefts a0) = zA κ (zR κ odLefts a0) := by
      rw [hκ_9]
      exact (if_neg (Ne.symm nkl)).trans wl.2.1
    have xl : zA κ_11 (zR κ odLefts a0) = upd (zA κ (zR κ odLefts a0)) a2.toNatClampNeg (zA κ (zR κ odLefts a0) a2.toNatClampNeg + 1) := by
      rw [hκ_11]
      refine (if_pos rfl).trans ?_
      show upd (zA κ_9 (zR κ odLefts a0)) _ (zA κ_9 (zR κ odLefts a0) _ + 1) = _
      rw [x9]
    have xr : zA κ_11 (zR κ odRights a0) = zA κ (zR κ odRights a0) := by
      rw [hκ_11]
      refine (if_neg nrl).trans ?_
      rw [hκ_9]
      exact (if_neg (Ne.symm nkr)).trans wr.2.1
    have xk : zA κ_11 (zR κ odRanks a0) = upd (zA κ (zR κ odRanks a0)) r3.toNatClampNeg (zA κ (zR κ odLefts a0) a2.toNatClampNeg) := by
      rw [hκ_11]
      refine (if_neg nkl).trans ?_
      rw [hκ_9]
      refine (if_pos rfl).trans ?_
      show upd (zA κ_4 (zR κ odRanks a0)) _ (zA κ_4 (zR κ odLefts a0) _) = _
      rw [wk.2.1, wl.2.1]
    refine hj44 _ _ _ W12 ?_ ?_
    · exact Z10.t T3 (by decide)  -- t10
    · refine ⟨rfl, U.1, ?_, ⟨v0, by rw [U.2.2.2]; exact v1⟩, (U.2.1 _ _ _).mpr hs, fun x H => ?_⟩
      · unfold gI9
        rw [r10, wl.1, wr.1, wk.1, xl, xr, xk, eg, U.2.2.2, U.2.2.1, te]
        refine gp_l9 I0 rv tM.1 (fun x hx => S3.2.2.2.2.2 x 0 hx) (fun x hx => S3.2.2.2.2.2 x 1 hx) ?_ ?_ t0 t1 tg0 m1
        · exact pV9_k (K := k39 1 a2 a3) v0 hs.1 (by decide) (by decide)
        · exact pV9_k (K := k39 1 a2 a3) v0 hs.1 (by decide) (by decide)
      · have y := (dd x H).1
        omega

theorem Od_rankOf_c2 {C : zC} {n0 : Nat} {a0 : Nat} {a1 : Int32} {a2 : Int32} {a3 : Int32} {a4 : Nat} {κ : zS} {Q : Int32 → zS → Prop} (W : zW C n0 κ) (Ta0 : zT κ a0 = 9) (Ta4 : zT κ a4 = 20) (ml mr : Int) (hp : (grI9 κ a0 ∧ tbL9 κ a0 ∧ gI9 κ a0 ml mr) ∧ (ml < 100000 ∧ mr < 100000) ∧ (a1 = 2 ∧ a4 = zR κ odRights a0) ∧ (0 ≤ a2.toInt ∧ a2.toInt < (zI κ hoTotal (zR κ odGroups a0)).toInt ∧ pV9 κ (zR κ odGroups a0) a2 0 = 0) ∧ ((zI κ hoTotal (zR κ odGroups a0)).toInt < 3000 ∨ ∃ x, hkS9 κ (zR κ odGroups a0) 8192 (k39 2 a2 a3) 3 x)) (h : ∀ (v : Int32) (κ' : zS), (∃ x : Int32, (tbS9 κ κ' a0 ∧ gI9 κ' a0 ml (mr + 1) ∧ (0 ≤ x.toInt ∧ x.toInt < (zI κ' hoTotal (zR κ odGroups a0)).toInt) ∧ hkS9 κ' (zR κ odGroups a0) 8192 (k39 2 a2 a3) 3 x.toNatClampNeg ∧ ∀ y : Nat, hkS9 κ (zR κ odGroups a0) 8192 (k39 2 a2 a3) 3 y → tbN9 κ κ' a0 ∧ x.toInt = (y : Int)) ∧ v = zA κ' (zR κ' odRanks a0) x.toNatClampNeg) → Q v κ') : zRun C 4 mOd_rankOf [.ref a0, .int a1, .int a2, .int a3, .ref a4] κ (oI Q noX) := by
  refine Od_rankOf_run W Ta0 Ta4 ?_
  replace W := W.lo (Nat.le_trans W.1.2.1 W.1.2.2) (Nat.le_refl (zn κ))
  unfold w_Od_rankOf_0
  obtain ⟨⟨G0, L0, I0⟩, ⟨m1, m2⟩, ⟨ea1, ea4⟩, ⟨t0, t1, tg0⟩, H5⟩ := hp
  subst ea1
  have tg := ty_odGroups W Ta0
  have ag : a0 ≠ zR κ odGroups a0 := fun z => by rw [← z, Ta0] at tg; exact absurd tg (by decide)
  have tM := G0.1.1.2.1
  have k2 := cnk t0
  have hj44 : ∀ (l0 : Nat) (l6 : Int32) (τ : zS), zW C (zn κ) τ → zT τ l0 = 9 → (a0 = l0 ∧ tbS9 κ τ a0 ∧ gI9 τ a0 ml (mr + 1) ∧ (0 ≤ l6.toInt ∧ l6.toInt < (zI τ hoTotal (zR κ odGroups a0)).toInt) ∧ hkS9 τ (zR κ odGroups a0) 8192 (k39 2 a2 a3) 3 l6.toNatClampNeg ∧ ∀ y : Nat, hkS9 κ (zR κ odGroups a0) 8192 (k39 2 a2 a3) 3 y → tbN9 κ τ a0 ∧ l6.toInt = (y : Int)) → w_Od_rankOf_44 C (zn κ) Q  l0 l6 τ := by
    rintro _ y44_6 τ44 W44 T44_0 ⟨rfl, j44⟩
    unfold w_Od_rankOf_44
    refine ⟨?_, ?_⟩
    · have q := j44.1.2.2.1.1.1.2.1.2
      rw [j44.1.2.1 odGroups (by decide)] at q
      rw [inb_iff, (tb_l9 W Ta0 j44.1 L0).2.2.2.1]
      exact ⟨j44.2.2.1.1, Int.lt_of_lt_of_le j44.2.2.1.2 q⟩
    refine h _ _ ?_
    · exact ⟨y44_6, j44, rfl⟩  -- q2
  intro x1 hx1
  intro T2
  refine Od_group_c W T2  ?_ (fun r3 κ_4 q5 => ?_)
  · exact ⟨G0, H5⟩  -- p3
  intro W6
  intro M7
  obtain ⟨S3, Z3, ⟨v0, v1⟩, hs, tt, dd⟩ := q5
  have wl := gr_w9 W Ta0 Z3 ag (f := odLefts) (by decide +kernel) (by decide) (by decide)
  have wr := gr_w9 W Ta0 Z3 ag (f := odRights) (by decide +kernel) (by decide) (by decide)
  have wk := gr_w9 W Ta0 Z3 ag (f := odRanks) (by decide +kernel) (by decide) (by decide)
  have eg := S3.2.1 odGroups (by decide)
  have T3 : zT κ_4 a0 = 9 := Z3.t Ta0 (by decide)
  have tM3 := S3.2.2.1.1.1.2.1.2
  rw [eg] at tM3
  refine ⟨fun c8 => ?_, fun c8 => ?_⟩
  · skip
    refine hj44 _ _ _ W6 ?_ ?_
    · exact T3  -- t4
    · have te : (zI κ_4 hoTotal (zR κ odGroups a0)).toInt = (zI κ hoTotal (zR κ odGroups a0)).toInt := by
        rcases tt with z | z
        · exact z
        · exact absurd (Int32.toInt_inj.mp (by rw [hx1]; exact z.2)) c8
      refine ⟨rfl, S3, ?_, ⟨v0, v1⟩, hs, fun x H => ⟨⟨te, wl.2.1, wr.2.1, wk.2.1⟩, (dd x H).2⟩⟩
      unfold gI9
      rw [eg, te, wl.1, wr.1, wk.1, wl.2.1, wr.2.1, wk.2.1]
      exact gp_m9 (gp_e9 I0 (fun x hx => S3.2.2.2.2.2 x 0 hx) (fun x hx => S3.2.2.2.2.2 x 1 hx)) (Int.le_refl _) (by omega)
  · skip
    refine ⟨?_, ?_⟩
    · rw [inb_iff, ea4, wr.2.2, L0.2.1]; omega  -- b6
    refine ⟨?_, ?_⟩
    · rw [inb_iff, wk.1, wk.2.2, L0.2.2.2.1]; omega  -- b7
    intro κ_9 hκ_9
    intro W10
    have r8 : zR κ_9 = zR κ_4 := by rw [hκ_9]; rfl
    have n8 : zN κ_9 = zN κ_4 := by rw [hκ_9]; rfl
    have o8 : zO κ_9 = zO κ_4 := by rw [hκ_9]; rfl
    refine ⟨?_, ?_⟩
    · rw [inb_iff, n8, ea4, wr.2.2, L0.2.1]; omega  -- b8
    refine ⟨?_, ?_⟩
    · rw [inb_iff, n8, ea4, wr.2.2, L0.2.1]; omega  -- b9
    intro κ_11 hκ_11
    intro W12
    have r10 : zR κ_11 = zR κ_4 := by rw [hκ_11]; exact r8
    have n10 : zN κ_11 = zN κ_4 := by rw [hκ_11]; exact n8
    have rv : r3.toInt = (zI κ hoTotal (zR κ odGroups a0)).toInt := by rw [c8, hx1]
    have te : (zI κ_4 hoTotal (zR κ odGroups a0)).toInt = (zI κ hoTotal (zR κ odGroups a0)).toInt + 1 := by
      rcases tt with z | z
      · omega
      · exact z.1
    have ol := W6.o (show zr odRights = some 20 by decide +kernel) (by decide) T3
    have ok := W6.o (show zr odRanks = some 20 by decide +kernel) (by decide) T3
    rw [wr.1] at ol
    rw [ea4] at hκ_11 hκ_9
    have Z10 : zF (fun f b => b = a0 ∧ (f = odLefts ∨ f = odRights ∨ f = odRanks)) κ_4 κ_11 := by
      have a1 : zF (fun f b => b = a0 ∧ (f = odLefts ∨ f = odRights ∨ f = odRanks)) κ_4 κ_9 := by rw [hκ_9]; exact zF_ua (by rw [ok]; exact ⟨rfl, Or.inr (Or.inr rfl)⟩)
      have a2 : zF (fun f b => b = a0 ∧ (f = odLefts ∨ f = odRights ∨ f = odRanks)) κ_9 κ_11 := by rw [hκ_11]; exact zF_ua (by rw [o8, ol]; exact ⟨rfl, Or.inr (Or.inl rfl)⟩)
      exact a1.tr a2
    have U := tb_u9 W6 T3 S3 Z10 r10 n10
    have nrl := od_ow9 W6 T3 (f := odRights) (g := odLefts) (by decide +kernel) (by decide +kernel) (by decide) (by decide) (by decide)
    have nkl := od_ow9 W6 T3 (f := odRanks) (g := odLefts) (by decide +kernel) (by decide +kernel) (by decide) (by decide) (by decide)
    have nkr := od_ow9 W6 T3 (f := odRanks) (g := odRights) (by decide +kernel) (by decide +kernel) (by decide) (by decide) (by decide)
    rw [wr.1, wl.1] at nrl
    rw [wk.1, wl.1] at nkl
    rw [wk.1, wr.1] at nkr
    rw [wk.1] at hκ_9
    have x9 : zA κ_9 (zR κ odRights a0) = zA κ (zR κ odRights a0) := by
      rw [hκ_9]
      exact (if_neg (Ne.symm nkr)).trans wr.2.1
    have xr : zA κ_11 (zR κ odRights a0) = upd (zA κ (zR κ odRights a0)) a2.toNatClampNeg (zA κ (zR κ odRights a0) a2.toNatClampNeg + 1) := by
      rw [hκ_11]
      refine (if_pos rfl).trans ?_
      show upd (zA κ_9 (zR κ odRights a0)) _ (zA κ_9 (zR κ odRights a0) _ + 1) = _
      rw [x9]
    have xl : zA κ_11 (zR κ odLefts a0) = zA κ (zR κ odLefts a0) := by
      rw [hκ_11]
      refine (if_neg (Ne.symm nrl)).trans ?_
      rw [hκ_9]
      exact (if_neg (Ne.symm nkl)).trans wl.2.1
    have xk : zA κ_11 (zR κ odRanks a0) = upd (zA κ (zR κ odRanks a0)) r3.toNatClampNeg (zA κ (zR κ odRights a0) a2.toNatClampNeg) := by
      rw [hκ_11]
      refine (if_neg nkr).trans ?_
      rw [hκ_9]
      refine (if_pos rfl).trans ?_
      show upd (zA κ_4 (zR κ odRanks a0)) _ (zA κ_4 (zR κ odRights a0) _) = _
      rw [wk.2.1, wr.2.1]
    refine hj44 _ _ _ W12 ?_ ?_
    · exact Z10.t T3 (by decide)  -- t10
    · refine ⟨rfl, U.1, ?_, ⟨v0, by rw [U.2.2.2]; exact v1⟩, (U.2.1 _ _ _).mpr hs, fun x H => ?_⟩
      · unfold gI9
        rw [r10, wl.1, wr.1, wk.1, xl, xr, xk, eg, U.2.2.2, U.2.2.1, te]
        refine gp_r9 I0 rv tM.1 (fun x hx => S3.2.2.2.2.2 x 0 hx) (fun x hx => S3.2.2.2.2.2 x 1 hx) ?_ ?_ t0 t1 tg0 m2
        · exact pV9_k (K := k39 2 a2 a3) v0 hs.1 (by decide) (by decide)
        · exact pV9_k (K := k39 2 a2 a3) v0 hs.1 (by decide) (by decide)
      · have y := (dd x H).1
        omega

end
section
set_option maxHeartbeats 1600000
/-! the class: Odds' comesToEnd, markEndings, placeTables, linkCells -/
/-- a frame among the rows of one Odds and its groups -/
def frT9 (m a g : Nat) (F : Nat → Nat → Prop) : Prop := ∀ f b, F f b → m ≤ b ∨ (b = a ∧ 905 ≤ f ∧ f < 914) ∨ (b = g ∧ f / 100 = 6)
theorem frT9_o {m a g : Nat} {F : Nat → Nat → Prop} (H : frT9 m a g F) : frO9 m g F := fun f b z => by
  rcases H f b z with h | h | h
  · exact Or.inl h
  · exact Or.inr (Or.inr (Or.inr (Or.inr (Or.inr (Or.inl (by omega))))))
  · exact Or.inr (Or.inr (Or.inr (Or.inr (Or.inr (Or.inr (Or.inr ⟨h.2, h.1⟩))))))
theorem frT9_n {C : zC} {n0 a g f b c : Nat} {F : Nat → Nat → Prop} {κ : zS} (W : zW C n0 κ) (Ta : zT κ a = 9) (Tg : zT κ g = 6) (H : frT9 (zn κ) a g F) (T : zT κ b = c + 1) (h : ((c + 1 ≠ 9 ∨ f < 905) ∧ (c + 1 ≠ 6 ∨ b ≠ g))) : ¬ F f b := fun z => by
  have l := (W.2.1 b (by omega)).2
  rcases H f b z with q | q | q
  · omega
  · rw [q.1, Ta] at T
    rcases h.1 with y | y
    · exact y T.symm
    · omega
  · rcases h.2 with y | y
    · rw [q.1, Tg] at T
      exact y T.symm
    · exact y q.1
/-- a run comes to an ending by this next -/
def cE9 (κ : zS) (a k : Nat) (i : Int32) : Prop := zA κ (zR κ atSorts (zR κ odAtlas a)) i.toNatClampNeg = 1 ∧ (zA κ (zR κ atChooses (zR κ odAtlas a)) k = 0 ∨ i = zA κ (zR κ atFirsts (zR κ odAtlas a)) k + zA κ (zR κ atPlan (zR κ odAtlas a)) k) ∧ zI κ raSign (vU9 κ (zR κ odSolver a) k) ≠ 0
/-- what stays while only tables are touched -/
theorem od_t9 {C : zC} {n0 a n P g : Nat} {ρ : Nat → Nat} {F : Nat → Nat → Prop} {κ τ : zS} (W : zW C n0 κ) (Ta : zT κ a = 9) (Tg : zT κ g = 6) (H : frT9 (zn κ) a g F) (Z : zF F κ τ) (hs : zR κ atStates (zR κ odAtlas a) ≠ g) (he : zR κ atEndings (zR κ odAtlas a) ≠ g) (X : odX9 ρ κ a n P) : odX9 ρ τ a n P ∧ (∀ k i, k < n → (cE9 τ a k i ↔ cE9 κ a k i)) ∧ (∀ f, f / 100 = 9 → f < 905 → zR τ f a = zR κ f a) ∧ (∀ f, f ∈ atRf → zA τ (zR τ f (zR τ odAtlas a)) = zA κ (zR κ f (zR κ odAtlas a)) ∧ zN τ (zR τ f (zR τ odAtlas a)) = zN κ (zR κ f (zR κ odAtlas a))) ∧ (zR τ atStates (zR κ odAtlas a) = zR κ atStates (zR κ odAtlas a) ∧ zR τ atEndings (zR κ odAtlas a) = zR κ atEndings (zR κ odAtlas a)) := by
  have e : ∀ f, f / 100 = 9 → f < 905 → zR τ f a = zR κ f a := fun f _ h2 => Z.r (frT9_n W Ta Tg H Ta ⟨Or.inr h2, Or.inl (by decide)⟩)
  have ts := ty_odSolver W Ta
  have tA := ty_odAtlas W Ta
  have tc := ty_atCode W tA
  have te := ty_atEndings W tA
  have nS : ∀ f, ¬ F f (zR κ odSolver a) := fun f => frT9_n W Ta Tg H ts ⟨Or.inl (by decide), Or.inl (by decide)⟩
  have nA : ∀ f, ¬ F f (zR κ odAtlas a) := fun f => frT9_n W Ta Tg H tA ⟨Or.inl (by decide), Or.inl (by decide)⟩
  have n8 : ∀ f w, zT κ w = 8 → ¬ F f w := fun f w t => frT9_n W Ta Tg H t ⟨Or.inl (by decide), Or.inl (by decide)⟩
  have n11 : ∀ f w, zT κ w = 11 → ¬ F f w := fun f w t => frT9_n W Ta Tg H t ⟨Or.inl (by decide), Or.inl (by decide)⟩
  have n3 : ∀ f w, zT κ w = 3 → ¬ F f w := fun f w t => frT9_n W Ta Tg H t ⟨Or.inl (by decide), Or.inl (by decide)⟩
  have O := frT9_o H
  have ga := fun f hf => at_o9 W O Z tA (f := f) hf
  obtain ⟨⟨x1, x2⟩, x3, ⟨x4, x5⟩, x6, ⟨x7, x9⟩, x8⟩ := X
  have rv := Z.row W (f := soVisits) (t := 25) (by decide +kernel) (by decide) ts (nS soVisits)
  have lv : zN τ (zR τ soVisits (zR κ odSolver a)) = zN κ (zR κ soVisits (zR κ odSolver a)) := by
    rw [Z.r (nS soVisits)]
    exact Z.l (ty_soVisits W ts)
  have vu : ∀ k, vU9 τ (zR κ odSolver a) k = vU9 κ (zR κ odSolver a) k := fun k => by
    unfold vU9
    rw [rv.2.2]
  have eA := e odAtlas (by decide) (by decide)
  have eS := e odSolver (by decide) (by decide)
  refine ⟨⟨⟨?_, ?_⟩, ?_, ⟨?_, ?_⟩, ?_, ⟨?_, fun hn => ?_⟩, ?_⟩, fun k i hk => ?_, e, fun f hf => ?_, Z.r (nA _), Z.r (nA _)⟩
  · rw [eS, eA, Z.r (nS soAtlas)]; exact x1
  · rw [eS, e odCalc (by decide) (by decide), Z.r (nS soCalc)]; exact x2
  · rw [e odHeld (by decide) (by decide)]; exact x3
  · rw [eA]; exact atW_o9 W O Z tA hs he x4
  · rw [eS, lv]; exact x5
  · rw [eS]; exact vs_h9 W ts Z n8 n11 n3 nS x6
  · rw [eA, Z.r (nA atCode)]; exact co_o9 W O Z tc x7
  · rw [eA]; exact enZ_o9 W O Z tA he (x9 hn)
  · rw [eA, Z.r (nA atEndings)]; exact (ho_o9 W O Z te he).1 x8
  · have tu := W.2.2.2.2.1 _ _ _ (ty_soVisits W ts) (x6 k hk).1
    unfold cE9
    rw [eA, eS, vu, (ga atSorts (by decide)).2.1, (ga atChooses (by decide)).2.1, (ga atFirsts (by decide)).2.1, (ga atPlan (by decide)).2.1, Z.i (n11 raSign _ tu)]
  · rw [eA]
    exact (ga f hf).2
/-- how many are not -1 -/
def cC9 (r : Nat → Int32) : Nat → Nat
  | 0 => 0
  | n + 1 => cC9 r n + if r n = -1 then 0 else 1
theorem cC_le9 {r : Nat → Int32} : ∀ n, cC9 r n ≤ n := by
  intro n
  induction n with
  | zero => exact Nat.le_refl _
  | succ n ih =>
    show cC9 r n + (if r n = -1 then 0 else 1) ≤ n + 1
    split <;> omega
theorem cC_09 {r : Nat → Int32} : ∀ n, (∀ i, i < n → r i = -1) → cC9 r n = 0 := by
  intro n
  induction n with
  | zero => intro _; rfl
  | succ n ih =>
    intro h
    show cC9 r n + (if r n = -1 then 0 else 1) = 0
    rw [ih (fun i hi => h i (by omega)), if_pos (h n (by omega))]
theorem cC_e9 {r r' : Nat → Int32} : ∀ n, (∀ i, i < n → r' i = r i) → cC9 r' n = cC9 r n := by
  intro n
  induction n with
  | zero => intro _; rfl
  | succ n ih =>
    intro h
    show cC9 r' n + (if r' n = -1 then 0 else 1) = cC9 r n + (if r n = -1 then 0 else 1)
    rw [ih (fun i hi => h i (by omega)), h n (by omega)]
theorem cC_u9 {r : Nat → Int32} {j : Nat} {x : Int32} (hj : r j = -1) (hx : x ≠ -1) : ∀ n, j < n → cC9 (upd r j x) n = cC9 r n + 1 := by
  intro n
  induction n with
  | zero => intro h; omega
  | succ n ih =>
    intro h
    show cC9 (upd r j x) n + (if upd r j x n = -1 then 0 else 1) = cC9 r n + (if r n = -1 then 0 else 1) + 1
    by_cases z : n = j
    · have a : upd r j x n = x := if_pos z
      have b := cC_e9 (r := r) (r' := upd r j x) n (fun i hi => if_neg (by omega))
      rw [a, b, if_neg hx, z, if_pos hj]
    · have a : upd r j x n = r n := if_neg z
      rw [a, ih (by omega)]
      omega
/-- firsts rise -/
theorem fm_9 {κ : zS} {b n : Nat} (A : atW κ b n) : ∀ j i, i ≤ j → j ≤ n → (zA κ (zR κ atFirsts b) i).toInt ≤ (zA κ (zR κ atFirsts b) j).toInt := by
  intro j
  induction j with
  | zero => intro i h _; rw [Nat.le_zero.mp h]; exact Int.le_refl _
  | succ j ih =>
    intro i h hn
    by_cases z : i = j + 1
    · rw [z]; exact Int.le_refl _
    · exact Int.le_trans (ih i (by omega) (by omega)) (A.2.2.2.2.2 j (by omega)).1.2.1
theorem fu_9 {κ : zS} {b n k j : Nat} {x : Int} (A : atW κ b n) (hk : k < n) (hj : j < n) (k0 : (zA κ (zR κ atFirsts b) k).toInt ≤ x) (k1 : x < (zA κ (zR κ atFirsts b) (k + 1)).toInt) (j0 : (zA κ (zR κ atFirsts b) j).toInt ≤ x) (j1 : x < (zA κ (zR κ atFirsts b) (j + 1)).toInt) : k = j := by
  by_cases h : k < j
  · have q := fm_9 A j (k + 1) (by omega) (by omega)
    omega
  · by_cases g : j < k
    · have q := fm_9 A k (j + 1) (by omega) (by omega)
      omega
    · omega
/-- only rows of numbers were written -/
def rwE9 (κ τ : zS) : Prop := zR τ = zR κ ∧ zN τ = zN κ ∧ zI τ = zI κ
theorem Od_comesToEnd_c {C : zC} {n0 : Nat} {a0 : Nat} {a1 : Int32} {a2 : Int32} {κ : zS} {Q : Int32 → zS → Prop} (W : zW C n0 κ) (Ta0 : zT κ a0 = 9) (ρ : Nat → Nat) (n9 P9 : Nat) (hp : odX9 ρ κ a0 n9 P9 ∧ (0 ≤ a1.toInt ∧ a1.toInt < n9) ∧ 0 ≤ a2.toInt ∧ a2.toInt < (zN κ (zR κ atNumbers (zR κ odAtlas a0)))) (h : ∀ (v : Int32), (nb v ∧ (v ≠ 0 ↔ cE9 κ a0 a1.toNatClampNeg a2)) → Q v κ) : zRun C 1 mOd_comesToEnd [.ref a0, .int a1, .int a2] κ (oI Q noX) := by
  refine Od_comesToEnd_run W Ta0 ?_
  replace W := W.lo (Nat.le_trans W.1.2.1 W.1.2.2) (Nat.le_refl (zn κ))
  unfold w_Od_comesToEnd_0
  obtain ⟨⟨⟨x1, x2⟩, x3, ⟨⟨A1, A2, A3, A4, A5, A6⟩, x5⟩, x6, ⟨x7, _⟩, x8⟩, p1, p2, p3⟩ := hp
  have k1 := cnk p1.1
  obtain ⟨v1, v2, v3⟩ := x6 a1.toNatClampNeg (by omega)
  refine ⟨?_, ?_⟩
  · rw [inb_iff, A2.1.1]; exact ⟨p2, p3⟩  -- b1
  refine ⟨fun c1 => ?_, fun c1 => ?_⟩
  · skip
    refine h _ ?_
    · exact ⟨nb_0, fun z => absurd rfl z, fun z => absurd z.1 c1⟩  -- q2
  · skip
    intro T2
    refine At_isTaken_c W T2  ?_ (fun r3 q5 => ?_)
    · exact ⟨A1, p1.1, by omega⟩  -- p3
    intro W6
    intro M7
    refine ⟨fun c8 => ?_, fun c8 => ?_⟩
    · skip
      refine h _ ?_
      · exact ⟨nb_0, fun z => absurd rfl z, fun z => absurd c8 (q5.2.mpr z.2.1)⟩  -- q4
    · skip
      refine ⟨?_, ?_⟩
      · rw [inb_iff]; omega  -- b5
      refine ex_some ?_ (fun u9 hu9 => ?_)
      · exact ⟨_, v1⟩  -- e6
      refine ⟨fun c10 => ?_, fun c10 => ?_⟩
      · skip
        refine h _ ?_
        · have eu := Option.some.inj (hu9.symm.trans v1)
          exact ⟨nb_0, fun z => absurd rfl z, fun z => absurd (by rw [← eu]; exact c10) z.2.2⟩
      · skip
        refine h _ ?_
        · have eu := Option.some.inj (hu9.symm.trans v1)
          exact ⟨nb_1, fun _ => ⟨c1, q5.2.mp c8, by rw [← eu]; exact c10⟩, fun _ => by decide⟩

/-- on the way through the endings -/
def mkB9 (κ τ : zS) (a : Nat) (m : Int32) : Prop := (zF (oneF odCellOf a) κ τ ∧ rwE9 κ τ) ∧ m.toInt = (cC9 (zA τ (zR κ odCellOf a)) 1000 : Int) ∧ ∀ e, e < 1000 → zA τ (zR κ odCellOf a) e = -1 ∨ zA τ (zR κ odCellOf a) e = 0
def mkD9 (κ τ : zS) (a k : Nat) (i : Int32) : Prop := cE9 κ a k i → zA τ (zR κ odCellOf a) (zA κ (zR κ atNumbers (zR κ odAtlas a)) i.toNatClampNeg).toNatClampNeg ≠ -1
theorem oneF_t9 {m a g f : Nat} (h : 905 ≤ f ∧ f < 914) : frT9 m a g (oneF f a) := fun f' b z => Or.inr (Or.inl ⟨z.2, by rw [z.1]; exact h⟩)
theorem Od_markEndings_c {C : zC} {n0 : Nat} {a0 : Nat} {κ : zS} {Q : Int32 → zS → Prop} (W : zW C n0 κ) (Ta0 : zT κ a0 = 9) (ρ : Nat → Nat) (n9 P9 : Nat) (hp : odX9 ρ κ a0 n9 P9 ∧ (zN κ (zR κ odCellOf a0)) = 1000 ∧ (zR κ atStates (zR κ odAtlas a0) ≠ zR κ odGroups a0 ∧ zR κ atEndings (zR κ odAtlas a0) ≠ zR κ odGroups a0)) (h : ∀ (v : Int32) (κ' : zS), ((zF (oneF odCellOf a0) κ κ' ∧ rwE9 κ κ') ∧ (0 ≤ v.toInt ∧ v.toInt ≤ 1000) ∧ (∀ e, e < 1000 → zA κ' (zR κ odCellOf a0) e = -1 ∨ zA κ' (zR κ odCellOf a0) e = 0) ∧ ∀ k i, k < n9 → (zA κ (zR κ atFirsts (zR κ odAtlas a0)) k).toInt ≤ i.toInt → i.toInt < (zA κ (zR κ atFirsts (zR κ odAtlas a0)) (k + 1)).toInt → mkD9 κ κ' a0 k i) → Q v κ') : zRun C 2 mOd_markEndings [.ref a0] κ (oI Q noX) := by
  refine Od_markEndings_run W Ta0 ?_
  replace W := W.lo (Nat.le_trans W.1.2.1 W.1.2.2) (Nat.le_refl (zn κ))
  unfold w_Od_markEndings_0
  obtain ⟨X0, c1k, hg⟩ := hp
  have A0 := X0.2.2.1.1
  have hn := A0.2.2.1
  have l20 := A0.2.1.2.2
  have nx5 := A0.2.2.2.2.1
  have Tg := ty_odGroups W Ta0
  have eh := X0.2.2.2.2.2
  have lc : zN κ (zR κ odCellOf a0) = 1000 := c1k
  intro T1
  refine Ar_fill_c W T1  (fun κ_2 q3 => ?_)
  have x2 : zA κ_2 (zR κ odCellOf a0) = fun k => if 0 ≤ k ∧ k < 1000 then -1 else zA κ (zR κ odCellOf a0) k := by
    rw [q3, ← lc]
    exact if_pos rfl
  have m2 : ∀ e, e < 1000 → zA κ_2 (zR κ odCellOf a0) e = -1 := fun e he => by
    rw [x2]
    exact if_pos ⟨Nat.zero_le _, he⟩
  have Z2 : zF (oneF odCellOf a0) κ κ_2 := by
    rw [q3]
    exact zF_uf (by rw [W.o (show zr odCellOf = some 20 by decide +kernel) (by decide) Ta0]; exact ⟨rfl, rfl⟩)
  intro W4
  intro M5
  unfold w_Od_markEndings_12
  refine ⟨fun n l0 l1 l2 τ => n = ((n9 : Int) - l2.toInt).toNat ∧ (a0 = l0 ∧ mkB9 κ τ a0 l1 ∧ (0 ≤ l2.toInt ∧ l2.toInt ≤ n9) ∧ ∀ (k : Nat) (i : Int32), (k : Int) < l2.toInt → (zA κ (zR κ atFirsts (zR κ odAtlas a0)) k).toInt ≤ i.toInt → i.toInt < (zA κ (zR κ atFirsts (zR κ odAtlas a0)) (k + 1)).toInt → mkD9 κ τ a0 k i), ⟨_, rfl, ?_⟩, ?_⟩
  · refine ⟨rfl, ⟨⟨Z2, by rw [q3]; rfl, by rw [q3]; rfl, by rw [q3]; rfl⟩, ?_, fun e he => Or.inl (m2 e he)⟩, ⟨by decide, by rw [t0i]; omega⟩, fun k i hk => by rw [t0i] at hk; omega⟩
    rw [cC_09 1000 m2]
    rfl
  rintro n12 _ x12_1 x12_2 κ12 W12 T12_0 ⟨hn12, rfl, i12⟩
  obtain ⟨⟨⟨Z1, R1, N1, I1⟩, C1, E1⟩, l2, D1⟩ := i12
  have k2 := cnk l2.1
  obtain ⟨X1, _, _, g1, _⟩ := od_t9 W Ta0 Tg (oneF_t9 (by decide)) Z1 hg.1 hg.2 X0
  have tot1 := X1.2.2.1.1.2.2.2.1
  refine ⟨fun c6 => ?_, fun c6 => ?_⟩
  · skip
    refine h _ _ ?_
    · rw [lei, tot1] at c6
      have cl := cC_le9 (r := zA κ12 (zR κ odCellOf a0)) 1000
      exact ⟨⟨Z1, R1, N1, I1⟩, ⟨by omega, by omega⟩, E1, fun k i hk => D1 k i (by omega)⟩
  · skip
    rw [lei, tot1] at c6
    have f1 := (g1 atFirsts (by decide))
    obtain ⟨⟨f0, f01, f02⟩, nx, _⟩ := A0.2.2.2.2.2 x12_2.toNatClampNeg (by omega)
    refine ⟨?_, ?_⟩
    · rw [inb_iff, f1.2, A0.1.1]; omega  -- b3
    intro x7 hx7
    unfold w_Od_markEndings_36
    refine ⟨fun n l0 l1 l2 l3 τ => n = ((zA κ (zR κ atFirsts (zR κ odAtlas a0)) (x12_2.toNatClampNeg + 1)).toInt - l3.toInt).toNat ∧ (a0 = l0 ∧ mkB9 κ τ a0 l1 ∧ (x12_2 = l2 ∧ (zA κ (zR κ atFirsts (zR κ odAtlas a0)) x12_2.toNatClampNeg).toInt ≤ l3.toInt ∧ l3.toInt ≤ (zA κ (zR κ atFirsts (zR κ odAtlas a0)) (x12_2.toNatClampNeg + 1)).toInt) ∧ (∀ (k : Nat) (i : Int32), (k : Int) < x12_2.toInt → (zA κ (zR κ atFirsts (zR κ odAtlas a0)) k).toInt ≤ i.toInt → i.toInt < (zA κ (zR κ atFirsts (zR κ odAtlas a0)) (k + 1)).toInt → mkD9 κ τ a0 k i) ∧ ∀ i : Int32, (zA κ (zR κ atFirsts (zR κ odAtlas a0)) x12_2.toNatClampNeg).toInt ≤ i.toInt → i.toInt < l3.toInt → mkD9 κ τ a0 x12_2.toNatClampNeg i), ⟨_, rfl, ?_⟩, ?_⟩
    · rw [f1.1] at hx7
      refine ⟨rfl, ⟨⟨Z1, R1, N1, I1⟩, C1, E1⟩, ⟨rfl, by rw [hx7]; exact Int.le_refl _, by rw [hx7]; exact f01⟩, D1, fun i h1 h2 => by rw [hx7] at h2; omega⟩
    rintro n36 _ x36_1 x36_2 x36_3 κ36 W36 T36_0 ⟨hn36, rfl, i36⟩
    obtain ⟨⟨⟨Z3, R3, N3, I3⟩, C3, E3⟩, ⟨rfl, l31, l32⟩, D3, D4⟩ := i36
    obtain ⟨X3, ce3, _, g3, _⟩ := od_t9 W Ta0 Tg (oneF_t9 (by decide)) Z3 hg.1 hg.2 X0
    have k3 := cnk (x := x36_3) (by omega)
    have f3 := (g3 atFirsts (by decide)).1
    have n3 := (g3 atNumbers (by decide))
    have i1 := cn1 (x := x12_2) l2.1 (by omega)
    have ix := cn1 (x := x36_3) (by omega) (by omega)
    refine ⟨?_, ?_⟩
    · rw [inb_iff, i1.2, (g3 atFirsts (by decide)).2, A0.1.1]; omega  -- b5
    refine ⟨fun c8 => ?_, fun c8 => ?_⟩
    · skip
      intro x9 hx9
      refine ⟨_, ?_, rfl, ?_⟩
      · rw [hn12, hx9, i1.2]; omega  -- d6
      · rw [f3, i1.1, lei] at c8
        refine ⟨rfl, ⟨⟨Z3, R3, N3, I3⟩, C3, E3⟩, ⟨by rw [hx9, i1.2]; omega, by rw [hx9, i1.2]; omega⟩, fun k i hk h1 h2 => ?_⟩
        rw [hx9, i1.2] at hk
        by_cases z : k = x12_2.toNatClampNeg
        · rw [z] at h1 h2 ⊢
          exact D4 i h1 (by omega)
        · exact D3 k i (by omega) h1 h2
    · skip
      intro T10
      rw [f3, i1.1, lei] at c8
      have nxi := nx x36_3.toNatClampNeg (by omega) (by omega)
      refine Od_comesToEnd_c W36 T10 ρ n9 P9 ?_ (fun r11 q13 => ?_)
      · exact ⟨X3, ⟨l2.1, by omega⟩, by omega, by rw [n3.2]; omega⟩  -- p8
      intro W14
      intro M15
      have q14 := q13.2.trans (ce3 x12_2.toNatClampNeg x36_3 (by omega))
      refine ⟨fun c16 => ?_, fun c16 => ?_⟩
      · skip
        intro x17 hx17
        refine ⟨_, ?_, rfl, ?_⟩
        · rw [hn36, hx17, ix.2]; omega  -- d9
        · refine ⟨rfl, ⟨⟨Z3, R3, N3, I3⟩, C3, E3⟩, ⟨rfl, by rw [hx17, ix.2]; omega, by rw [hx17, ix.2]; omega⟩, D3, fun i h1 h2 => ?_⟩
          rw [hx17, ix.2] at h2
          by_cases z : i.toInt = x36_3.toInt
          · rw [Int32.toInt_inj.mp z]
            exact fun y => absurd c16 (q14.mpr y)
          · exact D4 i h1 (by omega)
      · skip
        have ce := q14.mp c16
        have s1 : zA κ (zR κ atSorts (zR κ odAtlas a0)) x36_3.toNatClampNeg = 1 := ce.1
        have nb3 := nxi.2.1 s1
        have ke := cnk nb3.1
        have eM := eh.2.1.2
        have ec : zR κ36 odCellOf a0 = zR κ odCellOf a0 := by rw [R3]
        refine ⟨?_, ?_⟩
        · rw [inb_iff, n3.2]; omega  -- b11
        refine ⟨?_, ?_⟩
        · rw [n3.1, inb_iff, ec, N3, lc]; omega  -- b12
        refine ⟨fun c18 => ?_, fun c18 => ?_⟩
        · skip
          intro x19 hx19
          refine ⟨_, ?_, rfl, ?_⟩
          · rw [hn36, hx19, ix.2]; omega  -- d13
          · rw [n3.1, ec] at c18
            refine ⟨rfl, ⟨⟨Z3, R3, N3, I3⟩, C3, E3⟩, ⟨rfl, by rw [hx19, ix.2]; omega, by rw [hx19, ix.2]; omega⟩, D3, fun i h1 h2 => ?_⟩
            rw [hx19, ix.2] at h2
            by_cases z : i.toInt = x36_3.toInt
            · rw [Int32.toInt_inj.mp z]
              exact fun _ => c18
            · exact D4 i h1 (by omega)
        · skip
          rw [n3.1, ec] at c18
          refine ⟨?_, ?_⟩
          · rw [inb_iff, n3.2]; omega  -- b15
          refine ⟨?_, ?_⟩
          · rw [n3.1, inb_iff, ec, N3, lc]; omega  -- b16
          intro κ_20 hκ_20
          intro W21
          intro x22 hx22
          intro x23 hx23
          rw [n3.1, ec] at hκ_20
          have x20 : zA κ_20 (zR κ odCellOf a0) = upd (zA κ36 (zR κ odCellOf a0)) (zA κ (zR κ atNumbers (zR κ odAtlas a0)) x36_3.toNatClampNeg).toNatClampNeg 0 := by
            rw [hκ_20]
            exact if_pos rfl
          have o36 := W36.o (show zr odCellOf = some 20 by decide +kernel) (by decide) T36_0
          rw [ec] at o36
          have Z20 : zF (oneF odCellOf a0) κ κ_20 := Z3.tr (by rw [hκ_20]; exact zF_ua (by rw [o36]; exact ⟨rfl, rfl⟩))
          have cu := cC_u9 (x := 0) c18 (by decide) 1000 (show (zA κ (zR κ atNumbers (zR κ odAtlas a0)) x36_3.toNatClampNeg).toNatClampNeg < 1000 by omega)
          have cl := cC_le9 (r := zA κ_20 (zR κ odCellOf a0)) 1000
          rw [x20, cu] at cl
          have m1 := cn1 (x := x36_1) (by omega) (by omega)
          have kp : ∀ k i, mkD9 κ κ36 a0 k i → mkD9 κ κ_20 a0 k i := fun k i d y => by
            rw [x20]
            unfold upd
            split
            · decide
            · exact d y
          refine ⟨_, ?_, rfl, ?_⟩
          · rw [hn36, hx23, ix.2]; omega  -- d17
          · refine ⟨rfl, ⟨⟨Z20, by rw [hκ_20]; exact R3, by rw [hκ_20]; exact N3, by rw [hκ_20]; exact I3⟩, ?_, fun e he => ?_⟩, ⟨rfl, by rw [hx23, ix.2]; omega, by rw [hx23, ix.2]; omega⟩, fun k i hk h1 h2 => kp k i (D3 k i hk h1 h2), fun i h1 h2 => ?_⟩
            · rw [hx22, m1.2, x20, cu]
              omega
            · rw [x20]
              unfold upd
              split
              · exact Or.inr rfl
              · exact E3 e he
            · rw [hx23, ix.2] at h2
              by_cases z : i.toInt = x36_3.toInt
              · rw [Int32.toInt_inj.mp z]
                intro _
                rw [x20]
                unfold upd
                rw [if_pos rfl]
                decide
              · exact kp _ i (D4 i h1 (by omega))

end
section
set_option maxHeartbeats 1600000
/-! the class: Odds' placeTables, linkCells -/
theorem pr_9 {x y m : Int} (x0 : 0 ≤ x) (x1 : x ≤ m) (y0 : 0 ≤ y) (y1 : y ≤ m) : 0 ≤ x * y ∧ x * y ≤ m * m := ⟨Int.mul_nonneg x0 y0, Int.mul_le_mul x1 y1 y0 (by omega)⟩
/-- tables have their places -/
def plC9 (κ τ : zS) (a : Nat) (b c : Int) : Prop := ∀ x : Int32, 0 ≤ x.toInt → x.toInt < b → pV9 κ (zR κ odGroups a) x 0 = 0 → 0 ≤ (zA τ (zR κ odBases a) x.toNatClampNeg).toInt ∧ (zA τ (zR κ odBases a) x.toNatClampNeg).toInt + (zA κ (zR κ odLefts a) x.toNatClampNeg).toInt * (zA κ (zR κ odRights a) x.toNatClampNeg).toInt ≤ c
theorem Od_placeTables_c {C : zC} {n0 : Nat} {a0 : Nat} {a1 : Int32} {κ : zS} {Q : Int32 → zS → Prop} (W : zW C n0 κ) (Ta0 : zT κ a0 = 9)  (hp : (grI9 κ a0 ∧ tbL9 κ a0 ∧ gI9 κ a0 1000 1000) ∧ (0 ≤ a1.toInt ∧ a1.toInt ≤ 1000)) (h : ∀ (v : Int32) (κ' : zS), ((zF (oneF odBases a0) κ κ' ∧ rwE9 κ κ') ∧ 0 ≤ v.toInt ∧ (v.toInt ≤ a1.toInt → plC9 κ κ' a0 ((zI κ hoTotal (zR κ odGroups a0)).toInt) v.toInt)) → Q v κ') : zRun C 2 mOd_placeTables [.ref a0, .int a1] κ (oI Q noX) := by
  refine Od_placeTables_run W Ta0 ?_
  replace W := W.lo (Nat.le_trans W.1.2.1 W.1.2.2) (Nat.le_refl (zn κ))
  unfold w_Od_placeTables_0
  obtain ⟨⟨G0, L0, I0⟩, p0, p1⟩ := hp
  have Tg := ty_odGroups W Ta0
  have tM := G0.1.1.2.1
  unfold w_Od_placeTables_4
  refine ⟨fun n l0 l1 l2 l3 τ => n = ((zI κ hoTotal (zR κ odGroups a0)).toInt - l3.toInt).toNat ∧ (a0 = l0 ∧ a1 = l1 ∧ (zF (oneF odBases a0) κ τ ∧ rwE9 κ τ) ∧ (0 ≤ l2.toInt ∧ l2.toInt ≤ 1001000) ∧ (0 ≤ l3.toInt ∧ l3.toInt ≤ (zI κ hoTotal (zR κ odGroups a0)).toInt) ∧ plC9 κ τ a0 l3.toInt l2.toInt), ⟨_, rfl, ?_⟩, ?_⟩
  · exact ⟨rfl, rfl, ⟨zF.rf, rfl, rfl, rfl⟩, by decide, ⟨by decide, by rw [t0i]; exact tM.1⟩, fun x x0 x1 => by rw [t0i] at x1; omega⟩  -- j1
  rintro n4 _ _ x4_2 x4_3 κ4 W4 T4_0 ⟨hn4, rfl, rfl, i4⟩
  obtain ⟨⟨Z1, R1, N1, I1⟩, l2, l3, D1⟩ := i4
  have k3 := cnk l3.1
  have V1 := ho_t9 W Tg Z1 (fun f b z => by rw [z.1]; decide)
  have wl := Z1.row W (f := odLefts) (t := 20) (by decide +kernel) (by decide) Ta0 (fun z => absurd z.1 (by decide))
  have wr := Z1.row W (f := odRights) (t := 20) (by decide +kernel) (by decide) Ta0 (fun z => absurd z.1 (by decide))
  rw [R1] at wl wr
  refine ⟨fun c1 => ?_, fun c1 => ?_⟩
  · skip
    refine h _ _ ?_
    · rw [lei, R1, V1.2.2.2.1] at c1
      exact ⟨⟨Z1, R1, N1, I1⟩, l2.1, fun _ x x0 x1 => D1 x x0 (by omega)⟩
  · skip
    rw [lei, R1, V1.2.2.2.1] at c1
    refine ⟨fun c2 => ?_, fun c2 => ?_⟩
    · skip
      refine h _ _ ?_
      · rw [lti] at c2
        exact ⟨⟨Z1, R1, N1, I1⟩, l2.1, fun z => by omega⟩
    · skip
      intro T3
      rw [lti] at c2
      have ix := cn1 (x := x4_3) l3.1 (by omega)
      refine Ho_part_c2 W4 T3 3000 3 8192 ?_ (fun r4 q6 => ?_)
      · rw [R1]
        exact ⟨V1.2.2.2.2 _ _ _ G0.1.1, Or.inr (Or.inr ⟨rfl, rfl, rfl⟩)⟩
      intro W7
      intro M8
      rw [R1, V1.2.2.1] at q6
      refine ⟨fun c9 => ?_, fun c9 => ?_⟩
      · skip
        intro x10 hx10
        refine ⟨_, ?_, rfl, ?_⟩
        · rw [hn4, hx10, ix.2]; omega  -- d5
        · refine ⟨rfl, rfl, ⟨Z1, R1, N1, I1⟩, l2, ⟨by rw [hx10, ix.2]; omega, by rw [hx10, ix.2]; omega⟩, fun x x0 x1 xt => ?_⟩
          rw [hx10, ix.2] at x1
          by_cases z : x.toInt = x4_3.toInt
          · rw [Int32.toInt_inj.mp z] at xt
            rw [xt] at q6
            exact absurd q6 c9
          · exact D1 x x0 (by omega) xt
      · skip
        refine ⟨?_, ?_⟩
        · rw [inb_iff, R1, N1, L0.2.2.1]; omega  -- b7
        intro κ_11 hκ_11
        intro W12
        rw [R1] at hκ_11
        have r11 : zR κ_11 = zR κ := by rw [hκ_11]; exact R1
        have n11 : zN κ_11 = zN κ := by rw [hκ_11]; exact N1
        have nlb := od_ow9 W Ta0 (f := odLefts) (g := odBases) (by decide +kernel) (by decide +kernel) (by decide) (by decide) (by decide)
        have nrb := od_ow9 W Ta0 (f := odRights) (g := odBases) (by decide +kernel) (by decide +kernel) (by decide) (by decide) (by decide)
        have xl : zA κ_11 (zR κ odLefts a0) = zA κ (zR κ odLefts a0) := by
          rw [hκ_11]
          exact (if_neg nlb).trans wl.1
        have xr : zA κ_11 (zR κ odRights a0) = zA κ (zR κ odRights a0) := by
          rw [hκ_11]
          exact (if_neg nrb).trans wr.1
        have xb : zA κ_11 (zR κ odBases a0) = upd (zA κ4 (zR κ odBases a0)) x4_3.toNatClampNeg x4_2 := by
          rw [hκ_11]
          exact if_pos rfl
        have tag : pV9 κ (zR κ odGroups a0) x4_3 0 = 0 := by rw [← q6]; exact c9
        obtain ⟨⟨a1l, a2l⟩, a1r, a2r⟩ := (I0 x4_3 l3.1 (by omega)).1 tag
        have pp := pr_9 a1l a2l a1r a2r
        refine ⟨?_, ?_⟩
        · rw [inb_iff, r11, n11, L0.1]; omega  -- b8
        refine ⟨?_, ?_⟩
        · rw [inb_iff, r11, n11, L0.2.1]; omega  -- b9
        intro x13 hx13
        intro x14 hx14
        rw [r11, xl, xr] at hx13
        have em : (zA κ (zR κ odLefts a0) x4_3.toNatClampNeg * zA κ (zR κ odRights a0) x4_3.toNatClampNeg).toInt = (zA κ (zR κ odLefts a0) x4_3.toNatClampNeg).toInt * (zA κ (zR κ odRights a0) x4_3.toNatClampNeg).toInt := mul_i (by omega) (by omega)
        have ea : x13.toInt = x4_2.toInt + (zA κ (zR κ odLefts a0) x4_3.toNatClampNeg).toInt * (zA κ (zR κ odRights a0) x4_3.toNatClampNeg).toInt := by rw [hx13, add_i (by rw [em]; omega) (by rw [em]; omega), em]
        have o4 := W4.o (show zr odBases = some 20 by decide +kernel) (by decide) T4_0
        rw [R1] at o4
        have Z11 : zF (oneF odBases a0) κ κ_11 := Z1.tr (by rw [hκ_11]; exact zF_ua (by rw [o4]; exact ⟨rfl, rfl⟩))
        refine ⟨_, ?_, rfl, ?_⟩
        · rw [hn4, hx14, ix.2]; omega  -- d10
        · refine ⟨rfl, rfl, ⟨Z11, r11, n11, by rw [hκ_11]; exact I1⟩, ⟨by rw [ea]; omega, by rw [ea]; omega⟩, ⟨by rw [hx14, ix.2]; omega, by rw [hx14, ix.2]; omega⟩, fun x x0 x1 xt => ?_⟩
          rw [hx14, ix.2] at x1
          rw [xb, ea]
          unfold upd
          have kx := cnk x0
          by_cases z : x.toInt = x4_3.toInt
          · rw [Int32.toInt_inj.mp z, if_pos rfl]
            exact ⟨l2.1, Int.le_refl _⟩
          · rw [if_neg (by omega)]
            have d := D1 x x0 (by omega) xt
            exact ⟨d.1, by omega⟩

end
