set_option maxHeartbeats 1600000
/-! the class: Solver's shrink, eliminate -/
def elR9 : Nat → Prop := fun r => (r = 6 ∨ r = 7 ∨ r = 10) ∨ (1000000 ≤ r ∧ r < 2000000)
/-- cells hold a matrix -/
def clI9 (ρ : Nat → Nat) (κ : zS) (a m : Nat) (M : Nat → Nat → Nat) : Prop := (zN κ (zR κ soCells a)) = 1056 ∧ ∀ i j, i < m → (j < m ∨ j = 32) → zQ κ (zR κ soCells a) (33 * i + j) = some (cU9 κ a i j) ∧ ρ (cU9 κ a i j) = 1000000 + (33 * i + j) ∧ nuN κ (cU9 κ a i j) = M i j
theorem so_rw9 {C : zC} {n0 a ca : Nat} {ρ : Nat → Nat} {R : Nat → Prop} {κ τ : zS} (W : zW C n0 κ) (Ta : zT κ a = 12) (Z : zF (soF ρ R ca) κ τ) : zR τ soCells a = zR κ soCells a ∧ zQ τ (zR κ soCells a) = zQ κ (zR κ soCells a) ∧ zN τ (zR κ soCells a) = zN κ (zR κ soCells a) ∧ ∀ i j, cU9 τ a i j = cU9 κ a i j := by
  have e : zR τ soCells a = zR κ soCells a := (soF_r9 Z (by decide)).1
  have n : ¬ soF ρ R ca soCells a := fun z => by
    rcases z with ⟨_, z | z | z⟩ | ⟨_, z | z | z | z⟩ <;> exact absurd z (by decide)
  have q := (Z.row W (f := soCells) (t := 24) (by decide +kernel) (by decide) Ta n).2.2
  rw [e] at q
  refine ⟨e, q, Z.l (ty_soCells W Ta), fun i j => ?_⟩
  unfold cU9
  rw [e, q]
theorem cl_f9 {C : zC} {n0 a m ca : Nat} {ρ : Nat → Nat} {R : Nat → Prop} {M : Nat → Nat → Nat} {κ τ : zS} (W : zW C n0 κ) (Ta : zT κ a = 12) (N : nmI ρ κ) (Z : zF (soF ρ R ca) κ τ) (hR : ∀ r, 1000000 ≤ r → ¬ R r) (K : clI9 ρ κ a m M) : clI9 ρ τ a m M := by
  obtain ⟨e1, e2, e3, e4⟩ := so_rw9 W Ta Z
  refine ⟨by rw [e1, e3]; exact K.1, fun i j hi hj => ?_⟩
  obtain ⟨k1, k2, k3⟩ := K.2 i j hi hj
  have t := (N.1 (cU9 κ a i j) (by rw [k2]; exact Or.inr (Or.inr (Or.inr (Or.inr (Or.inr (Or.inr (by omega)))))))).1
  rw [e1, e2, e4]
  exact ⟨k1, k2, by rw [(soF_B (c := 0) W t Z (by rw [k2]; exact hR _ (by omega))).2.1]; exact k3⟩
/-- a cell, in order -/
theorem cl_g9 {a m i j : Nat} {ρ : Nat → Nat} {M : Nat → Nat → Nat} {κ : zS} (N : nmI ρ κ) (K : clI9 ρ κ a m M) (hi : i < m) (hj : j < m ∨ j = 32) : zT κ (cU9 κ a i j) = 8 ∧ nuI κ (cU9 κ a i j) (capR (1000000 + (33 * i + j))) ∧ nuI κ (cU9 κ a i j) 30000000 ∧ nmR (ρ (cU9 κ a i j)) := by
  obtain ⟨k1, k2, k3⟩ := K.2 i j hi hj
  have r : nmR (1000000 + (33 * i + j)) := Or.inr (Or.inr (Or.inr (Or.inr (Or.inr (Or.inr (by omega))))))
  have g := nm_g N k2 r (by omega)
  exact ⟨(N.1 _ (by rw [k2]; exact r)).1, g.1, g.2.1, by rw [k2]; exact r⟩
theorem cl_n9 {a m i j i' j' : Nat} {ρ : Nat → Nat} {M : Nat → Nat → Nat} {κ : zS} (K : clI9 ρ κ a m M) (hm : m ≤ 32) (hi : i < m) (hj : j < m ∨ j = 32) (hi' : i' < m) (hj' : j' < m ∨ j' = 32) (h : ¬ (i = i' ∧ j = j')) : cU9 κ a i j ≠ cU9 κ a i' j' := ro_n (K.2 i j hi hj).2.1 (K.2 i' j' hi' hj').2.1 (by omega)
/-- a cell is written -/
theorem cl_w9 {C : zC} {n0 a m i0 j0 v : Nat} {ρ : Nat → Nat} {M : Nat → Nat → Nat} {κ τ : zS} (W : zW C n0 κ) (Ta : zT κ a = 12) (N : nmI ρ κ) (I : soI ρ κ a) (hm : m ≤ 32) (hi : i0 < m) (hj : j0 < m ∨ j0 = 32) (K : clI9 ρ κ a m M) (Z : zF (nuF (cU9 κ a i0 j0)) κ τ) (J : nuI τ (cU9 κ a i0 j0) (capR (1000000 + (33 * i0 + j0)))) (hv : nuN τ (cU9 κ a i0 j0) = v) : (zF (soF ρ elR9 (zR κ soCalc a)) κ τ ∧ nmI ρ τ ∧ soI ρ τ a) ∧ clI9 ρ τ a m (fun i j => if i = i0 ∧ j = j0 then v else M i j) := by
  have k0 := (K.2 i0 j0 hi hj).2.1
  have Zs : zF (soF ρ elR9 (zR κ soCalc a)) κ τ := soF_1 (by rw [k0]; exact Or.inr ⟨by omega, by omega⟩) Z
  obtain ⟨e1, e2, e3, e4⟩ := so_rw9 W Ta Zs
  refine ⟨⟨Zs, nm_1 W N Z (by rw [k0]; exact J), so_1 W Ta I Z⟩, by rw [e1, e3]; exact K.1, fun i j hi' hj' => ?_⟩
  obtain ⟨k1, k2, k3⟩ := K.2 i j hi' hj'
  rw [e1, e2, e4]
  refine ⟨k1, k2, ?_⟩
  show nuN τ (cU9 κ a i j) = if i = i0 ∧ j = j0 then v else M i j
  by_cases z : i = i0 ∧ j = j0
  · rw [if_pos z, z.1, z.2]; exact hv
  · rw [if_neg z]
    have g := (cl_g9 N K hi' hj').1
    have ne := cl_n9 K hm hi' hj' hi hj z
    rw [(nuB_z (c := 0) W g Z (fun y => ne y.1) (fun y => ne y.1)).2.2.1]
    exact k3
theorem cap_c9 {i j : Nat} (hi : i < 32) (hj : j ≤ 32) : capR (1000000 + (33 * i + j)) = if j = 32 then 3000 else 40 := by
  unfold capR
  rw [if_neg (by omega), if_neg (by omega), if_pos (by omega)]
  by_cases z : j = 32
  · rw [if_pos z, if_pos (by omega)]
  · rw [if_neg z, if_neg (by omega)]
theorem dec_9 {x : Int32} (h : 0 ≤ x.toInt) (h0 : ¬ x = 0) : 0 < x.toInt ∧ (x - 1).toInt = x.toInt - 1 ∧ (x - 1).toNatClampNeg = x.toNatClampNeg - 1 ∧ 0 ≤ (x - 1).toInt := by
  have a : x.toInt ≠ 0 := fun z => h0 (Int32.toInt.inj (z.trans t0i.symm))
  have hi := ihi x
  have s1 : (x - 1).toInt = x.toInt - 1 := by
    have q := sub_i (x := x) (y := 1) (by rw [t1i]; omega) (by rw [t1i]; omega)
    rw [t1i] at q
    exact q
  have k0 := cnk h
  have k1 := cnk (x := x - 1) (by omega)
  exact ⟨by omega, s1, by omega, by omega⟩
/-- how many limbs a cell's number may have -/
def cB9 (j : Nat) : Nat := if j = 32 then 1960 else 24
theorem cB9_c {i j : Nat} (hi : i < 32) (hj : j ≤ 32) : cB9 j + cB9 j / 2 + 1 ≤ capR (1000000 + (33 * i + j)) ∧ capR (1000000 + (33 * i + j)) ≤ 30000000 ∧ cB9 j ≤ 1960 := by
  rw [cap_c9 hi hj]
  unfold cB9
  split <;> decide
theorem So_shrink_c {C : zC} {n0 : Nat} {a0 : Nat} {a1 : Nat} {a2 : Int32} {κ : zS} {Q : zS → Prop} (W : zW C n0 κ) (Ta0 : zT κ a0 = 12) (Ta1 : zT κ a1 = 8) (ρ : Nat → Nat) (M9 : Nat → Nat → Nat) (m9 i9 j9 q9 : Nat) (hp : (nmI ρ κ ∧ soI ρ κ a0) ∧ clI9 ρ κ a0 m9 M9 ∧ (m9 ≤ 32 ∧ i9 < m9 ∧ (j9 < m9 ∨ j9 = 32)) ∧ a1 = cU9 κ a0 i9 j9 ∧ (0 ≤ a2.toInt ∧ a2.toInt < m9) ∧ ((a2 = 0 → q9 = 1) ∧ (¬ a2 = 0 → q9 = M9 (a2.toNatClampNeg - 1) (a2.toNatClampNeg - 1))) ∧ nuN κ (zR κ soSum a0) < pB9 2100 ∧ nuN κ (zR κ soSum a0) / q9 < pB9 (cB9 j9)) (h : ∀ (κ' : zS), ((zF (soF ρ elR9 (zR κ soCalc a0)) κ κ' ∧ nmI ρ κ' ∧ soI ρ κ' a0) ∧ clI9 ρ κ' a0 m9 (fun i j => if i = i9 ∧ j = j9 then nuN κ (zR κ soSum a0) / q9 else M9 i j)) → Q κ') : zRun C 3 mSo_shrink [.ref a0, .ref a1, .int a2] κ (oV Q noX) := by
  refine So_shrink_run W Ta0 Ta1 ?_
  replace W := W.lo (Nat.le_trans W.1.2.1 W.1.2.2) (Nat.le_refl (zn κ))
  unfold w_So_shrink_0
  obtain ⟨⟨N0, S0⟩, K0, ⟨hm, hi, hj⟩, ha, p1, ⟨q0, q1⟩, p2, p3⟩ := hp
  have kn := cnk p1.1
  have j32 : j9 ≤ 32 := by omega
  have cB := cB9_c (i := i9) (j := j9) (by omega) j32
  have g7 := nm_g N0 S0.1.2.2.2.2.1 (Or.inl ⟨by decide, by decide⟩) (by decide)
  have kS := nuK_lt g7.1 p2
  have gc := cl_g9 N0 K0 hi hj
  have kr := (K0.2 i9 j9 hi hj).2.1
  refine ⟨fun c1 => ?_, fun c1 => ?_⟩
  · skip
    intro T2
    refine So_cell_c2 W T2  ?_ (fun r3 q5 => ?_)
    · have d := dec_9 p1.1 c1
      rw [d.2.2.1]
      exact ⟨K0.1, ⟨d.2.2.2, by omega⟩, ⟨d.2.2.2, by omega⟩, (K0.2 (a2.toNatClampNeg - 1) (a2.toNatClampNeg - 1) (by omega) (Or.inl (by omega))).1⟩
    intro W6
    intro M7
    intro T8
    intro T9
    intro T10
    intro T11
    have d := dec_9 p1.1 c1
    have e1 := d.2.2.1
    have kp := K0.2 (a2.toNatClampNeg - 1) (a2.toNatClampNeg - 1) (by omega) (Or.inl (by omega))
    have gp := cl_g9 N0 K0 (i := a2.toNatClampNeg - 1) (j := a2.toNatClampNeg - 1) (by omega) (Or.inl (by omega))
    rw [e1] at q5
    subst q5
    have ci := so_ca N0 S0
    unfold caI caN caK at ci
    have o1 := (caS_n (so_o S0 S0.1.2.2.2.2.1 (by decide))).1
    have o2 := (caS_n (so_o S0 kp.2.1 (by omega))).1
    refine Ca_divide_c W6 T9 T10 T11 6500 ?_ (fun κ_12 q13 => ?_)
    · exact ⟨⟨ci.2.1.1, ci.2.1.2.1, ci.2.1.2.2.1⟩, ⟨g7.2.1, gp.2.2.1⟩, ci.1.1, o1, o2, by omega, by decide⟩  -- p2
    have D := nm_d (a := a0) W6 T2 N0 S0 q13
    have Zd : zF (soF ρ (fun r => r = 10) (zR κ soCalc a0)) κ κ_12 := soF_p (fun b z => S0.2.2.1 b ((show b = _ ∨ b = _ ∨ b = _ from z).elim Or.inl (fun z => z.elim (fun y => Or.inr (Or.inl y)) (fun y => Or.inr (Or.inr (Or.inl y)))))) q13.1
    obtain ⟨DZ, ⟨DQ, DV⟩, _, _⟩ := q13
    rw [kp.2.2, ← q1 c1] at DV
    have K12 := cl_f9 W T2 N0 Zd (fun r h z => by omega) K0
    have eU := (so_rw9 W T2 Zd).2.2.2 i9 j9
    have T12 : zT κ_12 a0 = 12 := Zd.t T2 (by decide)
    have g12 := cl_g9 D.1 K12 hi hj
    have ec : zR κ_12 soCalc a0 = (zR κ soCalc a0) := (soF_r9 Zd (by decide)).1
    have eq : zR κ_12 caQuotient (zR κ_12 soCalc a0) = zR κ caQuotient (zR κ soCalc a0) := by rw [ec, (soF_r9 Zd (f := caQuotient) (by decide)).1]
    have kQ : nuK κ_12 (zR κ caQuotient (zR κ soCalc a0)) ≤ cB9 j9 := nuK_lt DQ (by rw [DV]; exact p3)
    have rq := S0.2.2.1 (zR κ caQuotient (zR κ soCalc a0)) (Or.inl rfl)
    rw [eU, ← ha] at g12
    intro W14
    intro M15
    intro T16
    intro T17
    refine Nu_copy_c W14 T16 T17 (capR (1000000 + (33 * i9 + j9))) 6500 ?_ (fun κ_18 q19 => ?_)
    · rw [eq]
      exact ⟨g12.2.1.1.2.1, DQ.1, ro_n (show ρ a1 = 1000000 + (33 * i9 + j9) by rw [ha]; exact kr) rq (by omega), by omega, cB.2.1⟩
    intro W20
    intro M21
    refine h _ ?_
    · rw [eq, DV] at q19
      obtain ⟨Fc, Bc, Vc, Kc, Zc⟩ := q19
      rw [ha, ← eU] at Fc Bc Vc Zc
      have w := cl_w9 W14 T12 D.1 D.2 hm hi hj K12 Fc ⟨Bc, Zc DQ.2⟩ Vc
      rw [ec] at w
      exact ⟨⟨(soF_m (fun r z => Or.inl (by omega)) Zd).tr w.1.1, w.1.2⟩, w.2⟩
  · skip
    intro T22
    intro T23
    refine Nu_copy_c W T22 T23 (capR (1000000 + (33 * i9 + j9))) 6500 ?_ (fun κ_24 q25 => ?_)
    · have q9e := q0 c1
      rw [q9e, Nat.div_one] at p3
      have kQ : nuK κ (zR κ soSum a0) ≤ cB9 j9 := nuK_lt g7.1 p3
      rw [ha]
      exact ⟨gc.2.1.1.2.1, g7.1.1, ro_n kr S0.1.2.2.2.2.1 (by omega), by omega, cB.2.1⟩
    intro W26
    intro M27
    refine h _ ?_
    · rw [ha] at q25
      obtain ⟨Fc, Bc, Vc, Kc, Zc⟩ := q25
      have q9e := q0 c1
      rw [q9e, Nat.div_one]
      exact cl_w9 W Ta0 N0 S0 hm hi hj K0 Fc ⟨Bc, Zc g7.1.2⟩ Vc
