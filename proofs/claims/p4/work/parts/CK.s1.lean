set_option maxHeartbeats 1600000
/-! the class: Solver's addTerm -/
theorem soF_x {ρ : Nat → Nat} {R : Nat → Prop} {ca w : Nat} (h : ¬ R (ρ w)) : ¬ soF ρ R ca nuLimbs w ∧ ¬ soF ρ R ca nuLength w := by
  refine ⟨fun z => ?_, fun z => ?_⟩
  · rcases z with z | ⟨_, z | z | z | z⟩
    · exact h z.1
    · exact absurd z (by decide)
    · exact absurd z (by decide)
    · exact absurd z (by decide)
    · exact absurd z (by decide)
  · rcases z with z | ⟨_, z | z | z | z⟩
    · exact h z.1
    · exact absurd z (by decide)
    · exact absurd z (by decide)
    · exact absurd z (by decide)
    · exact absurd z (by decide)
theorem soF_B {C : zC} {n0 w c ca : Nat} {ρ : Nat → Nat} {R : Nat → Prop} {κ τ : zS} (W : zW C n0 κ) (T : zT κ w = 8) (Z : zF (soF ρ R ca) κ τ) (h : ¬ R (ρ w)) : (nuI κ w c → nuI τ w c) ∧ nuN τ w = nuN κ w ∧ nuK τ w = nuK κ w := by
  have x := soF_x (ca := ca) h
  have b := nuB_z (c := c) W T Z x.1 x.2
  exact ⟨b.2.1, b.2.2.1, b.2.2.2⟩
/-- powers that nobody should work out -/
def pB9 (m : Nat) : Nat := 2147483648 ^ m
theorem pB9_2 {m : Nat} : pB9 (m + 2) = pB9 m * 4611686018427387904 := by
  unfold pB9
  rw [Nat.pow_add]
theorem pB9_a {m n : Nat} : pB9 (m + n) = pB9 m * pB9 n := by
  unfold pB9
  rw [Nat.pow_add]
/-- roles that addTerm touches -/
def adR9 : Nat → Prop := fun r => r = 4 ∨ r = 5 ∨ r = 6 ∨ r = 7 ∨ r = 8 ∨ r = 10
theorem j_ab {x : Int64} (h : -4611686018427387904 < x.toInt) (h2 : x.toInt < 4611686018427387904) : (if 0 < x then x else -x).toInt = (x.toInt.natAbs : Int) := by
  have z64 : (0 : Int64).toInt = 0 := rfl
  by_cases z : 0 < x
  · rw [if_pos z]
    rw [jlti, z64] at z
    omega
  · rw [if_neg z, jneg_i (by omega)]
    rw [jlti, z64] at z
    omega
theorem nuK_2 {κ : zS} {w c : Nat} (I : nuI κ w c) (h : nuN κ w < 4611686018427387904) : nuK κ w ≤ 2 := nuK_lt I (by
  have e : (2147483648 : Nat) ^ 2 = 4611686018427387904 := by decide
  rw [e]
  exact h)
theorem So_addTerm_c {C : zC} {n0 : Nat} {a0 : Nat} {a1 : Int64} {κ : zS} {Q : zS → Prop} (W : zW C n0 κ) (Ta0 : zT κ a0 = 12) (ρ : Nat → Nat) (hp : (nmI ρ κ ∧ soI ρ κ a0) ∧ (-4611686018427387904 < a1.toInt ∧ a1.toInt < 4611686018427387904) ∧ (nuN κ (zR κ soWhole a0) < pB9 2000 ∧ nuN κ (zR κ raTop (zR κ soPart a0)) < pB9 100 ∧ 0 < nuN κ (zR κ raBottom (zR κ soPart a0))) ∧ nuN κ (zR κ soSum a0) < pB9 4000 ∧ nuN κ (zR κ soLess a0) < pB9 4000) (h : ∀ (κ' : zS), (zF (soF ρ adR9 (zR κ soCalc a0)) κ κ' ∧ (nmI ρ κ' ∧ soI ρ κ' a0) ∧ (0 < a1.toInt → nuN κ' (zR κ soSum a0) = nuN κ (zR κ soSum a0) + nuN κ (zR κ raTop (zR κ soPart a0)) * a1.toInt.natAbs * (nuN κ (zR κ soWhole a0) / nuN κ (zR κ raBottom (zR κ soPart a0))) ∧ nuN κ' (zR κ soLess a0) = nuN κ (zR κ soLess a0)) ∧ (¬ 0 < a1.toInt → nuN κ' (zR κ soLess a0) = nuN κ (zR κ soLess a0) + nuN κ (zR κ raTop (zR κ soPart a0)) * a1.toInt.natAbs * (nuN κ (zR κ soWhole a0) / nuN κ (zR κ raBottom (zR κ soPart a0))) ∧ nuN κ' (zR κ soSum a0) = nuN κ (zR κ soSum a0))) → Q κ') : zRun C 4 mSo_addTerm [.ref a0, .long a1] κ (oV Q noX) := by
  refine So_addTerm_run W Ta0 ?_
  replace W := W.lo (Nat.le_trans W.1.2.1 W.1.2.2) (Nat.le_refl (zn κ))
  unfold w_So_addTerm_0
  obtain ⟨⟨N0, S0⟩, p1, ⟨p2, p3, p4⟩, p5, p6⟩ := hp
  obtain ⟨⟨r1, r4, r5, r6, r7, r8, r20⟩, _, rS, r9⟩ := id S0
  have P20 := N0.2 (zR κ soPart a0) (by rw [r20]; exact Or.inl rfl)
  have h21 : ρ (zR κ raTop (zR κ soPart a0)) = 21 := by rw [P20.2.1, r20]
  have h22 : ρ (zR κ raBottom (zR κ soPart a0)) = 22 := by rw [P20.2.2, r20]
  have z64 : (0 : Int64).toInt = 0 := rfl
  have s20 : ∀ r, 1 ≤ r → r < 20 → nmR r := fun r x y => Or.inl ⟨x, y⟩
  have g1 := nm_g N0 r1 (s20 _ (by decide) (by decide)) (by decide)
  have g4 := nm_g N0 r4 (s20 _ (by decide) (by decide)) (by decide)
  have g5 := nm_g N0 r5 (s20 _ (by decide) (by decide)) (by decide)
  have g6 := nm_g N0 r6 (s20 _ (by decide) (by decide)) (by decide)
  have g7 := nm_g N0 r7 (s20 _ (by decide) (by decide)) (by decide)
  have g8 := nm_g N0 r8 (s20 _ (by decide) (by decide)) (by decide)
  have g21 := nm_g N0 h21 (Or.inr (Or.inl rfl)) (by decide)
  have g22 := nm_g N0 h22 (Or.inr (Or.inr (Or.inl rfl))) (by decide)
  have c1 : capR 1 = 6500 := rfl
  have tt1 := ty_soWhole W Ta0
  have tt4 := ty_soFactor W Ta0
  have tt5 := ty_soScaled W Ta0
  have tt6 := ty_soTerm W Ta0
  have tt7 := ty_soSum W Ta0
  have tt8 := ty_soLess W Ta0
  have tt21 : zT κ (zR κ raTop (zR κ soPart a0)) = 8 := ty_raTop W P20.1
  have tt22 : zT κ (zR κ raBottom (zR κ soPart a0)) = 8 := ty_raBottom W P20.1
  have k1 := nuK_lt g1.1 p2
  have k21 := nuK_lt g21.1 p3
  have hj103 : ∀ (l0 : Nat) (l1 : Int64) (τ : zS), zW C (zn κ) τ → zT τ l0 = 12 → (a0 = l0 ∧ a1 = l1 ∧ zF (soF ρ adR9 (zR κ soCalc a0)) κ τ ∧ (nmI ρ τ ∧ soI ρ τ a0) ∧ (∀ f b, f ≠ nuLimbs → f ≠ nuLength → zR τ f b = zR κ f b) ∧ (nuN τ (zR κ soTerm a0) = nuN κ (zR κ raTop (zR κ soPart a0)) * a1.toInt.natAbs * (nuN κ (zR κ soWhole a0) / nuN κ (zR κ raBottom (zR κ soPart a0))) ∧ nuK τ (zR κ soTerm a0) ≤ 2102) ∧ nuN τ (zR κ soSum a0) = nuN κ (zR κ soSum a0) ∧ nuN τ (zR κ soLess a0) = nuN κ (zR κ soLess a0)) → w_So_addTerm_103 C (zn κ) Q  l0 l1 τ := by
    rintro _ _ τ103 W103 T103_0 ⟨rfl, rfl, j103⟩
    unfold w_So_addTerm_103
    obtain ⟨Z1, ⟨N1, S1⟩, hr1, ⟨V1, K1⟩, u1, v1⟩ := j103
    have e6 : zR τ103 soTerm a0 = (zR κ soTerm a0) := hr1 _ _ (by decide) (by decide)
    have e7 : zR τ103 soSum a0 = (zR κ soSum a0) := hr1 _ _ (by decide) (by decide)
    have e8 : zR τ103 soLess a0 = (zR κ soLess a0) := hr1 _ _ (by decide) (by decide)
    have f6 := nm_g N1 r6 (s20 _ (by decide) (by decide)) (by decide)
    have f7 := nm_g N1 r7 (s20 _ (by decide) (by decide)) (by decide)
    have f8 := nm_g N1 r8 (s20 _ (by decide) (by decide)) (by decide)
    have k7 := nuK_lt f7.1 (by rw [u1]; exact p5)
    have k8 := nuK_lt f8.1 (by rw [v1]; exact p6)
    refine ⟨fun c1 => ?_, fun c1 => ?_⟩
    · skip
      intro T2
      intro T3
      refine Nu_plus_c W103 T2 T3 6500 30000000 ?_ (fun κ_4 q5 => ?_)
      · rw [e6, e8]
        exact ⟨f8.1, f6.2.1, ro_n r8 r6 (by decide), ⟨by omega, by omega⟩, by decide⟩
      intro W6
      intro M7
      refine h _ ?_
      · rw [lg_cmp_le, jlei, z64] at c1
        rw [e6, e8] at q5
        obtain ⟨F, I, V⟩ := q5
        have b7 := nuB_z (c := 6500) W103 (Z1.t tt7 (by decide)) F (fun z => ro_n r7 r8 (by decide) z.1) (fun z => ro_n r7 r8 (by decide) z.1)
        refine ⟨Z1.tr (soF_1 (by rw [r8]; exact Or.inr (Or.inr (Or.inr (Or.inr (Or.inl rfl))))) F), ⟨nm_1 W103 N1 F (by rw [r8]; exact I), so_1 W103 T103_0 S1 F⟩, fun z => absurd z (by omega), fun _ => ⟨by rw [V, v1, V1], by rw [b7.2.2.1, u1]⟩⟩
    · skip
      intro T8
      intro T9
      refine Nu_plus_c W103 T8 T9 6500 30000000 ?_ (fun κ_10 q11 => ?_)
      · rw [e6, e7]
        exact ⟨f7.1, f6.2.1, ro_n r7 r6 (by decide), ⟨by omega, by omega⟩, by decide⟩
      intro W12
      intro M13
      refine h _ ?_
      · rw [lg_cmp_le, jlei, z64] at c1
        rw [e6, e7] at q11
        obtain ⟨F, I, V⟩ := q11
        have b8 := nuB_z (c := 6500) W103 (Z1.t tt8 (by decide)) F (fun z => ro_n r8 r7 (by decide) z.1) (fun z => ro_n r8 r7 (by decide) z.1)
        refine ⟨Z1.tr (soF_1 (by rw [r7]; exact Or.inr (Or.inr (Or.inr (Or.inl rfl)))) F), ⟨nm_1 W103 N1 F (by rw [r7]; exact I), so_1 W103 T103_0 S1 F⟩, fun _ => ⟨by rw [V, u1, V1], by rw [b8.2.2.1, v1]⟩, fun z => absurd z (by omega)⟩
  intro T14
  have ab := j_ab p1.1 p1.2
  refine Nu_put_c W T14 6500 ?_ (fun κ_15 q16 => ?_)
  · rw [ab]
    exact ⟨⟨by omega, by omega⟩, g4.2.2⟩
  rw [ab, Int.toNat_natCast] at q16
  obtain ⟨F15, ⟨R15, M15⟩, I15, V15⟩ := q16
  have N15 : nmI ρ κ_15 := nm_1 W N0 F15 (by rw [r4]; exact I15)
  have S15 : soI ρ κ_15 a0 := so_1 W Ta0 S0 F15
  have Z15 : zF (soF ρ (fun r => r = 4) (zR κ soCalc a0)) κ κ_15 := soF_1 r4 F15
  have w1 := soF_B (c := 30000000) W tt1 Z15 (by rw [r1]; decide)
  have w21 := soF_B (c := 30000000) W tt21 Z15 (by rw [h21]; decide)
  have w22 := soF_B (c := 30000000) W tt22 Z15 (by rw [h22]; decide)
  have T0_15 : zT κ_15 a0 = 12 := F15.t Ta0 (by decide)
  have k4 : nuK κ_15 (zR κ soFactor a0) ≤ 2 := nuK_2 I15 (by rw [V15]; omega)
  intro W17
  intro M18
  intro T19
  intro T20
  refine Nu_compare_c W17 T19 T20 30000000 30000000 ?_ (fun r21 q23 => ?_)
  · rw [R15]
    exact ⟨w1.1 g1.2.1, w22.1 g22.2.1⟩
  intro W24
  intro M25
  have dp : (nuC κ_15 (zR κ caQuotient (zR κ soCalc a0)) 6500 ∧ nuC κ_15 (zR κ caRest (zR κ soCalc a0)) 6500 ∧ nuC κ_15 (zR κ caDivisor (zR κ soCalc a0)) 6500) ∧ (nuI κ_15 (zR κ soWhole a0) 30000000 ∧ nuI κ_15 (zR κ raBottom (zR κ soPart a0)) 30000000) ∧ (zR κ caQuotient (zR κ soCalc a0) ≠ zR κ caRest (zR κ soCalc a0) ∧ zR κ caQuotient (zR κ soCalc a0) ≠ zR κ caDivisor (zR κ soCalc a0) ∧ zR κ caRest (zR κ soCalc a0) ≠ zR κ caDivisor (zR κ soCalc a0)) ∧ ((zR κ soWhole a0) ≠ zR κ caQuotient (zR κ soCalc a0) ∧ (zR κ soWhole a0) ≠ zR κ caRest (zR κ soCalc a0) ∧ (zR κ soWhole a0) ≠ zR κ caDivisor (zR κ soCalc a0)) ∧ ((zR κ raBottom (zR κ soPart a0)) ≠ zR κ caQuotient (zR κ soCalc a0) ∧ (zR κ raBottom (zR κ soPart a0)) ≠ zR κ caRest (zR κ soCalc a0) ∧ (zR κ raBottom (zR κ soPart a0)) ≠ zR κ caDivisor (zR κ soCalc a0)) ∧ nuK κ_15 (zR κ soWhole a0) + 1 + (nuK κ_15 (zR κ soWhole a0) + 1) / 2 + 2 ≤ 6500 ∧ 6500 ≤ 30000000 := by
    have ci := so_ca N15 S15
    unfold caI caN caK at ci
    rw [R15] at ci
    have o1 := (caS_n (so_o S0 r1 (by decide))).1
    have o22 := (caS_n (so_o S0 h22 (by decide))).1
    exact ⟨⟨ci.2.1.1, ci.2.1.2.1, ci.2.1.2.2.1⟩, ⟨w1.1 g1.2.1, w22.1 g22.2.1⟩, ci.1.1, o1, o22, by rw [w1.2.2]; omega, by decide⟩
  refine ⟨fun c26 => ?_, fun c26 => ?_⟩
  · skip
    intro T27
    intro T28
    intro T29
    refine Ca_divide_c W24 T27 T28 T29 6500 ?_ (fun κ_30 q31 => ?_)
    · rw [R15]
      exact dp
    have D := nm_d (a := a0) W17 T0_15 N15 S15 q31
    have Z30' : zF (soF ρ adR9 (zR κ soCalc a0)) κ_15 κ_30 := soF_p (fun b z => by
      have q : ρ b = 10 := by
        rw [R15] at z
        exact rS b ((show b = _ ∨ b = _ ∨ b = _ from z).elim Or.inl (fun z => z.elim (fun y => Or.inr (Or.inl y)) (fun y => Or.inr (Or.inr (Or.inl y)))))
      rw [q]
      exact Or.inr (Or.inr (Or.inr (Or.inr (Or.inr rfl))))) q31.1
    have hr30 : ∀ f b, f ≠ nuLimbs → f ≠ nuLength → zR κ_30 f b = zR κ f b := fun f b x y => (nuFp_r q31.1 x y).trans (nuF_r F15 x y)
    rw [R15, w1.2.1, w22.2.1] at q31
    obtain ⟨DZ, ⟨DQ, DV⟩, _, _⟩ := q31
    have n3 : ∀ w r, ρ w = r → r ≠ 10 → ¬ oo3 (zR κ caQuotient (zR κ soCalc a0)) (zR κ caRest (zR κ soCalc a0)) (zR κ caDivisor (zR κ soCalc a0)) w := fun w r x y => by
      have o := (caS_n (so_o S0 x y)).1
      exact oo3_n o.1 o.2.1 o.2.2
    have x21 := nuFp_B (c := 30000000) W17 (F15.t tt21 (by decide)) DZ (n3 _ _ h21 (by decide))
    have x4 := nuFp_B (c := 30000000) W17 (F15.t tt4 (by decide)) DZ (n3 _ _ r4 (by decide))
    have x7 := nuFp_B (c := 30000000) W17 (F15.t tt7 (by decide)) DZ (n3 _ _ r7 (by decide))
    have x8 := nuFp_B (c := 30000000) W17 (F15.t tt8 (by decide)) DZ (n3 _ _ r8 (by decide))
    have T0_30 : zT κ_30 a0 = 12 := DZ.t T0_15 (by decide)
    have I21 : nuI κ_30 (zR κ raTop (zR κ soPart a0)) 30000000 := x21.2.1 (w21.1 g21.2.1)
    have I4 : nuI κ_30 (zR κ soFactor a0) 30000000 := x4.2.1 (nuI_mono (by decide) I15)
    have f5 := nm_g D.1 r5 (s20 _ (by decide) (by decide)) (by decide)
    have e21 : zR κ_30 raTop (zR κ_30 soPart a0) = (zR κ raTop (zR κ soPart a0)) := by rw [hr30 soPart _ (by decide) (by decide), hr30 raTop _ (by decide) (by decide)]
    have kq : nuK κ_30 (zR κ caQuotient (zR κ soCalc a0)) ≤ 2000 := nuK_lt DQ (by rw [DV]; exact Nat.lt_of_le_of_lt (Nat.div_le_self _ _) p2)
    have k21' : nuK κ_30 (zR κ raTop (zR κ soPart a0)) ≤ 100 := by rw [x21.2.2.2, w21.2.2]; exact k21
    have k4' : nuK κ_30 (zR κ soFactor a0) ≤ 2 := by rw [x4.2.2.2]; exact k4
    intro W32
    intro M33
    intro T34
    intro T35
    intro T36
    refine Nu_product_c W32 T34 T35 T36 6500 30000000 30000000 ?_ (fun κ_37 q38 => ?_)
    · rw [e21, hr30 soScaled _ (by decide) (by decide), hr30 soFactor _ (by decide) (by decide)]
      exact ⟨f5.2.2, ⟨I21, I4⟩, ⟨ro_n r5 h21 (by decide), ro_n r5 r4 (by decide)⟩, by omega, by decide⟩
    rw [e21, hr30 soScaled _ (by decide) (by decide), hr30 soFactor _ (by decide) (by decide), x21.2.2.1, x4.2.2.1, w21.2.1, V15] at q38
    obtain ⟨F37, I37, V37⟩ := q38
    have N37 : nmI ρ κ_37 := nm_1 W32 D.1 F37 (by rw [r5]; exact I37)
    have S37 : soI ρ κ_37 a0 := so_1 W32 T0_30 D.2 F37
    have hr37 : ∀ f b, f ≠ nuLimbs → f ≠ nuLength → zR κ_37 f b = zR κ f b := fun f b x y => (nuF_r F37 x y).trans (hr30 f b x y)
    have T0_37 : zT κ_37 a0 = 12 := F37.t T0_30 (by decide)
    have eq37 : zR κ_37 caQuotient (zR κ_37 soCalc a0) = zR κ caQuotient (zR κ soCalc a0) := by rw [hr37 soCalc _ (by decide) (by decide), hr37 caQuotient _ (by decide) (by decide)]
    have rq := rS (zR κ caQuotient (zR κ soCalc a0)) (Or.inl rfl)
    have Tq := ty_caQuotient W (ty_soCalc W Ta0)
    have yq := nuB_z (c := 30000000) W32 (DZ.t (F15.t Tq (by decide)) (by decide)) F37 (fun z => ro_n rq r5 (by decide) z.1) (fun z => ro_n rq r5 (by decide) z.1)
    have y7 := nuB_z (c := 30000000) W32 (DZ.t (F15.t tt7 (by decide)) (by decide)) F37 (fun z => ro_n r7 r5 (by decide) z.1) (fun z => ro_n r7 r5 (by decide) z.1)
    have y8 := nuB_z (c := 30000000) W32 (DZ.t (F15.t tt8 (by decide)) (by decide)) F37 (fun z => ro_n r8 r5 (by decide) z.1) (fun z => ro_n r8 r5 (by decide) z.1)
    have f6 := nm_g N37 r6 (s20 _ (by decide) (by decide)) (by decide)
    have lT : nuN κ (zR κ raTop (zR κ soPart a0)) * a1.toInt.natAbs < pB9 102 := by
      rw [show (102 : Nat) = 100 + 2 from rfl, pB9_2]
      exact Nat.mul_lt_mul'' p3 (by omega)
    have k5 : nuK κ_37 (zR κ soScaled a0) ≤ 102 := nuK_lt I37 (by rw [V37]; exact lT)
    intro W39
    intro M40
    intro T41
    intro T42
    intro T43
    refine Nu_product_c W39 T41 T42 T43 6500 30000000 30000000 ?_ (fun κ_44 q45 => ?_)
    · rw [eq37, hr37 soTerm _ (by decide) (by decide), hr37 soScaled _ (by decide) (by decide), yq.2.2.2]
      exact ⟨f6.2.2, ⟨nuI_mono (by decide) I37, yq.2.1 (nuI_mono (by decide) DQ)⟩, ⟨ro_n r6 r5 (by decide), ro_n r6 rq (by decide)⟩, by omega, by decide⟩
    intro W46
    intro M47
    rw [eq37, hr37 soTerm _ (by decide) (by decide), hr37 soScaled _ (by decide) (by decide), yq.2.2.1, V37, DV] at q45
    obtain ⟨F44, I44, V44⟩ := q45
    refine hj103 _ _ _ W46 ?_ ?_
    · exact F44.t T0_37 (by decide)  -- t10
    · have z7 := nuB_z (c := 30000000) W39 (F37.t (DZ.t (F15.t tt7 (by decide)) (by decide)) (by decide)) F44 (fun z => ro_n r7 r6 (by decide) z.1) (fun z => ro_n r7 r6 (by decide) z.1)
      have z8 := nuB_z (c := 30000000) W39 (F37.t (DZ.t (F15.t tt8 (by decide)) (by decide)) (by decide)) F44 (fun z => ro_n r8 r6 (by decide) z.1) (fun z => ro_n r8 r6 (by decide) z.1)
      have v7 := nuB_z (c := 30000000) W tt7 F15 (fun z => ro_n r7 r4 (by decide) z.1) (fun z => ro_n r7 r4 (by decide) z.1)
      have v8 := nuB_z (c := 30000000) W tt8 F15 (fun z => ro_n r8 r4 (by decide) z.1) (fun z => ro_n r8 r4 (by decide) z.1)
      have Zf : zF (soF ρ adR9 (zR κ soCalc a0)) κ κ_44 := (((soF_m (fun r z => Or.inl z) Z15).tr Z30').tr (soF_1 (by rw [r5]; exact Or.inr (Or.inl rfl)) F37)).tr (soF_1 (by rw [r6]; exact Or.inr (Or.inr (Or.inl rfl))) F44)
      refine ⟨rfl, rfl, Zf, ⟨nm_1 W39 N37 F44 (by rw [r6]; exact I44), so_1 W39 T0_37 S37 F44⟩, fun f b x y => (nuF_r F44 x y).trans (hr37 f b x y), ⟨V44, nuK_lt I44 ?_⟩, by rw [z7.2.2.1, y7.2.2.1, x7.2.2.1, v7.2.2.1], by rw [z8.2.2.1, y8.2.2.1, x8.2.2.1, v8.2.2.1]⟩
      show _ < pB9 2102
      rw [V44, show (2102 : Nat) = 102 + 2000 from rfl, pB9_a]
      exact Nat.mul_lt_mul'' lT (Nat.lt_of_le_of_lt (Nat.div_le_self _ _) p2)
  · skip
    intro T48
    intro T49
    intro T50
    have f6 := nm_g N15 r6 (s20 _ (by decide) (by decide)) (by decide)
    have k21' : nuK κ_15 (zR κ raTop (zR κ soPart a0)) ≤ 100 := by rw [w21.2.2]; exact k21
    refine Nu_product_c W24 T48 T49 T50 6500 30000000 30000000 ?_ (fun κ_51 q52 => ?_)
    · have f62 := f6.2.2
      unfold nuC at f62
      rw [R15] at f62 ⊢
      exact ⟨f62, ⟨w21.1 g21.2.1, nuI_mono (by decide) I15⟩, ⟨ro_n r6 h21 (by decide), ro_n r6 r4 (by decide)⟩, by omega, by decide⟩
    intro W53
    intro M54
    rw [R15, w21.2.1, V15] at q52
    obtain ⟨F51, I51, V51⟩ := q52
    refine hj103 _ _ _ W53 ?_ ?_
    · exact F51.t T0_15 (by decide)  -- t13
    · have we : nuN κ (zR κ soWhole a0) = nuN κ (zR κ raBottom (zR κ soPart a0)) := by
        rw [R15, w1.2.1, w22.2.1] at q23
        have e0 : r21.toInt = 0 := by rw [c26]; rfl
        omega
      have z7 := nuB_z (c := 30000000) W17 (F15.t tt7 (by decide)) F51 (fun z => ro_n r7 r6 (by decide) z.1) (fun z => ro_n r7 r6 (by decide) z.1)
      have z8 := nuB_z (c := 30000000) W17 (F15.t tt8 (by decide)) F51 (fun z => ro_n r8 r6 (by decide) z.1) (fun z => ro_n r8 r6 (by decide) z.1)
      have v7 := nuB_z (c := 30000000) W tt7 F15 (fun z => ro_n r7 r4 (by decide) z.1) (fun z => ro_n r7 r4 (by decide) z.1)
      have v8 := nuB_z (c := 30000000) W tt8 F15 (fun z => ro_n r8 r4 (by decide) z.1) (fun z => ro_n r8 r4 (by decide) z.1)
      have Zf : zF (soF ρ adR9 (zR κ soCalc a0)) κ κ_51 := (soF_m (fun r z => Or.inl z) Z15).tr (soF_1 (by rw [r6]; exact Or.inr (Or.inr (Or.inl rfl))) F51)
      have lT : nuN κ (zR κ raTop (zR κ soPart a0)) * a1.toInt.natAbs < pB9 102 := by
        rw [show (102 : Nat) = 100 + 2 from rfl, pB9_2]
        exact Nat.mul_lt_mul'' p3 (by omega)
      have kf := nuK_lt I51 (by rw [V51]; exact lT)
      exact ⟨rfl, rfl, Zf, ⟨nm_1 W17 N15 F51 (by rw [r6]; exact I51), so_1 W17 T0_15 S15 F51⟩, fun f b x y => (nuF_r F51 x y).trans (nuF_r F15 x y), ⟨by rw [V51, we, Nat.div_self p4, Nat.mul_one], by omega⟩, by rw [z7.2.2.1, v7.2.2.1], by rw [z8.2.2.1, v8.2.2.1]⟩
