set_option maxHeartbeats 1600000
/-! the class: Solver's settle -/
theorem caS_eq {κ τ : zS} {a : Nat} (N : caN κ a) (M : caN τ a) (S : ∀ b, caS τ a b → caS κ a b) (hq : zR τ caQuotient a = zR κ caQuotient a) (hd : zR τ caDivisor a = zR κ caDivisor a) : ∀ b, caS κ a b → caS τ a b := by
  have s1 := S _ (Or.inr (Or.inl rfl))
  have s2 := S _ (Or.inr (Or.inr (Or.inr (Or.inl rfl))))
  have s3 := S _ (Or.inr (Or.inr (Or.inr (Or.inr rfl))))
  unfold caS at s1 s2 s3
  unfold caN at N M
  rw [hq, hd] at M
  intro b z
  unfold caS at z ⊢
  rw [hq, hd]
  generalize zR κ caQuotient a = q at *
  generalize zR κ caDivisor a = d at *
  generalize zR κ caRest a = r at *
  generalize zR κ caX a = x at *
  generalize zR κ caY a = y at *
  generalize zR τ caRest a = r' at *
  generalize zR τ caX a = x' at *
  generalize zR τ caY a = y' at *
  clear S hq hd
  omega
theorem nm_k {C : zC} {n0 : Nat} {ρ : Nat → Nat} {F : Nat → Nat → Prop} {κ τ : zS} (W : zW C n0 κ) (N : nmI ρ κ) (Z : zF F κ τ) (hF : ∀ w, nmR (ρ w) → (¬ F nuLimbs w ∧ ¬ F nuLength w) ∨ (nuC τ w (capR (ρ w)) ∧ (ρ w ≠ 10 → nuI τ w (capR (ρ w))))) (h1 : ∀ v, zR τ raTop v = zR κ raTop v) (h2 : ∀ v, zR τ raBottom v = zR κ raBottom v) : nmI ρ τ := by
  refine ⟨fun w h => ?_, fun v h => ?_⟩
  · obtain ⟨t, c, i⟩ := N.1 w h
    refine ⟨Z.t t (by decide), ?_⟩
    rcases hF w h with ⟨a, b⟩ | x
    · have u := nu_z W t Z a b
      refine ⟨?_, fun y => (nuB_z (c := capR (ρ w)) W t Z a b).2.1 (i y)⟩
      unfold nuC
      rw [u.2.1, u.2.2.2]
      exact c
    · exact x
  · obtain ⟨t, p, q⟩ := N.2 v h
    exact ⟨Z.t t (by decide), by rw [h1]; exact p, by rw [h2]; exact q⟩
/-- a call of the Solver's Calc -/
theorem nm_ca9 {C : zC} {n0 a : Nat} {ρ : Nat → Nat} {P : Nat → Prop} {κ τ : zS} (W : zW C n0 κ) (N : nmI ρ κ) (I : soI ρ κ a) (Z : zF (caF P (zR κ soCalc a)) κ τ) (K : caI τ (zR κ soCalc a) 6500) (S : ∀ b, caS τ (zR κ soCalc a) b → caS κ (zR κ soCalc a) b) (hP : ∀ b, P b → caS κ (zR κ soCalc a) b ∨ (ρ b ≠ 10 ∧ nuI τ b (capR (ρ b)))) : nmI ρ τ ∧ soI ρ τ a := by
  have fr : ∀ f b, (f ≠ nuLimbs ∧ f ≠ nuLength ∧ f ≠ caRest ∧ f ≠ caX ∧ f ≠ caY ∧ f ≠ caFactors) → zR τ f b = zR κ f b := fun f b h => caF_r Z h
  have E := caS_eq I.2.1.1 K.1 S (fr _ _ (by decide)) (fr _ _ (by decide))
  have cp : ∀ b, caS τ (zR κ soCalc a) b → nuC τ b 6500 := fun b z => by
    rcases z with z | z | z | z | z
    · rw [z]; exact K.2.1.1
    · rw [z]; exact K.2.1.2.1
    · rw [z]; exact K.2.1.2.2.1
    · rw [z]; exact K.2.1.2.2.2.1
    · rw [z]; exact K.2.1.2.2.2.2
  refine ⟨nm_k W N Z (fun w h => ?_) (fun v => fr _ _ (by decide)) (fun v => fr _ _ (by decide)), ?_⟩
  · by_cases p : P w
    · right
      rcases hP w p with z | ⟨z1, z2⟩
      · have r := I.2.2.1 w z
        rw [r]
        exact ⟨cp w (E w z), fun y => absurd rfl y⟩
      · exact ⟨z2.1.2.1, fun _ => z2⟩
    · exact Or.inl (caF_x p)
  · have e := fr soCalc a (by decide)
    unfold soI
    rw [e, fr soWhole a (by decide), fr soFactor a (by decide), fr soScaled a (by decide), fr soTerm a (by decide), fr soSum a (by decide), fr soLess a (by decide), fr soPart a (by decide), fr caSpare _ (by decide)]
    exact ⟨I.1, ⟨K.1, K.2.2⟩, fun b z => I.2.2.1 b (S b z), I.2.2.2⟩
theorem so_k' {ρ : Nat → Nat} {κ τ : zS} {a : Nat} (I : soI ρ κ a) (hr : ∀ f b, f ≠ nuLimbs → f ≠ nuLength → f ≠ raSign → zR τ f b = zR κ f b) (hn : zN τ (zR κ caFactors (zR κ soCalc a)) = zN κ (zR κ caFactors (zR κ soCalc a))) : soI ρ τ a := by
  unfold soI caN caS
  rw [hr soWhole a (by decide) (by decide) (by decide), hr soFactor a (by decide) (by decide) (by decide), hr soScaled a (by decide) (by decide) (by decide), hr soTerm a (by decide) (by decide) (by decide), hr soSum a (by decide) (by decide) (by decide), hr soLess a (by decide) (by decide) (by decide), hr soPart a (by decide) (by decide) (by decide), hr soCalc a (by decide) (by decide) (by decide), hr caQuotient _ (by decide) (by decide) (by decide), hr caRest _ (by decide) (by decide) (by decide), hr caDivisor _ (by decide) (by decide) (by decide), hr caX _ (by decide) (by decide) (by decide), hr caY _ (by decide) (by decide) (by decide), hr caFactors _ (by decide) (by decide) (by decide), hr caSpare _ (by decide) (by decide) (by decide), hn]
  exact I
/-- a sign is stored -/
theorem nm_s {C : zC} {n0 a : Nat} {ρ : Nat → Nat} {κ τ : zS} {p : Nat} {v : Int32} (W : zW C n0 κ) (N : nmI ρ κ) (I : soI ρ κ a) (e : τ = ui κ raSign p v) : nmI ρ τ ∧ soI ρ τ a := by
  have r : zR τ = zR κ := by rw [e]; rfl
  have n : zN τ = zN κ := by rw [e]; rfl
  have Z : zF (fun f b => f = raSign ∧ b = p) κ τ := by rw [e]; exact zF_ui ⟨rfl, rfl⟩
  exact ⟨nm_k W N Z (fun w h => Or.inl ⟨fun z => absurd z.1 (by decide), fun z => absurd z.1 (by decide)⟩) (fun v => by rw [r]) (fun v => by rw [r]), so_k I (fun f b _ _ => by rw [r]) (by rw [n])⟩
def stR9 : Nat → Prop := fun r => r = 10 ∨ r = 20 ∨ r = 21 ∨ r = 22
/-- what settle leaves in the part -/
def stO (κ κ' : zS) (p t b S L B : Nat) : Prop := (S = L ∧ (zI κ' raSign p).toInt = 0 ∧ nuN κ' t = 0 ∧ nuN κ' b = 1) ∨ (S ≠ L ∧ ((zI κ' raSign p).toInt = 1 ∨ (zI κ' raSign p).toInt = -1) ∧ nuN κ' t = (S - L + (L - S)) / Nat.gcd (S - L + (L - S)) B ∧ nuN κ' b = B / Nat.gcd (S - L + (L - S)) B)
theorem So_settle_c {C : zC} {n0 : Nat} {a0 : Nat} {a1 : Nat} {κ : zS} {Q : zS → Prop} (W : zW C n0 κ) (Ta0 : zT κ a0 = 12) (Ta1 : zT κ a1 = 8) (ρ : Nat → Nat) (b9 : Nat) (hp : (nmI ρ κ ∧ soI ρ κ a0) ∧ (ρ a1 = b9 ∧ (b9 = 1 ∨ b9 = 15)) ∧ nuN κ a1 < pB9 4000 ∧ nuN κ (zR κ soSum a0) < pB9 4000 ∧ nuN κ (zR κ soLess a0) < pB9 4000) (h : ∀ (κ' : zS), (zF (soF ρ stR9 (zR κ soCalc a0)) κ κ' ∧ (nmI ρ κ' ∧ soI ρ κ' a0) ∧ stO κ κ' (zR κ soPart a0) (zR κ raTop (zR κ soPart a0)) (zR κ raBottom (zR κ soPart a0)) (nuN κ (zR κ soSum a0)) (nuN κ (zR κ soLess a0)) (nuN κ a1)) → Q κ') : zRun C 6 mSo_settle [.ref a0, .ref a1] κ (oV Q noX) := by
  refine So_settle_run W Ta0 Ta1 ?_
  replace W := W.lo (Nat.le_trans W.1.2.1 W.1.2.2) (Nat.le_refl (zn κ))
  unfold w_So_settle_0
  obtain ⟨⟨N0, S0⟩, ⟨hb, hb9⟩, p1, p2, p3⟩ := hp
  obtain ⟨⟨h1, h4, h5, h6, h7, h8, h20⟩, _, rS, h9⟩ := id S0
  have P20 := N0.2 (zR κ soPart a0) (by rw [h20]; exact Or.inl rfl)
  have h21 : ρ (zR κ raTop (zR κ soPart a0)) = 21 := by rw [P20.2.1, h20]
  have h22 : ρ (zR κ raBottom (zR κ soPart a0)) = 22 := by rw [P20.2.2, h20]
  have s20 : ∀ r, 1 ≤ r → r < 20 → nmR r := fun r x y => Or.inl ⟨x, y⟩
  have nb : nmR b9 ∧ b9 ≠ 10 ∧ ¬ stR9 b9 ∧ b9 ≠ 21 ∧ b9 ≠ 22 := by
    rcases hb9 with z | z <;> rw [z] <;> exact ⟨Or.inl ⟨by decide, by decide⟩, by decide, by unfold stR9; decide, by decide, by decide⟩
  have n7 : ¬ stR9 7 := by unfold stR9; decide
  have n8 : ¬ stR9 8 := by unfold stR9; decide
  clear hb9
  have g7 := nm_g N0 h7 (s20 _ (by decide) (by decide)) (by decide)
  have g8 := nm_g N0 h8 (s20 _ (by decide) (by decide)) (by decide)
  have gb := nm_g N0 hb nb.1 nb.2.1
  have tt7 := ty_soSum W Ta0
  have tt8 := ty_soLess W Ta0
  have tp21 : zT κ (zR κ raTop (zR κ soPart a0)) = 8 := ty_raTop W P20.1
  have tp22 : zT κ (zR κ raBottom (zR κ soPart a0)) = 8 := ty_raBottom W P20.1
  have k7 := nuK_lt g7.1 p2
  have k8 := nuK_lt g8.1 p3
  have kb := nuK_lt gb.1 p1
  have m21 : nmR 21 := Or.inr (Or.inl rfl)
  have m22 : nmR 22 := Or.inr (Or.inr (Or.inl rfl))
  have hj79 : ∀ (l0 : Nat) (l1 : Nat) (s0 : Nat) (s1 : Nat) (τ : zS), zW C (zn κ) τ → zT τ l0 = 12 → zT τ l1 = 8 → zT τ s0 = 8 → zT τ s1 = 8 → (a0 = l0 ∧ a1 = l1 ∧ zF (soF ρ stR9 (zR κ soCalc a0)) κ τ ∧ (nmI ρ τ ∧ soI ρ τ a0) ∧ (∀ f b, f ≠ nuLimbs → f ≠ nuLength → zR τ f b = zR κ f b) ∧ ((zI τ raSign (zR κ soPart a0)).toInt = 1 ∨ (zI τ raSign (zR κ soPart a0)).toInt = -1) ∧ s0 = (zR κ raTop (zR κ soPart a0)) ∧ (s1 = (zR κ soSum a0) ∧ nuN τ (zR κ raTop (zR κ soPart a0)) = nuN κ (zR κ soLess a0) ∧ nuN κ (zR κ soSum a0) < nuN κ (zR κ soLess a0) ∨ s1 = (zR κ soLess a0) ∧ nuN τ (zR κ raTop (zR κ soPart a0)) = nuN κ (zR κ soSum a0) ∧ nuN κ (zR κ soLess a0) < nuN κ (zR κ soSum a0))) → w_So_settle_79 C (zn κ) Q  l0 l1 s0 s1 τ := by
    rintro _ _ y79_s0 y79_s1 τ79 W79 T79_0 T79_1 T79_2 T79_3 ⟨rfl, rfl, j79⟩
    unfold w_So_settle_79
    intro T1
    intro T2
    obtain ⟨Z1, ⟨N1, S1⟩, hr1, sg1, rfl, s79⟩ := j79
    have v7 := soF_B (c := 30000000) W tt7 Z1 (by rw [h7]; exact n7)
    have v8 := soF_B (c := 30000000) W tt8 Z1 (by rw [h8]; exact n8)
    have vb := soF_B (c := 30000000) W Ta1 Z1 (by rw [hb]; exact nb.2.2.1)
    have f21 := nm_g N1 h21 m21 (by decide)
    have f22 := nm_g N1 h22 m22 (by decide)
    have tb1 : zT τ79 (zR κ raBottom (zR κ soPart a0)) = 8 := Z1.t tp22 (by decide)
    have eb1 : zR τ79 raBottom (zR τ79 soPart a0) = (zR κ raBottom (zR κ soPart a0)) := by rw [hr1 soPart _ (by decide) (by decide), hr1 raBottom _ (by decide) (by decide)]
    have gen : ∃ A9, y79_s1 = A9 ∧ ρ A9 ≠ 21 ∧ nuI τ79 A9 30000000 ∧ nuN τ79 A9 ≤ nuN τ79 (zR κ raTop (zR κ soPart a0)) ∧ nuN κ (zR κ soSum a0) ≠ nuN κ (zR κ soLess a0) ∧ nuN τ79 (zR κ raTop (zR κ soPart a0)) - nuN τ79 A9 = nuN κ (zR κ soSum a0) - nuN κ (zR κ soLess a0) + (nuN κ (zR κ soLess a0) - nuN κ (zR κ soSum a0)) ∧ nuN τ79 (zR κ raTop (zR κ soPart a0)) < pB9 4000 := by
      rcases s79 with ⟨z1, z2, z3⟩ | ⟨z1, z2, z3⟩
      · exact ⟨(zR κ soSum a0), z1, by rw [h7]; decide, v7.1 g7.2.1, by rw [v7.2.1, z2]; omega, by omega, by rw [v7.2.1, z2]; omega, by rw [z2]; exact p3⟩
      · exact ⟨(zR κ soLess a0), z1, by rw [h8]; decide, v8.1 g8.2.1, by rw [v8.2.1, z2]; omega, by omega, by rw [v8.2.1, z2]; omega, by rw [z2]; exact p2⟩
    clear s79
    obtain ⟨A9, rfl, a21, aI, aL, aN, aD, aT⟩ := gen
    refine Nu_minus_c W79 T1 T2 6500 30000000 ?_ (fun κ_3 q4 => ?_)
    · exact ⟨f21.1, aI, fun e => a21 (by rw [← e]; exact h21), aL⟩  -- p1
    rw [aD] at q4
    obtain ⟨F3, I3, V3⟩ := q4
    have N3 : nmI ρ κ_3 := nm_1 W79 N1 F3 (by rw [h21]; exact I3)
    have S3 : soI ρ κ_3 a0 := so_1 W79 T79_0 S1 F3
    have hr3 : ∀ f b, f ≠ nuLimbs → f ≠ nuLength → zR κ_3 f b = zR κ f b := fun f b x y => (nuF_r F3 x y).trans (hr1 f b x y)
    have eb3 : zR κ_3 raBottom (zR κ_3 soPart a0) = (zR κ raBottom (zR κ soPart a0)) := by rw [hr3 soPart _ (by decide) (by decide), hr3 raBottom _ (by decide) (by decide)]
    have f22' := nm_g N3 h22 m22 (by decide)
    have b3 := nuB_z (c := 30000000) W79 T79_1 F3 (fun z => ro_n hb h21 nb.2.2.2.1 z.1) (fun z => ro_n hb h21 nb.2.2.2.1 z.1)
    have T3 : zT κ_3 a0 = 12 := F3.t T79_0 (by decide)
    have tb3 : zT κ_3 (zR κ raTop (zR κ soPart a0)) = 8 := F3.t (Z1.t tp21 (by decide)) (by decide)
    intro W5
    intro M6
    intro T7
    intro T8
    refine Nu_copy_c W5 T7 T8 6500 30000000 ?_ (fun κ_9 q10 => ?_)
    · rw [eb3, b3.2.2.2, vb.2.2]
      exact ⟨f22'.2.2, (b3.2.1 (vb.1 gb.2.1)).1, (ro_n hb h22 nb.2.2.2.2).symm, by omega, by decide⟩
    rw [eb3, b3.2.2.1, vb.2.1] at q10
    obtain ⟨F9, B9, V9, K9, Z9⟩ := q10
    have I9 : nuI κ_9 (zR κ raBottom (zR κ soPart a0)) 6500 := ⟨B9, Z9 (b3.2.1 (vb.1 gb.2.1)).2⟩
    have N9 : nmI ρ κ_9 := nm_1 W5 N3 F9 (by rw [h22]; exact I9)
    have S9 : soI ρ κ_9 a0 := so_1 W5 T3 S3 F9
    have hr9 : ∀ f b, f ≠ nuLimbs → f ≠ nuLength → zR κ_9 f b = zR κ f b := fun f b x y => (nuF_r F9 x y).trans (hr3 f b x y)
    have ec9 : zR κ_9 soCalc a0 = (zR κ soCalc a0) := hr9 _ _ (by decide) (by decide)
    have et9 : zR κ_9 raTop (zR κ_9 soPart a0) = (zR κ raTop (zR κ soPart a0)) := by rw [hr9 soPart _ (by decide) (by decide), hr9 raTop _ (by decide) (by decide)]
    have eb9 : zR κ_9 raBottom (zR κ_9 soPart a0) = (zR κ raBottom (zR κ soPart a0)) := by rw [hr9 soPart _ (by decide) (by decide), hr9 raBottom _ (by decide) (by decide)]
    have bt9 := nuB_z (c := 6500) W5 tb3 F9 (fun z => ro_n h21 h22 (by decide) z.1) (fun z => ro_n h21 h22 (by decide) z.1)
    have VT9 : nuN κ_9 (zR κ raTop (zR κ soPart a0)) = nuN κ (zR κ soSum a0) - nuN κ (zR κ soLess a0) + (nuN κ (zR κ soLess a0) - nuN κ (zR κ soSum a0)) := by rw [bt9.2.2.1]; exact V3
    have lT : nuN κ_9 (zR κ raTop (zR κ soPart a0)) < pB9 4000 := by
      rw [VT9]
      omega
    intro W11
    intro M12
    intro T13
    intro T14
    intro T15
    refine Ca_reduce_c W11 T13 T14 T15 6500 4000 6500 ?_ (fun κ_16 q17 => ?_)
    · rw [et9, eb9]
      refine ⟨⟨bt9.2.1 I3, I9⟩, so_ca N9 S9, ⟨so_o S9 h21 (by decide), so_o S9 h22 (by decide), ro_n h21 h22 (by decide)⟩, ⟨lT, by rw [V9]; exact p1⟩, ⟨by decide, by decide, by decide⟩, by decide, by decide⟩
    intro W18
    intro M19
    refine h _ ?_
    · rw [et9, eb9, VT9, V9] at q17
      obtain ⟨⟨Z16, C16, S16⟩, ⟨I16, V16⟩, J16, U16⟩ := q17
      have R := nm_ca9 W11 N9 S9 Z16 C16 S16 (fun b z => by
        rcases z with z | z | z
        · exact Or.inl z
        · right
          rw [z, h21]
          exact ⟨by decide, I16⟩
        · right
          rw [z, h22]
          exact ⟨by decide, J16⟩)
      have s16 : zI κ_16 raSign (zR κ soPart a0) = zI κ_9 raSign (zR κ soPart a0) := Z16.i (fun z => by
        rcases z with ⟨_, z | z⟩ | ⟨_, z | z | z | z⟩
        · exact absurd z (by decide)
        · exact absurd z (by decide)
        · exact absurd z (by decide)
        · exact absurd z (by decide)
        · exact absurd z (by decide)
        · exact absurd z (by decide))
      have sg : zI κ_16 raSign (zR κ soPart a0) = zI τ79 raSign (zR κ soPart a0) := s16.trans ((nuF_i F9).trans (nuF_i F3))
      rw [ec9] at Z16
      have Zf : zF (soF ρ stR9 (zR κ soCalc a0)) κ κ_16 := ((Z1.tr (soF_1 (by rw [h21]; exact Or.inr (Or.inr (Or.inl rfl))) F3)).tr (soF_1 (by rw [h22]; exact Or.inr (Or.inr (Or.inr rfl))) F9)).tr (soF_c (fun b z => by
        rcases z with z | z | z
        · have q := S9.2.2.1 b (by rw [ec9]; exact z)
          rw [q]
          exact Or.inl rfl
        · rw [z, h21]
          exact Or.inr (Or.inr (Or.inl rfl))
        · rw [z, h22]
          exact Or.inr (Or.inr (Or.inr rfl))) Z16)
      refine ⟨Zf, R, Or.inr ⟨aN, ?_, V16, U16⟩⟩
      rw [sg]
      exact sg1
  have hj54 : ∀ (l0 : Nat) (l1 : Nat) (l2 : Int32) (s0 : Nat) (s1 : Nat) (τ : zS), zW C (zn κ) τ → zT τ l0 = 12 → zT τ l1 = 8 → zT τ s0 = 8 → zT τ s1 = 8 → (a0 = l0 ∧ a1 = l1 ∧ zF (soF ρ stR9 (zR κ soCalc a0)) κ τ ∧ (nmI ρ τ ∧ soI ρ τ a0) ∧ (∀ f b, f ≠ nuLimbs → f ≠ nuLength → zR τ f b = zR κ f b) ∧ ((zI τ raSign (zR κ soPart a0)).toInt = l2.toInt ∧ (l2.toInt = 1 ∨ l2.toInt = -1)) ∧ s0 = (zR κ raTop (zR κ soPart a0)) ∧ (l2.toInt ≤ 0 ∧ s1 = (zR κ soLess a0) ∧ nuN κ (zR κ soSum a0) < nuN κ (zR κ soLess a0) ∨ ¬ l2.toInt ≤ 0 ∧ s1 = (zR κ soSum a0) ∧ nuN κ (zR κ soLess a0) < nuN κ (zR κ soSum a0))) → w_So_settle_54 C (zn κ) Q  l0 l1 l2 s0 s1 τ := by
    rintro _ _ y54_2 y54_s0 y54_s1 τ54 W54 T54_0 T54_1 T54_2 T54_3 ⟨rfl, rfl, j54⟩
    unfold w_So_settle_54
    intro T20
    intro T21
    obtain ⟨Z1, ⟨N1, S1⟩, hr1, ⟨sg1, sg2⟩, rfl, s54⟩ := j54
    have v7 := soF_B (c := 30000000) W tt7 Z1 (by rw [h7]; exact n7)
    have v8 := soF_B (c := 30000000) W tt8 Z1 (by rw [h8]; exact n8)
    have f21 := nm_g N1 h21 m21 (by decide)
    refine Nu_copy_c W54 T20 T21 6500 30000000 ?_ (fun κ_22 q23 => ?_)
    · rcases s54 with ⟨z1, rfl, z3⟩ | ⟨z1, rfl, z3⟩
      · exact ⟨f21.2.2, (v8.1 g8.2.1).1, ro_n h21 h8 (by decide), by rw [v8.2.2]; omega, by decide⟩
      · exact ⟨f21.2.2, (v7.1 g7.2.1).1, ro_n h21 h7 (by decide), by rw [v7.2.2]; omega, by decide⟩
    obtain ⟨F22, B22, V22, K22, Y22⟩ := q23
    have I22 : nuI κ_22 (zR κ raTop (zR κ soPart a0)) 6500 := ⟨B22, Y22 (by
      rcases s54 with ⟨z1, rfl, z3⟩ | ⟨z1, rfl, z3⟩
      · exact (v8.1 g8.2.1).2
      · exact (v7.1 g7.2.1).2)⟩
    have N22 : nmI ρ κ_22 := nm_1 W54 N1 F22 (by rw [h21]; exact I22)
    have S22 : soI ρ κ_22 a0 := so_1 W54 T54_0 S1 F22
    have hr22 : ∀ f b, f ≠ nuLimbs → f ≠ nuLength → zR κ_22 f b = zR κ f b := fun f b x y => (nuF_r F22 x y).trans (hr1 f b x y)
    have et22 : zR κ_22 raTop (zR κ_22 soPart a0) = (zR κ raTop (zR κ soPart a0)) := by rw [hr22 soPart _ (by decide) (by decide), hr22 raTop _ (by decide) (by decide)]
    have Z22 : zF (soF ρ stR9 (zR κ soCalc a0)) κ κ_22 := Z1.tr (soF_1 (by rw [h21]; exact Or.inr (Or.inr (Or.inl rfl))) F22)
    have sg22 : (zI κ_22 raSign (zR κ soPart a0)).toInt = 1 ∨ (zI κ_22 raSign (zR κ soPart a0)).toInt = -1 := by
      rw [nuF_i F22, sg1]
      exact sg2
    have T22 : zT κ_22 a0 = 12 := F22.t T54_0 (by decide)
    intro W24
    intro M25
    refine ⟨fun c26 => ?_, fun c26 => ?_⟩
    · skip
      refine hj79 _ _ _ _ _ W24 ?_ ?_ ?_ ?_ ?_
      · exact T22  -- t6
      · exact F22.t T54_1 (by decide)  -- t7
      · rw [et22]; exact Z22.t tp21 (by decide)  -- t8
      · rw [hr22 soSum _ (by decide) (by decide)]; exact Z22.t tt7 (by decide)  -- t9
      · rw [lei, t0i] at c26
        rcases s54 with ⟨z1, rfl, z3⟩ | ⟨z1, rfl, z3⟩
        · exact ⟨rfl, rfl, Z22, ⟨N22, S22⟩, hr22, sg22, et22, Or.inl ⟨hr22 _ _ (by decide) (by decide), by rw [V22, v8.2.1], z3⟩⟩
        · exact absurd c26 z1
    · skip
      refine hj79 _ _ _ _ _ W24 ?_ ?_ ?_ ?_ ?_
      · exact T22  -- t11
      · exact F22.t T54_1 (by decide)  -- t12
      · rw [et22]; exact Z22.t tp21 (by decide)  -- t13
      · rw [hr22 soLess _ (by decide) (by decide)]; exact Z22.t tt8 (by decide)  -- t14
      · rw [lei, t0i] at c26
        rcases s54 with ⟨z1, rfl, z3⟩ | ⟨z1, rfl, z3⟩
        · exact absurd z1 c26
        · exact ⟨rfl, rfl, Z22, ⟨N22, S22⟩, hr22, sg22, et22, Or.inr ⟨hr22 _ _ (by decide) (by decide), by rw [V22, v7.2.1], z3⟩⟩
  intro T27
  intro T28
  refine Nu_compare_c W T27 T28 30000000 30000000 ?_ (fun r29 q31 => ?_)
  · exact ⟨g7.2.1, g8.2.1⟩  -- p16
  intro W32
  intro M33
  have q31' := q31
  refine ⟨fun c34 => ?_, fun c34 => ?_⟩
  · skip
    intro κ_35 hκ_35
    intro W36
    refine ⟨fun c37 => ?_, fun c37 => ?_⟩
    · skip
      refine hj54 _ _ _ _ _ _ W36 ?_ ?_ ?_ ?_ ?_
      · rw [hκ_35]; exact Ta0  -- t17
      · rw [hκ_35]; exact Ta1  -- t18
      · rw [hκ_35]; exact tp21  -- t19
      · rw [hκ_35]; exact tt8  -- t20
      · rw [lei, t0i] at c37
        have nz : r29.toInt ≠ 0 := fun e => c34 (Int32.toInt_inj.mp (e.trans t0i.symm))
        have Q := nm_s W N0 S0 hκ_35
        exact ⟨rfl, rfl, soF_s (by rw [h20]; exact Or.inr (Or.inl rfl)) hκ_35, Q, fun f b _ _ => by rw [hκ_35]; rfl, ⟨by rw [hκ_35]; exact congrArg Int32.toInt (if_pos ⟨rfl, rfl⟩), by omega⟩, by rw [hκ_35]; rfl, Or.inl ⟨c37, by rw [hκ_35]; rfl, by omega⟩⟩
    · skip
      refine hj54 _ _ _ _ _ _ W36 ?_ ?_ ?_ ?_ ?_
      · rw [hκ_35]; exact Ta0  -- t22
      · rw [hκ_35]; exact Ta1  -- t23
      · rw [hκ_35]; exact tp21  -- t24
      · rw [hκ_35]; exact tt7  -- t25
      · rw [lei, t0i] at c37
        have nz : r29.toInt ≠ 0 := fun e => c34 (Int32.toInt_inj.mp (e.trans t0i.symm))
        have Q := nm_s W N0 S0 hκ_35
        exact ⟨rfl, rfl, soF_s (by rw [h20]; exact Or.inr (Or.inl rfl)) hκ_35, Q, fun f b _ _ => by rw [hκ_35]; rfl, ⟨by rw [hκ_35]; exact congrArg Int32.toInt (if_pos ⟨rfl, rfl⟩), by omega⟩, by rw [hκ_35]; rfl, Or.inr ⟨c37, by rw [hκ_35]; rfl, by omega⟩⟩
  · skip
    intro T38
    refine Ra_putZero_c W32 T38 6500 ?_ (fun κ_39 q40 => ?_)
    · have f21 := nm_g N0 h21 m21 (by decide)
      have f22 := nm_g N0 h22 m22 (by decide)
      exact ⟨f21.2.2, f22.2.2, ro_n h21 h22 (by decide)⟩
    intro W41
    intro M42
    refine h _ ?_
    · have e0 : r29.toInt = 0 := by rw [c34]; rfl
      obtain ⟨Z, J, V⟩ := q40
      have et : ∀ f b, f ≠ nuLimbs → f ≠ nuLength → f ≠ raSign → zR κ_39 f b = zR κ f b := fun f b x y z => raF_r Z x y z
      have e1 := et raTop (zR κ soPart a0) (by decide) (by decide) (by decide)
      have e2 := et raBottom (zR κ soPart a0) (by decide) (by decide) (by decide)
      unfold raJ at J
      unfold raV at V
      rw [e1, e2] at J V
      have Zs : zF (soF ρ stR9 (zR κ soCalc a0)) κ κ_39 := Z.mono (fun f b z => by
        rcases z with ⟨z | z, y⟩ | z
        · exact Or.inl ⟨by rw [z, h21]; exact Or.inr (Or.inr (Or.inl rfl)), y.elim Or.inl (fun q => Or.inr (Or.inl q))⟩
        · exact Or.inl ⟨by rw [z, h22]; exact Or.inr (Or.inr (Or.inr rfl)), y.elim Or.inl (fun q => Or.inr (Or.inl q))⟩
        · exact Or.inl ⟨by rw [z.1, h20]; exact Or.inr (Or.inl rfl), Or.inr (Or.inr z.2)⟩)
      have N : nmI ρ κ_39 := nm_k W N0 Z (fun w hw => by
        by_cases z1 : w = (zR κ raTop (zR κ soPart a0))
        · right
          rw [z1, h21]
          exact ⟨J.1.1.2.1, fun _ => J.1⟩
        · by_cases z2 : w = (zR κ raBottom (zR κ soPart a0))
          · right
            rw [z2, h22]
            exact ⟨J.2.1.1.2.1, fun _ => J.2.1⟩
          · left
            refine ⟨fun z => ?_, fun z => ?_⟩
            · rcases z with ⟨z | z, _⟩ | z
              · exact z1 z
              · exact z2 z
              · exact absurd z.2 (by decide)
            · rcases z with ⟨z | z, _⟩ | z
              · exact z1 z
              · exact z2 z
              · exact absurd z.2 (by decide)) (fun v => et _ _ (by decide) (by decide) (by decide)) (fun v => et _ _ (by decide) (by decide) (by decide))
      have S : soI ρ κ_39 a0 := by
        refine so_k' S0 (fun f b x y z => et f b x y z) (Z.l (ty_caFactors W (ty_soCalc W Ta0)))
      exact ⟨Zs, ⟨N, S⟩, Or.inl ⟨by omega, V.1, V.2.1, V.2.2⟩⟩
