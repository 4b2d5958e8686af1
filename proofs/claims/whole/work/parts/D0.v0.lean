section
set_option maxHeartbeats 1600000
/-! the class: a ring's numbers on the way -/
def rgF9 (R : Nat → Prop) (ρ : Nat → Nat) (ca m a : Nat) : Nat → Nat → Prop := fun f b => soF ρ R ca f b ∨ (f = soCells ∧ b = a) ∨ (f = soRows ∧ b = a) ∨ m ≤ b
theorem rgF9_fr {R : Nat → Prop} {ρ : Nat → Nat} {ca m a : Nat} : frS9 m (rgF9 R ρ ca m a) := fun f b z => by
  rcases z with z | z | z | z
  · exact soF_fr f b z
  · exact Or.inr (Or.inr (Or.inr (Or.inr (Or.inl z.1))))
  · exact Or.inr (Or.inr (Or.inr (Or.inr (Or.inr (Or.inl z.1)))))
  · exact Or.inl z
/-- numbers and cells in order, behind some steps -/
def rgE9 (R : Nat → Prop) (ρ0 : Nat → Nat) (κ τ : zS) (a : Nat) (ρ : Nat → Nat) : Prop := (∀ b, b < zn κ → ρ b = ρ0 b) ∧ (nmI ρ τ ∧ soI ρ τ a) ∧ clK9 ρ τ a ∧ (((zN τ (zR τ soCells a)) = 0 ∨ (zN τ (zR τ soCells a)) = 1056) ∧ zK9 κ τ a) ∧ zF (rgF9 R ρ0 (zR κ soCalc a) (zn κ) a) κ τ
theorem rg_r9 {C : zC} {n0 a f : Nat} {R : Nat → Prop} {ρ0 ρ : Nat → Nat} {κ τ : zS} (W : zW C n0 κ) (Ta : zT κ a = 12) (E : rgE9 R ρ0 κ τ a ρ) (hf : 1200 ≤ f ∧ f < 1214) : zR τ f a = zR κ f a ∧ zI τ f a = zI κ f a := by
  have n := frS9_n W (rgF9_fr (R := R) (ρ := ρ0) (ca := zR κ soCalc a) (m := zn κ) (a := a)) (f := f) Ta ⟨by omega, by omega, by omega, fun e => by rw [e] at hf; exact absurd hf.2 (by decide), fun e => by rw [e] at hf; exact absurd hf.2 (by decide), by omega⟩
  exact ⟨E.2.2.2.2.r n, E.2.2.2.2.i n⟩
theorem rg_t9 {C : zC} {n0 a : Nat} {R : Nat → Prop} {ρ0 ρ ρ' : Nat → Nat} {κ τ τ' : zS} (W : zW C n0 κ) (Ta : zT κ a = 12) (E : rgE9 R ρ0 κ τ a ρ) (G : rgE9 R ρ τ τ' a ρ') : rgE9 R ρ0 κ τ' a ρ' := by
  have m := E.2.2.2.2.2.2.2.2.2.2
  have ec := (rg_r9 W Ta E (f := soCalc) (by decide)).1
  obtain ⟨G1, G2, G3, G4, G5⟩ := G
  refine ⟨fun b hb => (G1 b (by omega)).trans (E.1 b hb), G2, G3, ⟨G4.1, E.2.2.2.1.2.tr G4.2⟩, E.2.2.2.2.tr (G5.mono (fun f b z => ?_))⟩
  rcases z with z | z | z | z
  · by_cases l : b < zn κ
    · left
      unfold soF at z ⊢
      rw [E.1 b l, ec] at z
      exact z
    · exact Or.inr (Or.inr (Or.inr (by omega)))
  · exact Or.inr (Or.inl z)
  · exact Or.inr (Or.inr (Or.inl z))
  · exact Or.inr (Or.inr (Or.inr (by omega)))
theorem soF_no9 {ρ : Nat → Nat} {R : Nat → Prop} {ca f b : Nat} (h : f ≠ nuLimbs ∧ f ≠ nuLength ∧ f ≠ raSign ∧ f ≠ caRest ∧ f ≠ caX ∧ f ≠ caY ∧ f ≠ caFactors) : ¬ soF ρ R ca f b := fun z => by
  obtain ⟨h1, h2, h3, h4, h5, h6, h7⟩ := h
  rcases z with ⟨_, z | z | z⟩ | ⟨_, z | z | z | z⟩
  · exact h1 z
  · exact h2 z
  · exact h3 z
  · exact h4 z
  · exact h5 z
  · exact h6 z
  · exact h7 z
theorem zK_so9 {C : zC} {n0 a ca : Nat} {ρ : Nat → Nat} {R : Nat → Prop} {κ τ : zS} (W : zW C n0 κ) (Ta : zT κ a = 12) (Z : zF (soF ρ R ca) κ τ) : zK9 κ τ a := zK_z9 W Ta Z (fun b _ => soF_no9 (by decide)) (soF_no9 (by decide)) (soF_no9 (by decide)) (soF_no9 (by decide))
theorem rg_so9 {C : zC} {n0 a : Nat} {ρ : Nat → Nat} {R R' : Nat → Prop} {κ τ : zS} (W : zW C n0 κ) (Ta : zT κ a = 12) (K : clK9 ρ κ a) (L : (zN κ (zR κ soCells a)) = 0 ∨ (zN κ (zR κ soCells a)) = 1056) (Z : zF (soF ρ R (zR κ soCalc a)) κ τ) (hR : ∀ r, R r → R' r) (N : nmI ρ τ ∧ soI ρ τ a) : rgE9 R' ρ κ τ a ρ := by
  obtain ⟨e1, e2, e3, e4⟩ := so_rw9 W Ta Z
  refine ⟨fun _ _ => rfl, N, fun i u hi hu => ?_, ⟨?_, zK_so9 W Ta Z⟩, (soF_m hR Z).mono (fun f b z => Or.inl z)⟩
  · rw [e1, e2] at hu
    exact K i u hi hu
  · rw [e1, e3]
    exact L
theorem rg_ce9 {a : Nat} {R : Nat → Prop} {ρ ρ' : Nat → Nat} {κ τ : zS} (Z : zF (cF9 (zn κ) a) κ τ) (h : ∀ b, b < zn κ → ρ' b = ρ b) (N : nmI ρ' τ ∧ soI ρ' τ a) (K : clK9 ρ' τ a) (L : (zN τ (zR τ soCells a)) = 1056) (Kz : zK9 κ τ a) : rgE9 R ρ κ τ a ρ' := by
  refine ⟨h, N, K, ⟨Or.inr L, Kz⟩, Z.mono (fun f b z => ?_)⟩
  rcases z with z | z
  · exact Or.inr (Or.inl z)
  · exact Or.inr (Or.inr (Or.inr z))
theorem rg_09 {a : Nat} {R : Nat → Prop} {ρ : Nat → Nat} {κ : zS} (N : nmI ρ κ ∧ soI ρ κ a) (K : clK9 ρ κ a) (L : (zN κ (zR κ soCells a)) = 0 ∨ (zN κ (zR κ soCells a)) = 1056) : rgE9 R ρ κ κ a ρ := ⟨fun _ _ => rfl, N, K, ⟨L, zK9.rf⟩, zF.rf⟩
def ceR9 : Nat → Prop := fun r => 1000000 ≤ r ∧ r < 2000000
theorem rg_m9 {R R' : Nat → Prop} {ρ0 ρ : Nat → Nat} {κ τ : zS} {a : Nat} (h : ∀ r, R r → R' r) (E : rgE9 R ρ0 κ τ a ρ) : rgE9 R' ρ0 κ τ a ρ := ⟨E.1, E.2.1, E.2.2.1, E.2.2.2.1, E.2.2.2.2.mono (fun f b z => by
  rcases z with z | z
  · left
    rcases z with z | z
    · exact Or.inl ⟨h _ z.1, z.2⟩
    · exact Or.inr z
  · exact Or.inr z)⟩
/-- a number of another role stays -/
theorem rg_n9 {C : zC} {n0 a w c : Nat} {R : Nat → Prop} {ρ0 ρ : Nat → Nat} {κ τ : zS} (W : zW C n0 κ) (T : zT κ w = 8) (E : rgE9 R ρ0 κ τ a ρ) (h : ¬ R (ρ0 w)) : (nuI κ w c → nuI τ w c) ∧ nuN τ w = nuN κ w ∧ nuK τ w = nuK κ w := by
  have l := (W.2.1 w (by rw [T]; decide)).2
  have nf : ∀ f, f / 100 = 8 → ¬ rgF9 R ρ0 (zR κ soCalc a) (zn κ) a f w := fun f hf z => by
    rcases z with z | z | z | z
    · rcases z with ⟨z, _⟩ | ⟨_, z | z | z | z⟩
      · exact h z
      · rw [z] at hf; exact absurd hf (by decide)
      · rw [z] at hf; exact absurd hf (by decide)
      · rw [z] at hf; exact absurd hf (by decide)
      · rw [z] at hf; exact absurd hf (by decide)
    · rw [z.1] at hf; exact absurd hf (by decide)
    · rw [z.1] at hf; exact absurd hf (by decide)
    · omega
  have b := nuB_z (c := c) W T E.2.2.2.2 (nf _ (by decide)) (nf _ (by decide))
  exact ⟨b.2.1, b.2.2.1, b.2.2.2⟩
/-- what is read stays -/
theorem rg_x9 {C : zC} {n0 a n : Nat} {R : Nat → Prop} {ρ0 ρ : Nat → Nat} {κ τ : zS} (W : zW C n0 κ) (Ta : zT κ a = 12) (E : rgE9 R ρ0 κ τ a ρ) (X : svX9 κ a n) : svX9 τ a n ∧ zR τ soWeb a = zR κ soWeb a ∧ zR τ soAtlas a = zR κ soAtlas a ∧ zR τ soVisits a = zR κ soVisits a := svX9_f W Ta rgF9_fr E.2.2.2.2 X
theorem rg_v9 {C : zC} {n0 a n P : Nat} {R : Nat → Prop} {ρ0 ρ : Nat → Nat} {κ τ : zS} (W : zW C n0 κ) (Ta : zT κ a = 12) (N : nmI ρ0 κ) (hn : n ≤ 1000) (hR : ∀ r, 100 ≤ r → r < 1000000 → ¬ R r) (E : rgE9 R ρ0 κ τ a ρ) (V : vsI9 ρ0 κ a n P) : vsI9 ρ τ a n P ∧ ∀ k, vU9 τ a k = vU9 κ a k := by
  have Z := E.2.2.2.2
  have T9 : zT κ a = 11 + 1 := Ta
  have e3 := (Z.row W (f := soVisits) (t := 25) (by decide +kernel) (by decide) Ta (frS9_n W rgF9_fr T9 (by decide))).2.2
  have e4 : ∀ k, vU9 τ a k = vU9 κ a k := fun k => by unfold vU9; rw [e3]
  have e2 : zR τ soAtlas a = zR κ soAtlas a := (rg_r9 W Ta E (by decide)).1
  refine ⟨fun k hk => ?_, e4⟩
  obtain ⟨h1, h2, h3⟩ := V k hk
  have g := ra_g9 N h2 (by omega) (by omega) (by omega)
  have lt : ∀ x, zT κ x ≠ 0 → x < zn κ := fun x h => (W.2.1 x h).2
  have lu := lt (vU9 κ a k) (by rw [g.1.1]; decide)
  have tt := ty_raTop W g.1.1
  have tb := ty_raBottom W g.1.1
  have lt1 := lt _ (show zT κ (zR κ raTop (vU9 κ a k)) ≠ 0 by rw [tt]; decide)
  have lb1 := lt _ (show zT κ (zR κ raBottom (vU9 κ a k)) ≠ 0 by rw [tb]; decide)
  have nf : ∀ f b, b < zn κ → (100 ≤ ρ0 b ∧ ρ0 b < 1000000) → f / 100 ≠ 12 → f / 100 ≠ 4 → ¬ rgF9 R ρ0 (zR κ soCalc a) (zn κ) a f b := fun f b hb hr h12 h4 z => by
    rcases z with z | z | z | z
    · rcases z with ⟨z, _⟩ | ⟨_, z | z | z | z⟩
      · exact hR _ hr.1 hr.2 z
      · rw [z] at h4; exact absurd rfl h4
      · rw [z] at h4; exact absurd rfl h4
      · rw [z] at h4; exact absurd rfl h4
      · rw [z] at h4; exact absurd rfl h4
    · rw [z.1] at h12; exact absurd rfl h12
    · rw [z.1] at h12; exact absurd rfl h12
    · omega
  have ru : 100 ≤ ρ0 (vU9 κ a k) ∧ ρ0 (vU9 κ a k) < 1000000 := by rw [h2]; omega
  have rt : 100 ≤ ρ0 (zR κ raTop (vU9 κ a k)) ∧ ρ0 (zR κ raTop (vU9 κ a k)) < 1000000 := by rw [g.2.1.1]; omega
  have rb : 100 ≤ ρ0 (zR κ raBottom (vU9 κ a k)) ∧ ρ0 (zR κ raBottom (vU9 κ a k)) < 1000000 := by rw [g.2.1.2]; omega
  have d := dvA_f9 W rgF9_fr Z (ty_soAtlas W Ta) k
  have nt := (nuB_z (c := 0) W tt Z (nf _ _ lt1 rt (by decide) (by decide)) (nf _ _ lt1 rt (by decide) (by decide))).2.2.1
  have nb9 := (nuB_z (c := 0) W tb Z (nf _ _ lb1 rb (by decide) (by decide)) (nf _ _ lb1 rb (by decide) (by decide))).2.2.1
  rw [e3, e4]
  refine ⟨h1, by rw [E.1 _ lu]; exact h2, ?_⟩
  unfold vsK9 dvN9
  rw [e2, d, Z.i (nf raSign _ lu ru (by decide) (by decide)), Z.r (nf raTop _ lu ru (by decide) (by decide)), Z.r (nf raBottom _ lu ru (by decide) (by decide)), nt, nb9]
  exact h3
/-- some cells, and what they hold -/
def clP9 (κ : zS) (a : Nat) (P : Nat → Nat → Prop) (M : Nat → Nat → Nat) : Prop := ∀ i j, P i j → (zN κ (zR κ soCells a)) = 1056 ∧ (i < 32 ∧ j ≤ 32) ∧ zQ κ (zR κ soCells a) (33 * i + j) = some (cU9 κ a i j) ∧ nuN κ (cU9 κ a i j) = M i j
theorem cp_t9 {C : zC} {n0 a i j u : Nat} {κ : zS} (W : zW C n0 κ) (Ta : zT κ a = 12) (h : zQ κ (zR κ soCells a) (33 * i + j) = some u) : zT κ u = 8 ∧ u < zn κ ∧ cU9 κ a i j = u := by
  have t := W.2.2.2.1 _ _ _ (ty_soCells W Ta) h
  refine ⟨t, (W.2.1 u (by rw [t]; decide)).2, ?_⟩
  unfold cU9
  rw [h]
  rfl
theorem cp_so9 {C : zC} {n0 a ca : Nat} {ρ : Nat → Nat} {R : Nat → Prop} {P : Nat → Nat → Prop} {M : Nat → Nat → Nat} {κ τ : zS} (W : zW C n0 κ) (Ta : zT κ a = 12) (K : clK9 ρ κ a) (Z : zF (soF ρ R ca) κ τ) (hR : ∀ r, 1000000 ≤ r → ¬ R r) (Q : clP9 κ a P M) : clP9 τ a P M := fun i j h => by
  obtain ⟨e1, e2, e3, e4⟩ := so_rw9 W Ta Z
  obtain ⟨q0, q1, q2, q3⟩ := Q i j h
  have t := cp_t9 W Ta q2
  have r := K (33 * i + j) _ (by omega) q2
  rw [e1, e2, e3, e4, (soF_B (c := 0) W t.1 Z (by rw [r]; exact hR _ (by omega))).2.1]
  exact ⟨q0, q1, q2, q3⟩
theorem cp_ce9 {C : zC} {n0 a : Nat} {P : Nat → Nat → Prop} {M : Nat → Nat → Nat} {κ τ : zS} (W : zW C n0 κ) (Ta : zT κ a = 12) (Z : zF (cF9 (zn κ) a) κ τ) (L : (zN τ (zR τ soCells a)) = 1056) (O : clO9 κ τ a) (Q : clP9 κ a P M) : clP9 τ a P M ∧ ∀ i j, P i j → cU9 τ a i j = cU9 κ a i j := by
  have key : ∀ i j, P i j → zQ τ (zR τ soCells a) (33 * i + j) = some (cU9 κ a i j) ∧ cU9 τ a i j = cU9 κ a i j := fun i j h => by
    obtain ⟨q0, q1, q2, q3⟩ := Q i j h
    have o := O q0
    have q := o.2 _ _ q2
    rw [← o.1] at q
    exact ⟨q, by unfold cU9; rw [q]; unfold cU9 at q2; rw [q2]; rfl⟩
  refine ⟨fun i j h => ?_, fun i j h => (key i j h).2⟩
  obtain ⟨q0, q1, q2, q3⟩ := Q i j h
  have t := cp_t9 W Ta q2
  have k := key i j h
  have nf : ∀ f, f ≠ soCells → ¬ cF9 (zn κ) a f (cU9 κ a i j) := fun f hf z => by
    rcases z with z | z
    · exact hf z.1
    · omega
  rw [k.2]
  exact ⟨L, q1, k.1, by rw [(nuB_z (c := 0) W t.1 Z (nf _ (by decide)) (nf _ (by decide))).2.2.1]; exact q3⟩
theorem cp_w9 {C : zC} {n0 a i0 j0 v : Nat} {ρ : Nat → Nat} {P : Nat → Nat → Prop} {M : Nat → Nat → Nat} {κ τ : zS} (W : zW C n0 κ) (Ta : zT κ a = 12) (K : clK9 ρ κ a) (L : (zN κ (zR κ soCells a)) = 1056) (h0 : i0 < 32 ∧ j0 ≤ 32) (hu : zQ κ (zR κ soCells a) (33 * i0 + j0) = some (cU9 κ a i0 j0)) (Z : zF (nuF (cU9 κ a i0 j0)) κ τ) (hv : nuN τ (cU9 κ a i0 j0) = v) (Q : clP9 κ a P M) : clP9 τ a (fun i j => P i j ∨ (i = i0 ∧ j = j0)) (fun i j => if i = i0 ∧ j = j0 then v else M i j) := by
  have Zs : zF (soF ρ (fun r => r = 1000000 + (33 * i0 + j0)) 0) κ τ := soF_1 (K _ _ (by omega) hu) Z
  obtain ⟨e1, e2, e3, e4⟩ := so_rw9 W Ta Zs
  intro i j h
  rw [e1, e2, e3, e4]
  show _ ∧ _ ∧ _ ∧ nuN τ (cU9 κ a i j) = if i = i0 ∧ j = j0 then v else M i j
  by_cases z : i = i0 ∧ j = j0
  · rw [if_pos z, z.1, z.2]
    exact ⟨L, h0, hu, hv⟩
  · obtain ⟨q0, q1, q2, q3⟩ := Q i j ((show P i j ∨ (i = i0 ∧ j = j0) from h).elim id (fun y => absurd y z))
    rw [if_neg z]
    have t := cp_t9 W Ta q2
    have ne : cU9 κ a i j ≠ cU9 κ a i0 j0 := ro_n (K _ _ (by omega) q2) (K _ _ (by omega) hu) (by omega)
    exact ⟨q0, q1, q2, by rw [(nuB_z (c := 0) W t.1 Z (fun y => ne y.1) (fun y => ne y.1)).2.2.1]; exact q3⟩
theorem cp_i9 {a m : Nat} {ρ : Nat → Nat} {P : Nat → Nat → Prop} {M : Nat → Nat → Nat} {κ : zS} (K : clK9 ρ κ a) (h0 : 0 < m ∧ m ≤ 32) (Q : clP9 κ a P M) (hP : ∀ i j, i < m → (j < m ∨ j = 32) → P i j) : clI9 ρ κ a m M := by
  refine ⟨(Q 0 32 (hP 0 32 h0.1 (Or.inr rfl))).1, fun i j hi hj => ?_⟩
  obtain ⟨q0, q1, q2, q3⟩ := Q i j (hP i j hi hj)
  exact ⟨q2, K _ _ (by omega) q2, q3⟩
theorem cp_m9 {a : Nat} {P P' : Nat → Nat → Prop} {M M' : Nat → Nat → Nat} {κ : zS} (Q : clP9 κ a P M) (h : ∀ i j, P' i j → P i j ∧ M' i j = M i j) : clP9 κ a P' M' := fun i j z => by
  obtain ⟨h1, h2⟩ := h i j z
  rw [h2]
  exact Q i j h1
/-- a link weighs no more than all nexts of its state -/
theorem ew_9 {κ : zS} {a n t : Nat} {s e : Int32} (X : svX9 κ a n) (G : gdE (lkD κ (zR κ soAtlas a) 1) (zA κ (zR κ atFirsts (zR κ soAtlas a))) n t s e) : (zA κ (zR κ atWeights (zR κ soAtlas a)) e.toNatClampNeg).toInt ≤ (dvA κ (zR κ soAtlas a) s.toNatClampNeg).toInt ∧ (dvA κ (zR κ soAtlas a) s.toNatClampNeg).toInt ≤ 8000000 ∧ 1 ≤ (dvA κ (zR κ soAtlas a) s.toNatClampNeg).toInt := by
  obtain ⟨_, _, A, _⟩ := X
  obtain ⟨⟨g1, g2⟩, ⟨g3, g4⟩, _⟩ := G
  obtain ⟨_, AL, _, _, A5, A6⟩ := A
  have ks := cnk g1
  have E := A6 s.toNatClampNeg (by omega)
  obtain ⟨⟨e1, e2, e3⟩, e4, e5, e6, e7⟩ := E
  have e0 : 0 ≤ e.toInt := by omega
  have ke := cnk e0
  unfold dvA
  by_cases z : zA κ (zR κ atChooses (zR κ soAtlas a)) s.toNatClampNeg = 0
  · rw [if_pos z, ← e6 z]
    refine ⟨?_, e5.2, e5.1⟩
    unfold wSm
    have q := sgI_on9 (f := fun i => (zA κ (zR κ atWeights (zR κ soAtlas a)) ((zA κ (zR κ atFirsts (zR κ soAtlas a)) s.toNatClampNeg).toInt.toNat + i)).toInt) (j := e.toNatClampNeg - (zA κ (zR κ atFirsts (zR κ soAtlas a)) s.toNatClampNeg).toInt.toNat) (n := ((zA κ (zR κ atFirsts (zR κ soAtlas a)) (s.toNatClampNeg + 1)).toInt - (zA κ (zR κ atFirsts (zR κ soAtlas a)) s.toNatClampNeg).toInt).toNat) (by omega) (fun i hi => (e4 _ (by omega) (by omega)).2.2)
    rw [show (zA κ (zR κ atFirsts (zR κ soAtlas a)) s.toNatClampNeg).toInt.toNat + (e.toNatClampNeg - (zA κ (zR κ atFirsts (zR κ soAtlas a)) s.toNatClampNeg).toInt.toNat) = e.toNatClampNeg by omega] at q
    exact q
  · rw [if_neg z, e7 z _ (by omega) (by omega)]
    decide

end
section
set_option maxHeartbeats 1600000
/-! the class: Solver's fillRow -/
/-- what a ring's row holds at a column -/
def flV9 (κ : zS) (a n k rw9 f9 j v : Nat) : Prop := (j ≠ rw9 → v = 0 ∨ ∃ e : Int32, gdE (lkD κ (zR κ soAtlas a) 1) (zA κ (zR κ atFirsts (zR κ soAtlas a))) n k (zA κ (zR κ weOrder (zR κ soWeb a)) (f9 + j)) e ∧ (v : Int) = (zA κ (zR κ atWeights (zR κ soAtlas a)) e.toNatClampNeg).toInt) ∧ (j = rw9 → (v : Int) = (dvA κ (zR κ soAtlas a) k).toInt ∨ ∃ e : Int32, gdE (lkD κ (zR κ soAtlas a) 1) (zA κ (zR κ atFirsts (zR κ soAtlas a))) n k (zA κ (zR κ weOrder (zR κ soWeb a)) (f9 + j)) e ∧ (v : Int) = (dvA κ (zR κ soAtlas a) k).toInt - (zA κ (zR κ atWeights (zR κ soAtlas a)) e.toNatClampNeg).toInt)
/-- a ring's members and their rows -/
def rmI9 (κ : zS) (a n f9 m : Nat) : Prop := (f9 + m ≤ n) ∧ (n ≤ (zN κ (zR κ soRows a))) ∧ (∀ r, r < m → (zA κ (zR κ soRows a) (zA κ (zR κ weOrder (zR κ soWeb a)) (f9 + r)).toNatClampNeg).toInt = (r : Int)) ∧ ∀ s r, s < n → r < m → zA κ (zR κ weKnotOf (zR κ soWeb a)) s = zA κ (zR κ weKnotOf (zR κ soWeb a)) (zA κ (zR κ weOrder (zR κ soWeb a)) (f9 + r)).toNatClampNeg → ∃ j, j < m ∧ (zA κ (zR κ weOrder (zR κ soWeb a)) (f9 + j)).toNatClampNeg = s
theorem dv_9 {κ : zS} {a n k : Nat} (X : svX9 κ a n) (hk : k < n) : 1 ≤ (dvA κ (zR κ soAtlas a) k).toInt ∧ (dvA κ (zR κ soAtlas a) k).toInt ≤ 8000000 := by
  obtain ⟨_, _, A, _⟩ := X
  obtain ⟨_, AL, _, _, A5, A6⟩ := A
  obtain ⟨_, _, e5, e6, _⟩ := A6 k hk
  unfold dvA
  by_cases z : zA κ (zR κ atChooses (zR κ soAtlas a)) k = 0
  · rw [if_pos z, ← e6 z]; exact e5
  · rw [if_neg z]; decide
theorem rr_9 {C : zC} {n0 a : Nat} {F : Nat → Nat → Prop} {κ τ : zS} (W : zW C n0 κ) (Ta : zT κ a = 12) (Z : zF F κ τ) (h : ¬ F soRows a) : zR τ soRows a = zR κ soRows a ∧ zA τ (zR κ soRows a) = zA κ (zR κ soRows a) := by
  have e := Z.r h
  have q := (Z.row W (f := soRows) (t := 20) (by decide +kernel) (by decide) Ta h).1
  rw [e] at q
  exact ⟨e, q⟩
/-- a cell takes a number -/
theorem cl_p9 {C : zC} {n0 a u i : Nat} {ρ : Nat → Nat} {κ τ : zS} (W : zW C n0 κ) (Ta : zT κ a = 12) (N : nmI ρ κ) (S : soI ρ κ a) (K : clK9 ρ κ a) (L : (zN κ (zR κ soCells a)) = 1056) (hi : i < 1056) (hu : zQ κ (zR κ soCells a) i = some u) (Z : zF (nuF u) κ τ) (J : nuI τ u (capR (1000000 + i))) : rgE9 ceR9 ρ κ τ a ρ := by
  have r := K i u hi hu
  exact rg_so9 W Ta K (Or.inr L) (soF_1 (R := ceR9) (by rw [r]; exact ⟨by omega, by omega⟩) Z) (fun _ h => h) ⟨nm_1 W N Z (by rw [r]; exact J), so_1 W Ta S Z⟩
theorem cl_c9 {ρ : Nat → Nat} {κ : zS} {a u i : Nat} (N : nmI ρ κ) (K : clK9 ρ κ a) (hi : i < 1056) (hu : zQ κ (zR κ soCells a) i = some u) : nuI κ u (capR (1000000 + i)) := by
  have r := K i u hi hu
  have q := N.1 u (by rw [r]; exact Or.inr (Or.inr (Or.inr (Or.inr (Or.inr (Or.inr (by omega)))))))
  rw [r] at q
  exact q.2.2 (by omega)
theorem So_fillRow_c {C : zC} {n0 : Nat} {a0 : Nat} {a1 : Int32} {a2 : Int32} {a3 : Int32} {κ : zS} {Q : zS → Prop} (W : zW C n0 κ) (Ta0 : zT κ a0 = 12) (ρ : Nat → Nat) (P9 : Nat → Nat → Prop) (M9 : Nat → Nat → Nat) (n9 f9 m9 : Nat) (hp : (nmI ρ κ ∧ soI ρ κ a0) ∧ clK9 ρ κ a0 ∧ ((zN κ (zR κ soCells a0)) = 0 ∨ (zN κ (zR κ soCells a0)) = 1056) ∧ svX9 κ a0 n9 ∧ rmI9 κ a0 n9 f9 m9 ∧ (m9 ≤ 32 ∧ a3.toInt = (m9 : Int)) ∧ (0 ≤ a2.toInt ∧ a2.toInt < m9) ∧ a1 = zA κ (zR κ weOrder (zR κ soWeb a0)) (f9 + a2.toNatClampNeg) ∧ clP9 κ a0 P9 M9) (h : ∀ (κ' : zS), ((∃ ρ' : Nat → Nat, rgE9 ceR9 ρ κ κ' a0 ρ') ∧ (zR κ' soRows a0 = zR κ soRows a0 ∧ zA κ' (zR κ soRows a0) = zA κ (zR κ soRows a0)) ∧ ∃ R : Nat → Nat, (∀ j, j < m9 → flV9 κ a0 n9 a1.toNatClampNeg a2.toNatClampNeg f9 j (R j)) ∧ clP9 κ' a0 (fun i j => P9 i j ∨ (i = a2.toNatClampNeg ∧ j < m9)) (fun i j => if i = a2.toNatClampNeg ∧ j < m9 then R j else M9 i j)) → Q κ') : zRun C 3 mSo_fillRow [.ref a0, .int a1, .int a2, .int a3] κ (oV Q noX) := by
  refine So_fillRow_run W Ta0 ?_
  replace W := W.lo (Nat.le_trans W.1.2.1 W.1.2.2) (Nat.le_refl (zn κ))
  unfold w_So_fillRow_0
  obtain ⟨⟨N0, S0⟩, CK0, L0, X0, RM, ⟨hm, m3⟩, p1, ha, Q0⟩ := hp
  have kn := cnk p1.1
  have hn9 := X0.1.2.1.2
  have ok := (X0.2.1.2.2.1 (f9 + a2.toNatClampNeg) (by have := RM.1; omega)).1
  rw [← ha] at ok
  have kk := cnk ok.1
  have r0 := bk_r9 X0 (t := a1.toNatClampNeg) (by omega)
  have i1 := cn1 ok.1 (by omega)
  have dv := dv_9 X0 (k := a1.toNatClampNeg) (by omega)
  unfold w_So_fillRow_3
  refine ⟨fun n l0 l1 l2 l3 l4 τ => n = (a3.toInt - l4.toInt).toNat ∧ (a0 = l0 ∧ a1 = l1 ∧ a2 = l2 ∧ a3 = l3 ∧ (∃ ρ' : Nat → Nat, rgE9 ceR9 ρ κ τ a0 ρ') ∧ (zR τ soRows a0 = zR κ soRows a0 ∧ zA τ (zR κ soRows a0) = zA κ (zR κ soRows a0)) ∧ (0 ≤ l4.toInt ∧ l4.toInt ≤ a3.toInt) ∧ clP9 τ a0 (fun i j => P9 i j ∨ (i = a2.toNatClampNeg ∧ j < l4.toNatClampNeg)) (fun i j => if i = a2.toNatClampNeg ∧ j < l4.toNatClampNeg then (if j = a2.toNatClampNeg then (dvA κ (zR κ soAtlas a0) a1.toNatClampNeg).toInt.toNat else 0) else M9 i j)), ⟨_, rfl, ?_⟩, ?_⟩
  · refine ⟨rfl, rfl, rfl, rfl, ⟨ρ, rg_09 ⟨N0, S0⟩ CK0 L0⟩, ⟨rfl, rfl⟩, ⟨by decide, by rw [t0i]; omega⟩, cp_m9 Q0 (fun i j z => ?_)⟩
    have z0 : ¬ j < (0 : Int32).toNatClampNeg := Nat.not_lt_zero j
    exact ⟨z.elim id (fun y => absurd y.2 z0), if_neg (fun y => z0 y.2)⟩
  rintro n3 _ _ _ _ x3_4 κ3 W3 T3_0 ⟨hn3, rfl, rfl, rfl, rfl, i3⟩
  obtain ⟨⟨ρ1, E1⟩, rr, l4, Q1⟩ := i3
  have kc := cnk l4.1
  have hj35 : ∀ (l0 : Nat) (l1 : Int32) (l2 : Int32) (l3 : Int32) (l4 : Int32) (s0 : Nat) (s1 : Int64) (τ : zS), zW C (zn κ) τ → zT τ l0 = 12 → zT τ s0 = 8 → (a0 = l0 ∧ a1 = l1 ∧ a2 = l2 ∧ a3 = l3 ∧ (∃ ρ' : Nat → Nat, rgE9 ceR9 ρ κ τ a0 ρ') ∧ (zR τ soRows a0 = zR κ soRows a0 ∧ zA τ (zR κ soRows a0) = zA κ (zR κ soRows a0)) ∧ (0 ≤ l4.toInt ∧ l4.toInt < a3.toInt ∧ x3_4 = l4) ∧ clP9 τ a0 (fun i j => P9 i j ∨ (i = a2.toNatClampNeg ∧ j < l4.toNatClampNeg)) (fun i j => if i = a2.toNatClampNeg ∧ j < l4.toNatClampNeg then (if j = a2.toNatClampNeg then (dvA κ (zR κ soAtlas a0) a1.toNatClampNeg).toInt.toNat else 0) else M9 i j) ∧ ((zN τ (zR τ soCells a0)) = 1056 ∧ zQ τ (zR τ soCells a0) (33 * a2.toNatClampNeg + l4.toNatClampNeg) = some s0) ∧ s1.toInt = (if l4.toNatClampNeg = a2.toNatClampNeg then (dvA κ (zR κ soAtlas a0) a1.toNatClampNeg).toInt else 0)) → w_So_fillRow_35 C (zn κ) Q (fun (l0' : Nat) (l1' : Int32) (l2' : Int32) (l3' : Int32) (l4' : Int32) (τ : zS) => ∃ k < n3, (fun (n : Nat) (l0 : Nat) (l1 : Int32) (l2 : Int32) (l3 : Int32) (l4 : Int32) (τ : zS) => n = (a3.toInt - l4.toInt).toNat ∧ (a0 = l0 ∧ a1 = l1 ∧ a2 = l2 ∧ a3 = l3 ∧ (∃ ρ' : Nat → Nat, rgE9 ceR9 ρ κ τ a0 ρ') ∧ (zR τ soRows a0 = zR κ soRows a0 ∧ zA τ (zR κ soRows a0) = zA κ (zR κ soRows a0)) ∧ (0 ≤ l4.toInt ∧ l4.toInt ≤ a3.toInt) ∧ clP9 τ a0 (fun i j => P9 i j ∨ (i = a2.toNatClampNeg ∧ j < l4.toNatClampNeg)) (fun i j => if i = a2.toNatClampNeg ∧ j < l4.toNatClampNeg then (if j = a2.toNatClampNeg then (dvA κ (zR κ soAtlas a0) a1.toNatClampNeg).toInt.toNat else 0) else M9 i j))) k l0' l1' l2' l3' l4' τ) l0 l1 l2 l3 l4 s0 s1 τ := by
    rintro _ _ _ _ y35_4 y35_s0 y35_s1 τ35 W35 T35_0 T35_1 ⟨rfl, rfl, rfl, rfl, j35⟩
    unfold w_So_fillRow_35
    intro T1
    obtain ⟨⟨ρ3, E3⟩, rr3, ⟨l31, l32, l33⟩, Q3, ⟨L3, U3⟩, V3⟩ := j35
    subst l33
    have kc3 := cnk l31
    have cI := cl_c9 E3.2.1.1 E3.2.2.1 (by omega) U3
    have s0 : 0 ≤ y35_s1.toInt ∧ y35_s1.toInt < 4611686018427387904 := by
      rw [V3]
      split <;> omega
    refine Nu_put_c W35 T1 (capR (1000000 + (33 * a2.toNatClampNeg + x3_4.toNatClampNeg))) ?_ (fun κ_2 q3 => ?_)
    · exact ⟨s0, cI.1.2.1⟩  -- p2
    intro W4
    intro M5
    intro x6 hx6
    obtain ⟨Fp, ⟨Rp, Np⟩, Ip, Vp⟩ := q3
    have Er := cl_p9 W35 T35_0 E3.2.1.1 E3.2.1.2 E3.2.2.1 L3 (by omega) U3 Fp Ip
    have t9 := cp_t9 W35 T35_0 U3
    have ix := cn1 (x := x3_4) (by omega) (by omega)
    have rz := rr_9 W35 T35_0 Fp (fun z => absurd z.2 (by decide))
    refine ⟨_, ?_, rfl, ?_⟩
    · rw [hn3, hx6, ix.2]; omega  -- d3
    · refine ⟨rfl, rfl, rfl, rfl, ⟨ρ3, rg_t9 W Ta0 E3 Er⟩, ⟨by rw [rz.1]; exact rr3.1, by rw [← rr3.1, rz.2, rr3.1]; exact rr3.2⟩, ⟨by rw [hx6, ix.2]; omega, by rw [hx6, ix.2]; omega⟩, ?_⟩
      rw [← t9.2.2] at Fp Vp U3
      have w := cp_w9 W35 T35_0 E3.2.2.1 L3 ⟨by omega, by omega⟩ U3 Fp Vp Q3
      refine cp_m9 w (fun i j z => ?_)
      rw [hx6, ix.1] at z ⊢
      by_cases e : i = a2.toNatClampNeg ∧ j = x3_4.toNatClampNeg
      · refine ⟨Or.inr e, ?_⟩
        rw [if_pos ⟨e.1, by omega⟩, if_pos e, V3, e.2]
        split
        · rfl
        · rfl
      · refine ⟨Or.inl (z.elim Or.inl (fun y => Or.inr ⟨y.1, by omega⟩)), ?_⟩
        rw [if_neg e]
        by_cases g : i = a2.toNatClampNeg ∧ j < x3_4.toNatClampNeg
        · rw [if_pos g, if_pos ⟨g.1, by omega⟩]
        · rw [if_neg g, if_neg (by omega)]
  have X3 := rg_x9 W Ta0 E1 X0
  have eb3 : zA κ3 (zR κ3 weBackFirsts (zR κ3 soWeb a0)) = zA κ (zR κ weBackFirsts (zR κ soWeb a0)) := by rw [X3.2.1]; exact (we_f9 W rgF9_fr E1.2.2.2.2 (ty_soWeb W Ta0) (f := weBackFirsts) (by decide)).2.1
  have r3 := bk_r9 X3.1 (t := a1.toNatClampNeg) (by omega)
  refine ⟨fun c7 => ?_, fun c7 => ?_⟩
  · skip
    refine ⟨?_, ?_⟩
    · rw [inb_iff]; omega  -- b5
    intro x8 hx8
    unfold w_So_fillRow_55
    refine ⟨fun n l0 l1 l2 l4 τ => n = ((zA κ (zR κ weBackFirsts (zR κ soWeb a0)) (a1.toNatClampNeg + 1)).toInt - l4.toInt).toNat ∧ (a0 = l0 ∧ a1 = l1 ∧ a2 = l2 ∧ (∃ ρ' : Nat → Nat, rgE9 ceR9 ρ κ τ a0 ρ') ∧ (zR τ soRows a0 = zR κ soRows a0 ∧ zA τ (zR κ soRows a0) = zA κ (zR κ soRows a0)) ∧ ((zA κ (zR κ weBackFirsts (zR κ soWeb a0)) a1.toNatClampNeg).toInt ≤ l4.toInt) ∧ ∃ R : Nat → Nat, (∀ j, j < m9 → flV9 κ a0 n9 a1.toNatClampNeg a2.toNatClampNeg f9 j (R j)) ∧ clP9 τ a0 (fun i j => P9 i j ∨ (i = a2.toNatClampNeg ∧ j < m9)) (fun i j => if i = a2.toNatClampNeg ∧ j < m9 then R j else M9 i j)), ⟨_, rfl, ?_⟩, ?_⟩
    · rw [lei] at c7
      have e4 : x3_4.toNatClampNeg = m9 := by omega
      rw [e4] at Q1
      refine ⟨rfl, rfl, rfl, ⟨ρ1, E1⟩, rr, by rw [hx8, eb3]; exact Int.le_refl _, fun j => if j = a2.toNatClampNeg then (dvA κ (zR κ soAtlas a0) a1.toNatClampNeg).toInt.toNat else 0, fun j _ => ⟨fun z => Or.inl (if_neg z), fun z => Or.inl ?_⟩, Q1⟩
      dsimp only
      rw [if_pos z]
      omega
    rintro n55 _ _ _ x55_4 κ55 W55 T55_0 ⟨hn55, rfl, rfl, rfl, i55⟩
    obtain ⟨⟨ρ5, E5⟩, rr5, l5, R5, fl5, Q5⟩ := i55
    have X5 := rg_x9 W Ta0 E5 X0
    have ew5 := fun f hf => we_f9 W rgF9_fr E5.2.2.2.2 (ty_soWeb W Ta0) (f := f) hf
    have eb : zA κ55 (zR κ55 weBackFirsts (zR κ55 soWeb a0)) = zA κ (zR κ weBackFirsts (zR κ soWeb a0)) := by rw [X5.2.1]; exact (ew5 weBackFirsts (by decide)).2.1
    have ek : zA κ55 (zR κ55 weKnotOf (zR κ55 soWeb a0)) = zA κ (zR κ weKnotOf (zR κ soWeb a0)) := by rw [X5.2.1]; exact (ew5 weKnotOf (by decide)).2.1
    have eo : zA κ55 (zR κ55 weSources (zR κ55 soWeb a0)) = zA κ (zR κ weSources (zR κ soWeb a0)) := by rw [X5.2.1]; exact (ew5 weSources (by decide)).2.1
    have ee : zA κ55 (zR κ55 weEdges (zR κ55 soWeb a0)) = zA κ (zR κ weEdges (zR κ soWeb a0)) := by rw [X5.2.1]; exact (ew5 weEdges (by decide)).2.1
    have eW : zA κ55 (zR κ55 atWeights (zR κ55 soAtlas a0)) = zA κ (zR κ atWeights (zR κ soAtlas a0)) := by rw [X5.2.2.1]; exact (at_f9 W rgF9_fr E5.2.2.2.2 (ty_soAtlas W Ta0) (f := atWeights) (by decide)).2.1
    have r5 := bk_r9 X5.1 (t := a1.toNatClampNeg) (by omega)
    refine ⟨?_, ?_⟩
    · rw [inb_iff, i1.2]; omega  -- b7
    refine ⟨fun c9 => ?_, fun c9 => ?_⟩
    · skip
      refine h _ ?_
      · exact ⟨⟨ρ5, E5⟩, rr5, R5, fl5, Q5⟩  -- q8
    · skip
      rw [i1.1, eb, lei] at c9
      have ix := cn1 (x := x55_4) (by omega) (by omega)
      have g5 := bk_g9 X5.1 (t := a1.toNatClampNeg) (b := x55_4) (by omega) (by rw [eb]; exact l5) (by rw [eb]; omega)
      have G0 := (bk_g9 X0 (t := a1.toNatClampNeg) (b := x55_4) (by omega) l5 (by omega)).2
      refine ⟨?_, ?_⟩
      · rw [inb_iff]; exact ⟨g5.1.1, g5.1.2.1⟩  -- b9
      intro x10 hx10
      have gs := g5.2.1
      rw [← hx10] at gs
      have ks := cnk gs.1
      refine ⟨?_, ?_⟩
      · rw [inb_iff]; omega  -- b10
      refine ⟨?_, ?_⟩
      · rw [inb_iff]; omega  -- b11
      refine ⟨fun c11 => ?_, fun c11 => ?_⟩
      · skip
        intro x12 hx12
        refine ⟨_, ?_, rfl, ?_⟩
        · rw [hn55, hx12, ix.2]; omega  -- d12
        · exact ⟨rfl, rfl, rfl, ⟨ρ5, E5⟩, rr5, by rw [hx12, ix.2]; omega, R5, fl5, Q5⟩  -- i13
      · skip
        refine ⟨?_, ?_⟩
        · rw [inb_iff]; exact ⟨g5.1.1, g5.1.2.2.1⟩  -- b14
        refine ⟨?_, ?_⟩
        · rw [inb_iff]; exact (eg_9 X5.1 g5.2).1  -- b15
        intro x13 hx13
        obtain ⟨j9, hj9, ej9⟩ := RM.2.2.2 x10.toNatClampNeg a2.toNatClampNeg (by omega) (by omega) (by rw [← ha, ← ek]; exact c11)
        have cv : (zA κ55 (zR κ55 soRows a0) x10.toNatClampNeg).toInt = (j9 : Int) := by
          have q := RM.2.2.1 j9 hj9
          rw [ej9] at q
          rw [rr5.1, rr5.2]
          exact q
        have cj : (zA κ55 (zR κ55 soRows a0) x10.toNatClampNeg).toNatClampNeg = j9 := by
          have q := cnk (x := zA κ55 (zR κ55 soRows a0) x10.toNatClampNeg) (by omega)
          omega
        have lr : zN κ55 (zR κ55 soRows a0) = zN κ (zR κ soRows a0) := by rw [rr5.1]; exact E5.2.2.2.2.l (ty_soRows W Ta0)
        have oj := (X0.2.1.2.2.1 (f9 + j9) (by have := RM.1; omega)).1
        have ox : zA κ (zR κ weOrder (zR κ soWeb a0)) (f9 + j9) = x10 := Int32.toInt.inj (by
          have q := cnk oj.1
          omega)
        have rm2 := RM.2.1
        rw [← eo, ← hx10, ← ee] at G0
        have q5 := Q5 a2.toNatClampNeg j9 (Or.inr ⟨rfl, hj9⟩)
        have w0 := (eg_9 X5.1 g5.2).2
        refine ⟨?_, ?_⟩
        · rw [inb_iff, lr]; omega  -- b16
        intro T14
        refine So_cell_c2 W55 T14  ?_ (fun r15 q17 => ?_)
        · rw [cj]
          exact ⟨q5.1, ⟨by omega, by omega⟩, ⟨by omega, by omega⟩, q5.2.2.1⟩
        intro W18
        intro M19
        intro T20
        rw [cj] at q17
        rw [← hx13] at w0
        have iw := ihi x13
        have e64 := Int32.toInt_toInt64 x13
        have cI := cl_c9 E5.2.1.1 E5.2.2.1 (i := 33 * a2.toNatClampNeg + j9) (by omega) q5.2.2.1
        rw [← q17] at cI
        have q5u := q5.2.2.1
        rw [eW] at hx13
        refine ⟨fun c21 => ?_, fun c21 => ?_⟩
        · skip
          intro T22
          refine Nu_put_c W18 T22 (capR (1000000 + (33 * a2.toNatClampNeg + j9))) ?_ (fun κ_23 q24 => ?_)
          · rw [e64]
            exact ⟨⟨w0, by omega⟩, cI.1.2.1⟩
          intro W25
          intro M26
          intro x27 hx27
          refine ⟨_, ?_, rfl, ?_⟩
          · rw [hn55, hx27, ix.2]; omega  -- d19
          · rw [e64] at q24
            obtain ⟨Fp, ⟨Rp, Np⟩, Ip, Vp⟩ := q24
            rw [q17] at Fp Ip Vp
            have Er := cl_p9 W55 T55_0 E5.2.1.1 E5.2.1.2 E5.2.2.1 q5.1 (by omega) q5u Fp Ip
            have rz := rr_9 W55 T55_0 Fp (fun z => absurd z.2 (by decide))
            have w := cp_w9 W55 T55_0 E5.2.2.1 q5.1 q5.2.1 q5u Fp Vp Q5
            refine ⟨rfl, rfl, rfl, ⟨ρ5, rg_t9 W Ta0 E5 Er⟩, ⟨by rw [rz.1]; exact rr5.1, by rw [← rr5.1, rz.2, rr5.1]; exact rr5.2⟩, by rw [hx27, ix.2]; omega, fun j => if j = j9 then x13.toInt.toNat else R5 j, fun j hj => ?_, cp_m9 w (fun i j z => ?_)⟩
            · dsimp only
              by_cases e : j = j9
              · rw [if_pos e, e]
                have ne : j9 ≠ a2.toNatClampNeg := fun y => c21 (by rw [← ox, y, ← ha])
                refine ⟨fun _ => Or.inr ⟨zA κ55 (zR κ55 weEdges (zR κ55 soWeb a0)) x55_4.toNatClampNeg, by rw [ox]; exact G0, by rw [← hx13]; omega⟩, fun y => absurd y ne⟩
              · rw [if_neg e]; exact fl5 j hj
            · dsimp only
              by_cases e : i = a2.toNatClampNeg ∧ j = j9
              · refine ⟨Or.inr e, ?_⟩
                rw [if_pos ⟨e.1, by omega⟩, if_pos e, if_pos e.2]
              · refine ⟨Or.inl z, ?_⟩
                rw [if_neg e]
                by_cases g : i = a2.toNatClampNeg ∧ j < m9
                · rw [if_pos g, if_pos g, if_neg (fun y => e ⟨g.1, y⟩)]
                · rw [if_neg g, if_neg g]
        · skip
          intro T28
          refine At_divisorOf_c W18 T28  ?_ (fun r29 q31 => ?_)
          · exact ⟨X5.1.2.2.1.1, ok.1, by omega⟩  -- p21
          intro W32
          intro M33
          intro T34
          have rd : r29 = dvA κ (zR κ soAtlas a0) a1.toNatClampNeg := by
            have q := q31
            rw [X5.2.2.1] at q
            exact q.trans (dvA_f9 W rgF9_fr E5.2.2.2.2 (ty_soAtlas W Ta0) _)
          have le := (ew_9 X0 G0).1
          rw [← hx13, c21, ← rd] at le
          have sb := sub_i (x := r29) (y := x13) (by rw [rd]; omega) (by rw [rd]; omega)
          have e65 := Int32.toInt_toInt64 (r29 - x13)
          have ir := ihi r29
          refine Nu_put_c W32 T34 (capR (1000000 + (33 * a2.toNatClampNeg + j9))) ?_ (fun κ_35 q36 => ?_)
          · rw [e65, sb]
            exact ⟨⟨by omega, by omega⟩, cI.1.2.1⟩
          intro W37
          intro M38
          intro x39 hx39
          refine ⟨_, ?_, rfl, ?_⟩
          · rw [hn55, hx39, ix.2]; omega  -- d23
          · rw [e65, sb] at q36
            obtain ⟨Fp, ⟨Rp, Np⟩, Ip, Vp⟩ := q36
            rw [q17] at Fp Ip Vp
            have Er := cl_p9 W55 T55_0 E5.2.1.1 E5.2.1.2 E5.2.2.1 q5.1 (by omega) q5u Fp Ip
            have rz := rr_9 W55 T55_0 Fp (fun z => absurd z.2 (by decide))
            have w := cp_w9 W55 T55_0 E5.2.2.1 q5.1 q5.2.1 q5u Fp Vp Q5
            have ej : j9 = a2.toNatClampNeg := by
              have q := RM.2.2.1 a2.toNatClampNeg (by omega)
              rw [← ha, ← c21] at q
              have q2 := cv
              rw [rr5.1, rr5.2] at q2
              omega
            refine ⟨rfl, rfl, rfl, ⟨ρ5, rg_t9 W Ta0 E5 Er⟩, ⟨by rw [rz.1]; exact rr5.1, by rw [← rr5.1, rz.2, rr5.1]; exact rr5.2⟩, by rw [hx39, ix.2]; omega, fun j => if j = j9 then (r29.toInt - x13.toInt).toNat else R5 j, fun j hj => ?_, cp_m9 w (fun i j z => ?_)⟩
            · dsimp only
              by_cases e : j = j9
              · rw [if_pos e, e]
                refine ⟨fun y => absurd ej y, fun _ => Or.inr ⟨zA κ55 (zR κ55 weEdges (zR κ55 soWeb a0)) x55_4.toNatClampNeg, by rw [ox]; exact G0, by rw [← hx13, ← rd]; omega⟩⟩
              · rw [if_neg e]; exact fl5 j hj
            · dsimp only
              by_cases e : i = a2.toNatClampNeg ∧ j = j9
              · refine ⟨Or.inr e, ?_⟩
                rw [if_pos ⟨e.1, by omega⟩, if_pos e, if_pos e.2]
              · refine ⟨Or.inl z, ?_⟩
                rw [if_neg e]
                by_cases g : i = a2.toNatClampNeg ∧ j < m9
                · rw [if_pos g, if_pos g, if_neg (fun y => e ⟨g.1, y⟩)]
                · rw [if_neg g, if_neg g]
  · skip
    intro T40
    rw [lei] at c7
    refine So_cell_c W3 T40 ρ1 ?_ (fun r41 κ_42 q43 => ?_)
    · exact ⟨E1.2.1, E1.2.2.1, E1.2.2.2.1.1, ⟨p1.1, by omega⟩, ⟨l4.1, by omega⟩⟩  -- p25
    obtain ⟨⟨Zc, Zk⟩, ⟨ρ2, h2, N2, K2⟩, L2, U2, O2⟩ := q43
    have E2 := rg_t9 W Ta0 E1 (rg_ce9 Zc h2 N2 K2 L2 Zk)
    have rz := rr_9 W3 T3_0 Zc (fun z => by
      rcases z with z | z
      · exact absurd z.1 (by decide)
      · have := (W3.2.1 a0 (by rw [T3_0]; decide)).2
        omega)
    have Q2 := (cp_ce9 W3 T3_0 Zc L2 O2 Q1).1
    have T2 : zT κ_42 a0 = 12 := Zc.t T3_0 (by decide)
    intro W44
    intro M45
    intro T46
    refine ⟨fun c47 => ?_, fun c47 => ?_⟩
    · skip
      refine hj35 _ _ _ _ _ _ _ _ W44 ?_ ?_ ?_
      · exact T2  -- t26
      · exact T46  -- t27
      · refine ⟨rfl, rfl, rfl, rfl, ⟨ρ2, E2⟩, ⟨by rw [rz.1]; exact rr.1, by rw [← rr.1, rz.2, rr.1]; exact rr.2⟩, ⟨l4.1, by omega, rfl⟩, Q2, ⟨L2, U2⟩, ?_⟩
        rw [if_neg (fun y => c47 (Int32.toInt.inj (by omega)))]
        rfl
    · skip
      intro T48
      have X2 := rg_x9 W Ta0 E2 X0
      refine At_divisorOf_c W44 T48  ?_ (fun r49 q51 => ?_)
      · exact ⟨X2.1.2.2.1.1, ok.1, by omega⟩  -- p29
      intro W52
      intro M53
      refine hj35 _ _ _ _ _ _ _ _ W52 ?_ ?_ ?_
      · exact T2  -- t30
      · exact T46  -- t31
      · refine ⟨rfl, rfl, rfl, rfl, ⟨ρ2, E2⟩, ⟨by rw [rz.1]; exact rr.1, by rw [← rr.1, rz.2, rr.1]; exact rr.2⟩, ⟨l4.1, by omega, rfl⟩, Q2, ⟨L2, U2⟩, ?_⟩
        rw [if_pos (by rw [c47]), Int32.toInt_toInt64]
        have q := q51
        rw [X2.2.2.1] at q
        have rd : r49 = dvA κ (zR κ soAtlas a0) a1.toNatClampNeg := q.trans (dvA_f9 W rgF9_fr E2.2.2.2.2 (ty_soAtlas W Ta0) _)
        rw [rd]

end
section
set_option maxHeartbeats 1600000
/-! the class: a ring's rows in the beginning -/
theorem kf_m9 {κ : zS} {w n c1 : Nat} (K : weKn κ w n) : ∀ {c2 : Nat}, c1 < c2 → (c2 : Int) < (zI κ weKnots w).toInt → (zA κ (zR κ weKnotFirsts w) (c1 + 1)).toInt ≤ (zA κ (zR κ weKnotFirsts w) c2).toInt := by
  intro c2
  induction c2 with
  | zero => intro h _; omega
  | succ c ih =>
    intro h h2
    by_cases z : c1 = c
    · rw [z]; exact Int.le_refl _
    · have a := ih (by omega) (by omega)
      have b := (K.2.1 c (by omega)).2.1
      omega
theorem ko_9 {κ : zS} {w n c i : Nat} (K : weKn κ w n) (hi : i < n) (hc : (c : Int) < (zI κ weKnots w).toInt) (h1 : (zA κ (zR κ weKnotFirsts w) c).toInt ≤ (i : Int)) (h2 : (i : Int) < (zA κ (zR κ weKnotFirsts w) (c + 1)).toInt) : (zA κ (zR κ weKnotOf w) (zA κ (zR κ weOrder w) i).toNatClampNeg).toInt = (c : Int) := by
  obtain ⟨_, ⟨b1, b2⟩, b3, b4⟩ := K.2.2.1 i hi
  have k := cnk b1
  by_cases z1 : (zA κ (zR κ weKnotOf w) (zA κ (zR κ weOrder w) i).toNatClampNeg).toNatClampNeg < c
  · have q := kf_m9 K z1 hc
    omega
  · by_cases z2 : c < (zA κ (zR κ weKnotOf w) (zA κ (zR κ weOrder w) i).toNatClampNeg).toNatClampNeg
    · have q := kf_m9 K z2 (by omega)
      omega
    · omega
theorem od_i9 {κ : zS} {w n i j : Nat} (K : weKn κ w n) (hi : i < n) (hj : j < n) (e : (zA κ (zR κ weOrder w) i).toNatClampNeg = (zA κ (zR κ weOrder w) j).toNatClampNeg) : i = j := inj_9 (n := n) (f := fun i => (zA κ (zR κ weOrder w) i).toNatClampNeg) (fun i hi => by
  have q := (K.2.2.1 i hi).1
  have k := cnk q.1
  omega) (fun s hs => by
  obtain ⟨i, h1, h2⟩ := K.2.2.2 s hs
  exact ⟨i, h1, h2⟩) i j hi hj e
/-- a ring's members -/
theorem rm_9 {κ : zS} {w n c m r s : Nat} {f9 : Nat} (K : weKn κ w n) (hc : (c : Int) < (zI κ weKnots w).toInt) (hf : (zA κ (zR κ weKnotFirsts w) c).toInt = (f9 : Int)) (hm : (zA κ (zR κ weKnotFirsts w) (c + 1)).toInt = (f9 : Int) + m) (hs : s < n) (hr : r < m) (e : zA κ (zR κ weKnotOf w) s = zA κ (zR κ weKnotOf w) (zA κ (zR κ weOrder w) (f9 + r)).toNatClampNeg) : ∃ j, j < m ∧ (zA κ (zR κ weOrder w) (f9 + j)).toNatClampNeg = s := by
  have a := K.2.1 c hc
  have k1 := ko_9 K (i := f9 + r) (by omega) hc (by omega) (by omega)
  obtain ⟨i, h1, h2⟩ := K.2.2.2 s hs
  obtain ⟨_, ⟨b1, b2⟩, b3, b4⟩ := K.2.2.1 i h1
  rw [h2, e] at b1 b3 b4
  have k := cnk b1
  have ec : (zA κ (zR κ weKnotOf w) (zA κ (zR κ weOrder w) (f9 + r)).toNatClampNeg).toNatClampNeg = c := by omega
  rw [ec] at b3 b4
  refine ⟨i - f9, by omega, ?_⟩
  rw [show f9 + (i - f9) = i by omega]
  exact h2
theorem on_9 {e : Int32} (h : 0 ≤ e.toInt) : Int32.ofNat e.toNatClampNeg = e := Int32.toInt.inj (by
  have k := cnk h
  have hi := ihi e
  rw [Int32.toInt_ofNat_of_lt (by omega)]
  omega)
theorem on_j9 {x y : Nat} (hx : x < 2147483648) (hy : y < 2147483648) (e : Int32.ofNat x = Int32.ofNat y) : x = y := by
  have q := congrArg Int32.toInt e
  rw [Int32.toInt_ofNat_of_lt (by omega), Int32.toInt_ofNat_of_lt (by omega)] at q
  omega
/-- all that may be taken of a state's nexts weighs no more than its divisor -/
theorem tk_9 {κ : zS} {a n s : Nat} (X : svX9 κ a n) (hs : s < n) : sgI (fun e => if zA κ (zR κ atChooses (zR κ soAtlas a)) s = 0 ∨ Int32.ofNat ((zA κ (zR κ atFirsts (zR κ soAtlas a)) s).toInt.toNat + e) = zA κ (zR κ atFirsts (zR κ soAtlas a)) s + zA κ (zR κ atPlan (zR κ soAtlas a)) s then (zA κ (zR κ atWeights (zR κ soAtlas a)) ((zA κ (zR κ atFirsts (zR κ soAtlas a)) s).toInt.toNat + e)).toInt else 0) ((zA κ (zR κ atFirsts (zR κ soAtlas a)) (s + 1)).toInt - (zA κ (zR κ atFirsts (zR κ soAtlas a)) s).toInt).toNat ≤ (dvA κ (zR κ soAtlas a) s).toInt := by
  obtain ⟨_, _, A, _⟩ := X
  obtain ⟨_, AL, _, _, A5, A6⟩ := A
  obtain ⟨⟨e1, e2, e3⟩, e4, e5, e6, e7⟩ := A6 s hs
  have l20 := AL.2.2
  unfold dvA
  by_cases z : zA κ (zR κ atChooses (zR κ soAtlas a)) s = 0
  · rw [if_pos z, ← e6 z]
    exact Int.le_of_eq (sgI_eq (fun e _ => if_pos (Or.inl z)))
  · rw [if_neg z]
    have q := sgI_le9 (f := fun e => if zA κ (zR κ atChooses (zR κ soAtlas a)) s = 0 ∨ Int32.ofNat ((zA κ (zR κ atFirsts (zR κ soAtlas a)) s).toInt.toNat + e) = zA κ (zR κ atFirsts (zR κ soAtlas a)) s + zA κ (zR κ atPlan (zR κ soAtlas a)) s then (zA κ (zR κ atWeights (zR κ soAtlas a)) ((zA κ (zR κ atFirsts (zR κ soAtlas a)) s).toInt.toNat + e)).toInt else 0) (g := fun e => if (zA κ (zR κ atFirsts (zR κ soAtlas a)) s + zA κ (zR κ atPlan (zR κ soAtlas a)) s).toNatClampNeg = (zA κ (zR κ atFirsts (zR κ soAtlas a)) s).toInt.toNat + e then 1 else 0) (n := ((zA κ (zR κ atFirsts (zR κ soAtlas a)) (s + 1)).toInt - (zA κ (zR κ atFirsts (zR κ soAtlas a)) s).toInt).toNat) (fun e he => by
      by_cases y : Int32.ofNat ((zA κ (zR κ atFirsts (zR κ soAtlas a)) s).toInt.toNat + e) = zA κ (zR κ atFirsts (zR κ soAtlas a)) s + zA κ (zR κ atPlan (zR κ soAtlas a)) s
      · have t : (zA κ (zR κ atFirsts (zR κ soAtlas a)) s + zA κ (zR κ atPlan (zR κ soAtlas a)) s).toNatClampNeg = (zA κ (zR κ atFirsts (zR κ soAtlas a)) s).toInt.toNat + e := by
          rw [← y]
          have o := Int32.toInt_ofNat_of_lt (n := (zA κ (zR κ atFirsts (zR κ soAtlas a)) s).toInt.toNat + e) (by omega)
          have k := cnk (x := Int32.ofNat ((zA κ (zR κ atFirsts (zR κ soAtlas a)) s).toInt.toNat + e)) (by omega)
          omega
        rw [if_pos (Or.inr y), if_pos t, e7 z _ (by omega) (by omega)]
        decide
      · rw [if_neg (fun w => w.elim z y)]
        split <;> decide)
    refine Int.le_trans q ?_
    have r := sgI_am9 (t := fun e => (zA κ (zR κ atFirsts (zR κ soAtlas a)) s).toInt.toNat + e) (m := ((zA κ (zR κ atFirsts (zR κ soAtlas a)) (s + 1)).toInt - (zA κ (zR κ atFirsts (zR κ soAtlas a)) s).toInt).toNat) (x := (zA κ (zR κ atFirsts (zR κ soAtlas a)) s + zA κ (zR κ atPlan (zR κ soAtlas a)) s).toNatClampNeg) (c := 1) (by decide) (fun i j _ _ h => by omega)
    exact r
theorem rg_d9 {κ : zS} {a n f9 m X : Nat} {M : Nat → Nat → Nat} (S : svX9 κ a n) (hm : f9 + m ≤ n) (F : ∀ i j, i < m → j < m → flV9 κ a n (zA κ (zR κ weOrder (zR κ soWeb a)) (f9 + i)).toNatClampNeg i f9 j (M i j)) (hX : ∀ i, i < m → M i 32 ≤ X) : bz9 M m 0 1 X 8000000 := by
  refine ⟨Nat.le_refl _, fun j _ hj => ?_, fun i _ hi => Nat.le_trans (hX i hi) (Nat.le_of_eq (Nat.one_mul X).symm), fun r c h => absurd h (Nat.not_lt_zero _), fun r h => absurd h (Nat.not_lt_zero _)⟩
  have oj := (S.2.1.2.2.1 (f9 + j) (by omega)).1
  have kj := cnk oj.1
  have dv := dv_9 S (k := (zA κ (zR κ weOrder (zR κ soWeb a)) (f9 + j)).toNatClampNeg) (by omega)
  have tk := tk_9 S (s := (zA κ (zR κ weOrder (zR κ soWeb a)) (f9 + j)).toNatClampNeg) (by omega)
  have ex := (S.2.2.1.2.2.2.2.2 (zA κ (zR κ weOrder (zR κ soWeb a)) (f9 + j)).toNatClampNeg (by omega))
  obtain ⟨⟨x1, x2, x3⟩, x4, _⟩ := ex
  have dg := (F j j hj hj).2 rfl
  have key : ∀ i e, i < m → gdE (lkD κ (zR κ soAtlas a) 1) (zA κ (zR κ atFirsts (zR κ soAtlas a))) n (zA κ (zR κ weOrder (zR κ soWeb a)) (f9 + i)).toNatClampNeg (zA κ (zR κ weOrder (zR κ soWeb a)) (f9 + j)) e → (e.toNatClampNeg - (zA κ (zR κ atFirsts (zR κ soAtlas a)) (zA κ (zR κ weOrder (zR κ soWeb a)) (f9 + j)).toNatClampNeg).toInt.toNat < ((zA κ (zR κ atFirsts (zR κ soAtlas a)) ((zA κ (zR κ weOrder (zR κ soWeb a)) (f9 + j)).toNatClampNeg + 1)).toInt - (zA κ (zR κ atFirsts (zR κ soAtlas a)) (zA κ (zR κ weOrder (zR κ soWeb a)) (f9 + j)).toNatClampNeg).toInt).toNat) ∧ (zA κ (zR κ atFirsts (zR κ soAtlas a)) (zA κ (zR κ weOrder (zR κ soWeb a)) (f9 + j)).toNatClampNeg).toInt.toNat + (e.toNatClampNeg - (zA κ (zR κ atFirsts (zR κ soAtlas a)) (zA κ (zR κ weOrder (zR κ soWeb a)) (f9 + j)).toNatClampNeg).toInt.toNat) = e.toNatClampNeg ∧ (zA κ (zR κ atChooses (zR κ soAtlas a)) (zA κ (zR κ weOrder (zR κ soWeb a)) (f9 + j)).toNatClampNeg = 0 ∨ Int32.ofNat e.toNatClampNeg = zA κ (zR κ atFirsts (zR κ soAtlas a)) (zA κ (zR κ weOrder (zR κ soWeb a)) (f9 + j)).toNatClampNeg + zA κ (zR κ atPlan (zR κ soAtlas a)) (zA κ (zR κ weOrder (zR κ soWeb a)) (f9 + j)).toNatClampNeg) ∧ (zA κ (zR κ atNumbers (zR κ soAtlas a)) e.toNatClampNeg).toInt.toNat = (zA κ (zR κ weOrder (zR κ soWeb a)) (f9 + i)).toNatClampNeg ∧ 0 ≤ (zA κ (zR κ atWeights (zR κ soAtlas a)) e.toNatClampNeg).toInt := fun i e hi g => by
    obtain ⟨_, ⟨g1, g2⟩, g3⟩ := g
    have e0 : 0 ≤ e.toInt := by omega
    have ke := cnk e0
    unfold lkD at g3
    by_cases z : (zA κ (zR κ atSorts (zR κ soAtlas a)) e.toNatClampNeg = 0 ∧ ((1 : Int32) = 0 ∨ zA κ (zR κ atChooses (zR κ soAtlas a)) (zA κ (zR κ weOrder (zR κ soWeb a)) (f9 + j)).toNatClampNeg = 0 ∨ Int32.ofNat e.toNatClampNeg = zA κ (zR κ atFirsts (zR κ soAtlas a)) (zA κ (zR κ weOrder (zR κ soWeb a)) (f9 + j)).toNatClampNeg + zA κ (zR κ atPlan (zR κ soAtlas a)) (zA κ (zR κ weOrder (zR κ soWeb a)) (f9 + j)).toNatClampNeg)) ∧ (zA κ (zR κ atNumbers (zR κ soAtlas a)) e.toNatClampNeg).toInt = ((zA κ (zR κ weOrder (zR κ soWeb a)) (f9 + i)).toNatClampNeg : Int)
    · refine ⟨by omega, by omega, ?_, by rw [z.2]; exact Int.toNat_natCast _, (x4 _ (by omega) (by omega)).2.2⟩
      rcases z.1.2 with y | y | y
      · exact absurd y (by decide)
      · exact Or.inl y
      · exact Or.inr y
    · rw [if_neg z] at g3
      exact absurd g3 (by decide)
  have cl := col_9 (m := m) (c := fun i => if i = j then (dvA κ (zR κ soAtlas a) (zA κ (zR κ weOrder (zR κ soWeb a)) (f9 + j)).toNatClampNeg).toInt - (M j j : Int) else (M i j : Int)) (t := fun i => (zA κ (zR κ weOrder (zR κ soWeb a)) (f9 + i)).toNatClampNeg) (g := fun e => (zA κ (zR κ atNumbers (zR κ soAtlas a)) ((zA κ (zR κ atFirsts (zR κ soAtlas a)) (zA κ (zR κ weOrder (zR κ soWeb a)) (f9 + j)).toNatClampNeg).toInt.toNat + e)).toInt.toNat) (w := fun e => if zA κ (zR κ atChooses (zR κ soAtlas a)) (zA κ (zR κ weOrder (zR κ soWeb a)) (f9 + j)).toNatClampNeg = 0 ∨ Int32.ofNat ((zA κ (zR κ atFirsts (zR κ soAtlas a)) (zA κ (zR κ weOrder (zR κ soWeb a)) (f9 + j)).toNatClampNeg).toInt.toNat + e) = zA κ (zR κ atFirsts (zR κ soAtlas a)) (zA κ (zR κ weOrder (zR κ soWeb a)) (f9 + j)).toNatClampNeg + zA κ (zR κ atPlan (zR κ soAtlas a)) (zA κ (zR κ weOrder (zR κ soWeb a)) (f9 + j)).toNatClampNeg then (zA κ (zR κ atWeights (zR κ soAtlas a)) ((zA κ (zR κ atFirsts (zR κ soAtlas a)) (zA κ (zR κ weOrder (zR κ soWeb a)) (f9 + j)).toNatClampNeg).toInt.toNat + e)).toInt else 0) (L := ((zA κ (zR κ atFirsts (zR κ soAtlas a)) ((zA κ (zR κ weOrder (zR κ soWeb a)) (f9 + j)).toNatClampNeg + 1)).toInt - (zA κ (zR κ atFirsts (zR κ soAtlas a)) (zA κ (zR κ weOrder (zR κ soWeb a)) (f9 + j)).toNatClampNeg).toInt).toNat) (fun e he => by
      split
      · exact (x4 _ (by omega) (by omega)).2.2
      · exact Int.le_refl _) (fun p q hp hq e => by
      have r := od_i9 S.2.1 (i := f9 + p) (j := f9 + q) (by omega) (by omega) e
      omega) (fun i hi => by
      by_cases z : i = j
      · rw [if_pos z]
        rcases dg with d | ⟨e, ge, d⟩
        · left; omega
        · right
          obtain ⟨k1, k2, k3, k4, k5⟩ := key j e hj ge
          refine ⟨_, k1, ?_, ?_⟩
          · rw [k2, if_pos k3]; omega
          · rw [k2, z]; exact k4
      · rw [if_neg z]
        rcases (F i j hi hj).1 (fun y => z y.symm) with d | ⟨e, ge, d⟩
        · left; rw [d]; rfl
        · right
          obtain ⟨k1, k2, k3, k4, k5⟩ := key i e hi ge
          refine ⟨_, k1, ?_, ?_⟩
          · rw [k2, if_pos k3]; exact d
          · rw [k2]; exact k4)
  have up := sgI_up (f := fun i => if 0 ≤ i ∧ i ≠ j then (M i j : Int) else 0) (g := fun i => if i = j then (dvA κ (zR κ soAtlas a) (zA κ (zR κ weOrder (zR κ soWeb a)) (f9 + j)).toNatClampNeg).toInt - (M j j : Int) else (M i j : Int)) (d := (dvA κ (zR κ soAtlas a) (zA κ (zR κ weOrder (zR κ soWeb a)) (f9 + j)).toNatClampNeg).toInt - (M j j : Int)) hj (fun i _ hne => by rw [if_neg hne, if_pos ⟨Nat.zero_le _, hne⟩]) (by rw [if_pos rfl, if_neg (fun y => y.2 rfl)]; omega)
  refine ⟨?_, ?_⟩
  · show sgI (fun i => if 0 ≤ i ∧ i ≠ j then (M i j : Int) else 0) m ≤ (M j j : Int)
    have le := Int.le_trans cl tk
    rw [up] at le
    omega
  · rcases dg with d | ⟨e, ge, d⟩
    · omega
    · have k5 := (key j e hj ge).2.2.2.2
      omega

end
section
set_option maxHeartbeats 1600000
/-! the class: Solver's visitRing -/
theorem rg_ro9 {C : zC} {n0 a i : Nat} {R : Nat → Prop} {ρ : Nat → Nat} {κ κ1 : zS} {x : Int32} (W : zW C n0 κ) (Ta : zT κ a = 12) (N : nmI ρ κ) (S : soI ρ κ a) (K : clK9 ρ κ a) (L : (zN κ (zR κ soCells a)) = 0 ∨ (zN κ (zR κ soCells a)) = 1056) (e : κ1 = ua κ (zR κ soRows a) i x) : rgE9 R ρ κ κ1 a ρ := by
  have o := W.o (show zr soRows = some 20 by decide +kernel) (by decide) Ta
  have Z : zF (fun f b => f = soRows ∧ b = a) κ κ1 := by
    rw [e]
    exact zF_ua (by rw [o]; exact ⟨rfl, rfl⟩)
  have r1 : zR κ1 = zR κ := by rw [e]; rfl
  have q1 : zQ κ1 = zQ κ := by rw [e]; rfl
  have n1 : zN κ1 = zN κ := by rw [e]; rfl
  refine ⟨fun _ _ => rfl, ⟨nm_x9 W N Z (fun f b z => Or.inr (by rw [z.1]; decide)) (fun _ _ => rfl) (fun w hw hr => absurd hr (nm_no9 W N hw).1) (fun v hv hr => absurd hr (nm_no9 W N hv).2), so_x9 W Ta S Z (fun f b z => Or.inr ⟨by rw [z.1]; decide, by rw [z.1]; decide⟩) (fun _ _ => rfl)⟩, ?_, ⟨?_, zK_z9 W Ta Z (fun b _ z => absurd z.1 (by decide)) (fun z => absurd z.1 (by decide)) (fun z => absurd z.1 (by decide)) (fun z => absurd z.1 (by decide))⟩, Z.mono (fun f b z => Or.inr (Or.inr (Or.inl z)))⟩
  · unfold clK9
    rw [r1, q1]
    exact K
  · rw [r1, n1]
    exact L
/-- a product over rows -/
def pd9 (f : Nat → Nat) : Nat → Nat
  | 0 => 1
  | n + 1 => pd9 f n * f n
theorem pd9_d {f : Nat → Nat} {k : Nat} : ∀ {n : Nat}, k < n → f k ∣ pd9 f n
  | 0, h => absurd h (Nat.not_lt_zero _)
  | n + 1, h => by
    show f k ∣ pd9 f n * f n
    by_cases z : k = n
    · rw [z]; exact Nat.dvd_mul_left _ _
    · exact Nat.dvd_trans (pd9_d (n := n) (by omega)) (Nat.dvd_mul_right _ _)
theorem pd9_b {f : Nat → Nat} {D : Nat} : ∀ {n : Nat}, (∀ k, k < n → 0 < f k ∧ f k ≤ D) → 0 < pd9 f n ∧ pd9 f n ≤ D ^ n
  | 0, _ => ⟨Nat.zero_lt_one, Nat.le_refl _⟩
  | n + 1, h => by
    have a := pd9_b (f := f) (D := D) (n := n) (fun k hk => h k (Nat.lt_succ_of_lt hk))
    have b := h n (Nat.lt_succ_self n)
    show 0 < pd9 f n * f n ∧ pd9 f n * f n ≤ D ^ n * D
    exact ⟨Nat.mul_pos a.1 b.1, Nat.mul_le_mul a.2 b.2⟩
def vrR9 : Nat → Prop := fun r => r < 100 ∨ (1000000 ≤ r ∧ r < 2000000)
theorem vrR9_v : ∀ r, 100 ≤ r → r < 1000000 → ¬ vrR9 r := fun r h1 h2 z => by
  rcases z with z | z <;> omega
theorem vsI9_m {ρ : Nat → Nat} {κ : zS} {a n P P' : Nat} (h : P ∣ P') (V : vsI9 ρ κ a n P) : vsI9 ρ κ a n P' := fun k hk => ⟨(V k hk).1, (V k hk).2.1, vsK9_m h (V k hk).2.2⟩
theorem fl_f9 {C : zC} {n0 a n k rw9 f9 j v : Nat} {R : Nat → Prop} {ρ0 ρ : Nat → Nat} {κ τ : zS} (W : zW C n0 κ) (Ta : zT κ a = 12) (E : rgE9 R ρ0 κ τ a ρ) (X : svX9 κ a n) (F : flV9 τ a n k rw9 f9 j v) : flV9 κ a n k rw9 f9 j v := by
  have Y := rg_x9 W Ta E X
  have tb := ty_soAtlas W Ta
  have ga := fun f hf => at_f9 W rgF9_fr E.2.2.2.2 tb (f := f) hf
  unfold flV9 at F ⊢
  rw [Y.2.1, Y.2.2.1, lkD_f9 W rgF9_fr E.2.2.2.2 tb, (ga atFirsts (by decide)).2.1, (ga atWeights (by decide)).2.1, (we_f9 W rgF9_fr E.2.2.2.2 (ty_soWeb W Ta) (f := weOrder) (by decide)).2.1, dvA_f9 W rgF9_fr E.2.2.2.2 tb] at F
  exact F
/-- what a ring's web says, behind some steps -/
theorem rg_w9 {C : zC} {n0 a n : Nat} {R : Nat → Prop} {ρ0 ρ : Nat → Nat} {κ τ : zS} (W : zW C n0 κ) (Ta : zT κ a = 12) (E : rgE9 R ρ0 κ τ a ρ) (X : svX9 κ a n) : zA τ (zR τ weOrder (zR τ soWeb a)) = zA κ (zR κ weOrder (zR κ soWeb a)) ∧ zA τ (zR τ weKnotOf (zR τ soWeb a)) = zA κ (zR κ weKnotOf (zR κ soWeb a)) ∧ zA τ (zR τ weKnotFirsts (zR τ soWeb a)) = zA κ (zR κ weKnotFirsts (zR κ soWeb a)) ∧ zI τ weKnots (zR τ soWeb a) = zI κ weKnots (zR κ soWeb a) ∧ zN τ (zR τ weOrder (zR τ soWeb a)) = 1000 := by
  have Y := rg_x9 W Ta E X
  have g := fun f hf => we_f9 W rgF9_fr E.2.2.2.2 (ty_soWeb W Ta) (f := f) hf
  have ix : zI τ weKnots (zR κ soWeb a) = zI κ weKnots (zR κ soWeb a) := E.2.2.2.2.i (frS9_n W rgF9_fr (ty_soWeb W Ta) (by decide))
  have l := Y.1.1.1.1.2.2.2.2.2.1
  rw [Y.2.1] at l ⊢
  exact ⟨(g weOrder (by decide)).2.1, (g weKnotOf (by decide)).2.1, (g weKnotFirsts (by decide)).2.1, ix, l⟩
theorem lL_9 {x A w : Nat} (e : x = A * w) (h1 : A < pB9 24) (h2 : w < pB9 1490) : x < pB9 1514 := by
  have q : A * w < pB9 24 * pB9 1490 := Nat.mul_lt_mul'' h1 h2
  rw [← pB9_a] at q
  rw [e]
  exact q
theorem big_9 : 8000000 ^ 63 * 2 ^ 31 * pB9 1501 * 2 ^ gE9 0 < pB9 1960 := by
  have q : 8000000 ^ 63 * 2 ^ 31 * 2 ^ gE9 0 < pB9 422 := by decide +kernel
  have q3 := Nat.mul_lt_mul_of_pos_right q (pB9_p (m := 1501))
  rw [← pB9_a] at q3
  generalize 2 ^ gE9 0 = u at *
  generalize 8000000 ^ 63 = x at *
  have e : x * 2 ^ 31 * pB9 1501 * u = x * 2 ^ 31 * u * pB9 1501 := by
    rw [Nat.mul_assoc, Nat.mul_comm (pB9 1501) u, ← Nat.mul_assoc]
  rw [e]
  exact Nat.lt_of_lt_of_le q3 (pB9_l (by decide))
theorem So_visitRing_c {C : zC} {n0 : Nat} {a0 : Nat} {a1 : Int32} {κ : zS} {Q : Int32 → zS → Prop} (W : zW C n0 κ) (Ta0 : zT κ a0 = 12) (ρ : Nat → Nat) (n9 P9 f9 m9 : Nat) (hp : ((nmI ρ κ ∧ soI ρ κ a0) ∧ clK9 ρ κ a0 ∧ ((zN κ (zR κ soCells a0)) = 0 ∨ (zN κ (zR κ soCells a0)) = 1056)) ∧ svX9 κ a0 n9 ∧ vsI9 ρ κ a0 n9 P9 ∧ n9 ≤ (zN κ (zR κ soRows a0)) ∧ (0 ≤ a1.toInt ∧ a1.toInt < (zI κ weKnots (zR κ soWeb a0)).toInt) ∧ ((zA κ (zR κ weKnotFirsts (zR κ soWeb a0)) a1.toNatClampNeg).toInt = (f9 : Int) ∧ (zA κ (zR κ weKnotFirsts (zR κ soWeb a0)) (a1.toNatClampNeg + 1)).toInt = (f9 : Int) + m9 ∧ m9 ≤ 32) ∧ (0 < P9 ∧ P9 < pB9 1490) ∧ nuN κ (zR κ soLess a0) < pB9 4000) (h : ∀ (v : Int32) (κ' : zS), (nb v ∧ ∃ ρ' : Nat → Nat, rgE9 (fun _ => True) ρ κ κ' a0 ρ' ∧ nuN κ' (zR κ soLess a0) < pB9 4000 ∧ zR κ' soRows a0 = zR κ soRows a0 ∧ (v ≠ 0 → ∃ Q9, (0 < Q9 ∧ Q9 ≤ 8000000 ^ (2 * m9)) ∧ vsI9 ρ' κ' a0 n9 (P9 * Q9))) → Q v κ') : zRun C 7 mSo_visitRing [.ref a0, .int a1] κ (oI Q noX) := by
  refine So_visitRing_run W Ta0 ?_
  replace W := W.lo (Nat.le_trans W.1.2.1 W.1.2.2) (Nat.le_refl (zn κ))
  unfold w_So_visitRing_0
  obtain ⟨⟨⟨N0, S0⟩, CK0, L0⟩, X0, V0, hrows, p1, ⟨hf, hfm, hm⟩, ⟨P0, P1⟩, hl⟩ := hp
  have kn := cnk p1.1
  have hn := X0.1.2.1.2
  have kA := X0.2.1.2.1 a1.toNatClampNeg (by omega)
  have kK := X0.2.1.1.2
  have wM := X0.1.1.1
  have gW := nm_g N0 S0.1.1 (Or.inl ⟨by decide, by decide⟩) (by decide)
  have hfn : f9 + m9 ≤ n9 ∧ 1 ≤ m9 := by omega
  have od : ∀ r, r < m9 → 0 ≤ (zA κ (zR κ weOrder (zR κ soWeb a0)) (f9 + r)).toInt ∧ (zA κ (zR κ weOrder (zR κ soWeb a0)) (f9 + r)).toInt < n9 := fun r hr => (X0.2.1.2.2.1 (f9 + r) (by omega)).1
  have o1 : (1 : Int64).toInt.toNat = 1 := rfl
  have t32 : (32 : Int32).toNatClampNeg = 32 := by decide
  have h8 := S0.1.2.2.2.2.2.1
  have h7 := S0.1.2.2.2.2.1
  have tw := ty_soWhole W Ta0
  have tl := ty_soLess W Ta0
  have ts := ty_soSum W Ta0
  have P1' : P9 < pB9 1900 := Nat.lt_of_lt_of_le P1 (pB9_l (by decide))
  have lt0 : ∀ x, zT κ x ≠ 0 → x < zn κ := fun x h => (W.2.1 x h).2
  have lw := lt0 _ (show zT κ (zR κ soWhole a0) ≠ 0 by rw [tw]; decide)
  have ll := lt0 _ (show zT κ (zR κ soLess a0) ≠ 0 by rw [tl]; decide)
  have ls := lt0 _ (show zT κ (zR κ soSum a0) ≠ 0 by rw [ts]; decide)
  have sx : ∀ x y : Int32, x.toInt = (f9 : Int) → 0 ≤ y.toInt → y.toInt < 32 → (x + y).toInt = (f9 : Int) + y.toNatClampNeg ∧ (x + y).toNatClampNeg = f9 + y.toNatClampNeg := fun x y hx h0 h1 => by
    have ky := cnk h0
    have q := add_i (x := x) (y := y) (by omega) (by omega)
    have k2 := cnk (x := x + y) (by omega)
    omega
  refine ⟨?_, ?_⟩
  · rw [inb_iff, wM.2.2.2.1]; omega  -- b1
  intro x1 hx1
  intro T2
  refine We_sizeOf_c W T2 n9 ?_ (fun r3 q5 => ?_)
  · exact ⟨wM, hn, X0.2.1, p1⟩  -- p2
  intro W6
  intro M7
  intro T8
  refine Nu_put_c W6 T8 6500 ?_ (fun κ_9 q10 => ?_)
  · exact ⟨by decide, gW.2.2⟩  -- p3
  intro W11
  intro M12
  obtain ⟨Fp, ⟨Rp, Np⟩, Ip, Vp⟩ := q10
  have Zp : zF (soF ρ (fun r => r = 1) (zR κ soCalc a0)) κ κ_9 := soF_1 S0.1.1 Fp
  have Ep : rgE9 vrR9 ρ κ κ_9 a0 ρ := rg_so9 W Ta0 CK0 L0 Zp (fun r h => Or.inl (by omega)) ⟨nm_1 W N0 Fp (by rw [S0.1.1]; exact Ip), so_1 W Ta0 S0 Fp⟩
  have lp := soF_B (c := 0) W tl Zp (by rw [h8]; decide)
  unfold w_So_visitRing_30
  refine ⟨fun n l0 l2 l3 l4 τ => n = (l3.toInt - l4.toInt).toNat ∧ (a0 = l0 ∧ (rgE9 vrR9 ρ κ τ a0 ρ ∧ dz9 (nuN τ (zR κ soWhole a0)) P9 ∧ nuN τ (zR κ soLess a0) = nuN κ (zR κ soLess a0)) ∧ (l2.toInt = (f9 : Int) ∧ l3.toInt = (m9 : Int)) ∧ (0 ≤ l4.toInt ∧ l4.toInt ≤ l3.toInt) ∧ (zR τ soRows a0 = zR κ soRows a0 ∧ ∀ r : Nat, r < l4.toNatClampNeg → (zA τ (zR κ soRows a0) (zA κ (zR κ weOrder (zR κ soWeb a0)) (f9 + r)).toNatClampNeg).toInt = (r : Int))), ⟨_, rfl, ?_⟩, ?_⟩
  · refine ⟨rfl, ⟨Ep, by rw [Vp, o1]; exact Or.inr (Nat.one_dvd _), lp.2.1⟩, ⟨by rw [hx1]; exact hf, by omega⟩, ⟨by decide, by rw [t0i]; omega⟩, by rw [Rp], fun r hr => absurd hr (Nat.not_lt_zero r)⟩  -- j4
  rintro n30 _ x30_2 x30_3 x30_4 κ30 W30 T30_0 ⟨hn30, rfl, i30⟩
  obtain ⟨⟨E1, D1, le1⟩, ⟨x2, x3⟩, l4, er1, rw1⟩ := i30
  have kc := cnk l4.1
  refine ⟨fun c13 => ?_, fun c13 => ?_⟩
  · skip
    unfold w_So_visitRing_83
    refine ⟨fun n l0 l2 l3 l4 l5 τ => n = (l3.toInt - l5.toInt).toNat ∧ (a0 = l0 ∧ (∃ ρ', rgE9 vrR9 ρ κ τ a0 ρ') ∧ (dz9 (nuN τ (zR κ soWhole a0)) P9 ∧ nuN τ (zR κ soLess a0) < pB9 4000) ∧ (l2.toInt = (f9 : Int) ∧ l3.toInt = (m9 : Int)) ∧ (0 ≤ l5.toInt ∧ l5.toInt ≤ l3.toInt) ∧ (zR τ soRows a0 = zR κ soRows a0 ∧ ∀ r : Nat, r < m9 → (zA τ (zR κ soRows a0) (zA κ (zR κ weOrder (zR κ soWeb a0)) (f9 + r)).toNatClampNeg).toInt = (r : Int)) ∧ ∃ M : Nat → Nat → Nat, (∀ i j, i < l5.toNatClampNeg → j < m9 → flV9 κ a0 n9 (zA κ (zR κ weOrder (zR κ soWeb a0)) (f9 + i)).toNatClampNeg i f9 j (M i j)) ∧ (∀ i, i < l5.toNatClampNeg → M i 32 ≤ pB9 1501) ∧ clP9 τ a0 (fun i j => i < l5.toNatClampNeg ∧ (j < m9 ∨ j = 32)) M), ⟨_, rfl, ?_⟩, ?_⟩
    · rw [lei] at c13
      refine ⟨rfl, ⟨ρ, E1⟩, ⟨D1, by rw [le1]; exact hl⟩, ⟨x2, x3⟩, ⟨by decide, by rw [t0i]; omega⟩, ⟨er1, fun r hr => rw1 r (by omega)⟩, fun _ _ => 0, fun i j h => absurd h (Nat.not_lt_zero i), fun i h => absurd h (Nat.not_lt_zero i), fun i j z => absurd z.1 (Nat.not_lt_zero i)⟩
    rintro n83 _ x83_2 x83_3 x83_4 x83_5 κ83 W83 T83_0 ⟨hn83, rfl, i83⟩
    obtain ⟨⟨ρ83, E8⟩, ⟨D8, hl8⟩, ⟨z2, z3⟩, l5, ⟨er8, rw8⟩, M8, F8, B8, Q8⟩ := i83
    have kd := cnk l5.1
    have X8 := rg_x9 W Ta0 E8 X0
    have V8 := rg_v9 W Ta0 N0 hn vrR9_v E8 V0
    have w8 := rg_w9 W Ta0 E8 X0
    have ew8 : zR κ83 soWhole a0 = (zR κ soWhole a0) := (rg_r9 W Ta0 E8 (by decide)).1
    have el8 : zR κ83 soLess a0 = (zR κ soLess a0) := (rg_r9 W Ta0 E8 (by decide)).1
    have es8 : zR κ83 soSum a0 = (zR κ soSum a0) := (rg_r9 W Ta0 E8 (by decide)).1
    have hj140 : ∀ (l0 : Nat) (l2 : Int32) (l3 : Int32) (l5 : Int32) (s0 : Int32) (τ : zS), zW C (zn κ) τ → zT τ l0 = 12 → (a0 = l0 ∧ (∃ ρ', rgE9 vrR9 ρ κ τ a0 ρ') ∧ (dz9 (nuN τ (zR κ soWhole a0)) P9 ∧ nuN τ (zR κ soLess a0) < pB9 4000) ∧ (l2.toInt = (f9 : Int) ∧ l3.toInt = (m9 : Int)) ∧ (0 ≤ l5.toInt ∧ l5.toInt < l3.toInt ∧ x83_5 = l5 ∧ x83_3 = l3) ∧ (zR τ soRows a0 = zR κ soRows a0 ∧ ∀ r : Nat, r < m9 → (zA τ (zR κ soRows a0) (zA κ (zR κ weOrder (zR κ soWeb a0)) (f9 + r)).toNatClampNeg).toInt = (r : Int)) ∧ ∃ M : Nat → Nat → Nat, (∀ i j, i < l5.toNatClampNeg → j < m9 → flV9 κ a0 n9 (zA κ (zR κ weOrder (zR κ soWeb a0)) (f9 + i)).toNatClampNeg i f9 j (M i j)) ∧ (∀ i, i ≤ l5.toNatClampNeg → M i 32 ≤ pB9 1501) ∧ clP9 τ a0 (fun i j => (i < l5.toNatClampNeg ∧ (j < m9 ∨ j = 32)) ∨ (i = l5.toNatClampNeg ∧ j = 32)) M) → w_So_visitRing_140 C (zn κ) Q (fun (l0' : Nat) (l2' : Int32) (l3' : Int32) (l4' : Int32) (l5' : Int32) (τ : zS) => ∃ k < n83, (fun (n : Nat) (l0 : Nat) (l2 : Int32) (l3 : Int32) (l4 : Int32) (l5 : Int32) (τ : zS) => n = (l3.toInt - l5.toInt).toNat ∧ (a0 = l0 ∧ (∃ ρ', rgE9 vrR9 ρ κ τ a0 ρ') ∧ (dz9 (nuN τ (zR κ soWhole a0)) P9 ∧ nuN τ (zR κ soLess a0) < pB9 4000) ∧ (l2.toInt = (f9 : Int) ∧ l3.toInt = (m9 : Int)) ∧ (0 ≤ l5.toInt ∧ l5.toInt ≤ l3.toInt) ∧ (zR τ soRows a0 = zR κ soRows a0 ∧ ∀ r : Nat, r < m9 → (zA τ (zR κ soRows a0) (zA κ (zR κ weOrder (zR κ soWeb a0)) (f9 + r)).toNatClampNeg).toInt = (r : Int)) ∧ ∃ M : Nat → Nat → Nat, (∀ i j, i < l5.toNatClampNeg → j < m9 → flV9 κ a0 n9 (zA κ (zR κ weOrder (zR κ soWeb a0)) (f9 + i)).toNatClampNeg i f9 j (M i j)) ∧ (∀ i, i < l5.toNatClampNeg → M i 32 ≤ pB9 1501) ∧ clP9 τ a0 (fun i j => i < l5.toNatClampNeg ∧ (j < m9 ∨ j = 32)) M)) k l0' l2' l3' l4' l5' τ) l0 l2 l3 l5 s0 τ := by
      rintro _ y140_2 y140_3 y140_5 y140_s0 τ140 W140 T140_0 ⟨rfl, j140⟩
      unfold w_So_visitRing_140
      obtain ⟨⟨ρ14, E14⟩, ⟨D14, hl14⟩, ⟨u2, u3⟩, ⟨l51, l52, e51, e53⟩, ⟨er14, rw14⟩, M14, F14, B14, Q14⟩ := j140
      subst e51
      subst e53
      have X14 := rg_x9 W Ta0 E14 X0
      have w14 := rg_w9 W Ta0 E14 X0
      have s14 := sx y140_2 x83_5 u2 l51 (by omega)
      have o14 := od x83_5.toNatClampNeg (by omega)
      have ko14 := cnk o14.1
      refine ⟨?_, ?_⟩
      · rw [inb_iff, w14.2.2.2.2]; omega  -- b6
      intro T14
      refine So_fillRow_c W140 T14 ρ14 (fun i j => (i < x83_5.toNatClampNeg ∧ (j < m9 ∨ j = 32)) ∨ (i = x83_5.toNatClampNeg ∧ j = 32)) M14 n9 f9 m9 ?_ (fun κ_15 q16 => ?_)
      · rw [s14.2, w14.1]
        refine ⟨E14.2.1, E14.2.2.1, E14.2.2.2.1.1, X14.1, ⟨hfn.1, ?_, fun r hr => ?_, fun s r hs hr e => ?_⟩, ⟨hm, u3⟩, ⟨l51, by omega⟩, rfl, Q14⟩
        · rw [er14, E14.2.2.2.2.l (ty_soRows W Ta0)]
          exact hrows
        · rw [w14.1, er14]
          exact rw14 r hr
        · refine rm_9 X14.1.2.1 (c := a1.toNatClampNeg) ?_ ?_ ?_ hs hr e
          · rw [w14.2.2.2.1]; omega
          · rw [w14.2.2.1]; exact hf
          · rw [w14.2.2.1]; exact hfm
      intro W17
      intro M18
      intro x19 hx19
      obtain ⟨⟨ρ15, E15⟩, ⟨er15, ra15⟩, R15, F15, Q15⟩ := q16
      have ix := cn1 (x := x83_5) (by omega) (by omega)
      have tw14 : zT τ140 (zR κ soWhole a0) = 8 := E14.2.2.2.2.t tw (by decide)
      have tl14 : zT τ140 (zR κ soLess a0) = 8 := E14.2.2.2.2.t tl (by decide)
      have nw := rg_n9 (c := 0) W140 tw14 E15 (by rw [E14.1 _ lw, S0.1.1]; unfold ceR9; decide)
      have nl := rg_n9 (c := 0) W140 tl14 E15 (by rw [E14.1 _ ll, h8]; unfold ceR9; decide)
      have Ef := rg_t9 W Ta0 E14 (rg_m9 (fun r h => Or.inr h) E15)
      refine ⟨_, ?_, rfl, ?_⟩
      · rw [hn83, hx19, ix.2]; omega  -- d8
      · refine ⟨rfl, ⟨ρ15, Ef⟩, ⟨by rw [nw.2.1]; exact D14, by rw [nl.2.1]; exact hl14⟩, ⟨u2, u3⟩, ⟨by rw [hx19, ix.2]; omega, by rw [hx19, ix.2]; omega⟩, ⟨by rw [er15]; exact er14, fun r hr => ?_⟩, fun i j => if i = x83_5.toNatClampNeg ∧ j < m9 then R15 j else M14 i j, fun i j hi hj => ?_, fun i hi => ?_, cp_m9 Q15 (fun i j z => ?_)⟩
        · rw [← er14, ra15, er14]
          exact rw14 r hr
        · rw [hx19, ix.1] at hi
          dsimp only
          by_cases e : i = x83_5.toNatClampNeg
          · rw [if_pos ⟨e, hj⟩, e]
            have q := fl_f9 W Ta0 E14 X0 (F15 j hj)
            rw [s14.2, w14.1] at q
            exact q
          · rw [if_neg (fun y => e y.1)]
            exact F14 i j (by omega) hj
        · rw [hx19, ix.1] at hi
          dsimp only
          rw [if_neg (by omega)]
          exact B14 i (by omega)
        · rw [hx19, ix.1] at z
          refine ⟨?_, rfl⟩
          by_cases e : i = x83_5.toNatClampNeg
          · rcases z.2 with y | y
            · exact Or.inr ⟨e, y⟩
            · exact Or.inl (Or.inr ⟨e, y⟩)
          · exact Or.inl (Or.inl ⟨by omega, z.2⟩)
    refine ⟨fun c20 => ?_, fun c20 => ?_⟩
    · skip
      refine ⟨fun c21 => ?_, fun c21 => ?_⟩
      · skip
        unfold w_So_visitRing_177
        refine ⟨fun n l0 l2 l3 l5 τ => n = (l3.toInt - l5.toInt).toNat ∧ (a0 = l0 ∧ (∃ ρ', rgE9 vrR9 ρ κ τ a0 ρ' ∧ ∃ (M : Nat → Nat → Nat) (q9 : Nat), clI9 ρ' τ a0 m9 M ∧ ((l5 = 0 → q9 = 1) ∧ (¬ l5 = 0 → q9 = M (l5.toNatClampNeg - 1) (l5.toNatClampNeg - 1))) ∧ bz9 M m9 l5.toNatClampNeg q9 (pB9 1501) 8000000) ∧ (dz9 (nuN τ (zR κ soWhole a0)) P9 ∧ nuN τ (zR κ soLess a0) < pB9 4000 ∧ zR τ soRows a0 = zR κ soRows a0) ∧ (l2.toInt = (f9 : Int) ∧ l3.toInt = (m9 : Int)) ∧ (0 ≤ l5.toInt ∧ l5.toInt + 1 ≤ l3.toInt)), ⟨_, rfl, ?_⟩, ?_⟩
        · rw [lei] at c20
          have e5 : x83_5.toNatClampNeg = m9 := by omega
          rw [e5] at F8 B8 Q8
          refine ⟨rfl, ⟨ρ83, E8, M8, 1, cp_i9 E8.2.2.1 ⟨by omega, hm⟩ Q8 (fun i j hi hj => ⟨hi, hj⟩), ⟨fun _ => rfl, fun z => absurd rfl z⟩, rg_d9 X0 hfn.1 F8 B8⟩, ⟨D8, hl8, er8⟩, ⟨z2, z3⟩, ⟨by decide, by rw [t0i]; omega⟩⟩
        rintro n177 _ x177_2 x177_3 x177_5 κ177 W177 T177_0 ⟨hn177, rfl, i177⟩
        obtain ⟨⟨ρ7, E7, M7, q7, K7, Q7, B7⟩, ⟨D7, hl7, er7⟩, ⟨y2, y3⟩, l57⟩ := i177
        have ke := cnk l57.1
        have k3 := cnk (x := x177_3) (by omega)
        have d3 := dec_9 (x := x177_3) (by omega) (fun z => by rw [z, t0i] at y3; omega)
        refine ⟨fun c22 => ?_, fun c22 => ?_⟩
        · skip
          intro T23
          refine So_cell_c2 W177 T23  ?_ (fun r24 q26 => ?_)
          · rw [lei] at c22
            have e1 : (x177_3 - 1).toNatClampNeg = m9 - 1 := by omega
            rw [e1]
            exact ⟨K7.1, ⟨d3.2.2.2, by omega⟩, ⟨d3.2.2.2, by omega⟩, (K7.2 _ _ (by omega) (Or.inl (by omega))).1⟩
          intro W27
          intro M28
          intro T29
          intro T30
          intro T31
          rw [lei] at c22
          have e1 : (x177_3 - 1).toNatClampNeg = m9 - 1 := by omega
          rw [e1] at q26
          have e57 : x177_5.toNatClampNeg = m9 - 1 := by omega
          rw [e57] at B7
          have hA : M7 (m9 - 1) (m9 - 1) ≤ 8000000 ^ m9 := by
            have q := (bz9_e B7 (i := m9 - 1) (j := m9 - 1) (by omega) (by omega) (by omega) (by omega)).2
            rw [show m9 - 1 + 1 = m9 by omega] at q
            exact q
          have h32 : ∀ r, r < m9 → M7 r 32 ≤ 8000000 ^ 31 * 2 ^ 31 * pB9 1501 := fun r hr => by
            obtain ⟨b1, _, b3, _, b5⟩ := B7
            by_cases z : r < m9 - 1
            · exact Nat.le_trans (b5 r z) (Nat.mul_le_mul_right _ (Nat.mul_le_mul (Nat.pow_le_pow_right (by decide) (by omega)) (Nat.pow_le_pow_right (by decide) (by omega))))
            · exact Nat.le_trans (b3 r (by omega) hr) (Nat.mul_le_mul_right _ (Nat.mul_le_mul (Nat.le_trans b1 (Nat.pow_le_pow_right (by decide) (by omega))) (Nat.pow_le_pow_right (by decide) (by omega))))
          refine So_putBack_c W27 T30 T31 ρ7 M7 m9 (8000000 ^ 63 * 2 ^ 31 * pB9 1501) ?_ (fun κ_32 q33 => ?_)
          · refine ⟨E7.2.1, K7, ⟨hfn.2, hm, y3⟩, q26, fun r c h1 h2 h3 => ?_, fun r hr => ?_, ?_⟩
            · by_cases z : r < m9 - 1
              · exact B7.2.2.2.1 r c z h2 h3
              · have er : r = m9 - 1 := by omega
                have ec : c = m9 - 1 := by omega
                rw [er, ec]
                exact (bz9_e B7 (i := m9 - 1) (j := m9 - 1) (by omega) (by omega) (by omega) (by omega)).2
            · have q := Nat.mul_le_mul_right (8000000 ^ 32) (h32 r hr)
              refine Nat.le_trans q (Nat.le_of_eq ?_)
              rw [show (63 : Nat) = 31 + 32 from rfl, Nat.pow_add]
              generalize 8000000 ^ 31 = x
              generalize 8000000 ^ 32 = y
              generalize pB9 1501 = z
              generalize 2 ^ 31 = t
              simp only [Nat.mul_assoc, Nat.mul_comm, Nat.mul_left_comm]
            · exact big_9
          obtain ⟨⟨Zb, Nb, Sb⟩, M2, K2, e2, b2⟩ := q33
          have Eb := rg_t9 W Ta0 E7 (rg_so9 (R' := vrR9) W27 T177_0 E7.2.2.1 E7.2.2.2.1.1 Zb (fun r h => by
            rcases h with h | h
            · exact Or.inl (by omega)
            · exact Or.inr h) ⟨Nb, Sb⟩)
          have tw7 : zT κ177 (zR κ soWhole a0) = 8 := E7.2.2.2.2.t tw (by decide)
          have tl7 : zT κ177 (zR κ soLess a0) = 8 := E7.2.2.2.2.t tl (by decide)
          have r7w : ρ7 (zR κ soWhole a0) = 1 := by rw [E7.1 _ lw]; exact S0.1.1
          have r7l : ρ7 (zR κ soLess a0) = 8 := by rw [E7.1 _ ll]; exact h8
          have nw := soF_B (c := 6500) W27 tw7 Zb (by rw [r7w]; unfold elR9; decide)
          have ew2 : zR κ_32 soWhole a0 = (zR κ soWhole a0) := (rg_r9 W Ta0 Eb (by decide)).1
          have el2 : zR κ_32 soLess a0 = (zR κ soLess a0) := (rg_r9 W Ta0 Eb (by decide)).1
          have U2 := (so_rw9 W27 T177_0 Zb).2.2.2
          have kA2 := K2.2 (m9 - 1) (m9 - 1) (by omega) (Or.inl (by omega))
          have gA2 := cl_g9 Nb K2 (i := m9 - 1) (j := m9 - 1) (by omega) (Or.inl (by omega))
          rw [U2, ← q26, e2 _ _ (by omega)] at kA2
          rw [U2, ← q26] at gA2
          have gw2 := nm_g Nb r7w (Or.inl ⟨by decide, by decide⟩) (by decide)
          have gl2 := nm_g Nb r7l (Or.inl ⟨by decide, by decide⟩) (by decide)
          have xA := nuK_lt gA2.2.2.1 (k := 24) (by rw [kA2.2.2]; exact Nat.lt_of_le_of_lt hA (dp_9 hm))
          have lw7 : nuN κ177 (zR κ soWhole a0) < pB9 1490 := Nat.lt_of_le_of_lt (dz9_le D7 P0) P1
          have xw := nuK_lt gw2.1 (k := 1490) (by rw [nw.2.1]; exact lw7)
          intro W34
          intro M35
          intro T36
          intro T37
          intro T38
          refine Nu_product_c W34 T36 T37 T38 6500 30000000 30000000 ?_ (fun κ_39 q40 => ?_)
          · rw [el2, ew2]
            exact ⟨gl2.2.2, ⟨gA2.2.2.1, gw2.2.1⟩, ⟨ro_n r7l kA2.2.1 (by omega), ro_n r7l r7w (by decide)⟩, by omega, by decide⟩
          intro W41
          intro M42
          rw [el2, ew2, kA2.2.2, nw.2.1] at q40
          obtain ⟨Fl, Il, Vl⟩ := q40
          have T32 : zT κ_32 a0 = 12 := Zb.t T177_0 (by decide)
          have Zl : zF (soF ρ7 (fun r => r = 8) (zR κ_32 soCalc a0)) κ_32 κ_39 := soF_1 r7l Fl
          have N39 : nmI ρ7 κ_39 ∧ soI ρ7 κ_39 a0 := ⟨nm_1 W34 Nb Fl (by rw [r7l]; exact Il), so_1 W34 T32 Sb Fl⟩
          have E39 := rg_t9 W Ta0 Eb (rg_so9 (R' := vrR9) W34 T32 Eb.2.2.1 Eb.2.2.2.1.1 Zl (fun r h => Or.inl (by omega)) N39)
          have K39 := cl_f9 W34 T32 Nb Zl (fun r h z => by omega) K2
          have V39 := rg_v9 W Ta0 N0 hn vrR9_v E39 V0
          have er39 : zR κ_39 soRows a0 = zR κ soRows a0 := by
            rw [(soF_r9 Zl (by decide)).1, (soF_r9 Zb (by decide)).1]
            exact er7
          unfold w_So_visitRing_233
          refine ⟨fun n l0 l2 l3 l6 τ => n = (l3.toInt - l6.toInt).toNat ∧ (a0 = l0 ∧ (l2.toInt = (f9 : Int) ∧ l3.toInt = (m9 : Int)) ∧ (0 ≤ l6.toInt ∧ l6.toInt ≤ l3.toInt) ∧ zR τ soRows a0 = zR κ soRows a0 ∧ ∃ (ρ' : Nat → Nat) (M : Nat → Nat → Nat) (A9 : Nat), rgE9 (fun _ => True) ρ κ τ a0 ρ' ∧ clI9 ρ' τ a0 m9 M ∧ (∀ i, i < m9 → M i 32 < pB9 1960) ∧ A9 ≤ 8000000 ^ m9 ∧ (∃ w, dz9 w P9 ∧ nuN τ (zR κ soLess a0) = A9 * w) ∧ vsI9 ρ' τ a0 n9 (P9 * ((if A9 = 0 then 1 else A9) * pd9 (fun i => dvN9 κ (zR κ soAtlas a0) (zA κ (zR κ weOrder (zR κ soWeb a0)) (f9 + i)).toNatClampNeg) m9))), ⟨_, rfl, ?_⟩, ?_⟩
          · exact ⟨rfl, ⟨y2, y3⟩, ⟨by decide, by rw [t0i]; omega⟩, er39, ρ7, M2, M7 (m9 - 1) (m9 - 1), rg_m9 (fun _ _ => trivial) E39, K39, b2, hA, ⟨nuN κ177 (zR κ soWhole a0), D7, Vl⟩, vsI9_m (Nat.dvd_mul_right _ _) V39.1⟩  -- j14
          rintro n233 _ x233_2 x233_3 x233_6 κ233 W233 T233_0 ⟨hn233, rfl, i233⟩
          obtain ⟨⟨v2, v3⟩, l6, er3, ρ3, M3, A3, E3, K3, B3, hA3, ⟨w3, Dw3, Lw3⟩, V3⟩ := i233
          have kf := cnk l6.1
          have X3 := rg_x9 W Ta0 E3 X0
          have w9 := rg_w9 W Ta0 E3 X0
          have es3 : zR κ233 soSum a0 = (zR κ soSum a0) := (rg_r9 W Ta0 E3 (by decide)).1
          have el3 : zR κ233 soLess a0 = (zR κ soLess a0) := (rg_r9 W Ta0 E3 (by decide)).1
          have lA3 : A3 < pB9 24 := Nat.lt_of_le_of_lt hA3 (dp_9 hm)
          have lL3 : nuN κ233 (zR κ soLess a0) < pB9 1514 := lL_9 Lw3 lA3 (Nat.lt_of_le_of_lt (dz9_le Dw3 P0) P1)
          refine ⟨fun c43 => ?_, fun c43 => ?_⟩
          · skip
            refine h _ _ ?_
            · refine ⟨Or.inr rfl, ρ3, E3, Nat.lt_of_lt_of_le lL3 (pB9_l (by decide)), er3, fun _ => ⟨_, ?_, V3⟩⟩
              have pd := pd9_b (f := fun i => dvN9 κ (zR κ soAtlas a0) (zA κ (zR κ weOrder (zR κ soWeb a0)) (f9 + i)).toNatClampNeg) (D := 8000000) (n := m9) (fun i hi => ⟨dvN9_p, by
                have o := od i hi
                have k := cnk o.1
                have d := dv_9 X0 (k := (zA κ (zR κ weOrder (zR κ soWeb a0)) (f9 + i)).toNatClampNeg) (by omega)
                unfold dvN9
                split <;> omega⟩)
              have pA : 0 < 8000000 ^ m9 := Nat.pow_pos (by decide)
              refine ⟨Nat.mul_pos (by split <;> omega) pd.1, ?_⟩
              rw [Nat.two_mul, Nat.pow_add]
              refine Nat.mul_le_mul ?_ pd.2
              split <;> omega
          · skip
            rw [lei] at c43
            have s9 := sx x233_2 x233_6 v2 l6.1 (by omega)
            have o9 := od x233_6.toNatClampNeg (by omega)
            have ko9 := cnk o9.1
            refine ⟨?_, ?_⟩
            · rw [inb_iff, w9.2.2.2.2]; omega  -- b16
            intro x44 hx44
            intro T45
            rw [s9.2, w9.1] at hx44
            have r3s : ρ3 (zR κ soSum a0) = 7 := by rw [E3.1 _ ls]; exact h7
            have r3l : ρ3 (zR κ soLess a0) = 8 := by rw [E3.1 _ ll]; exact h8
            refine So_cell_c2 W233 T45  ?_ (fun r46 q48 => ?_)
            · rw [t32]
              exact ⟨K3.1, ⟨l6.1, by omega⟩, ⟨by decide, by decide⟩, (K3.2 _ _ (by omega) (Or.inr rfl)).1⟩
            intro W49
            intro M50
            intro T51
            intro T52
            intro T53
            rw [t32] at q48
            have kC := K3.2 x233_6.toNatClampNeg 32 (by omega) (Or.inr rfl)
            have gC := cl_g9 E3.2.1.1 K3 (i := x233_6.toNatClampNeg) (j := 32) (by omega) (Or.inr rfl)
            rw [← q48] at kC gC
            rw [show capR (1000000 + (33 * x233_6.toNatClampNeg + 32)) = 3000 by rw [cap_c9 (by omega) (Nat.le_refl _)]; rfl] at gC
            have gS3 := nm_g E3.2.1.1 r3s (Or.inl ⟨by decide, by decide⟩) (by decide)
            have xC := nuK_lt gC.2.2.1 (k := 1960) (by rw [kC.2.2]; exact B3 _ (by omega))
            refine Nu_copy_c W49 T52 T53 6500 3000 ?_ (fun κ_54 q55 => ?_)
            · rw [es3]
              exact ⟨gS3.2.2, gC.2.1.1, ro_n r3s kC.2.1 (by omega), by omega, by decide⟩
            rw [es3] at q55
            obtain ⟨Fc, Bc, Vc, Kc, Zc⟩ := q55
            have Zs : zF (soF ρ3 (fun r => r = 7) (zR κ233 soCalc a0)) κ233 κ_54 := soF_1 r3s Fc
            have Ic : nuI κ_54 (zR κ soSum a0) 6500 := ⟨Bc, Zc gC.2.1.2⟩
            have N54 : nmI ρ3 κ_54 ∧ soI ρ3 κ_54 a0 := ⟨nm_1 W233 E3.2.1.1 Fc (by rw [r3s]; exact Ic), so_1 W233 T233_0 E3.2.1.2 Fc⟩
            have E54 := rg_t9 W Ta0 E3 (rg_so9 (R' := fun _ => True) W233 T233_0 E3.2.2.1 E3.2.2.2.1.1 Zs (fun _ _ => trivial) N54)
            have T54 : zT κ_54 a0 = 12 := Zs.t T233_0 (by decide)
            have X54 := rg_x9 W Ta0 E54 X0
            have es54 : zR κ_54 soSum a0 = (zR κ soSum a0) := (rg_r9 W Ta0 E54 (by decide)).1
            have od9 : 0 ≤ x44.toInt ∧ x44.toInt < n9 := by rw [hx44]; exact o9
            have kx := cnk od9.1
            intro W56
            intro M57
            intro T58
            refine At_divisorOf_c W56 T58  ?_ (fun r59 q61 => ?_)
            · exact ⟨X54.1.2.2.1.1, od9.1, by omega⟩  -- p19
            intro W62
            intro M63
            intro T64
            have rd : r59 = dvA κ (zR κ soAtlas a0) x44.toNatClampNeg := by
              have q := q61
              rw [X54.2.2.1] at q
              exact q.trans (dvA_f9 W rgF9_fr E54.2.2.2.2 (ty_soAtlas W Ta0) _)
            have dv := dv_9 X0 (k := x44.toNatClampNeg) (by omega)
            rw [← rd] at dv
            have e64 := Int32.toInt_toInt64 r59
            refine Nu_times_c W62 T64 6500 ?_ (fun κ_65 q66 => ?_)
            · rw [es54, e64, Kc]
              exact ⟨Ic, ⟨by omega, by omega⟩, by omega, by decide⟩
            intro W67
            intro M68
            rw [es54, e64, Vc, kC.2.2] at q66
            obtain ⟨Ft, It, Vt⟩ := q66
            have Zt : zF (soF ρ3 (fun r => r = 7) (zR κ_54 soCalc a0)) κ_54 κ_65 := soF_1 r3s Ft
            have N65 : nmI ρ3 κ_65 ∧ soI ρ3 κ_65 a0 := ⟨nm_1 W56 N54.1 Ft (by rw [r3s]; exact It), so_1 W56 T54 N54.2 Ft⟩
            have E65 := rg_t9 W Ta0 E54 (rg_so9 (R' := fun _ => True) W56 T54 E54.2.2.1 E54.2.2.2.1.1 Zt (fun _ _ => trivial) N65)
            have T65 : zT κ_65 a0 = 12 := Zt.t T54 (by decide)
            have X65 := rg_x9 W Ta0 E65 X0
            have xv65 := X65.1.2.2.2
            have ec54 : zR κ_54 soCalc a0 = zR κ233 soCalc a0 := (soF_r9 Zs (by decide)).1
            have Zst : zF (soF ρ3 (fun r => r = 7) (zR κ233 soCalc a0)) κ233 κ_65 := Zs.tr (by rw [ec54] at Zt; exact Zt)
            have V65 := vsI9_f W233 T233_0 E3.2.1.1 Zst hn (fun r h z => by omega) V3
            have U65 := vU9_f W233 T233_0 Zst
            have K65 := cl_f9 W233 T233_0 E3.2.1.1 Zst (fun r h z => by omega) K3
            obtain ⟨g1, g2, g3⟩ := V65 x44.toNatClampNeg (by omega)
            have es65 : zR κ_65 soSum a0 = (zR κ soSum a0) := (rg_r9 W Ta0 E65 (by decide)).1
            have el65 : zR κ_65 soLess a0 = (zR κ soLess a0) := (rg_r9 W Ta0 E65 (by decide)).1
            have nl65 := soF_B (c := 0) (w := (zR κ soLess a0)) W233 (E3.2.2.2.2.t tl (by decide)) Zst (by rw [r3l]; decide)
            have lS65 : nuN κ_65 (zR κ soSum a0) < pB9 4000 := by
              rw [Vt]
              have q : M3 x233_6.toNatClampNeg 32 * r59.toInt.toNat < pB9 1960 * pB9 1 := Nat.mul_lt_mul'' (B3 _ (by omega)) (by unfold pB9; omega)
              rw [← pB9_a] at q
              exact Nat.lt_of_lt_of_le q (pB9_l (by decide))
            refine ⟨?_, ?_⟩
            · rw [inb_iff]; omega  -- b21
            refine ex_some ?_ (fun u69 hu69 => ?_)
            · exact ⟨_, g1⟩  -- e22
            intro T70
            intro T71
            intro T72
            intro T73
            have eu : u69 = vU9 κ_65 a0 x44.toNatClampNeg := Option.some.inj (hu69.symm.trans g1)
            subst eu
            refine So_keep_c W67 T70 T71 T72 T73 ρ3 (100 + 8 * x44.toNatClampNeg) 7 8 ?_ (fun r74 κ_75 q76 => ?_)
            · refine ⟨N65, ⟨g2, by omega, by omega, by omega⟩, ⟨by rw [es65]; exact r3s, Or.inl ⟨by decide, by decide⟩, by decide⟩, ⟨by rw [el65]; exact r3l, Or.inl ⟨by decide, by decide⟩, by decide⟩, by rw [es65]; exact lS65, ?_⟩
              rw [el65, nl65.2.1]
              exact Nat.lt_of_lt_of_le lL3 (pB9_l (by decide))
            rw [es65, el65, nl65.2.1] at q76
            obtain ⟨nbk, ⟨Zk, Nk, Sk⟩, _, Kk⟩ := q76
            have E75 := rg_t9 W Ta0 E65 (rg_so9 (R' := fun _ => True) W67 T65 E65.2.2.1 E65.2.2.2.1.1 Zk (fun _ _ => trivial) ⟨Nk, Sk⟩)
            have T75 : zT κ_75 a0 = 12 := Zk.t T65 (by decide)
            have nl75 := soF_B (c := 0) (w := (zR κ soLess a0)) W67 (by rw [← el65]; exact ty_soLess W67 T65) Zk (by rw [r3l]; unfold kpR9 stR9; omega)
            have er75 : zR κ_75 soRows a0 = zR κ soRows a0 := by
              rw [(soF_r9 Zk (by decide)).1, (soF_r9 Zst (by decide)).1]
              exact er3
            intro W77
            intro M78
            refine ⟨fun c79 => ?_, fun c79 => ?_⟩
            · skip
              intro x80 hx80
              refine ⟨_, ?_, rfl, ?_⟩
              · have ix := cn1 (x := x233_6) (by omega) (by omega)
                rw [hn233, hx80, ix.2]; omega
              · have ix := cn1 (x := x233_6) (by omega) (by omega)
                have K75 := cl_f9 W67 T65 N65.1 Zk (fun r h z => by
                  rcases z with (z | z | z | z) | z | z | z <;> omega) K65
                refine ⟨rfl, ⟨v2, v3⟩, ⟨by rw [hx80, ix.2]; omega, by rw [hx80, ix.2]; omega⟩, er75, ρ3, M3, A3, E75, K75, B3, hA3, ⟨w3, Dw3, by rw [nl75.2.1, nl65.2.1]; exact Lw3⟩, fun k hk => ?_⟩
                obtain ⟨q1, q2, q3⟩ := V65 k hk
                obtain ⟨e3, e4⟩ := vU9_f W67 T65 Zk
                have ea : zR κ_75 soAtlas a0 = zR κ_65 soAtlas a0 := (soF_r9 Zk (by decide)).1
                have dd := dvA_f9 W67 soF_fr Zk (ty_soAtlas W67 T65) k
                have dN : dvN9 κ_75 (zR κ_65 soAtlas a0) k = dvN9 κ_65 (zR κ_65 soAtlas a0) k := by unfold dvN9; rw [dd]
                rw [e3, e4, ea, dN]
                refine ⟨q1, q2, ?_⟩
                by_cases z : k = x44.toNatClampNeg
                · obtain ⟨⟨f1, f2⟩, f3, f4, f5⟩ := Kk c79
                  rw [← z] at f3 f4 f5
                  intro _
                  rw [f4, f5]
                  refine ⟨f1, f2, ?_⟩
                  have d65 : dvN9 κ_65 (zR κ_65 soAtlas a0) k = dvN9 κ (zR κ soAtlas a0) (zA κ (zR κ weOrder (zR κ soWeb a0)) (f9 + x233_6.toNatClampNeg)).toNatClampNeg := by
                    unfold dvN9
                    rw [X65.2.2.1, dvA_f9 W rgF9_fr E65.2.2.2.2 (ty_soAtlas W Ta0) k, z, hx44]
                  rw [d65]
                  have dl : dz9 (nuN κ233 (zR κ soLess a0)) (P9 * (if A3 = 0 then 1 else A3)) := by
                    rw [Lw3]
                    by_cases y : A3 = 0
                    · left; rw [y, Nat.zero_mul]
                    · rw [if_neg y, Nat.mul_comm A3]
                      exact dz9_mul Dw3
                  have dg := dz9_mul (d := dvN9 κ (zR κ soAtlas a0) (zA κ (zR κ weOrder (zR κ soWeb a0)) (f9 + x233_6.toNatClampNeg)).toNatClampNeg) (dz9_div dl (Nat.gcd_dvd_right (nuN κ_65 (zR κ soSum a0)) (nuN κ233 (zR κ soLess a0))))
                  refine dz9_m dg ?_
                  rw [Nat.mul_assoc]
                  refine Nat.mul_dvd_mul (Nat.dvd_refl _) (Nat.mul_dvd_mul (Nat.dvd_refl _) ?_)
                  exact pd9_d (f := fun i => dvN9 κ (zR κ soAtlas a0) (zA κ (zR κ weOrder (zR κ soWeb a0)) (f9 + i)).toNatClampNeg) (k := x233_6.toNatClampNeg) (n := m9) (by omega)
                · exact vsK9_f W67 N65.1 Zk q2 (vs_r9 (by omega)) ⟨by unfold kpR9 stR9; omega, by unfold kpR9 stR9; omega, by unfold kpR9 stR9; omega⟩ q3
            · skip
              refine h _ _ ?_
              · refine ⟨Or.inl rfl, ρ3, E75, ?_, er75, fun z => absurd rfl z⟩
                rw [nl75.2.1, nl65.2.1]
                exact Nat.lt_of_lt_of_le lL3 (pB9_l (by decide))
        · skip
          intro T81
          rw [lei] at c22
          refine So_eliminate_c W177 T81 ρ7 M7 m9 q7 (pB9 1501) ?_ (fun κ_82 q83 => ?_)
          · exact ⟨E7.2.1, K7, ⟨hm, y3⟩, ⟨l57.1, by omega⟩, Q7, B7, pB9_l (by decide)⟩  -- p27
          intro W84
          intro M85
          intro x86 hx86
          obtain ⟨⟨Ze, Ne, Se⟩, Ke⟩ := q83
          have ix := cn1 (x := x177_5) (by omega) (by omega)
          have Ee := rg_t9 W Ta0 E7 (rg_so9 (R' := vrR9) W177 T177_0 E7.2.2.1 E7.2.2.2.1.1 Ze (fun r h => by
            rcases h with h | h
            · exact Or.inl (by omega)
            · exact Or.inr h) ⟨Ne, Se⟩)
          have tw7 : zT κ177 (zR κ soWhole a0) = 8 := E7.2.2.2.2.t tw (by decide)
          have tl7 : zT κ177 (zR κ soLess a0) = 8 := E7.2.2.2.2.t tl (by decide)
          have nw := soF_B (c := 0) W177 tw7 Ze (by rw [E7.1 _ lw, S0.1.1]; unfold elR9; decide)
          have nl := soF_B (c := 0) W177 tl7 Ze (by rw [E7.1 _ ll, h8]; unfold elR9; decide)
          refine ⟨_, ?_, rfl, ?_⟩
          · rw [hn177, hx86, ix.2]; omega  -- d28
          · refine ⟨rfl, ⟨ρ7, Ee, eM9 M7 m9 x177_5.toNatClampNeg q7, M7 x177_5.toNatClampNeg x177_5.toNatClampNeg, Ke, ⟨fun z => ?_, fun _ => ?_⟩, ?_⟩, ⟨by rw [nw.2.1]; exact D7, by rw [nl.2.1]; exact hl7, by rw [(soF_r9 Ze (by decide)).1]; exact er7⟩, ⟨y2, y3⟩, ⟨by rw [hx86, ix.2]; omega, by rw [hx86, ix.2]; omega⟩⟩
            · exfalso
              rw [hx86] at z
              have q := congrArg Int32.toInt z
              rw [ix.2, t0i] at q
              omega
            · rw [hx86, ix.1, Nat.add_sub_cancel, eM9_o (Nat.le_refl _)]
            · rw [hx86, ix.1]
              exact bz9_s hm (by omega) B7
      · skip
        refine h _ _ ?_
        · exact ⟨Or.inr rfl, ρ83, rg_m9 (fun _ _ => trivial) E8, hl8, er8, fun _ => ⟨1, ⟨by decide, Nat.pow_pos (by decide)⟩, by rw [Nat.mul_one]; exact V8.1⟩⟩  -- q30
    · skip
      rw [lei] at c20
      have s8 := sx x83_2 x83_5 z2 l5.1 (by omega)
      have o8 := od x83_5.toNatClampNeg (by omega)
      have ko8 := cnk o8.1
      refine ⟨?_, ?_⟩
      · rw [inb_iff, w8.2.2.2.2]; omega  -- b31
      intro T87
      refine So_sumInflow_c W83 T87 ρ83 n9 P9 ?_ (fun κ_88 q89 => ?_)
      · rw [s8.2, w8.1, ew8, el8]
        exact ⟨E8.2.1, X8.1, V8.1, o8, Nat.lt_of_le_of_lt (dz9_le D8 P0) P1', hl8⟩
      rw [ew8, es8, el8] at q89
      obtain ⟨Zs, ⟨Ns, Ss⟩, Ds, Es⟩ := q89
      have E88 := rg_t9 W Ta0 E8 (rg_so9 (R' := vrR9) W83 T83_0 E8.2.2.1 E8.2.2.2.1.1 Zs (fun r h => Or.inl (by rcases h with (z | z | z) | (z | z | z | z | z | z) <;> omega)) ⟨Ns, Ss⟩)
      have Q88 := cp_so9 W83 T83_0 E8.2.2.1 Zs (fun r h => suR9_l r (by omega)) Q8
      have r8w : ρ83 (zR κ soWhole a0) = 1 := by rw [E8.1 _ lw]; exact S0.1.1
      have r8l : ρ83 (zR κ soLess a0) = 8 := by rw [E8.1 _ ll]; exact h8
      have r8s : ρ83 (zR κ soSum a0) = 7 := by rw [E8.1 _ ls]; exact h7
      have tw8 : zT κ83 (zR κ soWhole a0) = 8 := E8.2.2.2.2.t tw (by decide)
      have nw := soF_B (c := 0) W83 tw8 Zs (by rw [r8w]; unfold suR9 unR9 adR9; decide)
      have sB : nuN κ_88 (zR κ soSum a0) ≤ pB9 1501 := by
        refine Nat.le_trans Ds ?_
        have q : (nuN κ83 (zR κ soWhole a0) + 1) * pB9 11 ≤ pB9 1490 * pB9 11 := Nat.mul_le_mul_right _ (Nat.lt_of_le_of_lt (dz9_le D8 P0) P1)
        rw [← pB9_a] at q
        exact q
      intro W90
      intro M91
      intro T92
      refine So_cell_c W90 T92 ρ83 ?_ (fun r93 κ_94 q95 => ?_)
      · exact ⟨E88.2.1, E88.2.2.1, E88.2.2.2.1.1, ⟨l5.1, by omega⟩, ⟨by decide, by decide⟩⟩  -- p33
      rw [t32] at q95
      obtain ⟨⟨Zc, Zk4⟩, ⟨ρ4, h4, N4, K4⟩, L4, U4, O4⟩ := q95
      have T88 : zT κ_88 a0 = 12 := Zs.t T83_0 (by decide)
      have Ece : rgE9 (fun _ => False) ρ83 κ_88 κ_94 a0 ρ4 := rg_ce9 Zc h4 N4 K4 L4 Zk4
      have E94 := rg_t9 W Ta0 E88 (rg_m9 (fun _ h => h.elim) Ece)
      have Q94 := (cp_ce9 W90 T88 Zc L4 O4 Q88).1
      have T94 : zT κ_94 a0 = 12 := Zc.t T88 (by decide)
      have es94 : zR κ_94 soSum a0 = (zR κ soSum a0) := (rg_r9 W Ta0 E94 (by decide)).1
      have ts88 : zT κ_88 (zR κ soSum a0) = 8 := E88.2.2.2.2.t ts (by decide)
      have gs88 := nm_g E88.2.1.1 r8s (Or.inl ⟨by decide, by decide⟩) (by decide)
      have ns94 := rg_n9 (c := 6500) W90 ts88 Ece (fun z => z)
      have r4s : ρ4 (zR κ soSum a0) = 7 := by rw [E94.1 _ ls]; exact h7
      have cI := cl_c9 N4.1 K4 (i := 33 * x83_5.toNatClampNeg + 32) (by omega) U4
      rw [show capR (1000000 + (33 * x83_5.toNatClampNeg + 32)) = 3000 by rw [cap_c9 (by omega) (Nat.le_refl _)]; rfl] at cI
      have kr := K4 _ _ (by omega) U4
      have xs := nuK_lt (ns94.1 gs88.1) (k := 1502) (by rw [ns94.2.1]; exact Nat.lt_of_le_of_lt sB (pB9_s (by decide)))
      intro W96
      intro M97
      intro T98
      intro T99
      intro T100
      refine Nu_copy_c W96 T99 T100 3000 6500 ?_ (fun κ_101 q102 => ?_)
      · rw [es94]
        exact ⟨cI.1.2.1, (ns94.1 gs88.1).1, ro_n kr r4s (by omega), by omega, by decide⟩
      intro W103
      intro M104
      rw [es94] at q102
      obtain ⟨Fc, Bc, Vc, Kc, Zq⟩ := q102
      rw [ns94.2.1] at Vc
      have Ep := cl_p9 W96 T94 N4.1 N4.2 K4 L4 (by omega) U4 Fc (by rw [show capR (1000000 + (33 * x83_5.toNatClampNeg + 32)) = 3000 by rw [cap_c9 (by omega) (Nat.le_refl _)]; rfl]; exact ⟨Bc, Zq (ns94.1 gs88.1).2⟩)
      have E101 := rg_t9 W Ta0 E94 (rg_m9 (fun r h => Or.inr h) Ep)
      have t9 := cp_t9 W96 T94 U4
      have U4' := U4
      rw [← t9.2.2] at Fc Vc U4'
      have Q101 := cp_w9 W96 T94 K4 L4 ⟨by omega, by omega⟩ U4' Fc Vc Q94
      have tw88 : zT κ_88 (zR κ soWhole a0) = 8 := E88.2.2.2.2.t tw (by decide)
      have tl88 : zT κ_88 (zR κ soLess a0) = 8 := E88.2.2.2.2.t tl (by decide)
      have nw94 := rg_n9 (c := 0) W90 tw88 Ece (fun z => z)
      have nl94 := rg_n9 (c := 0) W90 tl88 Ece (fun z => z)
      have nw101 := rg_n9 (c := 0) (w := (zR κ soWhole a0)) W96 (E94.2.2.2.2.t tw (by decide)) Ep (by rw [E94.1 _ lw, S0.1.1]; unfold ceR9; decide)
      have nl101 := rg_n9 (c := 0) (w := (zR κ soLess a0)) W96 (E94.2.2.2.2.t tl (by decide)) Ep (by rw [E94.1 _ ll, h8]; unfold ceR9; decide)
      have T101 : zT κ_101 a0 = 12 := Fc.t T94 (by decide)
      have rz1 := rr_9 W83 T83_0 Zs (fun z => by rcases z with ⟨_, z | z | z⟩ | ⟨_, z | z | z | z⟩ <;> exact absurd z (by decide))
      have rz2 := rr_9 W90 T88 Zc (fun z => by
        rcases z with z | z
        · exact absurd z.1 (by decide)
        · have := (W90.2.1 a0 (by rw [T88]; decide)).2
          omega)
      have rz3 := rr_9 W96 T94 Fc (fun z => absurd z.2 (by decide))
      have er101 : zR κ_101 soRows a0 = zR κ soRows a0 := by rw [rz3.1, rz2.1, rz1.1]; exact er8
      have ra101 : zA κ_101 (zR κ soRows a0) = zA κ83 (zR κ soRows a0) := by
        have q3 := rz3.2
        have q2 := rz2.2
        have q1 := rz1.2
        rw [rz2.1, rz1.1, er8] at q3
        rw [rz1.1, er8] at q2
        rw [er8] at q1
        rw [q3, q2, q1]
      have fin : ∀ s : Int32, (∃ ρ', rgE9 vrR9 ρ κ κ_101 a0 ρ') ∧ (dz9 (nuN κ_101 (zR κ soWhole a0)) P9 ∧ nuN κ_101 (zR κ soLess a0) < pB9 4000) ∧ (x83_2.toInt = (f9 : Int) ∧ x83_3.toInt = (m9 : Int)) ∧ (0 ≤ x83_5.toInt ∧ x83_5.toInt < x83_3.toInt ∧ x83_5 = x83_5 ∧ x83_3 = x83_3) ∧ (zR κ_101 soRows a0 = zR κ soRows a0 ∧ ∀ r : Nat, r < m9 → (zA κ_101 (zR κ soRows a0) (zA κ (zR κ weOrder (zR κ soWeb a0)) (f9 + r)).toNatClampNeg).toInt = (r : Int)) ∧ ∃ M : Nat → Nat → Nat, (∀ i j, i < x83_5.toNatClampNeg → j < m9 → flV9 κ a0 n9 (zA κ (zR κ weOrder (zR κ soWeb a0)) (f9 + i)).toNatClampNeg i f9 j (M i j)) ∧ (∀ i, i ≤ x83_5.toNatClampNeg → M i 32 ≤ pB9 1501) ∧ clP9 κ_101 a0 (fun i j => (i < x83_5.toNatClampNeg ∧ (j < m9 ∨ j = 32)) ∨ (i = x83_5.toNatClampNeg ∧ j = 32)) M := fun _ => by
        refine ⟨⟨ρ4, E101⟩, ⟨by rw [nw101.2.1, nw94.2.1, nw.2.1]; exact D8, by rw [nl101.2.1, nl94.2.1]; exact Nat.lt_of_le_of_lt Es hl8⟩, ⟨z2, z3⟩, ⟨l5.1, by omega, rfl, rfl⟩, ⟨er101, fun r hr => by rw [ra101]; exact rw8 r hr⟩, fun i j => if i = x83_5.toNatClampNeg ∧ j = 32 then nuN κ_88 (zR κ soSum a0) else M8 i j, fun i j hi hj => ?_, fun i hi => ?_, Q101⟩
        · dsimp only
          rw [if_neg (by omega)]
          exact F8 i j hi hj
        · dsimp only
          by_cases e : i = x83_5.toNatClampNeg
          · rw [if_pos ⟨e, rfl⟩]; exact sB
          · rw [if_neg (fun y => e y.1)]; exact B8 i (by omega)
      refine ⟨fun c105 => ?_, fun c105 => ?_⟩
      · skip
        refine hj140 _ _ _ _ _ _ W103 ?_ ?_
        · exact T101  -- t35
        · exact ⟨rfl, fin 0⟩  -- k36
      · skip
        refine ⟨fun c106 => ?_, fun c106 => ?_⟩
        · skip
          refine hj140 _ _ _ _ _ _ W103 ?_ ?_
          · exact T101  -- t37
          · exact ⟨rfl, fin 0⟩  -- k38
        · skip
          refine hj140 _ _ _ _ _ _ W103 ?_ ?_
          · exact T101  -- t39
          · exact ⟨rfl, fin 0⟩  -- k40
  · skip
    rw [lei] at c13
    have X1 := rg_x9 W Ta0 E1 X0
    have w1 := rg_w9 W Ta0 E1 X0
    have s1 := sx x30_2 x30_4 x2 l4.1 (by omega)
    have o1' := od x30_4.toNatClampNeg (by omega)
    have ko1 := cnk o1'.1
    have n1 : zN κ30 (zR κ30 soRows a0) = zN κ (zR κ soRows a0) := by rw [er1]; exact E1.2.2.2.2.l (ty_soRows W Ta0)
    refine ⟨?_, ?_⟩
    · rw [inb_iff, w1.2.2.2.2]; omega  -- b41
    refine ⟨?_, ?_⟩
    · rw [s1.2, w1.1, inb_iff, n1]; omega  -- b42
    intro κ_107 hκ_107
    intro W108
    rw [s1.2, w1.1] at hκ_107
    have Er0 : rgE9 (fun _ => False) ρ κ30 κ_107 a0 ρ := rg_ro9 W30 T30_0 E1.2.1.1 E1.2.1.2 E1.2.2.1 E1.2.2.2.1.1 hκ_107
    have E107 := rg_t9 W Ta0 E1 (rg_m9 (fun _ h => h.elim) Er0)
    have X107 := rg_x9 W Ta0 E107 X0
    have w107 := rg_w9 W Ta0 E107 X0
    have V107 := rg_v9 W Ta0 N0 hn vrR9_v E107 V0
    have T107 : zT κ_107 a0 = 12 := E107.2.2.2.2.t Ta0 (by decide)
    have ew107 : zR κ_107 soWhole a0 = (zR κ soWhole a0) := (rg_r9 W Ta0 E107 (by decide)).1
    have nw107 := rg_n9 (c := 0) (w := (zR κ soWhole a0)) W30 (E1.2.2.2.2.t tw (by decide)) Er0 (fun z => z)
    have nl107 := rg_n9 (c := 0) (w := (zR κ soLess a0)) W30 (E1.2.2.2.2.t tl (by decide)) Er0 (fun z => z)
    refine ⟨?_, ?_⟩
    · rw [inb_iff, w107.2.2.2.2]; omega  -- b43
    intro T109
    refine So_joinInflow_c W108 T109 ρ n9 P9 ?_ (fun κ_110 q111 => ?_)
    · rw [s1.2, w107.1, ew107, nw107.2.1]
      exact ⟨E107.2.1, X107.1, V107.1, o1', D1, P0, Nat.lt_of_lt_of_le P1 (pB9_l (by decide))⟩
    intro W112
    intro M113
    intro x114 hx114
    rw [ew107] at q111
    obtain ⟨Zj, ⟨Nj, Sj⟩, Dj⟩ := q111
    have E110 := rg_t9 W Ta0 E107 (rg_so9 (R' := vrR9) W108 T107 E107.2.2.1 E107.2.2.2.1.1 Zj (fun r h => Or.inl (by rcases h with (z | z | z) | (z | z | z) <;> omega)) ⟨Nj, Sj⟩)
    have nl110 := soF_B (c := 0) (w := (zR κ soLess a0)) W108 (E107.2.2.2.2.t tl (by decide)) Zj (by rw [h8]; unfold jiR9 unR9 jnR9; decide)
    have ix := cn1 (x := x30_4) (by omega) (by omega)
    have rz := rr_9 W108 T107 Zj (fun z => by rcases z with ⟨_, z | z | z⟩ | ⟨_, z | z | z | z⟩ <;> exact absurd z (by decide))
    have er107 : zR κ_107 soRows a0 = zR κ soRows a0 := by rw [hκ_107]; exact er1
    have ra107 : zA κ_107 (zR κ soRows a0) = upd (zA κ30 (zR κ soRows a0)) (zA κ (zR κ weOrder (zR κ soWeb a0)) (f9 + x30_4.toNatClampNeg)).toNatClampNeg x30_4 := by
      rw [hκ_107, er1]
      exact if_pos rfl
    refine ⟨_, ?_, rfl, ?_⟩
    · rw [hn30, hx114, ix.2]; omega  -- d45
    · refine ⟨rfl, ⟨E110, Dj, by rw [nl110.2.1, nl107.2.1]; exact le1⟩, ⟨x2, x3⟩, ⟨by rw [hx114, ix.2]; omega, by rw [hx114, ix.2]; omega⟩, by rw [rz.1]; exact er107, fun r hr => ?_⟩
      rw [hx114, ix.1] at hr
      rw [← er107, rz.2, er107, ra107]
      unfold upd
      by_cases e : r = x30_4.toNatClampNeg
      · rw [e, if_pos rfl]; exact kc.symm
      · rw [if_neg (fun y => e (by
          have q := od_i9 X0.2.1 (i := f9 + r) (j := f9 + x30_4.toNatClampNeg) (by omega) (by omega) y
          omega))]
        exact rw1 r (by omega)

end
