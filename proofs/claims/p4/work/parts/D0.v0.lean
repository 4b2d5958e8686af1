set_option maxHeartbeats 1600000
/-! the class: a ring's numbers on the way -/
def rgF9 (R : Nat → Prop) (ρ : Nat → Nat) (ca m a : Nat) : Nat → Nat → Prop := fun f b => soF ρ R ca f b ∨ (f = soCells ∧ b = a) ∨ (f = soRows ∧ b = a) ∨ m ≤ b
theorem rgF9_fr {R : Nat → Prop} {ρ : Nat → Nat} {ca m a : Nat} : frS9 m (rgF9 R ρ ca m a) := fun f b z => by
  rcases z with z | z | z | z
  · exact soF_fr f b z
  · exact Or.inr (Or.inr (Or.inr (Or.inr (Or.inl z.1))))
  · exact Or.inr (Or.inr (Or.inr (Or.inr (Or.inr (Or.inl z.1)))))
  · exact Or.inl z
/-- numbers and cells in order, behind some steps -/
def rgE9 (R : Nat → Prop) (ρ0 : Nat → Nat) (κ τ : zS) (a : Nat) (ρ : Nat → Nat) : Prop := (∀ b, b < zn κ → ρ b = ρ0 b) ∧ (nmI ρ τ ∧ soI ρ τ a) ∧ clK9 ρ τ a ∧ (((zN τ (zR τ soCells a)) = 0 ∨ (zN τ (zR τ soCells a)) = 1056) ∧ zK9 κ τ a) ∧ zF (rgF9 R ρ0 (zR κ soCalc a) (zn κ) a) κ τ
theorem rg_r9 {C : zC} {n0 a f : Nat} {R : Nat → Prop} {ρ0 ρ : Nat → Nat} {κ τ : zS} (W : zW C n0 κ) (Ta : zT κ a = 12) (E : rgE9 R ρ0 κ τ a ρ) (hf : 1200 ≤ f ∧ f < 1214) : zR τ f a = zR κ f a ∧ zI τ f a = zI κ f a := by
  have n := frS9_n W (rgF9_fr (R := R) (ρ := ρ0) (ca := zR κ soCalc a) (m := zn κ) (a := a)) (f := f) Ta ⟨by omega, by omega, by omega, fun e => by rw [e] at hf; exact absurd hf.2 (by decide), fun e => by rw [e] at hf; exact absurd hf.2 (by decide), by omega⟩
  exact ⟨E.2.2.2.2.r n, E.2.2.2.2.i n⟩
theorem rg_t9 {C : zC} {n0 a : Nat} {R : Nat → Prop} {ρ0 ρ ρ' : Nat → Nat} {κ τ τ' : zS} (W : zW C n0 κ) (Ta : zT κ a = 12) (E : rgE9 R ρ0 κ τ a ρ) (G : rgE9 R ρ τ τ' a ρ') : rgE9 R ρ0 κ τ' a ρ' := by
  have m := E.2.2.2.2.2.2.2.2.2.2
  have ec := (rg_r9 W Ta E (f := soCalc) (by decide)).1
  obtain ⟨G1, G2, G3, G4, G5⟩ := G
  refine ⟨fun b hb => (G1 b (by omega)).trans (E.1 b hb), G2, G3, ⟨G4.1, E.2.2.2.1.2.tr G4.2⟩, E.2.2.2.2.tr (G5.mono (fun f b z => ?_))⟩
  rcases z with z | z | z | z
  · by_cases l : b < zn κ
    · left
      unfold soF at z ⊢
      rw [E.1 b l, ec] at z
      exact z
    · exact Or.inr (Or.inr (Or.inr (by omega)))
  · exact Or.inr (Or.inl z)
  · exact Or.inr (Or.inr (Or.inl z))
  · exact Or.inr (Or.inr (Or.inr (by omega)))
theorem soF_no9 {ρ : Nat → Nat} {R : Nat → Prop} {ca f b : Nat} (h : f ≠ nuLimbs ∧ f ≠ nuLength ∧ f ≠ raSign ∧ f ≠ caRest ∧ f ≠ caX ∧ f ≠ caY ∧ f ≠ caFactors) : ¬ soF ρ R ca f b := fun z => by
  obtain ⟨h1, h2, h3, h4, h5, h6, h7⟩ := h
  rcases z with ⟨_, z | z | z⟩ | ⟨_, z | z | z | z⟩
  · exact h1 z
  · exact h2 z
  · exact h3 z
  · exact h4 z
  · exact h5 z
  · exact h6 z
  · exact h7 z
theorem zK_so9 {C : zC} {n0 a ca : Nat} {ρ : Nat → Nat} {R : Nat → Prop} {κ τ : zS} (W : zW C n0 κ) (Ta : zT κ a = 12) (Z : zF (soF ρ R ca) κ τ) : zK9 κ τ a := zK_z9 W Ta Z (fun b _ => soF_no9 (by decide)) (soF_no9 (by decide)) (soF_no9 (by decide)) (soF_no9 (by decide))
theorem rg_so9 {C : zC} {n0 a : Nat} {ρ : Nat → Nat} {R R' : Nat → Prop} {κ τ : zS} (W : zW C n0 κ) (Ta : zT κ a = 12) (K : clK9 ρ κ a) (L : (zN κ (zR κ soCells a)) = 0 ∨ (zN κ (zR κ soCells a)) = 1056) (Z : zF (soF ρ R (zR κ soCalc a)) κ τ) (hR : ∀ r, R r → R' r) (N : nmI ρ τ ∧ soI ρ τ a) : rgE9 R' ρ κ τ a ρ := by
  obtain ⟨e1, e2, e3, e4⟩ := so_rw9 W Ta Z
  refine ⟨fun _ _ => rfl, N, fun i u hi hu => ?_, ⟨?_, zK_so9 W Ta Z⟩, (soF_m hR Z).mono (fun f b z => Or.inl z)⟩
  · rw [e1, e2] at hu
    exact K i u hi hu
  · rw [e1, e3]
    exact L
theorem rg_ce9 {a : Nat} {R : Nat → Prop} {ρ ρ' : Nat → Nat} {κ τ : zS} (Z : zF (cF9 (zn κ) a) κ τ) (h : ∀ b, b < zn κ → ρ' b = ρ b) (N : nmI ρ' τ ∧ soI ρ' τ a) (K : clK9 ρ' τ a) (L : (zN τ (zR τ soCells a)) = 1056) (Kz : zK9 κ τ a) : rgE9 R ρ κ τ a ρ' := by
  refine ⟨h, N, K, ⟨Or.inr L, Kz⟩, Z.mono (fun f b z => ?_)⟩
  rcases z with z | z
  · exact Or.inr (Or.inl z)
  · exact Or.inr (Or.inr (Or.inr z))
theorem rg_09 {a : Nat} {R : Nat → Prop} {ρ : Nat → Nat} {κ : zS} (N : nmI ρ κ ∧ soI ρ κ a) (K : clK9 ρ κ a) (L : (zN κ (zR κ soCells a)) = 0 ∨ (zN κ (zR κ soCells a)) = 1056) : rgE9 R ρ κ κ a ρ := ⟨fun _ _ => rfl, N, K, ⟨L, zK9.rf⟩, zF.rf⟩
def ceR9 : Nat → Prop := fun r => 1000000 ≤ r ∧ r < 2000000
theorem rg_m9 {R R' : Nat → Prop} {ρ0 ρ : Nat → Nat} {κ τ : zS} {a : Nat} (h : ∀ r, R r → R' r) (E : rgE9 R ρ0 κ τ a ρ) : rgE9 R' ρ0 κ τ a ρ := ⟨E.1, E.2.1, E.2.2.1, E.2.2.2.1, E.2.2.2.2.mono (fun f b z => by
  rcases z with z | z
  · left
    rcases z with z | z
    · exact Or.inl ⟨h _ z.1, z.2⟩
    · exact Or.inr z
  · exact Or.inr z)⟩
/-- a number of another role stays -/
theorem rg_n9 {C : zC} {n0 a w c : Nat} {R : Nat → Prop} {ρ0 ρ : Nat → Nat} {κ τ : zS} (W : zW C n0 κ) (T : zT κ w = 8) (E : rgE9 R ρ0 κ τ a ρ) (h : ¬ R (ρ0 w)) : (nuI κ w c → nuI τ w c) ∧ nuN τ w = nuN κ w ∧ nuK τ w = nuK κ w := by
  have l := (W.2.1 w (by rw [T]; decide)).2
  have nf : ∀ f, f / 100 = 8 → ¬ rgF9 R ρ0 (zR κ soCalc a) (zn κ) a f w := fun f hf z => by
    rcases z with z | z | z | z
    · rcases z with ⟨z, _⟩ | ⟨_, z | z | z | z⟩
      · exact h z
      · rw [z] at hf; exact absurd hf (by decide)
      · rw [z] at hf; exact absurd hf (by decide)
      · rw [z] at hf; exact absurd hf (by decide)
      · rw [z] at hf; exact absurd hf (by decide)
    · rw [z.1] at hf; exact absurd hf (by decide)
    · rw [z.1] at hf; exact absurd hf (by decide)
    · omega
  have b := nuB_z (c := c) W T E.2.2.2.2 (nf _ (by decide)) (nf _ (by decide))
  exact ⟨b.2.1, b.2.2.1, b.2.2.2⟩
/-- what is read stays -/
theorem rg_x9 {C : zC} {n0 a n : Nat} {R : Nat → Prop} {ρ0 ρ : Nat → Nat} {κ τ : zS} (W : zW C n0 κ) (Ta : zT κ a = 12) (E : rgE9 R ρ0 κ τ a ρ) (X : svX9 κ a n) : svX9 τ a n ∧ zR τ soWeb a = zR κ soWeb a ∧ zR τ soAtlas a = zR κ soAtlas a ∧ zR τ soVisits a = zR κ soVisits a := svX9_f W Ta rgF9_fr E.2.2.2.2 X
theorem rg_v9 {C : zC} {n0 a n P : Nat} {R : Nat → Prop} {ρ0 ρ : Nat → Nat} {κ τ : zS} (W : zW C n0 κ) (Ta : zT κ a = 12) (N : nmI ρ0 κ) (hn : n ≤ 1000) (hR : ∀ r, 100 ≤ r → r < 1000000 → ¬ R r) (E : rgE9 R ρ0 κ τ a ρ) (V : vsI9 ρ0 κ a n P) : vsI9 ρ τ a n P ∧ ∀ k, vU9 τ a k = vU9 κ a k := by
  have Z := E.2.2.2.2
  have T9 : zT κ a = 11 + 1 := Ta
  have e3 := (Z.row W (f := soVisits) (t := 25) (by decide +kernel) (by decide) Ta (frS9_n W rgF9_fr T9 (by decide))).2.2
  have e4 : ∀ k, vU9 τ a k = vU9 κ a k := fun k => by unfold vU9; rw [e3]
  have e2 : zR τ soAtlas a = zR κ soAtlas a := (rg_r9 W Ta E (by decide)).1
  refine ⟨fun k hk => ?_, e4⟩
  obtain ⟨h1, h2, h3⟩ := V k hk
  have g := ra_g9 N h2 (by omega) (by omega) (by omega)
  have lt : ∀ x, zT κ x ≠ 0 → x < zn κ := fun x h => (W.2.1 x h).2
  have lu := lt (vU9 κ a k) (by rw [g.1.1]; decide)
  have tt := ty_raTop W g.1.1
  have tb := ty_raBottom W g.1.1
  have lt1 := lt _ (show zT κ (zR κ raTop (vU9 κ a k)) ≠ 0 by rw [tt]; decide)
  have lb1 := lt _ (show zT κ (zR κ raBottom (vU9 κ a k)) ≠ 0 by rw [tb]; decide)
  have nf : ∀ f b, b < zn κ → (100 ≤ ρ0 b ∧ ρ0 b < 1000000) → f / 100 ≠ 12 → f / 100 ≠ 4 → ¬ rgF9 R ρ0 (zR κ soCalc a) (zn κ) a f b := fun f b hb hr h12 h4 z => by
    rcases z with z | z | z | z
    · rcases z with ⟨z, _⟩ | ⟨_, z | z | z | z⟩
      · exact hR _ hr.1 hr.2 z
      · rw [z] at h4; exact absurd rfl h4
      · rw [z] at h4; exact absurd rfl h4
      · rw [z] at h4; exact absurd rfl h4
      · rw [z] at h4; exact absurd rfl h4
    · rw [z.1] at h12; exact absurd rfl h12
    · rw [z.1] at h12; exact absurd rfl h12
    · omega
  have ru : 100 ≤ ρ0 (vU9 κ a k) ∧ ρ0 (vU9 κ a k) < 1000000 := by rw [h2]; omega
  have rt : 100 ≤ ρ0 (zR κ raTop (vU9 κ a k)) ∧ ρ0 (zR κ raTop (vU9 κ a k)) < 1000000 := by rw [g.2.1.1]; omega
  have rb : 100 ≤ ρ0 (zR κ raBottom (vU9 κ a k)) ∧ ρ0 (zR κ raBottom (vU9 κ a k)) < 1000000 := by rw [g.2.1.2]; omega
  have d := dvA_f9 W rgF9_fr Z (ty_soAtlas W Ta) k
  have nt := (nuB_z (c := 0) W tt Z (nf _ _ lt1 rt (by decide) (by decide)) (nf _ _ lt1 rt (by decide) (by decide))).2.2.1
  have nb9 := (nuB_z (c := 0) W tb Z (nf _ _ lb1 rb (by decide) (by decide)) (nf _ _ lb1 rb (by decide) (by decide))).2.2.1
  rw [e3, e4]
  refine ⟨h1, by rw [E.1 _ lu]; exact h2, ?_⟩
  unfold vsK9 dvN9
  rw [e2, d, Z.i (nf raSign _ lu ru (by decide) (by decide)), Z.r (nf raTop _ lu ru (by decide) (by decide)), Z.r (nf raBottom _ lu ru (by decide) (by decide)), nt, nb9]
  exact h3
/-- some cells, and what they hold -/
def clP9 (κ : zS) (a : Nat) (P : Nat → Nat → Prop) (M : Nat → Nat → Nat) : Prop := ∀ i j, P i j → (zN κ (zR κ soCells a)) = 1056 ∧ (i < 32 ∧ j ≤ 32) ∧ zQ κ (zR κ soCells a) (33 * i + j) = some (cU9 κ a i j) ∧ nuN κ (cU9 κ a i j) = M i j
theorem cp_t9 {C : zC} {n0 a i j u : Nat} {κ : zS} (W : zW C n0 κ) (Ta : zT κ a = 12) (h : zQ κ (zR κ soCells a) (33 * i + j) = some u) : zT κ u = 8 ∧ u < zn κ ∧ cU9 κ a i j = u := by
  have t := W.2.2.2.1 _ _ _ (ty_soCells W Ta) h
  refine ⟨t, (W.2.1 u (by rw [t]; decide)).2, ?_⟩
  unfold cU9
  rw [h]
  rfl
theorem cp_so9 {C : zC} {n0 a ca : Nat} {ρ : Nat → Nat} {R : Nat → Prop} {P : Nat → Nat → Prop} {M : Nat → Nat → Nat} {κ τ : zS} (W : zW C n0 κ) (Ta : zT κ a = 12) (K : clK9 ρ κ a) (Z : zF (soF ρ R ca) κ τ) (hR : ∀ r, 1000000 ≤ r → ¬ R r) (Q : clP9 κ a P M) : clP9 τ a P M := fun i j h => by
  obtain ⟨e1, e2, e3, e4⟩ := so_rw9 W Ta Z
  obtain ⟨q0, q1, q2, q3⟩ := Q i j h
  have t := cp_t9 W Ta q2
  have r := K (33 * i + j) _ (by omega) q2
  rw [e1, e2, e3, e4, (soF_B (c := 0) W t.1 Z (by rw [r]; exact hR _ (by omega))).2.1]
  exact ⟨q0, q1, q2, q3⟩
theorem cp_ce9 {C : zC} {n0 a : Nat} {P : Nat → Nat → Prop} {M : Nat → Nat → Nat} {κ τ : zS} (W : zW C n0 κ) (Ta : zT κ a = 12) (Z : zF (cF9 (zn κ) a) κ τ) (L : (zN τ (zR τ soCells a)) = 1056) (O : clO9 κ τ a) (Q : clP9 κ a P M) : clP9 τ a P M ∧ ∀ i j, P i j → cU9 τ a i j = cU9 κ a i j := by
  have key : ∀ i j, P i j → zQ τ (zR τ soCells a) (33 * i + j) = some (cU9 κ a i j) ∧ cU9 τ a i j = cU9 κ a i j := fun i j h => by
    obtain ⟨q0, q1, q2, q3⟩ := Q i j h
    have o := O q0
    have q := o.2 _ _ q2
    rw [← o.1] at q
    exact ⟨q, by unfold cU9; rw [q]; unfold cU9 at q2; rw [q2]; rfl⟩
  refine ⟨fun i j h => ?_, fun i j h => (key i j h).2⟩
  obtain ⟨q0, q1, q2, q3⟩ := Q i j h
  have t := cp_t9 W Ta q2
  have k := key i j h
  have nf : ∀ f, f ≠ soCells → ¬ cF9 (zn κ) a f (cU9 κ a i j) := fun f hf z => by
    rcases z with z | z
    · exact hf z.1
    · omega
  rw [k.2]
  exact ⟨L, q1, k.1, by rw [(nuB_z (c := 0) W t.1 Z (nf _ (by decide)) (nf _ (by decide))).2.2.1]; exact q3⟩
theorem cp_w9 {C : zC} {n0 a i0 j0 v : Nat} {ρ : Nat → Nat} {P : Nat → Nat → Prop} {M : Nat → Nat → Nat} {κ τ : zS} (W : zW C n0 κ) (Ta : zT κ a = 12) (K : clK9 ρ κ a) (L : (zN κ (zR κ soCells a)) = 1056) (h0 : i0 < 32 ∧ j0 ≤ 32) (hu : zQ κ (zR κ soCells a) (33 * i0 + j0) = some (cU9 κ a i0 j0)) (Z : zF (nuF (cU9 κ a i0 j0)) κ τ) (hv : nuN τ (cU9 κ a i0 j0) = v) (Q : clP9 κ a P M) : clP9 τ a (fun i j => P i j ∨ (i = i0 ∧ j = j0)) (fun i j => if i = i0 ∧ j = j0 then v else M i j) := by
  have Zs : zF (soF ρ (fun r => r = 1000000 + (33 * i0 + j0)) 0) κ τ := soF_1 (K _ _ (by omega) hu) Z
  obtain ⟨e1, e2, e3, e4⟩ := so_rw9 W Ta Zs
  intro i j h
  rw [e1, e2, e3, e4]
  show _ ∧ _ ∧ _ ∧ nuN τ (cU9 κ a i j) = if i = i0 ∧ j = j0 then v else M i j
  by_cases z : i = i0 ∧ j = j0
  · rw [if_pos z, z.1, z.2]
    exact ⟨L, h0, hu, hv⟩
  · obtain ⟨q0, q1, q2, q3⟩ := Q i j ((show P i j ∨ (i = i0 ∧ j = j0) from h).elim id (fun y => absurd y z))
    rw [if_neg z]
    have t := cp_t9 W Ta q2
    have ne : cU9 κ a i j ≠ cU9 κ a i0 j0 := ro_n (K _ _ (by omega) q2) (K _ _ (by omega) hu) (by omega)
    exact ⟨q0, q1, q2, by rw [(nuB_z (c := 0) W t.1 Z (fun y => ne y.1) (fun y => ne y.1)).2.2.1]; exact q3⟩
theorem cp_i9 {a m : Nat} {ρ : Nat → Nat} {P : Nat → Nat → Prop} {M : Nat → Nat → Nat} {κ : zS} (K : clK9 ρ κ a) (h0 : 0 < m ∧ m ≤ 32) (Q : clP9 κ a P M) (hP : ∀ i j, i < m → (j < m ∨ j = 32) → P i j) : clI9 ρ κ a m M := by
  refine ⟨(Q 0 32 (hP 0 32 h0.1 (Or.inr rfl))).1, fun i j hi hj => ?_⟩
  obtain ⟨q0, q1, q2, q3⟩ := Q i j (hP i j hi hj)
  exact ⟨q2, K _ _ (by omega) q2, q3⟩
theorem cp_m9 {a : Nat} {P P' : Nat → Nat → Prop} {M M' : Nat → Nat → Nat} {κ : zS} (Q : clP9 κ a P M) (h : ∀ i j, P' i j → P i j ∧ M' i j = M i j) : clP9 κ a P' M' := fun i j z => by
  obtain ⟨h1, h2⟩ := h i j z
  rw [h2]
  exact Q i j h1
/-- a link weighs no more than all nexts of its state -/
theorem ew_9 {κ : zS} {a n t : Nat} {s e : Int32} (X : svX9 κ a n) (G : gdE (lkD κ (zR κ soAtlas a) 1) (zA κ (zR κ atFirsts (zR κ soAtlas a))) n t s e) : (zA κ (zR κ atWeights (zR κ soAtlas a)) e.toNatClampNeg).toInt ≤ (dvA κ (zR κ soAtlas a) s.toNatClampNeg).toInt ∧ (dvA κ (zR κ soAtlas a) s.toNatClampNeg).toInt ≤ 8000000 ∧ 1 ≤ (dvA κ (zR κ soAtlas a) s.toNatClampNeg).toInt := by
  obtain ⟨_, _, A, _⟩ := X
  obtain ⟨⟨g1, g2⟩, ⟨g3, g4⟩, _⟩ := G
  obtain ⟨_, AL, _, _, A5, A6⟩ := A
  have ks := cnk g1
  have E := A6 s.toNatClampNeg (by omega)
  obtain ⟨⟨e1, e2, e3⟩, e4, e5, e6, e7⟩ := E
  have e0 : 0 ≤ e.toInt := by omega
  have ke := cnk e0
  unfold dvA
  by_cases z : zA κ (zR κ atChooses (zR κ soAtlas a)) s.toNatClampNeg = 0
  · rw [if_pos z, ← e6 z]
    refine ⟨?_, e5.2, e5.1⟩
    unfold wSm
    have q := sgI_on9 (f := fun i => (zA κ (zR κ atWeights (zR κ soAtlas a)) ((zA κ (zR κ atFirsts (zR κ soAtlas a)) s.toNatClampNeg).toInt.toNat + i)).toInt) (j := e.toNatClampNeg - (zA κ (zR κ atFirsts (zR κ soAtlas a)) s.toNatClampNeg).toInt.toNat) (n := ((zA κ (zR κ atFirsts (zR κ soAtlas a)) (s.toNatClampNeg + 1)).toInt - (zA κ (zR κ atFirsts (zR κ soAtlas a)) s.toNatClampNeg).toInt).toNat) (by omega) (fun i hi => (e4 _ (by omega) (by omega)).2.2)
    rw [show (zA κ (zR κ atFirsts (zR κ soAtlas a)) s.toNatClampNeg).toInt.toNat + (e.toNatClampNeg - (zA κ (zR κ atFirsts (zR κ soAtlas a)) s.toNatClampNeg).toInt.toNat) = e.toNatClampNeg by omega] at q
    exact q
  · rw [if_neg z, e7 z _ (by omega) (by omega)]
    decide
