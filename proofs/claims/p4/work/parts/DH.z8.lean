set_option maxHeartbeats 1600000
/-! the class: makePlan's last step -/
theorem mp_e9 {C : zC} {n0 a n m : Nat} {ρ ρ' : Nat → Nat} {κ τ τ1 τ2 τ4 : zS} (Wt : zW C n0 τ) (Tt : zT τ a = 12) (J : mpJ9 ρ κ τ a n ρ') (e1 : τ1 = uc τ (zR τ soTaken a) (zR τ atPlan (zR τ soAtlas a)) 0 0 m) (e2 : τ2 = ui τ1 soPlanned a 1) (e4 : τ4 = ui τ2 soSolved a 0) : mpP9 ρ κ τ4 a n 0 := by
  have tb := ty_soAtlas Wt Tt
  have o := Wt.o (show zr atPlan = some 20 by decide +kernel) (by decide) tb
  have Z : zF (fun f b => (f = atPlan ∧ b = zR τ soAtlas a) ∨ (b = a ∧ (f = soPlanned ∨ f = soSolved))) τ τ4 := by
    have z1 : zF (fun f b => (f = atPlan ∧ b = zR τ soAtlas a) ∨ (b = a ∧ (f = soPlanned ∨ f = soSolved))) τ τ1 := by
      rw [e1]
      exact zF_uc (by rw [o]; exact Or.inl ⟨rfl, rfl⟩)
    have z2 : zF (fun f b => (f = atPlan ∧ b = zR τ soAtlas a) ∨ (b = a ∧ (f = soPlanned ∨ f = soSolved))) τ1 τ2 := by
      rw [e2]
      exact zF_ui (Or.inr ⟨rfl, Or.inl rfl⟩)
    have z4 : zF (fun f b => (f = atPlan ∧ b = zR τ soAtlas a) ∨ (b = a ∧ (f = soPlanned ∨ f = soSolved))) τ2 τ4 := by
      rw [e4]
      exact zF_ui (Or.inr ⟨rfl, Or.inr rfl⟩)
    exact (z1.tr z2).tr z4
  have nt : ∀ (t f w : Nat), zT τ w = t → t ≠ 12 → t ≠ 3 → ¬ ((f = atPlan ∧ w = zR τ soAtlas a) ∨ (w = a ∧ (f = soPlanned ∨ f = soSolved))) := fun t f w ht h12 h3 z => by
    rcases z with z | z
    · rw [z.2, tb] at ht
      exact h3 ht.symm
    · rw [z.1, Tt] at ht
      exact h12 ht.symm
  have na9 : ∀ f, f ≠ soSolved → f ≠ soPlanned → ¬ ((f = atPlan ∧ a = zR τ soAtlas a) ∨ (a = a ∧ (f = soPlanned ∨ f = soSolved))) := fun f h1 h2 z => by
    rcases z with z | z
    · rw [← z.2, Tt] at tb
      exact absurd tb (by decide)
    · rcases z.2 with y | y
      · exact h2 y
      · exact h1 y
  have er : zR τ4 = zR τ := by rw [e4, e2, e1]; rfl
  have eN : zN τ4 = zN τ := by rw [e4, e2, e1]; rfl
  have eQ : zQ τ4 = zQ τ := by rw [e4, e2, e1]; rfl
  obtain ⟨⟨j1, j2⟩, j3, ⟨g1, g2, g3⟩, j5, j6, j7, j8, ⟨ea, ew, ec⟩, kz⟩ := J
  have R4 := rs_h9 Wt Tt j3 Z (fun f w h => nt 8 f w h (by decide) (by decide)) (fun f w h => nt 11 f w h (by decide) (by decide)) (fun f w h => nt 4 f w h (by decide) (by decide)) na9
  have nb9 : ∀ f, f ≠ atPlan → f ≠ soPlanned → f ≠ soSolved → ∀ w, ¬ ((f = atPlan ∧ w = zR τ soAtlas a) ∨ (w = a ∧ (f = soPlanned ∨ f = soSolved))) := fun f h1 h2 h3 w z => by
    rcases z with z | z
    · exact h1 z.1
    · rcases z.2 with y | y
      · exact h2 y
      · exact h3 y
  have g : ∀ f t, zr f = some t → 20 ≤ t → f / 100 = 3 → f ≠ atPlan → zA τ4 (zR τ f (zR κ soAtlas a)) = zA τ (zR τ f (zR κ soAtlas a)) := fun f t h1 h2 h3 h4 => by
    have T9 : zT τ (zR κ soAtlas a) = f / 100 := by rw [h3, ← ea]; exact tb
    have q := (Z.row Wt h1 h2 T9 (nb9 f h4 (fun y => by rw [y] at h3; exact absurd h3 (by decide)) (fun y => by rw [y] at h3; exact absurd h3 (by decide)) _)).1
    rw [er] at q
    exact q
  have i1 : ∀ x, zI τ4 hoTotal x = zI τ hoTotal x := fun x => Z.i (nb9 hoTotal (by decide) (by decide) (by decide) x)
  have i2 : zI τ4 atNexts (zR κ soAtlas a) = zI τ atNexts (zR κ soAtlas a) := Z.i (nb9 atNexts (by decide) (by decide) (by decide) _)
  have A4 : atW τ4 (zR κ soAtlas a) n := by
    obtain ⟨A1, A2, A3, A4, A5, A6⟩ := g3
    refine ⟨?_, ?_, A3, ?_, ?_, fun k hk => ?_⟩
    · unfold atM
      rw [er, eN]
      exact A1
    · unfold atL
      rw [er, eN]
      exact A2
    · rw [er, i1]
      exact A4
    · rw [er, eN, i2]
      exact A5
    · have q := A6 k hk
      unfold exK at q ⊢
      rw [er, i1, i1, i2, g atFirsts 20 (by decide +kernel) (by decide) (by decide) (by decide), g atTotals 20 (by decide +kernel) (by decide) (by decide) (by decide), g atChooses 23 (by decide +kernel) (by decide) (by decide) (by decide), g atSorts 20 (by decide +kernel) (by decide) (by decide) (by decide), g atNumbers 20 (by decide +kernel) (by decide) (by decide) (by decide), g atWeights 20 (by decide +kernel) (by decide) (by decide) (by decide)]
      exact q
  refine ⟨ρ', ⟨j1, j2.tr (Z.mono (fun f b z => ?_))⟩, R4.1, ⟨⟨Or.inr ?_, ?_⟩, A4⟩, by rw [er, eN]; exact j5.2, Or.inr ?_, Or.inl (by rw [er, eN, eQ]; exact j7), Or.inr (by rw [e4]; exact if_pos ⟨rfl, rfl⟩), ⟨by rw [er]; exact ea, by rw [er]; exact ew, by rw [er]; exact ec⟩, kz.tr (zK_z9 Wt Tt Z (fun b _ => nb9 0 (by decide) (by decide) (by decide) b) (nb9 soCells (by decide) (by decide) (by decide) a) (nb9 soVisits (by decide) (by decide) (by decide) a) (nb9 soWorths (by decide) (by decide) (by decide) a))⟩
  · rcases z with z | z
    · exact Or.inr (Or.inr (Or.inr (Or.inl ⟨z.2.trans ea, z.1⟩)))
    · exact Or.inr (Or.inr (Or.inl ⟨z.1, z.2.elim (fun y => Or.inr (Or.inl y)) Or.inl⟩))
  · have q := g1.1.1
    unfold weM at q ⊢
    rw [er, eN]
    exact q
  · have q := g1.1.2
    unfold weL at q ⊢
    rw [er, eN]
    exact q
  · rw [e4]
    exact if_pos ⟨rfl, rfl⟩
