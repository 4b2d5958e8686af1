set_option maxHeartbeats 1600000
/-! the class: what a step of makePlan keeps -/
theorem pwF9_v {ρ : Nat → Nat} {R : Nat → Prop} {ca a m : Nat} : frV9 m (pwF9 ρ R ca a) := fun f b z => by
  rcases z with z | z
  · rcases z with ⟨_, z | z | z⟩ | ⟨_, z | z | z | z⟩
    · rw [z]; exact Or.inr (Or.inl (by decide))
    · rw [z]; exact Or.inr (Or.inl (by decide))
    · rw [z]; exact Or.inr (Or.inr (Or.inl (by decide)))
    · rw [z]; exact Or.inr (Or.inr (Or.inr (Or.inl (by decide))))
    · rw [z]; exact Or.inr (Or.inr (Or.inr (Or.inl (by decide))))
    · rw [z]; exact Or.inr (Or.inr (Or.inr (Or.inl (by decide))))
    · rw [z]; exact Or.inr (Or.inr (Or.inr (Or.inl (by decide))))
  · rw [z.1]; exact Or.inr (Or.inr (Or.inr (Or.inr (Or.inl (by decide)))))
theorem pw_r9 {C : zC} {n0 a ca : Nat} {ρ : Nat → Nat} {R : Nat → Prop} {κ τ : zS} (W : zW C n0 κ) (Ta : zT κ a = 12) (S : soR9 ρ κ a) (Z : zF (pwF9 ρ R ca a) κ τ) (hR : ∀ r, R r → r < 100 ∨ 4 ≤ (r - 100) % 8) (N : nmI ρ τ ∧ soI ρ τ a) (hl : nuN τ (zR κ soLess a) < pB9 4000) : soR9 ρ τ a ∧ (∀ f, 1200 ≤ f → f ≠ soTaken → zR τ f a = zR κ f a ∧ zI τ f a = zI κ f a) ∧ (∀ i P, i ≤ 1000 → vsI9 ρ κ a i P → vsI9 ρ τ a i P) ∧ zQ τ (zR τ soWorths a) = zQ κ (zR κ soWorths a) ∧ zN τ (zR τ soWorths a) = zN κ (zR κ soWorths a) := by
  have N0 := S.1.1
  obtain ⟨_, K, L, ⟨v1, v2⟩, ⟨w1, w2⟩, r0, l0⟩ := S
  have nf : ∀ f, 1200 ≤ f → f ≠ soTaken → ¬ pwF9 ρ R ca a f a := fun f h1 h2 z => by
    rcases z with z | z
    · rcases z with ⟨_, z | z | z⟩ | ⟨_, z | z | z | z⟩ <;> (rw [z] at h1; exact absurd h1 (by decide))
    · exact h2 z.1
  have row : ∀ f t, zr f = some t → 20 ≤ t → f / 100 = 12 → f ≠ soTaken → zQ τ (zR τ f a) = zQ κ (zR κ f a) ∧ zN τ (zR τ f a) = zN κ (zR κ f a) := fun f t h1 h2 h3 h4 => by
    have T9 : zT κ a = f / 100 := by rw [h3]; exact Ta
    refine ⟨(Z.row W h1 h2 T9 (nf f (by omega) h4)).2.2, ?_⟩
    have q := W.r h1 T9
    obtain ⟨c, hc⟩ : ∃ c, t = c + 1 := ⟨t - 1, by omega⟩
    rw [Z.r (nf f (by omega) h4)]
    exact Z.l (c := c) (q.trans hc)
  have rv := row soVisits 25 (by decide +kernel) (by decide) (by decide) (by decide)
  have rw9 := row soWorths 25 (by decide +kernel) (by decide) (by decide) (by decide)
  have rc := row soCells 24 (by decide +kernel) (by decide) (by decide) (by decide)
  have rr := row soRows 20 (by decide +kernel) (by decide) (by decide) (by decide)
  have ea : zR τ soAtlas a = zR κ soAtlas a := Z.r (nf soAtlas (by decide) (by decide))
  have nv : ∀ f w, 100 ≤ ρ w → (ρ w - 100) % 8 < 4 → f / 100 = 8 ∨ f / 100 = 11 → ¬ pwF9 ρ R ca a f w := fun f w hr1 hr2 hf z => by
    rcases z with z | z
    · rcases z with ⟨z, _⟩ | ⟨_, z | z | z | z⟩
      · have y := hR _ z
        omega
      · rw [z] at hf; exact absurd hf (by decide)
      · rw [z] at hf; exact absurd hf (by decide)
      · rw [z] at hf; exact absurd hf (by decide)
      · rw [z] at hf; exact absurd hf (by decide)
    · rw [z.1] at hf; exact absurd hf (by decide)
  refine ⟨⟨N, ?_, by rw [rc.2]; exact L, ⟨by rw [rv.1]; exact v1, by rw [rv.2]; exact v2⟩, ⟨by rw [rw9.1]; exact w1, by rw [rw9.2]; exact w2⟩, by rw [rr.2]; exact r0, ?_⟩, fun f h1 h2 => ⟨Z.r (nf f h1 h2), Z.i (nf f h1 h2)⟩, fun i P hi V k hk => ?_, rw9⟩
  · unfold clK9
    rw [rc.1]
    exact K
  · rw [Z.r (nf soLess (by decide) (by decide))]
    exact hl
  · obtain ⟨q1, q2, q3⟩ := V k hk
    have vu : vU9 τ a k = vU9 κ a k := by
      unfold vU9
      rw [rv.1]
    have tu := W.2.2.2.2.1 _ _ _ (ty_soVisits W Ta) q1
    have P9 := N0.2 (vU9 κ a k) (by rw [q2]; exact vs_r9 (by omega))
    have tt := ty_raTop W tu
    have tb := ty_raBottom W tu
    have nu := fun f hf => nv f (vU9 κ a k) (by rw [q2]; omega) (by rw [q2]; omega) hf
    have nt := fun f hf => nv f (zR κ raTop (vU9 κ a k)) (by rw [P9.2.1, q2]; omega) (by rw [P9.2.1, q2]; omega) hf
    have nb9 := fun f hf => nv f (zR κ raBottom (vU9 κ a k)) (by rw [P9.2.2, q2]; omega) (by rw [P9.2.2, q2]; omega) hf
    have tA := ty_soAtlas W Ta
    have dN : dvN9 τ (zR κ soAtlas a) k = dvN9 κ (zR κ soAtlas a) k := by
      unfold dvN9 dvA
      rw [(at_v9 W pwF9_v Z tA (f := atChooses) (by decide)).2.1, (at_v9 W pwF9_v Z tA (f := atTotals) (by decide)).2.1]
    rw [rv.1, vu, ea, dN]
    refine ⟨q1, q2, ?_⟩
    unfold vsK9
    rw [Z.i (nu raSign (by decide)), Z.r (nu raTop (by decide)), Z.r (nu raBottom (by decide)), (nuB_z (c := 0) W tt Z (nt _ (by decide)) (nt _ (by decide))).2.2.1, (nuB_z (c := 0) W tb Z (nb9 _ (by decide)) (nb9 _ (by decide))).2.2.1]
    exact q3
/-- the roles that a step of makePlan writes are not those of visits -/
theorem fwR9_v {k r : Nat} (h : fwR9 (104 + 8 * k) r) : r < 100 ∨ 4 ≤ (r - 100) % 8 := by
  unfold fwR9 at h
  omega
theorem voR9_v {k r : Nat} (h : voR9 (104 + 8 * k) r) : r < 100 ∨ 4 ≤ (r - 100) % 8 := by
  unfold voR9 at h
  omega
