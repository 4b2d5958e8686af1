set_option maxHeartbeats 1600000
/-! the class: visits kept over a step elsewhere -/
theorem vs_h9 {C : zC} {n0 a i P : Nat} {ρ : Nat → Nat} {F : Nat → Nat → Prop} {κ τ : zS} (W : zW C n0 κ) (Ta : zT κ a = 12) (Z : zF F κ τ) (h8 : ∀ f w, zT κ w = 8 → ¬ F f w) (h11 : ∀ f w, zT κ w = 11 → ¬ F f w) (h3 : ∀ f w, zT κ w = 3 → ¬ F f w) (ha : ∀ f, ¬ F f a) (V : vsI9 ρ κ a i P) : vsI9 ρ τ a i P := fun k hk => by
  obtain ⟨q1, q2, q3⟩ := V k hk
  have rv := (Z.row W (f := soVisits) (t := 25) (by decide +kernel) (by decide) Ta (ha _)).2.2
  have vu : vU9 τ a k = vU9 κ a k := by
    unfold vU9
    rw [rv]
  have tu := W.2.2.2.2.1 _ _ _ (ty_soVisits W Ta) q1
  have tt := ty_raTop W tu
  have tb := ty_raBottom W tu
  have tA := ty_soAtlas W Ta
  have ea : zR τ soAtlas a = zR κ soAtlas a := Z.r (ha _)
  have dN : dvN9 τ (zR κ soAtlas a) k = dvN9 κ (zR κ soAtlas a) k := by
    unfold dvN9 dvA
    rw [(Z.row W (f := atChooses) (t := 23) (by decide +kernel) (by decide) tA (h3 _ _ tA)).1, (Z.row W (f := atTotals) (t := 20) (by decide +kernel) (by decide) tA (h3 _ _ tA)).1]
  rw [rv, vu, ea, dN]
  refine ⟨q1, q2, ?_⟩
  unfold vsK9
  rw [Z.i (h11 _ _ tu), Z.r (h11 _ _ tu), Z.r (h11 _ _ tu), (nuB_z (c := 0) W tt Z (h8 _ _ tt) (h8 _ _ tt)).2.2.1, (nuB_z (c := 0) W tb Z (h8 _ _ tb) (h8 _ _ tb)).2.2.1]
  exact q3
