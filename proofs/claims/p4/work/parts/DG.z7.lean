set_option maxHeartbeats 1600000
/-! the class: Solver's makePlan -/
/-- what makePlan may touch -/
def mpF9 (ρ : Nat → Nat) (κ : zS) (a : Nat) : Nat → Nat → Prop := fun f b => soF ρ (fun _ => True) (zR κ soCalc a) f b ∨ b = zR κ soWeb a ∨ (b = a ∧ (f = soSolved ∨ f = soPlanned ∨ f = soTaken ∨ f = soWorths)) ∨ (b = zR κ soAtlas a ∧ f = atPlan) ∨ f = 0 ∨ b = 0 ∨ zn κ ≤ b
/-- on the way through the states -/
def mpJ9 (ρ : Nat → Nat) (κ τ : zS) (a n : Nat) (ρ' : Nat → Nat) : Prop := ((∀ b, b < zn κ → ρ' b = ρ b) ∧ zF (mpF9 ρ κ a) κ τ) ∧ soR9 ρ' τ a ∧ (weG τ (zR κ soWeb a) (zR κ soAtlas a) 0 n ∧ weKn τ (zR κ soWeb a) n ∧ atW τ (zR κ soAtlas a) n) ∧ (n ≤ (zN τ (zR τ soTaken a)) ∧ ((zN τ (zR τ soTaken a)) = 0 ∨ (zN τ (zR τ soTaken a)) = 1000)) ∧ (∀ i P, i ≤ 1000 → vsI9 ρ κ a i P → vsI9 ρ' τ a i P) ∧ (n ≤ (zN τ (zR τ soWorths a)) ∧ ∀ k, k < n → ∃ u, zQ τ (zR τ soWorths a) k = some u) ∧ (zI τ soSolved a = zI κ soSolved a ∧ zI τ soPlanned a = zI κ soPlanned a) ∧ (zR τ soAtlas a = zR κ soAtlas a ∧ zR τ soWeb a = zR κ soWeb a ∧ zR τ soCalc a = zR κ soCalc a) ∧ zK9 κ τ a
theorem zK_pw9 {C : zC} {n0 a ca : Nat} {ρ : Nat → Nat} {R : Nat → Prop} {κ τ : zS} (W : zW C n0 κ) (Ta : zT κ a = 12) (Z : zF (pwF9 ρ R ca a) κ τ) : zK9 κ τ a := by
  have n : ∀ f b, f = 0 ∨ f = soCells ∨ f = soVisits ∨ f = soWorths → ¬ pwF9 ρ R ca a f b := fun f b hf z => by
    rcases z with z | z
    · rcases hf with q | q | q | q <;> (rw [q] at z; exact absurd z (soF_no9 (by decide)))
    · rcases hf with q | q | q | q <;> (rw [q] at z; exact absurd z.1 (by decide))
  exact zK_z9 W Ta Z (fun b _ => n 0 b (Or.inl rfl)) (n _ _ (Or.inr (Or.inl rfl))) (n _ _ (Or.inr (Or.inr (Or.inl rfl)))) (n _ _ (Or.inr (Or.inr (Or.inr rfl))))
theorem mp_s9 {C : zC} {n0 a n : Nat} {ρ ρ' : Nat → Nat} {R : Nat → Prop} {κ τ τ' : zS} (Wt : zW C n0 τ) (Tt : zT τ a = 12) (J : mpJ9 ρ κ τ a n ρ') (Z : zF (pwF9 ρ' R (zR τ soCalc a) a) τ τ') (hR : ∀ r, R r → r < 100 ∨ 4 ≤ (r - 100) % 8) (N : nmI ρ' τ' ∧ soI ρ' τ' a) (hl : nuN τ' (zR τ soLess a) < pB9 4000) (ht : zR τ' soTaken a = zR τ soTaken a) : mpJ9 ρ κ τ' a n ρ' := by
  obtain ⟨⟨j1, j2⟩, j3, ⟨g1, g2, g3⟩, j5, j6, j7, ⟨j8, j9⟩, ⟨ea, ew, ec⟩, kz⟩ := J
  obtain ⟨r1, r2, r3, r4, r5⟩ := pw_r9 Wt Tt j3 Z hR N hl
  have tw : zT τ (zR κ soWeb a) = 14 := by rw [← ew]; exact ty_soWeb Wt Tt
  have tb : zT τ (zR κ soAtlas a) = 3 := by rw [← ea]; exact ty_soAtlas Wt Tt
  have nt : zN τ' (zR τ' soTaken a) = zN τ (zR τ soTaken a) := by rw [ht]; exact Z.l (ty_soTaken Wt Tt)
  have mn := j2.2.2.2.2.2.2
  refine ⟨⟨j1, j2.tr (Z.mono (fun f b z => ?_))⟩, r1, ⟨weG_v9 Wt pwF9_v Z tw tb g1, weKn_v9 Wt pwF9_v Z tw g2, atW_v9 Wt pwF9_v Z tb g3⟩, by rw [nt]; exact j5, fun i P hi V => r3 i P hi (j6 i P hi V), by rw [r4, r5]; exact j7, ⟨(r2 soSolved (by decide) (by decide)).2.trans j8, (r2 soPlanned (by decide) (by decide)).2.trans j9⟩, ⟨(r2 soAtlas (by decide) (by decide)).1.trans ea, (r2 soWeb (by decide) (by decide)).1.trans ew, (r2 soCalc (by decide) (by decide)).1.trans ec⟩, kz.tr (zK_pw9 Wt Tt Z)⟩
  rcases z with z | z
  · rcases z with z | z
    · exact Or.inl (Or.inl ⟨trivial, z.2⟩)
    · rw [ec] at z
      exact Or.inl (Or.inr z)
  · exact Or.inr (Or.inr (Or.inl ⟨z.2, Or.inr (Or.inr (Or.inl z.1))⟩))
/-- what makePlan leaves -/
def mpP9 (ρ : Nat → Nat) (κ κ' : zS) (a n : Nat) (v : Int32) : Prop := ∃ ρ' : Nat → Nat, ((∀ b, b < zn κ → ρ' b = ρ b) ∧ zF (mpF9 ρ κ a) κ κ') ∧ soR9 ρ' κ' a ∧ (((weU κ' (zR κ soWeb a) ∨ weM κ' (zR κ soWeb a)) ∧ weL κ' (zR κ soWeb a)) ∧ atW κ' (zR κ soAtlas a) n) ∧ ((zN κ' (zR κ' soTaken a)) = 0 ∨ (zN κ' (zR κ' soTaken a)) = 1000) ∧ ((∀ i P, i ≤ 1000 → vsI9 ρ κ a i P → vsI9 ρ' κ' a i P) ∨ zI κ' soSolved a = 0) ∧ ((n ≤ (zN κ' (zR κ' soWorths a)) ∧ ∀ k, k < n → ∃ u, zQ κ' (zR κ' soWorths a) k = some u) ∨ κ' = κ) ∧ ((zI κ' soSolved a = zI κ soSolved a ∧ zI κ' soPlanned a = zI κ soPlanned a) ∨ zI κ' soSolved a = 0) ∧ (zR κ' soAtlas a = zR κ soAtlas a ∧ zR κ' soWeb a = zR κ soWeb a ∧ zR κ' soCalc a = zR κ soCalc a) ∧ zK9 κ κ' a
theorem mp_p9 {ρ ρ' : Nat → Nat} {κ τ : zS} {a n : Nat} {v : Int32} (J : mpJ9 ρ κ τ a n ρ') : mpP9 ρ κ τ a n v := by
  obtain ⟨j1, j3, ⟨g1, g2, g3⟩, j5, j6, j7, j8, j9⟩ := J
  exact ⟨ρ', j1, j3, ⟨⟨Or.inr g1.1.1, g1.1.2⟩, g3⟩, j5.2, Or.inl j6, Or.inl j7, Or.inl j8, j9⟩
/-- nothing is taken yet at a state -/
theorem mp_u9 {C : zC} {n0 a n P k : Nat} {ρ ρ' : Nat → Nat} {κ τ τ' : zS} (Wt : zW C n0 τ) (Tt : zT τ a = 12) (J : mpJ9 ρ κ τ a n ρ') (V : wsI9 ρ' τ a n P) (hk : k < n) (e : τ' = ua τ (zR τ soTaken a) k 0) : pwI9 ρ' τ' τ' a n P ∧ mpJ9 ρ κ τ' a n ρ' ∧ tkI9 τ' τ' a k ∧ nuN τ' (zR τ' soLess a) < pB9 4000 ∧ zR τ' = zR τ := by
  have j3 := J.2.1
  have g3 := J.2.2.1.2.2
  have ea := J.2.2.2.2.2.2.2.1.1
  have J0 : pwI9 ρ' τ τ a n P := ⟨j3.1, ⟨by rw [ea]; exact g3, rfl, rfl, rfl⟩, V, fun _ => rfl, ⟨rfl, rfl⟩, rfl, rfl, rfl⟩
  obtain ⟨K, Z, u⟩ := pw_u9 Wt Tt J0 e
  have er : zR τ' = zR τ := by rw [e]; rfl
  have K1 : pwI9 ρ' τ' τ' a n P := ⟨K.1, ⟨by rw [er]; exact K.2.1.1, rfl, rfl, rfl⟩, K.2.2.1, fun _ => rfl, ⟨rfl, rfl⟩, rfl, rfl, rfl⟩
  have ls := (nuB_z (c := 0) Wt (ty_soLess Wt Tt) Z (fun z => absurd z.1 (by decide)) (fun z => absurd z.1 (by decide))).2.2.1
  have l0 : nuN τ' (zR τ soLess a) < pB9 4000 := by
    rw [ls]
    exact j3.2.2.2.2.2.2
  have Z2 : zF (pwF9 ρ' (fun _ => False) (zR τ soCalc a) a) τ τ' := Z.mono (fun f b z => Or.inr z)
  have wy := wy_9 K1.2.1.1 hk
  have x0 : zA τ' (zR τ' soTaken a) k = 0 := by
    rw [er, u]
    exact if_pos rfl
  refine ⟨K1, mp_s9 Wt Tt J Z2 (fun r h => h.elim) K.1 l0 (by rw [er]), ⟨rfl, ⟨by rw [x0]; decide, ?_⟩, fun _ _ => rfl⟩, by rw [er]; exact l0, er⟩
  rw [x0]
  show (0 : Int) < _
  omega
