set_option maxHeartbeats 1600000
/-! the class: the numbers of Solver and Odds, by roles -/
/-- how many limbs a number of a role may come to have -/
def capR (r : Nat) : Nat := if r < 100 then 6500 else if r < 1000000 then 20 else if r < 2000000 then (if r % 33 = (1000000 + 32) % 33 then 3000 else 40) else 3000
/-- roles of numbers: 1 whole, 4 factor, 5 scaled, 6 term, 7 sum, 8 less, 9 spare, 10 the Calc's own, 15 held; 20 a part (21, 22 its numbers), 30 what is shown; 100 + 8 k visits, 104 + 8 k worths; cells, edges -/
def nmR (r : Nat) : Prop := (1 ≤ r ∧ r < 20) ∨ r = 21 ∨ r = 22 ∨ r = 31 ∨ r = 32 ∨ (100 ≤ r ∧ r < 1000000 ∧ r % 4 ≠ 0) ∨ 1000000 ≤ r
def raR (r : Nat) : Prop := r = 20 ∨ r = 30 ∨ (100 ≤ r ∧ r < 1000000 ∧ r % 4 = 0)
def nmI (ρ : Nat → Nat) (κ : zS) : Prop := (∀ w, nmR (ρ w) → zT κ w = 8 ∧ nuC κ w (capR (ρ w)) ∧ (ρ w ≠ 10 → nuI κ w (capR (ρ w)))) ∧ ∀ v, raR (ρ v) → zT κ v = 11 ∧ ρ (zR κ raTop v) = ρ v + 1 ∧ ρ (zR κ raBottom v) = ρ v + 2
theorem capR_l {r : Nat} : capR r ≤ 30000000 := by
  unfold capR
  split
  · decide
  · split
    · decide
    · split
      · split <;> decide
      · decide
theorem raR_n {r : Nat} (h : raR r) : nmR (r + 1) ∧ nmR (r + 2) := by
  rcases h with h | h | ⟨h1, h2, h3⟩
  · rw [h]; exact ⟨Or.inr (Or.inl rfl), Or.inr (Or.inr (Or.inl rfl))⟩
  · rw [h]; exact ⟨Or.inr (Or.inr (Or.inr (Or.inl rfl))), Or.inr (Or.inr (Or.inr (Or.inr (Or.inl rfl))))⟩
  · exact ⟨Or.inr (Or.inr (Or.inr (Or.inr (Or.inr (Or.inl ⟨by omega, by omega, by omega⟩))))), Or.inr (Or.inr (Or.inr (Or.inr (Or.inr (Or.inl ⟨by omega, by omega, by omega⟩)))))⟩
/-- what calls may touch: numbers and signs of some roles, and a Calc's fields -/
def soF (ρ : Nat → Nat) (R : Nat → Prop) (ca : Nat) : Nat → Nat → Prop := fun f b => (R (ρ b) ∧ (f = nuLimbs ∨ f = nuLength ∨ f = raSign)) ∨ (b = ca ∧ (f = caRest ∨ f = caX ∨ f = caY ∨ f = caFactors))
theorem soF_m {ρ : Nat → Nat} {R R' : Nat → Prop} {ca : Nat} {κ τ : zS} (h : ∀ r, R r → R' r) (Z : zF (soF ρ R ca) κ τ) : zF (soF ρ R' ca) κ τ := Z.mono (fun f b z => by
  rcases z with z | z
  · exact Or.inl ⟨h _ z.1, z.2⟩
  · exact Or.inr z)
theorem soF_1 {ρ : Nat → Nat} {R : Nat → Prop} {ca x : Nat} {κ τ : zS} (h : R (ρ x)) (Z : zF (nuF x) κ τ) : zF (soF ρ R ca) κ τ := Z.mono (fun f b z => Or.inl ⟨z.1 ▸ h, z.2.elim Or.inl (fun y => Or.inr (Or.inl y))⟩)
theorem soF_p {ρ : Nat → Nat} {R P : Nat → Prop} {ca : Nat} {κ τ : zS} (h : ∀ b, P b → R (ρ b)) (Z : zF (nuFp P) κ τ) : zF (soF ρ R ca) κ τ := Z.mono (fun f b z => Or.inl ⟨h b z.1, z.2.elim Or.inl (fun y => Or.inr (Or.inl y))⟩)
theorem soF_c {ρ : Nat → Nat} {R P : Nat → Prop} {ca : Nat} {κ τ : zS} (h : ∀ b, P b → R (ρ b)) (Z : zF (caF P ca) κ τ) : zF (soF ρ R ca) κ τ := Z.mono (fun f b z => by
  rcases z with z | z
  · exact Or.inl ⟨h _ z.1, z.2.elim Or.inl (fun y => Or.inr (Or.inl y))⟩
  · exact Or.inr z)
theorem soF_s {ρ : Nat → Nat} {R : Nat → Prop} {ca a : Nat} {κ τ : zS} {v : Int32} (h : R (ρ a)) (e : τ = ui κ raSign a v) : zF (soF ρ R ca) κ τ := by
  rw [e]
  exact zF_ui (Or.inl ⟨h, Or.inr (Or.inr rfl)⟩)
/-- a Solver's own numbers -/
def soI (ρ : Nat → Nat) (κ : zS) (a : Nat) : Prop := (ρ (zR κ soWhole a) = 1 ∧ ρ (zR κ soFactor a) = 4 ∧ ρ (zR κ soScaled a) = 5 ∧ ρ (zR κ soTerm a) = 6 ∧ ρ (zR κ soSum a) = 7 ∧ ρ (zR κ soLess a) = 8 ∧ ρ (zR κ soPart a) = 20) ∧ (caN κ (zR κ soCalc a) ∧ (zN κ (zR κ caFactors (zR κ soCalc a))) = 4) ∧ (∀ b, caS κ (zR κ soCalc a) b → ρ b = 10) ∧ ρ (zR κ caSpare (zR κ soCalc a)) = 9
theorem ro_n {ρ : Nat → Nat} {a b r s : Nat} (h1 : ρ a = r) (h2 : ρ b = s) (h : r ≠ s) : a ≠ b := fun e => h (by rw [← h1, ← h2, e])
/-- a Calc in order, by roles -/
theorem so_ca {ρ : Nat → Nat} {κ : zS} {a : Nat} (N : nmI ρ κ) (I : soI ρ κ a) : caI κ (zR κ soCalc a) 6500 := by
  obtain ⟨_, ⟨n, f⟩, s, _⟩ := I
  have c : ∀ b, caS κ (zR κ soCalc a) b → nuC κ b 6500 := fun b z => by
    have r := s b z
    have q := (N.1 b (by rw [r]; exact Or.inl ⟨by decide, by decide⟩)).2.1
    rw [r] at q
    exact q
  exact ⟨n, ⟨⟨c _ (Or.inl rfl), c _ (Or.inr (Or.inl rfl)), c _ (Or.inr (Or.inr (Or.inl rfl))), c _ (Or.inr (Or.inr (Or.inr (Or.inl rfl)))), c _ (Or.inr (Or.inr (Or.inr (Or.inr rfl))))⟩, f⟩⟩
theorem so_o {ρ : Nat → Nat} {κ : zS} {a w r : Nat} (I : soI ρ κ a) (h : ρ w = r) (hr : r ≠ 10) : ¬ caS κ (zR κ soCalc a) w := fun z => hr (h.symm.trans (I.2.2.1 w z))
/-- numbers stay in order when only one was written -/
theorem nm_1 {C : zC} {n0 x : Nat} {ρ : Nat → Nat} {κ τ : zS} (W : zW C n0 κ) (N : nmI ρ κ) (Z : zF (nuF x) κ τ) (I : nuI τ x (capR (ρ x))) : nmI ρ τ := by
  refine ⟨fun w h => ?_, fun v h => ?_⟩
  · obtain ⟨t, c, i⟩ := N.1 w h
    refine ⟨Z.t t (by decide), ?_, fun y => ?_⟩
    · by_cases e : w = x
      · rw [e]; exact I.1.2.1
      · have u := nu_z W t Z (fun z => e z.1) (fun z => e z.1)
        unfold nuC
        rw [u.2.1, u.2.2.2]
        exact c
    · by_cases e : w = x
      · rw [e]; exact I
      · exact (nuB_z (c := capR (ρ w)) W t Z (fun z => e z.1) (fun z => e z.1)).2.1 (i y)
  · obtain ⟨t, p, q⟩ := N.2 v h
    exact ⟨Z.t t (by decide), by rw [nuF_r Z (by decide) (by decide)]; exact p, by rw [nuF_r Z (by decide) (by decide)]; exact q⟩
theorem so_k {ρ : Nat → Nat} {κ τ : zS} {a : Nat} (I : soI ρ κ a) (hr : ∀ f b, f ≠ nuLimbs → f ≠ nuLength → zR τ f b = zR κ f b) (hn : zN τ (zR κ caFactors (zR κ soCalc a)) = zN κ (zR κ caFactors (zR κ soCalc a))) : soI ρ τ a := by
  unfold soI caN caS
  rw [hr soWhole a (by decide) (by decide), hr soFactor a (by decide) (by decide), hr soScaled a (by decide) (by decide), hr soTerm a (by decide) (by decide), hr soSum a (by decide) (by decide), hr soLess a (by decide) (by decide), hr soPart a (by decide) (by decide), hr soCalc a (by decide) (by decide), hr caQuotient _ (by decide) (by decide), hr caRest _ (by decide) (by decide), hr caDivisor _ (by decide) (by decide), hr caX _ (by decide) (by decide), hr caY _ (by decide) (by decide), hr caFactors _ (by decide) (by decide), hr caSpare _ (by decide) (by decide), hn]
  exact I
theorem so_1 {C : zC} {n0 a x : Nat} {ρ : Nat → Nat} {κ τ : zS} (W : zW C n0 κ) (Ta : zT κ a = 12) (I : soI ρ κ a) (Z : zF (nuF x) κ τ) : soI ρ τ a := so_k I (fun f b h1 h2 => nuF_r Z h1 h2) (Z.l (ty_caFactors W (ty_soCalc W Ta)))
/-- a division by the Solver's Calc -/
theorem nm_d {C : zC} {n0 a A B : Nat} {ρ : Nat → Nat} {κ τ : zS} (W : zW C n0 κ) (Ta : zT κ a = 12) (N : nmI ρ κ) (I : soI ρ κ a) (D : dvO κ τ (zR κ caQuotient (zR κ soCalc a)) (zR κ caRest (zR κ soCalc a)) (zR κ caDivisor (zR κ soCalc a)) A B 6500) : nmI ρ τ ∧ soI ρ τ a := by
  have s := I.2.2.1
  have rq := s _ (Or.inl rfl)
  have rr := s _ (Or.inr (Or.inl rfl))
  have rd := s _ (Or.inr (Or.inr (Or.inl rfl)))
  obtain ⟨Z, ⟨IQ, _⟩, ⟨IR, _⟩, CD⟩ := D
  have no : ∀ w, ρ w ≠ 10 → ¬ oo3 (zR κ caQuotient (zR κ soCalc a)) (zR κ caRest (zR κ soCalc a)) (zR κ caDivisor (zR κ soCalc a)) w := fun w h => oo3_n (fun e => h (by rw [e]; exact rq)) (fun e => h (by rw [e]; exact rr)) (fun e => h (by rw [e]; exact rd))
  refine ⟨⟨fun w h => ?_, fun v h => ?_⟩, so_k I (fun f b h1 h2 => nuFp_r Z h1 h2) (Z.l (ty_caFactors W (ty_soCalc W Ta)))⟩
  · obtain ⟨t, c, i⟩ := N.1 w h
    refine ⟨Z.t t (by decide), ?_, fun y => (nuFp_B (c := capR (ρ w)) W t Z (no w y)).2.1 (i y)⟩
    by_cases e1 : w = zR κ caQuotient (zR κ soCalc a)
    · rw [e1, rq]; exact IQ.1.2.1
    · by_cases e2 : w = zR κ caRest (zR κ soCalc a)
      · rw [e2, rr]; exact IR.1.2.1
      · by_cases e3 : w = zR κ caDivisor (zR κ soCalc a)
        · rw [e3, rd]; exact CD
        · exact nuFp_C W t Z (oo3_n e1 e2 e3) c
  · obtain ⟨t, p, q⟩ := N.2 v h
    exact ⟨Z.t t (by decide), by rw [nuFp_r Z (by decide) (by decide)]; exact p, by rw [nuFp_r Z (by decide) (by decide)]; exact q⟩
/-- a number of a role -/
theorem nm_g {ρ : Nat → Nat} {κ : zS} {w r : Nat} (N : nmI ρ κ) (h : ρ w = r) (hr : nmR r) (h10 : r ≠ 10) : nuI κ w (capR r) ∧ nuI κ w 30000000 ∧ nuC κ w (capR r) := by
  have q := N.1 w (by rw [h]; exact hr)
  rw [h] at q
  exact ⟨q.2.2 h10, nuI_mono capR_l (q.2.2 h10), q.2.1⟩
