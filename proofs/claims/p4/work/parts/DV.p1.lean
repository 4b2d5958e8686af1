set_option maxHeartbeats 1600000
/-! the class: Odds' edges -/
theorem vsI9_g {C : zC} {n0 a n P ca : Nat} {ρ : Nat → Nat} {R : Nat → Prop} {κ τ : zS} (W : zW C n0 κ) (Ta : zT κ a = 12) (N : nmI ρ κ) (Z : zF (soF ρ R ca) κ τ) (hn : n ≤ 1000) (hR : ∀ r, 100 ≤ r → r < 1000000 → ¬ R r) (V : vsI9 ρ κ a n P) : vsI9 ρ τ a n P := fun k hk => by
  obtain ⟨h1, h2, h3⟩ := V k hk
  have e2 : zR τ soAtlas a = zR κ soAtlas a := Z.r (frS9_n W soF_fr Ta (by decide))
  obtain ⟨e3, e4⟩ := vU9_f W Ta Z
  have d := dvA_f9 W soF_fr Z (ty_soAtlas W Ta) k
  rw [e3, e4]
  refine ⟨h1, h2, ?_⟩
  unfold dvN9
  rw [e2, d]
  exact vsK9_f W N Z h2 (vs_r9 (by omega)) ⟨hR _ (by omega) (by omega), hR _ (by omega) (by omega), hR _ (by omega) (by omega)⟩ h3
/-- numbers that the tables' comparison works with, in order -/
def agI9 (ρ : Nat → Nat) (κ : zS) (a n P : Nat) : Prop := (nmI ρ κ ∧ soI ρ κ (zR κ odSolver a)) ∧ odX9 ρ κ a n P ∧ (tbL9 κ a ∧ (zI κ atNexts (zR κ odAtlas a)).toInt ≤ (zN κ (zR κ odLinks a)) ∧ lkB9 κ κ a n 0) ∧ (dz9 (nuN κ (zR κ soWhole (zR κ odSolver a))) P ∧ nuN κ (zR κ soLess (zR κ odSolver a)) < pB9 4000) ∧ (∀ j u, j < 31 → zQ κ (zR κ odEdges a) j = some u → ρ u = 2000000 + j) ∧ (zR κ atStates (zR κ odAtlas a) ≠ zR κ odGroups a ∧ zR κ atEndings (zR κ odAtlas a) ≠ zR κ odGroups a)
/-- the same, whatever the whole is -/
def agD9 (ρ : Nat → Nat) (κ : zS) (a n P : Nat) : Prop := (nmI ρ κ ∧ soI ρ κ (zR κ odSolver a)) ∧ odX9 ρ κ a n P ∧ (tbL9 κ a ∧ (zI κ atNexts (zR κ odAtlas a)).toInt ≤ (zN κ (zR κ odLinks a)) ∧ lkB9 κ κ a n 0) ∧ (True ∧ nuN κ (zR κ soLess (zR κ odSolver a)) < pB9 4000) ∧ (∀ j u, j < 31 → zQ κ (zR κ odEdges a) j = some u → ρ u = 2000000 + j) ∧ (zR κ atStates (zR κ odAtlas a) ≠ zR κ odGroups a ∧ zR κ atEndings (zR κ odAtlas a) ≠ zR κ odGroups a)
theorem ag_d9 {ρ : Nat → Nat} {κ : zS} {a n P : Nat} (A : agI9 ρ κ a n P) : agD9 ρ κ a n P := ⟨A.1, A.2.1, A.2.2.1, ⟨trivial, A.2.2.2.1.2⟩, A.2.2.2.2⟩
def edG9 (κ : zS) (a m : Nat) : Prop := ∀ j, j < m → ∃ u, zQ κ (zR κ odEdges a) j = some u ∧ nuN κ u < pB9 1502
theorem ag_so9 {C : zC} {n0 a n P : Nat} {ρ : Nat → Nat} {R : Nat → Prop} {κ τ : zS} (W : zW C n0 κ) (Ta : zT κ a = 9) (hR : ∀ r, 100 ≤ r → r < 1000000 → ¬ R r) (A : agD9 ρ κ a n P) (Z : zF (soF ρ R (zR κ odCalc a)) κ τ) (N : nmI ρ τ ∧ soI ρ τ (zR κ odSolver a)) (D : dz9 (nuN τ (zR κ soWhole (zR κ odSolver a))) P) (L : nuN τ (zR κ soLess (zR κ odSolver a)) < pB9 4000) : agI9 ρ τ a n P ∧ (∀ f, f / 100 = 9 ∨ f / 100 = 12 → ∀ b, zR τ f b = zR κ f b) ∧ zQ τ (zR κ odEdges a) = zQ κ (zR κ odEdges a) := by
  have e : ∀ f, f / 100 = 9 ∨ f / 100 = 12 ∨ f / 100 = 3 → ∀ b, zR τ f b = zR κ f b := fun f hf b => (soF_r9 Z ⟨fun y => by rw [y] at hf; revert hf; decide, fun y => by rw [y] at hf; revert hf; decide, fun y => by rw [y] at hf; revert hf; decide, fun y => by rw [y] at hf; revert hf; decide, fun y => by rw [y] at hf; revert hf; decide, fun y => by rw [y] at hf; revert hf; decide, fun y => by rw [y] at hf; revert hf; decide⟩).1
  have ts := ty_odSolver W Ta
  have tA := ty_odAtlas W Ta
  have tc := ty_atCode W tA
  have te := ty_atEndings W tA
  obtain ⟨⟨N0, S0⟩, X, ⟨l1, l2, l3⟩, _, E, hg⟩ := A
  have X9 := X
  obtain ⟨⟨x1, x2⟩, x3, ⟨x4, x5⟩, x6, ⟨x7, x9⟩, x8⟩ := X9
  have en0 : zR κ atEndings (zR κ odAtlas a) ≠ 0 := by
    have l := (W.2.1 _ (show zT κ (zR κ atEndings (zR κ odAtlas a)) ≠ 0 by rw [te]; decide)).1.1
    have p := W.1.1.1
    omega
  have nv := frS9_w (f := soVisits) W soF_fr Z (t := 25) (by decide +kernel) (by decide) ts (by decide) (by decide)
  have eA := e odAtlas (by decide) a
  have eS := e odSolver (by decide) a
  have ga := fun f hf => at_f9 W soF_fr Z tA (f := f) hf
  have X1 : odX9 ρ τ a n P := by
    refine ⟨⟨?_, ?_⟩, ?_, ⟨?_, ?_⟩, ?_, ⟨?_, fun hn => ?_⟩, ?_⟩
    · rw [eS, eA, e soAtlas (by decide)]; exact x1
    · rw [eS, e soCalc (by decide), e odCalc (by decide)]; exact x2
    · rw [e odHeld (by decide)]; exact x3
    · rw [eA]; exact atW_f9 W soF_fr Z tA x4
    · rw [eS, nv.2.2]; exact x5
    · rw [eS]; exact vsI9_g W ts N0 Z x4.2.2.1 hR x6
    · rw [eA, e atCode (by decide)]
      exact co_o9 (g := 0) W soF_o9 Z tc x7
    · rw [eA]
      exact enZ_o9 (g := 0) W soF_o9 Z tA en0 (x9 hn)
    · rw [eA, e atEndings (by decide)]
      exact (ho_o9 (g := 0) W soF_o9 Z te en0).1 x8
  have row : ∀ f t, zr f = some t → 20 ≤ t → f / 100 = 9 → zA τ (zR κ f a) = zA κ (zR κ f a) ∧ zQ τ (zR κ f a) = zQ κ (zR κ f a) ∧ zN τ (zR κ f a) = zN κ (zR κ f a) := fun f t h1 h2 h3 => by
    have T9 : zT κ a = f / 100 := Ta.trans h3.symm
    have r := e f (Or.inl h3) a
    have w := Z.row W h1 h2 T9 (soF_n9 h3)
    rw [r] at w
    have ty := W.r h1 T9
    obtain ⟨c, hc⟩ : ∃ c, t = c + 1 := ⟨t - 1, by omega⟩
    exact ⟨w.1, w.2.2, Z.l (c := c) (ty.trans hc)⟩
  have sg : ∀ k, k < n → zI τ raSign (vU9 τ (zR κ odSolver a) k) = zI κ raSign (vU9 κ (zR κ odSolver a) k) := fun k hk => by
    have v2 := (x6 k hk).2.1
    have hn := x4.2.2.1
    rw [(vU9_f W ts Z).2 k]
    exact Z.i (soF_sg (by rw [v2]; exact hR _ (by omega) (by omega)))
  have ce : ∀ k i, k < n → (cE9 τ a k i ↔ cE9 κ a k i) := fun k i hk => by
    unfold cE9
    rw [eA, eS, sg k hk, (ga atSorts (by decide)).2.1, (ga atChooses (by decide)).2.1, (ga atFirsts (by decide)).2.1, (ga atPlan (by decide)).2.1]
  have ff : zA τ (zR τ atFirsts (zR τ odAtlas a)) = zA κ (zR κ atFirsts (zR κ odAtlas a)) := by rw [eA]; exact (ga atFirsts (by decide)).2.1
  have rh := row odHeads 20 (by decide +kernel) (by decide) (by decide)
  have rl := row odLinks 20 (by decide +kernel) (by decide) (by decide)
  have re := row odEdges 24 (by decide +kernel) (by decide) (by decide)
  have r1 := row odLefts 20 (by decide +kernel) (by decide) (by decide)
  have r2 := row odRights 20 (by decide +kernel) (by decide) (by decide)
  have r3 := row odBases 20 (by decide +kernel) (by decide) (by decide)
  have r4 := row odRanks 20 (by decide +kernel) (by decide) (by decide)
  have r5 := row odCellOf 20 (by decide +kernel) (by decide) (by decide)
  refine ⟨⟨⟨N.1, by rw [eS]; exact N.2⟩, X1, ⟨?_, ?_, fun c hc => ?_, fun x hx hb => ?_⟩, ⟨by rw [eS, e soWhole (by decide)]; exact D, by rw [eS, e soLess (by decide)]; exact L⟩, fun j u hj hu => ?_, ?_⟩, fun f hf b => e f (by omega) b, re.2.1⟩
  · unfold tbL9
    rw [e odLefts (by decide), e odRights (by decide), e odBases (by decide), e odRanks (by decide), e odCellOf (by decide), e odHeads (by decide), e odEdges (by decide), r1.2.2, r2.2.2, r3.2.2, r4.2.2, r5.2.2, rh.2.2, re.2.2]
    exact l1
  · rw [eA, (soF_r9 Z (f := atNexts) (by decide)).2, e odLinks (by decide), rl.2.2]
    exact l2
  · rw [e odHeads (by decide), rh.1]
    rcases l3.1 c hc with y | y
    · exact Or.inl y
    · exact Or.inr ⟨(lkN_e9 ff ce).mpr y.1, y.2⟩
  · rw [e odLinks (by decide), rl.1]
    rcases l3.2 x ((lkN_e9 ff ce).mp hx) hb with y | y
    · exact Or.inl y
    · exact Or.inr ⟨(lkN_e9 ff ce).mpr y.1, y.2⟩
  · rw [e odEdges (by decide), re.2.1] at hu
    exact E j u hj hu
  · rw [eA, e atStates (by decide), e atEndings (by decide), e odGroups (by decide)]
    exact hg
theorem nm_y9 {C : zC} {n0 : Nat} {ρ ρ' : Nat → Nat} {F : Nat → Nat → Prop} {κ τ : zS} (W : zW C n0 κ) (N : nmI ρ κ) (Z : zF F κ τ) (hF : ∀ f b, F f b → zn κ ≤ b ∨ f / 100 = 9) (hr : ∀ b, b < zn κ → ρ' b = ρ b) (h1 : ∀ w, zn κ ≤ w → nmR (ρ' w) → zT τ w = 8 ∧ nuC τ w (capR (ρ' w)) ∧ (ρ' w ≠ 10 → nuI τ w (capR (ρ' w)))) (h2 : ∀ v, zn κ ≤ v → raR (ρ' v) → zT τ v = 11 ∧ ρ' (zR τ raTop v) = ρ' v + 1 ∧ ρ' (zR τ raBottom v) = ρ' v + 2) : nmI ρ' τ := by
  have lt : ∀ x, zT κ x ≠ 0 → x < zn κ := fun x h => (W.2.1 x h).2
  have nf : ∀ f b, b < zn κ → f / 100 ≠ 9 → ¬ F f b := fun f b hb hf z => by
    rcases hF f b z with q | q
    · omega
    · exact hf q
  refine ⟨fun w h => ?_, fun v h => ?_⟩
  · by_cases l : w < zn κ
    · rw [hr w l] at h ⊢
      obtain ⟨t, c, i⟩ := N.1 w h
      have u := nu_z W t Z (nf _ _ l (by decide)) (nf _ _ l (by decide))
      refine ⟨Z.t t (by decide), ?_, fun y => (nuB_z (c := capR (ρ w)) W t Z (nf _ _ l (by decide)) (nf _ _ l (by decide))).2.1 (i y)⟩
      unfold nuC
      rw [u.2.1, u.2.2.2]
      exact c
    · exact h1 w (by omega) h
  · by_cases l : v < zn κ
    · rw [hr v l] at h ⊢
      obtain ⟨t, p, q⟩ := N.2 v h
      have a1 := ty_raTop W t
      have a2 := ty_raBottom W t
      refine ⟨Z.t t (by decide), ?_, ?_⟩
      · rw [Z.r (nf _ _ l (by decide)), hr _ (lt _ (by rw [a1]; decide))]; exact p
      · rw [Z.r (nf _ _ l (by decide)), hr _ (lt _ (by rw [a2]; decide))]; exact q
    · exact h2 v (by omega) h
theorem so_y9 {C : zC} {n0 a : Nat} {ρ ρ' : Nat → Nat} {F : Nat → Nat → Prop} {κ τ : zS} (W : zW C n0 κ) (Ta : zT κ a = 12) (I : soI ρ κ a) (Z : zF F κ τ) (hF : ∀ f b, F f b → zn κ ≤ b ∨ f / 100 = 9) (hr : ∀ b, b < zn κ → ρ' b = ρ b) : soI ρ' τ a := by
  have lt : ∀ x, zT κ x ≠ 0 → x < zn κ := fun x h => (W.2.1 x h).2
  have l0 := lt a (by rw [Ta]; decide)
  have tc := ty_soCalc W Ta
  have lc := lt _ (show zT κ (zR κ soCalc a) ≠ 0 by rw [tc]; decide)
  have nf : ∀ f b, b < zn κ → f / 100 ≠ 9 → ¬ F f b := fun f b hb hf z => by
    rcases hF f b z with q | q
    · omega
    · exact hf q
  have e : ∀ f, f / 100 = 12 → zR τ f a = zR κ f a := fun f hf => Z.r (nf f a l0 (by omega))
  have ec : ∀ f, f / 100 = 4 → zR τ f (zR κ soCalc a) = zR κ f (zR κ soCalc a) := fun f hf => Z.r (nf f _ lc (by omega))
  have tf := ty_caFactors W tc
  have nq := Z.l tf
  obtain ⟨⟨i1, i2, i3, i4, i5, i6, i7⟩, ⟨i8, i9⟩, i10, i11⟩ := I
  have r8 : ∀ x, zT κ x = 8 → ρ' x = ρ x := fun x h => hr x (lt x (by rw [h]; decide))
  have r11 : ∀ x, zT κ x = 11 → ρ' x = ρ x := fun x h => hr x (lt x (by rw [h]; decide))
  unfold soI caN caS
  rw [e soWhole (by decide), e soFactor (by decide), e soScaled (by decide), e soTerm (by decide), e soSum (by decide), e soLess (by decide), e soPart (by decide), e soCalc (by decide), ec caQuotient (by decide), ec caRest (by decide), ec caDivisor (by decide), ec caX (by decide), ec caY (by decide), ec caFactors (by decide), ec caSpare (by decide), nq, r8 _ (ty_soWhole W Ta), r8 _ (ty_soFactor W Ta), r8 _ (ty_soScaled W Ta), r8 _ (ty_soTerm W Ta), r8 _ (ty_soSum W Ta), r8 _ (ty_soLess W Ta), r11 _ (ty_soPart W Ta), r8 _ (ty_caSpare W tc)]
  refine ⟨⟨i1, i2, i3, i4, i5, i6, i7⟩, ⟨i8, i9⟩, fun b hb => ?_, i11⟩
  have q := i10 b hb
  have tb : zT κ b = 8 := by
    rcases hb with h | h | h | h | h <;> rw [h]
    · exact ty_caQuotient W tc
    · exact ty_caRest W tc
    · exact ty_caDivisor W tc
    · exact ty_caX W tc
    · exact ty_caY W tc
  rw [r8 b tb]
  exact q
/-- numbers that are made go into empty places of Odds' edges -/
def zE9 (κ τ : zS) (o : Nat) : Prop := nT9 8 τ + nn9 κ (zR κ odEdges o) ≤ nT9 8 κ + nn9 τ (zR τ odEdges o) ∧ nT9 11 τ ≤ nT9 11 κ
theorem zE9.rf {κ : zS} {o : Nat} : zE9 κ κ o := ⟨Nat.le_refl _, Nat.le_refl _⟩
theorem zE9.tr {κ τ σ : zS} {o : Nat} (h : zE9 κ τ o) (g : zE9 τ σ o) : zE9 κ σ o := by
  obtain ⟨a, b⟩ := h
  obtain ⟨c, d⟩ := g
  exact ⟨by omega, by omega⟩
theorem zE_z9 {C : zC} {n0 o : Nat} {F : Nat → Nat → Prop} {κ τ : zS} (W : zW C n0 κ) (Ta : zT κ o = 9) (Z : zF F κ τ) (h : ∀ b, zn κ ≤ b → ¬ F 0 b) (he : ¬ F odEdges o) : zE9 κ τ o := by
  have n8 := nT_z9 W Z h (t := 8) (by decide)
  have n11 := nT_z9 W Z h (t := 11) (by decide)
  have e := nE_z9 W Ta Z he
  exact ⟨by omega, n11⟩
theorem zE_so9 {C : zC} {n0 o ca : Nat} {ρ : Nat → Nat} {R : Nat → Prop} {κ τ : zS} (W : zW C n0 κ) (Ta : zT κ o = 9) (Z : zF (soF ρ R ca) κ τ) : zE9 κ τ o := zE_z9 W Ta Z (fun b _ => soF_no9 (by decide)) (soF_no9 (by decide))
/-- an edge is made -/
def edF9 (m a : Nat) : Nat → Nat → Prop := fun f b => (f = odEdges ∧ b = a) ∨ m ≤ b
theorem edF9_t {m a g : Nat} : frT9 m a g (edF9 m a) := fun f b z => by
  rcases z with z | z
  · exact Or.inr (Or.inl ⟨z.2, by rw [z.1]; decide⟩)
  · exact Or.inl z
theorem ag_e9 {C : zC} {n0 a n P : Nat} {ρ ρ' : Nat → Nat} {κ τ : zS} (W : zW C n0 κ) (Ta : zT κ a = 9) (A : agI9 ρ κ a n P) (Z : zF (edF9 (zn κ) a) κ τ) (er : zR τ odEdges a = zR κ odEdges a) (hr : ∀ b, b < zn κ → ρ' b = ρ b) (N : nmI ρ' τ) (E' : ∀ j u, j < 31 → zQ τ (zR κ odEdges a) j = some u → ρ' u = 2000000 + j) : agI9 ρ' τ a n P ∧ (∀ f b c, zT κ b = c + 1 → f ≠ odEdges → zR τ f b = zR κ f b) ∧ ∀ w, zT κ w = 8 → nuN τ w = nuN κ w := by
  have Tg := ty_odGroups W Ta
  have ts := ty_odSolver W Ta
  have lt : ∀ x c, zT κ x = c + 1 → x < zn κ := fun x c h => (W.2.1 x (by omega)).2
  have nf : ∀ f b c, zT κ b = c + 1 → f ≠ odEdges → ¬ edF9 (zn κ) a f b := fun f b c hb hf z => by
    have l := lt b c hb
    rcases z with y | y
    · exact hf y.1
    · omega
  have e : ∀ f b c, zT κ b = c + 1 → f ≠ odEdges → zR τ f b = zR κ f b := fun f b c hb hf => Z.r (nf f b c hb hf)
  obtain ⟨⟨N0, S0⟩, X, ⟨l1, l2, l3⟩, ⟨D, L⟩, E, hg⟩ := A
  obtain ⟨X1, ce, e1, g1, s1, s2⟩ := od_t9 W Ta Tg edF9_t Z hg.1 hg.2 X
  have eA := e odAtlas a 8 Ta (by decide)
  have eS := e odSolver a 8 Ta (by decide)
  have nu : ∀ w, zT κ w = 8 → nuN τ w = nuN κ w := fun w tw => (nuB_z (c := 0) W tw Z (nf _ w 7 tw (by decide)) (nf _ w 7 tw (by decide))).2.2.1
  have X2 : odX9 ρ' τ a n P := by
    obtain ⟨x1, x3, x4, x6, x7⟩ := X1
    refine ⟨x1, ?_, x4, fun k hk => ?_, x7⟩
    · have q := e odHeld a 8 Ta (by decide)
      rw [q] at x3 ⊢
      rw [hr _ (lt _ 7 (ty_odHeld W Ta))]
      exact x3
    · obtain ⟨v1, v2, v3⟩ := x6 k hk
      refine ⟨v1, ?_, v3⟩
      have vk := (X.2.2.2.1 k hk).1
      have tu := W.2.2.2.2.1 _ _ _ (ty_soVisits W ts) vk
      have rv := Z.row W (f := soVisits) (t := 25) (by decide +kernel) (by decide) ts (nf soVisits _ 11 ts (by decide))
      have vu : vU9 τ (zR τ odSolver a) k = vU9 κ (zR κ odSolver a) k := by
        rw [eS]
        unfold vU9
        rw [rv.2.2]
      rw [vu] at v2 ⊢
      rw [hr _ (lt _ 10 tu)]
      exact v2
  have row : ∀ f, zr f = some 20 → f / 100 = 9 → zA τ (zR κ f a) = zA κ (zR κ f a) ∧ zN τ (zR κ f a) = zN κ (zR κ f a) := fun f h1 h3 => by
    have hne : f ≠ odEdges := fun y => by rw [y] at h1; exact absurd h1 (by decide +kernel)
    have T9 : zT κ a = f / 100 := Ta.trans h3.symm
    have w := Z.row W h1 (by decide) T9 (nf f a 8 Ta hne)
    rw [e f a 8 Ta hne] at w
    exact ⟨w.1, Z.l (W.r h1 T9)⟩
  have rh := row odHeads (by decide +kernel) (by decide)
  have rl := row odLinks (by decide +kernel) (by decide)
  have r1 := row odLefts (by decide +kernel) (by decide)
  have r2 := row odRights (by decide +kernel) (by decide)
  have r3 := row odBases (by decide +kernel) (by decide)
  have r4 := row odRanks (by decide +kernel) (by decide)
  have r5 := row odCellOf (by decide +kernel) (by decide)
  have ff := (g1 atFirsts (by decide)).1
  have tA := ty_odAtlas W Ta
  refine ⟨⟨⟨N, ?_⟩, X2, ⟨?_, ?_, fun c hc => ?_, fun x hx hb => ?_⟩, ⟨?_, ?_⟩, fun j u hj hu => ?_, ?_⟩, e, nu⟩
  · rw [eS]
    refine so_y9 W ts S0 Z (fun f b z => ?_) hr
    rcases z with y | y
    · exact Or.inr (by rw [y.1]; decide)
    · exact Or.inl y
  · unfold tbL9
    rw [e odLefts a 8 Ta (by decide), e odRights a 8 Ta (by decide), e odBases a 8 Ta (by decide), e odRanks a 8 Ta (by decide), e odCellOf a 8 Ta (by decide), e odHeads a 8 Ta (by decide), er, r1.2, r2.2, r3.2, r4.2, r5.2, rh.2, Z.l (ty_odEdges W Ta)]
    exact l1
  · rw [eA, Z.i (nf atNexts _ 2 tA (by decide)), e odLinks a 8 Ta (by decide), rl.2]
    exact l2
  · rw [e odHeads a 8 Ta (by decide), rh.1]
    rcases l3.1 c hc with y | y
    · exact Or.inl y
    · exact Or.inr ⟨(lkN_e9 ff ce).mpr y.1, y.2⟩
  · rw [e odLinks a 8 Ta (by decide), rl.1]
    rcases l3.2 x ((lkN_e9 ff ce).mp hx) hb with y | y
    · exact Or.inl y
    · exact Or.inr ⟨(lkN_e9 ff ce).mpr y.1, y.2⟩
  · rw [eS, e soWhole _ 11 ts (by decide), nu _ (ty_soWhole W ts)]
    exact D
  · rw [eS, e soLess _ 11 ts (by decide), nu _ (ty_soLess W ts)]
    exact L
  · rw [er] at hu
    exact E' j u hj hu
  · rw [eA, s1, s2, e odGroups a 8 Ta (by decide)]
    exact hg
theorem Od_edge_c {C : zC} {n0 : Nat} {a0 : Nat} {a1 : Int32} {κ : zS} {Q : Nat → zS → Prop} (W : zW C n0 κ) (Ta0 : zT κ a0 = 9) (ρ : Nat → Nat) (n9 P9 : Nat) (hp : agI9 ρ κ a0 n9 P9 ∧ (0 ≤ a1.toInt ∧ a1.toInt < 31)) (h : ∀ (v : Nat) (κ' : zS), ((zF (edF9 (zn κ) a0) κ κ' ∧ zE9 κ κ' a0) ∧ (∃ ρ' : Nat → Nat, (∀ b, b < zn κ → ρ' b = ρ b) ∧ agI9 ρ' κ' a0 n9 P9 ∧ ρ' v = 2000000 + a1.toNatClampNeg) ∧ zQ κ' (zR κ odEdges a0) a1.toNatClampNeg = some v ∧ (zR κ' odEdges a0 = zR κ odEdges a0 ∧ ∀ j u, zQ κ (zR κ odEdges a0) j = some u → zQ κ' (zR κ odEdges a0) j = some u) ∧ (∀ f b c, zT κ b = c + 1 → f ≠ odEdges → zR κ' f b = zR κ f b) ∧ ∀ w, zT κ w = 8 → nuN κ' w = nuN κ w) → Q v κ') : zRun C 2 mOd_edge [.ref a0, .int a1] κ (oR 8 Q noX) := by
  refine Od_edge_run W Ta0 ?_
  replace W := W.lo (Nat.le_trans W.1.2.1 W.1.2.2) (Nat.le_refl (zn κ))
  unfold w_Od_edge_0
  obtain ⟨A0, p0, p1⟩ := hp
  have k1 := cnk p0
  have le0 : zN κ (zR κ odEdges a0) = 31 := A0.2.2.1.1.2.2.2.2.2.2
  have tr := ty_odEdges W Ta0
  have orr := W.o (show zr odEdges = some 24 by decide +kernel) (by decide) Ta0
  have lr := (W.2.1 _ (show zT κ (zR κ odEdges a0) ≠ 0 by rw [tr]; decide)).2
  have l0 := (W.2.1 a0 (by rw [Ta0]; decide)).2
  have hj23 : ∀ (l0 : Nat) (l1 : Int32) (τ : zS), zW C (zn κ) τ → zT τ l0 = 9 → (a0 = l0 ∧ a1 = l1 ∧ (zF (edF9 (zn κ) a0) κ τ ∧ zE9 κ τ a0) ∧ (∃ ρ' : Nat → Nat, (∀ b, b < zn κ → ρ' b = ρ b) ∧ agI9 ρ' τ a0 n9 P9) ∧ (∃ u, zQ τ (zR κ odEdges a0) a1.toNatClampNeg = some u) ∧ (zR τ odEdges a0 = zR κ odEdges a0 ∧ ∀ j u, zQ κ (zR κ odEdges a0) j = some u → zQ τ (zR κ odEdges a0) j = some u) ∧ (∀ f b c, zT κ b = c + 1 → f ≠ odEdges → zR τ f b = zR κ f b) ∧ ∀ w, zT κ w = 8 → nuN τ w = nuN κ w) → w_Od_edge_23 C (zn κ) Q  l0 l1 τ := by
    rintro _ _ τ23 W23 T23_0 ⟨rfl, rfl, j23⟩
    unfold w_Od_edge_23
    obtain ⟨⟨Zj, Kj⟩, ⟨ρ1, h1, A1⟩, ⟨u9, Uj⟩, ⟨ej, Oj⟩, rj, nj⟩ := j23
    refine ⟨?_, ?_⟩
    · rw [inb_iff, ej, Zj.l (c := 23) tr, le0]; omega  -- b1
    refine ex_some ?_ (fun u1 hu1 => ?_)
    · exact ⟨u9, by rw [ej]; exact Uj⟩  -- e2
    refine h _ _ ?_
    · rw [ej] at hu1
      exact ⟨⟨Zj, Kj⟩, ⟨ρ1, h1, A1, A1.2.2.2.2.1 a1.toNatClampNeg u1 (by omega) (by rw [ej]; exact hu1)⟩, hu1, ⟨ej, Oj⟩, rj, nj⟩
  refine ⟨?_, ?_⟩
  · rw [inb_iff, le0]; omega  -- b4
  refine ⟨fun uc2 c2 => ?_, fun c2 => ?_⟩
  · skip
    refine hj23 _ _ _ W ?_ ?_
    · exact Ta0  -- t5
    · exact ⟨rfl, rfl, ⟨zF.rf, zE9.rf⟩, ⟨ρ, fun _ _ => rfl, A0⟩, ⟨uc2, c2⟩, ⟨rfl, fun _ _ z => z⟩, fun _ _ _ _ _ => rfl, fun _ _ => rfl⟩  -- k6
  · skip
    intro κ_3 hκ_3
    intro W4
    intro T5
    refine Nu_init_c W4 T5  ?_ (fun κ_6 q7 => ?_)
    · decide  -- p7
    intro W8
    intro M9
    have n4 : (if (4 : Int32) < (2 : Int32) then (2 : Int32) else 4).toNatClampNeg = 4 := by decide
    rw [n4] at q7
    have A := mk_Nu9 (κ6 := nff κ_6 (zn κ)) W hκ_3 q7 rfl
    have r6 : zR κ_6 nuLimbs (zn κ) = zn κ_3 := by rw [q7]; exact if_pos ⟨rfl, rfl⟩
    refine ⟨?_, ?_⟩
    · refine zOk_8 ?_ ?_
      · rw [r6, q7]
        exact if_pos rfl
      · rw [r6, q7]
        exact if_pos rfl
    intro κ_10 hκ_10
    intro W11
    rw [← hκ_10] at A
    obtain ⟨A1, ⟨A2, A3, A4, A5, A6, A7, A8⟩, A9⟩ := A
    have e10 : zR κ_10 odEdges a0 = zR κ odEdges a0 := A1.r (show ¬ zn κ ≤ a0 by omega)
    refine ⟨?_, ?_⟩
    · rw [inb_iff, A1.l (c := 23) tr, le0]; omega  -- b9
    intro κ_12 hκ_12
    intro W13
    have o10 : zO κ_10 (zR κ odEdges a0) = (odEdges, a0) := by
      have q := (A1.2.2.1 (zR κ odEdges a0) (by rw [tr]; decide) (by rw [orr]; exact fun z => absurd (show odEdges = 0 from congrArg Prod.fst z) (by decide)))
      rw [q]
      exact orr
    have q10 : zQ κ_10 (zR κ odEdges a0) = zQ κ (zR κ odEdges a0) := (A1.2.1 (zR κ odEdges a0) (by rw [tr]; decide) (by rw [orr]; show ¬ zn κ ≤ a0; omega)).2.2.1
    have Zq : zF (edF9 (zn κ) a0) κ κ_12 := (A1.mono (fun _ _ z => Or.inr z)).tr (by rw [hκ_12]; exact zF_uq (by rw [o10]; exact Or.inl ⟨rfl, rfl⟩))
    have e12 : zR κ_12 = zR κ_10 := by rw [hκ_12]; rfl
    have ec12 : zR κ_12 odEdges a0 = zR κ odEdges a0 := by rw [e12]; exact e10
    have q12 : zQ κ_12 (zR κ odEdges a0) = va_up (zQ κ (zR κ odEdges a0)) a1.toNatClampNeg (some (zn κ)) := by
      rw [hκ_12, ← q10]
      exact if_pos rfl
    have N12 : nmI (fun b => if b = zn κ then 2000000 + a1.toNatClampNeg else ρ b) κ_12 := by
      refine nm_y9 W A0.1.1 Zq (fun f b z => ?_) (fun b hb => if_neg (by omega)) (fun w hw hr => ?_) (fun v hv hr => ?_)
      · rcases z with z | z
        · rw [z.1]; exact Or.inr (by decide)
        · exact Or.inl z
      · by_cases e : w = zn κ
        · rw [if_pos e] at hr ⊢
          have nw := nu_new9 (κ := κ_12) (w := w) (n := 4) (by rw [e, e12, A3, hκ_12]; exact A4) (by rw [e, hκ_12]; exact A5) (by decide)
          have cp : 4 ≤ capR (2000000 + a1.toNatClampNeg) := by
            unfold capR
            rw [if_neg (by omega), if_neg (by omega), if_neg (by omega)]
            decide
          have nm := nuI_mono cp nw.1
          exact ⟨by rw [e, hκ_12]; exact A2, nm.1.2.1, fun _ => nm⟩
        · rw [if_neg e] at hr
          exact absurd hr (nm_no9 W A0.1.1 hw).1
      · by_cases e : v = zn κ
        · rw [if_pos e] at hr
          rcases hr with z | z | z <;> omega
        · rw [if_neg e] at hr
          exact absurd hr (nm_no9 W A0.1.1 hv).2
    have G := ag_e9 W Ta0 A0 Zq ec12 (ρ' := fun b => if b = zn κ then 2000000 + a1.toNatClampNeg else ρ b) (fun b hb => if_neg (by omega)) N12 (fun j u hj hu => by
      rw [q12] at hu
      unfold va_up at hu
      show (if u = zn κ then 2000000 + a1.toNatClampNeg else ρ u) = 2000000 + j
      by_cases e : j = a1.toNatClampNeg
      · rw [if_pos e] at hu
        rw [if_pos (Option.some.inj hu).symm, e]
      · rw [if_neg e] at hu
        have tu := W.2.2.2.1 _ _ _ tr hu
        have lu := (W.2.1 u (by rw [tu]; decide)).2
        rw [if_neg (by omega)]
        exact A0.2.2.2.2.1 j u hj hu)
    have Kz : zE9 κ κ_12 a0 := by
      have c10 : ∀ t, nT9 t κ_10 = nT9 t κ + (if 8 = t then 1 else 0) + (if 20 = t then 1 else 0) := fun t => by
        have q := nT_29 (t := t) (κ := κ) (τ := κ_10) A6 A9
        rw [A2, A7] at q
        exact q
      have c12 : ∀ t, nT9 t κ_12 = nT9 t κ_10 := fun t => nT_09 (by rw [hκ_12]; rfl) (fun b _ => by rw [hκ_12]; rfl)
      have cn := nn_u9 (κ := κ) (τ := κ_12) (x := zR κ odEdges a0) (y := zR κ_12 odEdges a0) (i := a1.toNatClampNeg) (u := zn κ) (by rw [ec12]; exact Zq.l (c := 23) tr) (by rw [le0]; omega) c2 (by rw [ec12]; exact q12)
      have d8 := c12 8
      have d11 := c12 11
      rw [c10] at d8 d11
      simp at d8 d11
      unfold zE9
      rw [cn]
      exact ⟨by omega, by omega⟩
    refine hj23 _ _ _ W13 ?_ ?_
    · exact Zq.t Ta0 (by decide)  -- t10
    · refine ⟨rfl, rfl, ⟨Zq, Kz⟩, ⟨_, fun b hb => if_neg (by omega), G.1⟩, ⟨zn κ, ?_⟩, ⟨ec12, fun j u hu => ?_⟩, G.2.1, G.2.2⟩
      · rw [q12]
        exact if_pos rfl
      · rw [q12]
        unfold va_up
        by_cases e : j = a1.toNatClampNeg
        · rw [← e, hu] at c2
          cases c2
        · rw [if_neg e]
          exact hu

theorem Od_edge_c2 {C : zC} {n0 : Nat} {a0 : Nat} {a1 : Int32} {κ : zS} {Q : Nat → zS → Prop} (W : zW C n0 κ) (Ta0 : zT κ a0 = 9) (u9 : Nat) (hp : (zN κ (zR κ odEdges a0)) = 31 ∧ (0 ≤ a1.toInt ∧ a1.toInt < 31) ∧ zQ κ (zR κ odEdges a0) a1.toNatClampNeg = some u9) (h : ∀ (v : Nat) (κ' : zS), (κ = κ' ∧ v = u9) → Q v κ') : zRun C 2 mOd_edge [.ref a0, .int a1] κ (oR 8 Q noX) := by
  refine Od_edge_run W Ta0 ?_
  replace W := W.lo (Nat.le_trans W.1.2.1 W.1.2.2) (Nat.le_refl (zn κ))
  unfold w_Od_edge_0
  obtain ⟨e0, ⟨p0, p1⟩, hu⟩ := hp
  have e1 : zN κ (zR κ odEdges a0) = 31 := e0
  refine ⟨?_, ?_⟩
  · rw [inb_iff, e1]; omega  -- b1
  refine ⟨fun uc1 c1 => ?_, fun c1 => ?_⟩
  · skip
    unfold w_Od_edge_23
    refine ⟨?_, ?_⟩
    · rw [inb_iff, e1]; omega  -- b2
    refine ex_some ?_ (fun u2 hu2 => ?_)
    · exact ⟨_, hu⟩  -- e3
    refine h _ _ ?_
    · exact ⟨rfl, Option.some.inj (hu2.symm.trans hu)⟩  -- q4
  · skip
    intro κ_3 hκ_3
    intro W4
    intro T5
    refine Nu_init_c W4 T5  ?_ (fun κ_6 q7 => ?_)
    · rw [hu] at c1
      cases c1
    intro W8
    intro M9
    refine ⟨?_, ?_⟩
    · rw [hu] at c1
      cases c1
    intro κ_10 hκ_10
    intro W11
    refine ⟨?_, ?_⟩
    · rw [hu] at c1
      cases c1
    intro κ_12 hκ_12
    intro W13
    unfold w_Od_edge_23
    refine ⟨?_, ?_⟩
    · rw [hu] at c1
      cases c1
    refine ex_some ?_ (fun u14 hu14 => ?_)
    · rw [hu] at c1
      cases c1
    refine h _ _ ?_
    · rw [hu] at c1
      cases c1
