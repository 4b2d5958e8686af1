set_option maxHeartbeats 1600000
/-! the class: what the Solver reads of web and atlas -/
/-- a frame that touches numbers, fractions, Calcs, a Solver's cells and rows, and what is new -/
def frS9 (m : Nat) (F : Nat → Nat → Prop) : Prop := ∀ f b, F f b → m ≤ b ∨ f / 100 = 8 ∨ f / 100 = 11 ∨ f / 100 = 4 ∨ f = soCells ∨ f = soRows ∨ f = 0
theorem frS9_n {C : zC} {n0 f b c : Nat} {F : Nat → Nat → Prop} {κ : zS} (W : zW C n0 κ) (H : frS9 (zn κ) F) (T : zT κ b = c + 1) (hf : f / 100 ≠ 8 ∧ f / 100 ≠ 11 ∧ f / 100 ≠ 4 ∧ f ≠ soCells ∧ f ≠ soRows ∧ f ≠ 0) : ¬ F f b := fun z => by
  have l := (W.2.1 b (by omega)).2
  rcases H f b z with h | h | h | h | h | h | h
  · omega
  · exact hf.1 h
  · exact hf.2.1 h
  · exact hf.2.2.1 h
  · exact hf.2.2.2.1 h
  · exact hf.2.2.2.2.1 h
  · exact hf.2.2.2.2.2 h
theorem frS9_w {C : zC} {n0 f b t : Nat} {F : Nat → Nat → Prop} {κ τ : zS} (W : zW C n0 κ) (H : frS9 (zn κ) F) (Z : zF F κ τ) (hr : zr f = some t) (ht : 20 ≤ t) (T : zT κ b = f / 100) (hf : f / 100 ≠ 8 ∧ f / 100 ≠ 11 ∧ f / 100 ≠ 4 ∧ f ≠ soCells ∧ f ≠ soRows ∧ f ≠ 0) (h0 : f / 100 ≠ 0) : zR τ f b = zR κ f b ∧ zA τ (zR τ f b) = zA κ (zR κ f b) ∧ zN τ (zR τ f b) = zN κ (zR κ f b) := by
  have T9 : zT κ b = (f / 100 - 1) + 1 := by omega
  have n := frS9_n W H T9 hf
  have ty := W.r hr T
  have t1 : zT κ (zR κ f b) = (t - 1) + 1 := by omega
  refine ⟨Z.r n, (Z.row W hr ht T n).1, ?_⟩
  rw [Z.r n]
  exact Z.l t1
theorem at_f9 {C : zC} {n0 b f : Nat} {F : Nat → Nat → Prop} {κ τ : zS} (W : zW C n0 κ) (H : frS9 (zn κ) F) (Z : zF F κ τ) (Tb : zT κ b = 3) (hf : f ∈ atRf) : zR τ f b = zR κ f b ∧ zA τ (zR τ f b) = zA κ (zR κ f b) ∧ zN τ (zR τ f b) = zN κ (zR κ f b) := by
  obtain ⟨⟨t, h1, h2⟩, h3⟩ := atRf_r f hf
  refine frS9_w W H Z h1 h2 (Tb.trans h3.symm) ⟨by omega, by omega, by omega, fun e => ?_, fun e => ?_, by omega⟩ (by omega)
  · rw [e] at h3; exact absurd h3 (by decide)
  · rw [e] at h3; exact absurd h3 (by decide)
theorem we_f9 {C : zC} {n0 b f : Nat} {F : Nat → Nat → Prop} {κ τ : zS} (W : zW C n0 κ) (H : frS9 (zn κ) F) (Z : zF F κ τ) (Tb : zT κ b = 14) (hf : f ∈ weRf) : zR τ f b = zR κ f b ∧ zA τ (zR τ f b) = zA κ (zR κ f b) ∧ zN τ (zR τ f b) = zN κ (zR κ f b) := by
  obtain ⟨⟨t, h1, h2⟩, h3⟩ := weRf_r f hf
  refine frS9_w W H Z h1 h2 (Tb.trans h3.symm) ⟨by omega, by omega, by omega, fun e => ?_, fun e => ?_, by omega⟩ (by omega)
  · rw [e] at h3; exact absurd h3 (by decide)
  · rw [e] at h3; exact absurd h3 (by decide)
theorem atW_f9 {C : zC} {n0 b n : Nat} {F : Nat → Nat → Prop} {κ τ : zS} (W : zW C n0 κ) (H : frS9 (zn κ) F) (Z : zF F κ τ) (Tb : zT κ b = 3) (A : atW κ b n) : atW τ b n := by
  have ts := ty_atStates W Tb
  have te := ty_atEndings W Tb
  have g := fun f hf => at_f9 W H Z Tb (f := f) hf
  obtain ⟨A1, A2, A3, A4, A5, A6⟩ := A
  have rs : zR τ atStates b = zR κ atStates b := Z.r (frS9_n W H Tb (by decide))
  have re : zR τ atEndings b = zR κ atEndings b := Z.r (frS9_n W H Tb (by decide))
  have is : zI τ hoTotal (zR κ atStates b) = zI κ hoTotal (zR κ atStates b) := Z.i (frS9_n W H ts (by decide))
  have ie : zI τ hoTotal (zR κ atEndings b) = zI κ hoTotal (zR κ atEndings b) := Z.i (frS9_n W H te (by decide))
  have ix : zI τ atNexts b = zI κ atNexts b := Z.i (frS9_n W H Tb (by decide))
  refine ⟨?_, ?_, A3, ?_, ?_, fun k hk => ?_⟩
  · unfold atM
    rw [(g atFirsts (by decide)).2.2, (g atTotals (by decide)).2.2, (g atGains (by decide)).2.2, (g atPlan (by decide)).2.2, (g atChooses (by decide)).2.2, (g atHopeless (by decide)).2.2]
    exact A1
  · unfold atL
    rw [(g atSorts (by decide)).2.2, (g atNumbers (by decide)).2.2, (g atWeights (by decide)).2.2]
    exact A2
  · rw [rs, is]; exact A4
  · rw [ix, (g atNumbers (by decide)).2.2]; exact A5
  · unfold exK
    rw [rs, re, is, ie, ix, (g atFirsts (by decide)).2.1, (g atTotals (by decide)).2.1, (g atChooses (by decide)).2.1, (g atSorts (by decide)).2.1, (g atNumbers (by decide)).2.1, (g atWeights (by decide)).2.1]
    exact A6 k hk
theorem dvA_f9 {C : zC} {n0 b : Nat} {F : Nat → Nat → Prop} {κ τ : zS} (W : zW C n0 κ) (H : frS9 (zn κ) F) (Z : zF F κ τ) (Tb : zT κ b = 3) : ∀ k, dvA τ b k = dvA κ b k := fun k => by
  unfold dvA
  rw [(at_f9 W H Z Tb (f := atChooses) (by decide)).2.1, (at_f9 W H Z Tb (f := atTotals) (by decide)).2.1]
theorem lkD_f9 {C : zC} {n0 b : Nat} {F : Nat → Nat → Prop} {κ τ : zS} {p : Int32} (W : zW C n0 κ) (H : frS9 (zn κ) F) (Z : zF F κ τ) (Tb : zT κ b = 3) : lkD τ b p = lkD κ b p := by
  have g := fun f hf => at_f9 W H Z Tb (f := f) hf
  funext t k i
  unfold lkD
  rw [(g atSorts (by decide)).2.1, (g atChooses (by decide)).2.1, (g atFirsts (by decide)).2.1, (g atPlan (by decide)).2.1, (g atNumbers (by decide)).2.1]
theorem weG_f9 {C : zC} {n0 w b n : Nat} {F : Nat → Nat → Prop} {κ τ : zS} {p : Int32} (W : zW C n0 κ) (H : frS9 (zn κ) F) (Z : zF F κ τ) (Tw : zT κ w = 14) (Tb : zT κ b = 3) (G : weG κ w b p n) : weG τ w b p n := by
  have g := fun f hf => we_f9 W H Z Tw (f := f) hf
  have ix : zI τ weTotal w = zI κ weTotal w := Z.i (frS9_n W H Tw (by decide))
  have e0 := lkD_f9 (p := p) W H Z Tb
  have e1 := (at_f9 W H Z Tb (f := atFirsts) (by decide)).2.1
  unfold weG weM weL
  rw [ix, e0, e1, (g weFirsts (by decide)).2.1, (g weTargets (by decide)).2.1, (g weBackFirsts (by decide)).2.1, (g weSources (by decide)).2.1, (g weEdges (by decide)).2.1, (g weFirsts (by decide)).2.2, (g weBackFirsts (by decide)).2.2, (g weOpen (by decide)).2.2, (g weKnotFirsts (by decide)).2.2, (g weKnotOf (by decide)).2.2, (g weOrder (by decide)).2.2, (g weSeen (by decide)).2.2, (g weLow (by decide)).2.2, (g weCursor (by decide)).2.2, (g wePath (by decide)).2.2, (g weHeap (by decide)).2.2, (g weSources (by decide)).2.2, (g weTargets (by decide)).2.2, (g weEdges (by decide)).2.2]
  exact G
theorem weKn_f9 {C : zC} {n0 w n : Nat} {F : Nat → Nat → Prop} {κ τ : zS} (W : zW C n0 κ) (H : frS9 (zn κ) F) (Z : zF F κ τ) (Tw : zT κ w = 14) (G : weKn κ w n) : weKn τ w n := by
  have g := fun f hf => we_f9 W H Z Tw (f := f) hf
  have ix : zI τ weKnots w = zI κ weKnots w := Z.i (frS9_n W H Tw (by decide))
  unfold weKn
  rw [ix, (g weKnotFirsts (by decide)).2.1, (g weOrder (by decide)).2.1, (g weKnotOf (by decide)).2.1]
  exact G
/-- what the Solver reads -/
def svX9 (κ : zS) (a n : Nat) : Prop := weG κ (zR κ soWeb a) (zR κ soAtlas a) 1 n ∧ weKn κ (zR κ soWeb a) n ∧ atW κ (zR κ soAtlas a) n ∧ n ≤ (zN κ (zR κ soVisits a))
theorem svX9_f {C : zC} {n0 a n : Nat} {F : Nat → Nat → Prop} {κ τ : zS} (W : zW C n0 κ) (Ta : zT κ a = 12) (H : frS9 (zn κ) F) (Z : zF F κ τ) (X : svX9 κ a n) : svX9 τ a n ∧ zR τ soWeb a = zR κ soWeb a ∧ zR τ soAtlas a = zR κ soAtlas a ∧ zR τ soVisits a = zR κ soVisits a := by
  have e1 : zR τ soWeb a = zR κ soWeb a := Z.r (frS9_n W H Ta (by decide))
  have e2 : zR τ soAtlas a = zR κ soAtlas a := Z.r (frS9_n W H Ta (by decide))
  have e3 := frS9_w (f := soVisits) W H Z (t := 25) (by decide +kernel) (by decide) Ta (by decide) (by decide)
  obtain ⟨X1, X2, X3, X4⟩ := X
  unfold svX9
  rw [e1, e2]
  exact ⟨⟨weG_f9 W H Z (ty_soWeb W Ta) (ty_soAtlas W Ta) X1, weKn_f9 W H Z (ty_soWeb W Ta) X2, atW_f9 W H Z (ty_soAtlas W Ta) X3, by rw [e3.2.2]; exact X4⟩, rfl, rfl, e3.1⟩
theorem soF_fr {ρ : Nat → Nat} {R : Nat → Prop} {ca m : Nat} : frS9 m (soF ρ R ca) := fun f b z => by
  rcases z with ⟨_, z | z | z⟩ | ⟨_, z | z | z | z⟩ <;> rw [z]
  · exact Or.inr (Or.inl (by decide))
  · exact Or.inr (Or.inl (by decide))
  · exact Or.inr (Or.inr (Or.inl (by decide)))
  · exact Or.inr (Or.inr (Or.inr (Or.inl (by decide))))
  · exact Or.inr (Or.inr (Or.inr (Or.inl (by decide))))
  · exact Or.inr (Or.inr (Or.inr (Or.inl (by decide))))
  · exact Or.inr (Or.inr (Or.inr (Or.inl (by decide))))
/-- a state's divisor as a number above 0 -/
def dvN9 (κ : zS) (x k : Nat) : Nat := if (dvA κ x k).toInt ≤ 1 then 1 else (dvA κ x k).toInt.toNat
theorem dvN9_p {κ : zS} {x k : Nat} : 0 < dvN9 κ x k := by
  unfold dvN9
  split <;> omega
/-- the fraction at a place -/
def vU9 (κ : zS) (a k : Nat) : Nat := (zQ κ (zR κ soVisits a) k).getD 0
/-- divides, or is 0 -/
def dz9 (b P : Nat) : Prop := b = 0 ∨ b ∣ P
theorem dz9_le {b P : Nat} (h : dz9 b P) (hP : 0 < P) : b ≤ P := by
  rcases h with h | h
  · omega
  · exact Nat.le_of_dvd hP h
theorem dz9_of {b c P : Nat} (h : dz9 c P) (d : b ∣ c) (l : b ≤ c) : dz9 b P := by
  rcases h with h | h
  · left; omega
  · exact Or.inr (Nat.dvd_trans d h)
theorem dz9_mul {b P d : Nat} (h : dz9 b P) : dz9 (b * d) (P * d) := by
  rcases h with h | h
  · left; rw [h, Nat.zero_mul]
  · exact Or.inr (Nat.mul_dvd_mul h (Nat.dvd_refl d))
theorem dz9_m {b P P' : Nat} (h : dz9 b P) (d : P ∣ P') : dz9 b P' := by
  rcases h with h | h
  · exact Or.inl h
  · exact Or.inr (Nat.dvd_trans h d)
theorem dz9_lcm {a b P : Nat} (h : dz9 a P) (g : dz9 b P) : dz9 (Nat.lcm a b) P := by
  rcases h with h | h
  · left; rw [h, Nat.lcm_zero_left]
  · rcases g with g | g
    · left; rw [g, Nat.lcm_zero_right]
    · exact Or.inr (Nat.lcm_dvd h g)
theorem dz9_div {w g P : Nat} (h : dz9 w P) (d : g ∣ w) : dz9 (w / g) P := by
  rcases h with h | h
  · left; rw [h, Nat.zero_div]
  · exact Or.inr (Nat.dvd_trans (Nat.div_dvd_of_dvd d) h)
/-- visits in order -/
def vsK9 (κ : zS) (u d P : Nat) : Prop := zI κ raSign u ≠ 0 → nuN κ (zR κ raTop u) < 2 ^ 256 ∧ nuN κ (zR κ raBottom u) < 2 ^ 256 ∧ dz9 (nuN κ (zR κ raBottom u) * d) P
def vsI9 (ρ : Nat → Nat) (κ : zS) (a n P : Nat) : Prop := ∀ k, k < n → zQ κ (zR κ soVisits a) k = some (vU9 κ a k) ∧ ρ (vU9 κ a k) = 100 + 8 * k ∧ vsK9 κ (vU9 κ a k) (dvN9 κ (zR κ soAtlas a) k) P
theorem soF_r9 {ρ : Nat → Nat} {R : Nat → Prop} {ca f b : Nat} {κ τ : zS} (Z : zF (soF ρ R ca) κ τ) (h : f ≠ nuLimbs ∧ f ≠ nuLength ∧ f ≠ raSign ∧ f ≠ caRest ∧ f ≠ caX ∧ f ≠ caY ∧ f ≠ caFactors) : zR τ f b = zR κ f b ∧ zI τ f b = zI κ f b := by
  have n : ¬ soF ρ R ca f b := fun z => by
    rcases z with ⟨_, z | z | z⟩ | ⟨_, z | z | z | z⟩
    · exact h.1 z
    · exact h.2.1 z
    · exact h.2.2.1 z
    · exact h.2.2.2.1 z
    · exact h.2.2.2.2.1 z
    · exact h.2.2.2.2.2.1 z
    · exact h.2.2.2.2.2.2 z
  exact ⟨Z.r n, Z.i n⟩
theorem soF_ra {ρ : Nat → Nat} {R : Nat → Prop} {ca b f : Nat} (h : f = raTop ∨ f = raBottom) : ¬ soF ρ R ca f b := fun z => by
  rcases z with ⟨_, z | z | z⟩ | ⟨_, z | z | z | z⟩ <;> (rw [z] at h; exact absurd h (by decide))
theorem soF_sg {ρ : Nat → Nat} {R : Nat → Prop} {ca b : Nat} (h : ¬ R (ρ b)) : ¬ soF ρ R ca raSign b := fun z => by
  rcases z with ⟨z, _⟩ | ⟨_, z | z | z | z⟩
  · exact h z
  · exact absurd z (by decide)
  · exact absurd z (by decide)
  · exact absurd z (by decide)
  · exact absurd z (by decide)
/-- a fraction that a frame leaves alone -/
theorem ra_f9 {C : zC} {n0 u r ca : Nat} {ρ : Nat → Nat} {R : Nat → Prop} {κ τ : zS} (W : zW C n0 κ) (N : nmI ρ κ) (Z : zF (soF ρ R ca) κ τ) (hu : ρ u = r) (hr : raR r) (h : ¬ R r ∧ ¬ R (r + 1) ∧ ¬ R (r + 2)) : zI τ raSign u = zI κ raSign u ∧ (zR τ raTop u = zR κ raTop u ∧ zR τ raBottom u = zR κ raBottom u) ∧ nuN τ (zR κ raTop u) = nuN κ (zR κ raTop u) ∧ nuN τ (zR κ raBottom u) = nuN κ (zR κ raBottom u) := by
  have P := N.2 u (by rw [hu]; exact hr)
  have b1 := soF_B (c := 0) W (ty_raTop W P.1) Z (by rw [P.2.1, hu]; exact h.2.1)
  have b2 := soF_B (c := 0) W (ty_raBottom W P.1) Z (by rw [P.2.2, hu]; exact h.2.2)
  exact ⟨Z.i (soF_sg (by rw [hu]; exact h.1)), ⟨Z.r (soF_ra (Or.inl rfl)), Z.r (soF_ra (Or.inr rfl))⟩, b1.2.1, b2.2.1⟩
theorem vU9_f {C : zC} {n0 a ca : Nat} {ρ : Nat → Nat} {R : Nat → Prop} {κ τ : zS} (W : zW C n0 κ) (Ta : zT κ a = 12) (Z : zF (soF ρ R ca) κ τ) : zQ τ (zR τ soVisits a) = zQ κ (zR κ soVisits a) ∧ ∀ k, vU9 τ a k = vU9 κ a k := by
  have T9 : zT κ a = 11 + 1 := Ta
  have e3 := (Z.row W (f := soVisits) (t := 25) (by decide +kernel) (by decide) Ta (frS9_n W soF_fr T9 (by decide))).2.2
  exact ⟨e3, fun k => by unfold vU9; rw [e3]⟩
theorem vsK9_f {C : zC} {n0 u r d P ca : Nat} {ρ : Nat → Nat} {R : Nat → Prop} {κ τ : zS} (W : zW C n0 κ) (N : nmI ρ κ) (Z : zF (soF ρ R ca) κ τ) (hu : ρ u = r) (hr : raR r) (h : ¬ R r ∧ ¬ R (r + 1) ∧ ¬ R (r + 2)) (V : vsK9 κ u d P) : vsK9 τ u d P := by
  have q := ra_f9 W N Z hu hr h
  unfold vsK9
  rw [q.1, q.2.1.1, q.2.1.2, q.2.2.1, q.2.2.2]
  exact V
theorem vs_r9 {k : Nat} (h : k < 1000) : raR (100 + 8 * k) := Or.inr (Or.inr ⟨by omega, by omega, by omega⟩)
theorem vsI9_f {C : zC} {n0 a n P ca : Nat} {ρ : Nat → Nat} {R : Nat → Prop} {κ τ : zS} (W : zW C n0 κ) (Ta : zT κ a = 12) (N : nmI ρ κ) (Z : zF (soF ρ R ca) κ τ) (hn : n ≤ 1000) (hR : ∀ r, 100 ≤ r → ¬ R r) (V : vsI9 ρ κ a n P) : vsI9 ρ τ a n P := fun k hk => by
  obtain ⟨h1, h2, h3⟩ := V k hk
  have e2 : zR τ soAtlas a = zR κ soAtlas a := Z.r (frS9_n W soF_fr Ta (by decide))
  obtain ⟨e3, e4⟩ := vU9_f W Ta Z
  have d := dvA_f9 W soF_fr Z (ty_soAtlas W Ta) k
  rw [e3, e4]
  refine ⟨h1, h2, ?_⟩
  unfold dvN9
  rw [e2, d]
  exact vsK9_f W N Z h2 (vs_r9 (by omega)) ⟨hR _ (by omega), hR _ (by omega), hR _ (by omega)⟩ h3
/-- a link that leads back -/
theorem bk_g9 {κ : zS} {a n t : Nat} {b : Int32} (X : svX9 κ a n) (ht : t < n) (h1 : (zA κ (zR κ weBackFirsts (zR κ soWeb a)) t).toInt ≤ b.toInt) (h2 : b.toInt < (zA κ (zR κ weBackFirsts (zR κ soWeb a)) (t + 1)).toInt) : (0 ≤ b.toInt ∧ b.toInt < (zN κ (zR κ weSources (zR κ soWeb a))) ∧ b.toInt < (zN κ (zR κ weEdges (zR κ soWeb a))) ∧ b.toInt < 20000) ∧ gdE (lkD κ (zR κ soAtlas a) 1) (zA κ (zR κ atFirsts (zR κ soAtlas a))) n t (zA κ (zR κ weSources (zR κ soWeb a)) b.toNatClampNeg) (zA κ (zR κ weEdges (zR κ soWeb a)) b.toNatClampNeg) := by
  obtain ⟨⟨⟨M, L⟩, _, _, B, E⟩, _⟩ := X
  have d : d01 (lkD κ (zR κ soAtlas a) 1) := fun _ _ _ => lkD_01
  have m0 := bkB_m d B (s := 0) (t := t) (Nat.zero_le _) (Nat.le_of_lt ht)
  have m1 := bkB_m d B (s := t + 1) (t := n) ht (Nat.le_refl n)
  have b0 := B.1
  have bn := B.2.2
  obtain ⟨⟨l1, l2⟩, l3, l4⟩ := L
  have p0 : 0 ≤ b.toInt := by omega
  have c := cnk p0
  refine ⟨⟨p0, by rw [l1]; omega, by rw [l2]; omega, by omega⟩, ?_⟩
  exact E t ht _ (by rw [c]; exact h1) (by rw [c]; exact h2)
/-- the rows of links behind a state -/
theorem bk_r9 {κ : zS} {a n t : Nat} (X : svX9 κ a n) (ht : t < n) : ((zN κ (zR κ weBackFirsts (zR κ soWeb a))) = 1001 ∧ (zN κ (zR κ weKnotOf (zR κ soWeb a))) = 1000 ∧ n ≤ 1000) ∧ 0 ≤ (zA κ (zR κ weBackFirsts (zR κ soWeb a)) t).toInt ∧ (zA κ (zR κ weBackFirsts (zR κ soWeb a)) t).toInt ≤ (zA κ (zR κ weBackFirsts (zR κ soWeb a)) (t + 1)).toInt ∧ (zA κ (zR κ weBackFirsts (zR κ soWeb a)) (t + 1)).toInt ≤ 20000 := by
  obtain ⟨⟨⟨M, L⟩, ⟨_, hn⟩, _, B, E⟩, _⟩ := X
  have d : d01 (lkD κ (zR κ soAtlas a) 1) := fun _ _ _ => lkD_01
  have m0 := bkB_m d B (s := 0) (t := t) (Nat.zero_le _) (Nat.le_of_lt ht)
  have m2 := bkB_m d B (s := t) (t := t + 1) (Nat.le_succ _) ht
  have m1 := bkB_m d B (s := t + 1) (t := n) ht (Nat.le_refl n)
  have b0 := B.1
  have bn := B.2.2
  have l4 := L.2.2
  exact ⟨⟨M.2.1, M.2.2.2.2.1, hn⟩, by omega, m2, by omega⟩
theorem So_comesIn_c {C : zC} {n0 : Nat} {a0 : Nat} {a1 : Int32} {a2 : Int32} {κ : zS} {Q : Int32 → zS → Prop} (W : zW C n0 κ) (Ta0 : zT κ a0 = 12) (ρ : Nat → Nat) (m9 P9 : Nat) (hp : svX9 κ a0 m9 ∧ vsI9 ρ κ a0 m9 P9 ∧ (0 ≤ a2.toInt ∧ a2.toInt < m9) ∧ (zA κ (zR κ weBackFirsts (zR κ soWeb a0)) a2.toNatClampNeg).toInt ≤ a1.toInt ∧ a1.toInt < (zA κ (zR κ weBackFirsts (zR κ soWeb a0)) (a2.toNatClampNeg + 1)).toInt) (h : ∀ (v : Int32), (nb v ∧ (v ≠ 0 → zI κ raSign (vU9 κ a0 (zA κ (zR κ weSources (zR κ soWeb a0)) a1.toNatClampNeg).toNatClampNeg) ≠ 0 ∧ (zA κ (zR κ weSources (zR κ soWeb a0)) a1.toNatClampNeg).toNatClampNeg ≠ a2.toNatClampNeg)) → Q v κ) : zRun C 0 mSo_comesIn [.ref a0, .int a1, .int a2] κ (oI Q noX) := by
  refine So_comesIn_run W Ta0 ?_
  replace W := W.lo (Nat.le_trans W.1.2.1 W.1.2.2) (Nat.le_refl (zn κ))
  unfold w_So_comesIn_0
  obtain ⟨X0, V0, p1, p2, p3⟩ := hp
  have kn := cnk p1.1
  have g := bk_g9 X0 (t := a2.toNatClampNeg) (by omega) p2 p3
  have r := bk_r9 X0 (t := a2.toNatClampNeg) (by omega)
  obtain ⟨⟨g1, g2, g3, g4⟩, ⟨s1, s2⟩, _, _⟩ := g
  have ks := cnk s1
  have xv := X0.2.2.2
  obtain ⟨h1, h2, h3⟩ := V0 _ (show (zA κ (zR κ weSources (zR κ soWeb a0)) a1.toNatClampNeg).toNatClampNeg < m9 by omega)
  refine ⟨?_, ?_⟩
  · rw [inb_iff]; exact ⟨g1, g2⟩  -- b1
  intro x1 hx1
  rw [← hx1] at s1 s2 ks h1 h2 h3
  refine ⟨?_, ?_⟩
  · rw [inb_iff]; omega  -- b2
  refine ⟨?_, ?_⟩
  · rw [inb_iff]; omega  -- b3
  refine ⟨fun c2 => ?_, fun c2 => ?_⟩
  · skip
    refine h _ ?_
    · exact ⟨Or.inl rfl, fun z => absurd rfl z⟩  -- q4
  · skip
    refine ⟨?_, ?_⟩
    · rw [inb_iff]; omega  -- b5
    refine ex_some ?_ (fun u3 hu3 => ?_)
    · exact ⟨_, h1⟩  -- e6
    refine ⟨fun c4 => ?_, fun c4 => ?_⟩
    · skip
      refine h _ ?_
      · exact ⟨Or.inl rfl, fun z => absurd rfl z⟩  -- q7
    · skip
      refine h _ ?_
      · refine ⟨Or.inr rfl, fun _ => ?_⟩
        have eu := Option.some.inj (hu3.symm.trans h1)
        rw [← hx1, ← eu]
        exact ⟨c4, fun e => c2 (by rw [e])⟩

def jiR9 : Nat → Prop := fun r => unR9 r ∨ jnR9 r
theorem jiR9_l : ∀ r, 100 ≤ r → ¬ jiR9 r := fun r h z => by
  rcases z with (z | z | z) | (z | z | z) <;> omega
/-- what a unit's bottom divides -/
theorem un_b9 {b B d P : Nat} (h : b ∣ B * d ∧ b ≤ B * d) (hP : dz9 (B * d) P) (hB : B < 2 ^ 256) (d1 : d < 2147483648) : dz9 b P ∧ b < pB9 100 := by
  refine ⟨dz9_of hP h.1 h.2, ?_⟩
  have l := h.2
  have l2 : B * d < 2 ^ 256 * 2147483648 := Nat.mul_lt_mul'' hB d1
  have l3 : 2 ^ 256 * 2147483648 ≤ pB9 100 := by unfold pB9; decide
  omega
theorem dvN9_l {κ : zS} {x k : Nat} : dvN9 κ x k < 2147483648 := by
  unfold dvN9
  have h := ihi (dvA κ x k)
  split <;> omega
theorem So_joinInflow_c {C : zC} {n0 : Nat} {a0 : Nat} {a1 : Int32} {κ : zS} {Q : zS → Prop} (W : zW C n0 κ) (Ta0 : zT κ a0 = 12) (ρ : Nat → Nat) (m9 P9 : Nat) (hp : (nmI ρ κ ∧ soI ρ κ a0) ∧ svX9 κ a0 m9 ∧ vsI9 ρ κ a0 m9 P9 ∧ (0 ≤ a1.toInt ∧ a1.toInt < m9) ∧ dz9 (nuN κ (zR κ soWhole a0)) P9 ∧ 0 < P9 ∧ P9 < pB9 2000) (h : ∀ (κ' : zS), (zF (soF ρ jiR9 (zR κ soCalc a0)) κ κ' ∧ (nmI ρ κ' ∧ soI ρ κ' a0) ∧ dz9 (nuN κ' (zR κ soWhole a0)) P9) → Q κ') : zRun C 6 mSo_joinInflow [.ref a0, .int a1] κ (oV Q noX) := by
  refine So_joinInflow_run W Ta0 ?_
  replace W := W.lo (Nat.le_trans W.1.2.1 W.1.2.2) (Nat.le_refl (zn κ))
  unfold w_So_joinInflow_0
  obtain ⟨⟨N0, S0⟩, X0, V0, p1, p2, p3, p4⟩ := hp
  have kn := cnk p1.1
  have r0 := bk_r9 X0 (t := a1.toNatClampNeg) (by omega)
  refine ⟨?_, ?_⟩
  · rw [inb_iff]; omega  -- b1
  intro x1 hx1
  unfold w_So_joinInflow_10
  refine ⟨fun n l0 l1 l2 τ => n = ((zA κ (zR κ weBackFirsts (zR κ soWeb a0)) (a1.toNatClampNeg + 1)).toInt - l2.toInt).toNat ∧ (a0 = l0 ∧ a1 = l1 ∧ (zF (soF ρ jiR9 (zR κ soCalc a0)) κ τ ∧ (nmI ρ τ ∧ soI ρ τ a0)) ∧ dz9 (nuN τ (zR κ soWhole a0)) P9 ∧ (zA κ (zR κ weBackFirsts (zR κ soWeb a0)) a1.toNatClampNeg).toInt ≤ l2.toInt), ⟨_, rfl, ?_⟩, ?_⟩
  · exact ⟨rfl, rfl, ⟨zF.rf, N0, S0⟩, p2, by rw [hx1]; exact Int.le_refl _⟩  -- j2
  rintro n10 _ _ x10_2 κ10 W10 T10_0 ⟨hn10, rfl, rfl, i10⟩
  obtain ⟨⟨Z1, N1, S1⟩, D1, l1⟩ := i10
  have X1 := svX9_f W Ta0 soF_fr Z1 X0
  have V1 := vsI9_f W Ta0 N0 Z1 r0.1.2.2 jiR9_l V0
  have eb : zA κ10 (zR κ10 weBackFirsts (zR κ10 soWeb a0)) = zA κ (zR κ weBackFirsts (zR κ soWeb a0)) := by rw [X1.2.1]; exact (we_f9 W soF_fr Z1 (ty_soWeb W Ta0) (f := weBackFirsts) (by decide)).2.1
  have r1 := bk_r9 X1.1 (t := a1.toNatClampNeg) (by omega)
  have i1 := cn1 p1.1 (by omega)
  have ec1 : zR κ10 soCalc a0 = (zR κ soCalc a0) := (soF_r9 Z1 (by decide)).1
  have ew1 : zR κ10 soWhole a0 = (zR κ soWhole a0) := (soF_r9 Z1 (by decide)).1
  refine ⟨?_, ?_⟩
  · rw [inb_iff, i1.2]; omega  -- b3
  refine ⟨fun c2 => ?_, fun c2 => ?_⟩
  · skip
    refine h _ ?_
    · exact ⟨Z1, ⟨N1, S1⟩, D1⟩  -- q4
  · skip
    intro T3
    rw [i1.1, eb, lei] at c2
    have ix := cn1 (x := x10_2) (by omega) (by omega)
    have g1 := bk_g9 X1.1 (t := a1.toNatClampNeg) (b := x10_2) (by omega) (by rw [eb]; exact l1) (by rw [eb]; omega)
    refine So_comesIn_c W10 T3 ρ m9 P9 ?_ (fun r4 q6 => ?_)
    · exact ⟨X1.1, V1, p1, by rw [eb]; exact l1, by rw [eb]; omega⟩  -- p5
    intro W7
    intro M8
    refine ⟨fun c9 => ?_, fun c9 => ?_⟩
    · skip
      intro x10 hx10
      refine ⟨_, ?_, rfl, ?_⟩
      · rw [hn10, hx10, ix.2]; omega  -- d6
      · exact ⟨rfl, rfl, ⟨Z1, N1, S1⟩, D1, by rw [hx10, ix.2]; omega⟩  -- i7
    · skip
      refine ⟨?_, ?_⟩
      · rw [inb_iff]; exact ⟨g1.1.1, g1.1.2.1⟩  -- b8
      intro T11
      have ks := cnk g1.2.1.1
      have gs := g1.2.1
      have xv := X1.1.2.2.2
      obtain ⟨v1, v2, v3⟩ := V1 _ (show (zA κ10 (zR κ10 weSources (zR κ10 soWeb a0)) x10_2.toNatClampNeg).toNatClampNeg < m9 by omega)
      obtain ⟨v5, v6, v7⟩ := v3 (q6.2 c9).1
      refine So_unit_c2 W7 T11 ρ (vU9 κ10 a0 (zA κ10 (zR κ10 weSources (zR κ10 soWeb a0)) x10_2.toNatClampNeg).toNatClampNeg) ?_ (fun κ_12 q13 => ?_)
      · exact ⟨⟨N1, S1⟩, X1.1.2.2.1.1, ⟨g1.2.1.1, by omega, by omega⟩, ⟨v1, v2⟩, v5, v6⟩  -- p9
      obtain ⟨⟨Zu, Nu, Su⟩, _, _, bd⟩ := q13
      have hb := un_b9 bd v7 v6 dvN9_l
      have P2 := Nu.2 (zR κ_12 soPart a0) (by rw [Su.1.2.2.2.2.2.2]; exact Or.inl rfl)
      have h22 : ρ (zR κ_12 raBottom (zR κ_12 soPart a0)) = 22 := by rw [P2.2.2, Su.1.2.2.2.2.2.2]
      have eb2 : zR κ_12 raBottom (zR κ_12 soPart a0) = zR κ10 raBottom (zR κ10 soPart a0) := by rw [(soF_r9 Zu (f := soPart) (by decide)).1, (soF_r9 Zu (f := raBottom) (by decide)).1]
      have ew2 : zR κ_12 soWhole a0 = (zR κ soWhole a0) := (soF_r9 Zu (by decide)).1.trans ew1
      have ec2 : zR κ_12 soCalc a0 = (zR κ soCalc a0) := (soF_r9 Zu (by decide)).1.trans ec1
      have bw := soF_B (c := 0) W10 (w := (zR κ soWhole a0)) (by rw [← ew1]; exact ty_soWhole W10 T10_0) Zu (by rw [S0.1.1]; unfold unR9; decide)
      have lw : nuN κ_12 (zR κ soWhole a0) < pB9 2000 := by
        rw [bw.2.1]
        exact Nat.lt_of_le_of_lt (dz9_le D1 p3) p4
      intro W14
      intro M15
      intro T16
      intro T17
      intro T18
      refine Ca_join_c W14 T16 T17 T18 6500 2000 6500 6500 ?_ (fun κ_19 q20 => ?_)
      · exact jn_p Nu Su h22 (Or.inr (Or.inr (Or.inl rfl))) (by decide) (by rw [ew2]; exact lw) (by rw [eb2]; exact hb.2)  -- p10
      intro W21
      intro M22
      intro x23 hx23
      have J := jn_q W14 Nu Su q20
      have Vj := q20.2.2.2
      rw [ew2, eb2] at Vj
      rw [ec2] at J
      rw [ec1] at Zu
      have Zf : zF (soF ρ jiR9 (zR κ soCalc a0)) κ κ_19 := (Z1.tr (soF_m (fun r z => Or.inl z) Zu)).tr (soF_m (fun r z => Or.inr z) J.2.1)
      refine ⟨_, ?_, rfl, ?_⟩
      · rw [hn10, hx23, ix.2]; omega  -- d11
      · refine ⟨rfl, rfl, ⟨Zf, J.1⟩, ?_, by rw [hx23, ix.2]; omega⟩
        rw [Vj, bw.2.1]
        exact dz9_lcm D1 hb.1
