set_option maxHeartbeats 1600000
/-! the class: what all numbers may hold -/
theorem fam_b9 {N n c B : Nat} {P : Nat → Bool} {x : Nat → Nat} {s : Nat → Bool} {g : Nat → Nat} (h : ∀ i, i < n → s i = true → P (x i) = true ∧ x i < N) (inj : ∀ i j, i < j → j < n → s i = true → s j = true → x i ≠ x j) (cnt : zSum n (fun i => if s i = true then 1 else 0) = c) (bd : zSum n (fun i => if s i = true then g (x i) else 0) ≤ B) : fS9 N P (fun _ => 1) = c + fS9 N (rmF9 P x s n) (fun _ => 1) ∧ fS9 N P g ≤ B + fS9 N (rmF9 P x s n) g := by
  have c1 := fam_9 (N := N) (P := P) (x := x) (s := s) (g := fun _ => 1) h inj
  have c2 := fam_9 (N := N) (P := P) (x := x) (s := s) (g := g) h inj
  rw [cnt] at c1
  exact ⟨c1, by omega⟩
theorem rm_t9 {n b : Nat} {P : Nat → Bool} {x : Nat → Nat} {s : Nat → Bool} (h : P b = true) (hn : ∀ i, i < n → s i = true → x i ≠ b) : rmF9 P x s n b = true := by
  show (P b && !(inF9 x s n b)) = true
  rw [h, inF_n9 hn]
  rfl
theorem nn_f9 {κ : zS} {x : Nat} : zSum (zN κ x) (fun i => if (zQ κ x i).isSome = true then 1 else 0) = nn9 κ x := by
  unfold nn9
  refine zSum_eq (fun i _ => ?_)
  cases e : zQ κ x i with
  | none => rfl
  | some u => rfl
theorem zSum_b9 {n c : Nat} {s : Nat → Bool} {g x : Nat → Nat} (h : ∀ i, i < n → s i = true → g (x i) ≤ c) : zSum n (fun i => if s i = true then g (x i) else 0) ≤ n * c := zSum_c9 (fun i hi => by
  show (if s i = true then g (x i) else 0) ≤ c
  by_cases e : s i = true
  · rw [if_pos e]; exact h i hi e
  · rw [if_neg e]; exact Nat.zero_le _)
def fiv9 (p q r t u : Nat) : Nat → Nat := fun i => if i = 0 then p else if i = 1 then q else if i = 2 then r else if i = 3 then t else u
def rl29 : List Nat := [1, 4, 5, 6, 7, 8, 9, 15, 21, 22, 31, 32]
/-- all numbers, by their roles -/
theorem nu_sum9 {C : zC} {n0 a : Nat} {L : Int} {ρ : Nat → Nat} {κ : zS} {g G : Nat → Nat} (W : zW C n0 κ) (T : zT κ a = 15) (I : chI9 ρ κ a L) {Bc : Nat} (hc : zSum 1056 (fun i => G (capR (1000000 + i))) ≤ Bc) (hg : ∀ b, zT κ b = 8 → nmR (ρ b) → g b ≤ G (capR (ρ b))) : fS9 (zn κ) (fun b => decide (zT κ b = 8)) g ≤ 5 * G 6500 + 12 * G 6500 + Bc + 31 * G 3000 + 1000 * G 20 + 1000 * G 20 + 1000 * G 20 + 1000 * G 20 := by
  have lt : ∀ x, zT κ x ≠ 0 → x < zn κ := fun x h => (W.2.1 x h).2
  have lt8 : ∀ x, zT κ x = 8 → x < zn κ := fun x h => lt x (by rw [h]; decide)
  have tS := ty_chSolver W T
  have tO := ty_chOdds W T
  have tc := ty_soCalc W tS
  have tp := ty_soPart W tS
  have th := ty_chShown W T
  obtain ⟨_, _, ⟨⟨⟨N, ⟨i1, i2, i3, i4, i5, i6, i7⟩, ⟨cn, _⟩, i10, i11⟩, K, Lc, ⟨v1, v2⟩, ⟨w1, w2⟩, _, _⟩, _, _, hh⟩, _, ⟨_, d2, ⟨d3, _⟩, _, d6, _⟩, _, _, kk⟩ := I
  have pp := N.2 _ (show raR (ρ (zR κ soPart (zR κ chSolver a))) by rw [i7]; exact Or.inl rfl)
  have ps := N.2 _ (show raR (ρ (zR κ chShown a)) by rw [hh]; exact Or.inr (Or.inl rfl))
  rw [i7] at pp
  rw [hh] at ps
  -- the Calc's five
  have t1 : ∀ i, i < 5 → zT κ (fiv9 (zR κ caQuotient (zR κ soCalc (zR κ chSolver a))) (zR κ caRest (zR κ soCalc (zR κ chSolver a))) (zR κ caDivisor (zR κ soCalc (zR κ chSolver a))) (zR κ caX (zR κ soCalc (zR κ chSolver a))) (zR κ caY (zR κ soCalc (zR κ chSolver a))) i) = 8 ∧ ρ (fiv9 (zR κ caQuotient (zR κ soCalc (zR κ chSolver a))) (zR κ caRest (zR κ soCalc (zR κ chSolver a))) (zR κ caDivisor (zR κ soCalc (zR κ chSolver a))) (zR κ caX (zR κ soCalc (zR κ chSolver a))) (zR κ caY (zR κ soCalc (zR κ chSolver a))) i) = 10 := fun i hi => by
    have e : i = 0 ∨ i = 1 ∨ i = 2 ∨ i = 3 ∨ i = 4 := by omega
    rcases e with rfl | rfl | rfl | rfl | rfl
    · exact ⟨ty_caQuotient W tc, i10 _ (Or.inl rfl)⟩
    · exact ⟨ty_caRest W tc, i10 _ (Or.inr (Or.inl rfl))⟩
    · exact ⟨ty_caDivisor W tc, i10 _ (Or.inr (Or.inr (Or.inl rfl)))⟩
    · exact ⟨ty_caX W tc, i10 _ (Or.inr (Or.inr (Or.inr (Or.inl rfl))))⟩
    · exact ⟨ty_caY W tc, i10 _ (Or.inr (Or.inr (Or.inr (Or.inr rfl))))⟩
  have j1 : ∀ i j, i < j → j < 5 → fiv9 (zR κ caQuotient (zR κ soCalc (zR κ chSolver a))) (zR κ caRest (zR κ soCalc (zR κ chSolver a))) (zR κ caDivisor (zR κ soCalc (zR κ chSolver a))) (zR κ caX (zR κ soCalc (zR κ chSolver a))) (zR κ caY (zR κ soCalc (zR κ chSolver a))) i ≠ fiv9 (zR κ caQuotient (zR κ soCalc (zR κ chSolver a))) (zR κ caRest (zR κ soCalc (zR κ chSolver a))) (zR κ caDivisor (zR κ soCalc (zR κ chSolver a))) (zR κ caX (zR κ soCalc (zR κ chSolver a))) (zR κ caY (zR κ soCalc (zR κ chSolver a))) j := fun i j hij hj => by
    obtain ⟨⟨m1, m2, m3⟩, ⟨m4, m5, m6⟩, ⟨m7, m8, m9⟩, m0⟩ := cn
    have e : (i = 0 ∧ j = 1) ∨ (i = 0 ∧ j = 2) ∨ (i = 0 ∧ j = 3) ∨ (i = 0 ∧ j = 4) ∨ (i = 1 ∧ j = 2) ∨ (i = 1 ∧ j = 3) ∨ (i = 1 ∧ j = 4) ∨ (i = 2 ∧ j = 3) ∨ (i = 2 ∧ j = 4) ∨ (i = 3 ∧ j = 4) := by omega
    rcases e with ⟨rfl, rfl⟩ | ⟨rfl, rfl⟩ | ⟨rfl, rfl⟩ | ⟨rfl, rfl⟩ | ⟨rfl, rfl⟩ | ⟨rfl, rfl⟩ | ⟨rfl, rfl⟩ | ⟨rfl, rfl⟩ | ⟨rfl, rfl⟩ | ⟨rfl, rfl⟩
    · exact m1
    · exact m2
    · exact m4.symm
    · exact m7.symm
    · exact m3
    · exact m5.symm
    · exact m8.symm
    · exact m6.symm
    · exact m9.symm
    · exact m0
  generalize fiv9 (zR κ caQuotient (zR κ soCalc (zR κ chSolver a))) (zR κ caRest (zR κ soCalc (zR κ chSolver a))) (zR κ caDivisor (zR κ soCalc (zR κ chSolver a))) (zR κ caX (zR κ soCalc (zR κ chSolver a))) (zR κ caY (zR κ soCalc (zR κ chSolver a))) = xfv at t1 j1
  -- the other twelve
  have t2 : ∀ i, i < 12 → zT κ ([zR κ soWhole (zR κ chSolver a), zR κ soFactor (zR κ chSolver a), zR κ soScaled (zR κ chSolver a), zR κ soTerm (zR κ chSolver a), zR κ soSum (zR κ chSolver a), zR κ soLess (zR κ chSolver a), zR κ caSpare (zR κ soCalc (zR κ chSolver a)), zR κ odHeld (zR κ chOdds a), zR κ raTop (zR κ soPart (zR κ chSolver a)), zR κ raBottom (zR κ soPart (zR κ chSolver a)), zR κ raTop (zR κ chShown a), zR κ raBottom (zR κ chShown a)].getD i 0) = 8 ∧ ρ ([zR κ soWhole (zR κ chSolver a), zR κ soFactor (zR κ chSolver a), zR κ soScaled (zR κ chSolver a), zR κ soTerm (zR κ chSolver a), zR κ soSum (zR κ chSolver a), zR κ soLess (zR κ chSolver a), zR κ caSpare (zR κ soCalc (zR κ chSolver a)), zR κ odHeld (zR κ chOdds a), zR κ raTop (zR κ soPart (zR κ chSolver a)), zR κ raBottom (zR κ soPart (zR κ chSolver a)), zR κ raTop (zR κ chShown a), zR κ raBottom (zR κ chShown a)].getD i 0) = rl29.getD i 0 := fun i hi => by
    have e : i = 0 ∨ i = 1 ∨ i = 2 ∨ i = 3 ∨ i = 4 ∨ i = 5 ∨ i = 6 ∨ i = 7 ∨ i = 8 ∨ i = 9 ∨ i = 10 ∨ i = 11 := by omega
    rcases e with rfl | rfl | rfl | rfl | rfl | rfl | rfl | rfl | rfl | rfl | rfl | rfl
    · exact ⟨ty_soWhole W tS, i1⟩
    · exact ⟨ty_soFactor W tS, i2⟩
    · exact ⟨ty_soScaled W tS, i3⟩
    · exact ⟨ty_soTerm W tS, i4⟩
    · exact ⟨ty_soSum W tS, i5⟩
    · exact ⟨ty_soLess W tS, i6⟩
    · exact ⟨ty_caSpare W tc, i11⟩
    · exact ⟨ty_odHeld W tO, d2⟩
    · exact ⟨ty_raTop W tp, pp.2.1⟩
    · exact ⟨ty_raBottom W tp, pp.2.2⟩
    · exact ⟨ty_raTop W th, ps.2.1⟩
    · exact ⟨ty_raBottom W th, ps.2.2⟩
  generalize [zR κ soWhole (zR κ chSolver a), zR κ soFactor (zR κ chSolver a), zR κ soScaled (zR κ chSolver a), zR κ soTerm (zR κ chSolver a), zR κ soSum (zR κ chSolver a), zR κ soLess (zR κ chSolver a), zR κ caSpare (zR κ soCalc (zR κ chSolver a)), zR κ odHeld (zR κ chOdds a), zR κ raTop (zR κ soPart (zR κ chSolver a)), zR κ raBottom (zR κ soPart (zR κ chSolver a)), zR κ raTop (zR κ chShown a), zR κ raBottom (zR κ chShown a)] = l2 at t2
  have q2 : ∀ i, i < 12 → rl29.getD i 0 < 100 ∧ rl29.getD i 0 ≠ 10 ∧ 1 ≤ rl29.getD i 0 := by decide
  have j2 : ∀ i, i < 12 → ∀ j, j < 12 → i < j → rl29.getD i 0 ≠ rl29.getD j 0 := by decide
  -- rows
  have rc : ∀ i, i < zN κ (zR κ soCells (zR κ chSolver a)) → (zQ κ (zR κ soCells (zR κ chSolver a)) i).isSome = true → zT κ ((zQ κ (zR κ soCells (zR κ chSolver a)) i).getD 0) = 8 ∧ ρ ((zQ κ (zR κ soCells (zR κ chSolver a)) i).getD 0) = 1000000 + i ∧ i < 1056 := fun i hi hs => by
    have li : i < 1056 := by omega
    cases e : zQ κ (zR κ soCells (zR κ chSolver a)) i with
    | none => rw [e] at hs; cases hs
    | some u => exact ⟨W.2.2.2.1 _ _ _ (ty_soCells W tS) e, K i u li e, li⟩
  have ne31 : zN κ (zR κ odEdges (zR κ chOdds a)) ≤ 31 := by
    rcases d3 with y | y
    · have z := y.2.2.2.2.2.2; omega
    · have z := y.2.2.2.2.2.2; omega
  have re : ∀ i, i < zN κ (zR κ odEdges (zR κ chOdds a)) → (zQ κ (zR κ odEdges (zR κ chOdds a)) i).isSome = true → zT κ ((zQ κ (zR κ odEdges (zR κ chOdds a)) i).getD 0) = 8 ∧ ρ ((zQ κ (zR κ odEdges (zR κ chOdds a)) i).getD 0) = 2000000 + i := fun i hi hs => by
    have li : i < 31 := by omega
    cases e : zQ κ (zR κ odEdges (zR κ chOdds a)) i with
    | none => rw [e] at hs; cases hs
    | some u => exact ⟨W.2.2.2.1 _ _ _ (ty_odEdges W tO) e, d6 i u li e⟩
  have ra : ∀ (row m : Nat), zT κ row = 25 → (m = 100 ∨ m = 104) → (∀ j u, j < 1000 → zQ κ row j = some u → ρ u = m + 8 * j) → zN κ row ≤ 1000 → ∀ i, i < zN κ row → (zQ κ row i).isSome = true → (zT κ (zR κ raTop ((zQ κ row i).getD 0)) = 8 ∧ ρ (zR κ raTop ((zQ κ row i).getD 0)) = m + 8 * i + 1) ∧ (zT κ (zR κ raBottom ((zQ κ row i).getD 0)) = 8 ∧ ρ (zR κ raBottom ((zQ κ row i).getD 0)) = m + 8 * i + 2) ∧ i < 1000 := fun row m tr hm hv hn i hi hs => by
    have li : i < 1000 := by omega
    cases e : zQ κ row i with
    | none => rw [e] at hs; cases hs
    | some u =>
      have tu := W.2.2.2.2.1 _ _ _ tr e
      have ru := hv i u li e
      have q := N.2 u (by rw [ru]; exact Or.inr (Or.inr ⟨by omega, by omega, by omega⟩))
      rw [ru] at q
      exact ⟨⟨ty_raTop W tu, q.2.1⟩, ⟨ty_raBottom W tu, q.2.2⟩, li⟩
  have rv := ra _ 100 (ty_soVisits W tS) (Or.inl rfl) v1 v2
  have rw9 := ra _ 104 (ty_soWorths W tS) (Or.inr rfl) w1 w2
  -- what a number of a role is at most
  have cap : ∀ b r m, zT κ b = 8 → ρ b = r → nmR r → capR r = m → g b ≤ G m := fun b r m t e hr hm => by
    have q := hg b t (by rw [e]; exact hr)
    rw [e, hm] at q
    exact q
  have c20 : ∀ r, 100 ≤ r → r < 1000000 → capR r = 20 := fun r h1 h2 => by
    unfold capR
    rw [if_neg (by omega), if_pos h2]
  have n20 : ∀ r, 100 ≤ r → r < 1000000 → r % 4 ≠ 0 → nmR r := fun r h1 h2 h3 => Or.inr (Or.inr (Or.inr (Or.inr (Or.inr (Or.inl ⟨h1, h2, h3⟩)))))
  have nb9 : ∀ r, 1000000 ≤ r → nmR r := fun r h => Or.inr (Or.inr (Or.inr (Or.inr (Or.inr (Or.inr h)))))
  have c65 : ∀ r, r < 100 → capR r = 6500 := fun r h => if_pos h
  have n12 : ∀ i, i < 12 → nmR (rl29.getD i 0) := fun i hi => by
    have e : i = 0 ∨ i = 1 ∨ i = 2 ∨ i = 3 ∨ i = 4 ∨ i = 5 ∨ i = 6 ∨ i = 7 ∨ i = 8 ∨ i = 9 ∨ i = 10 ∨ i = 11 := by omega
    unfold nmR
    rcases e with rfl | rfl | rfl | rfl | rfl | rfl | rfl | rfl | rfl | rfl | rfl | rfl <;> decide
  have k1 := kk.1
  rw [nT_f9] at k1
  unfold zV9 at k1
  have S0 : ∀ b, zT κ b = 8 → (fun b => decide (zT κ b = 8)) b = true := fun b h => decide_eq_true h
  generalize (fun b => decide (zT κ b = 8)) = P0 at S0 k1 ⊢
  have F1 := fam_b9 (N := zn κ) (P := P0) (x := xfv) (s := fun _ => true) (n := 5) (c := 5) (B := 5 * G 6500) (g := g) (fun i hi _ => ⟨S0 _ (t1 i hi).1, lt8 _ (t1 i hi).1⟩) (fun i j u v _ _ => j1 i j u v) (zSum_19 (fun j _ => rfl)) (zSum_b9 (s := fun _ => true) (fun i hi _ => cap _ 10 6500 (t1 i hi).1 (t1 i hi).2 (Or.inl ⟨by decide, by decide⟩) (c65 10 (by decide))))
  have S1 : ∀ b, zT κ b = 8 → ρ b ≠ 10 → rmF9 P0 xfv (fun _ => true) 5 b = true := fun b h h1 => rm_t9 (S0 b h) (fun i hi _ e => h1 (by rw [← e]; exact (t1 i hi).2))
  generalize rmF9 P0 xfv (fun _ => true) 5 = P1 at F1 S1
  have F2 := fam_b9 (N := zn κ) (P := P1) (x := fun i => l2.getD i 0) (s := fun _ => true) (n := 12) (c := 12) (B := 12 * G 6500) (g := g) (fun i hi _ => ⟨S1 _ (t2 i hi).1 (by rw [(t2 i hi).2]; exact (q2 i hi).2.1), lt8 _ (t2 i hi).1⟩) (fun i j u v _ _ e => j2 i (by omega) j v u (by rw [← (t2 i (by omega)).2, ← (t2 j v).2]; exact congrArg ρ e)) (zSum_19 (fun j _ => rfl)) (zSum_b9 (s := fun _ => true) (x := fun i => l2.getD i 0) (fun i hi _ => cap _ _ 6500 (t2 i hi).1 (t2 i hi).2 (n12 i hi) (c65 _ (q2 i hi).1)))
  have S2 : ∀ b, zT κ b = 8 → 100 ≤ ρ b → rmF9 P1 (fun i => l2.getD i 0) (fun _ => true) 12 b = true := fun b h h1 => rm_t9 (S1 b h (by omega)) (fun i hi _ e => by
    have y := (t2 i hi).2
    have z := (q2 i hi).1
    rw [e] at y
    omega)
  generalize rmF9 P1 (fun i => l2.getD i 0) (fun _ => true) 12 = P2 at F2 S2
  have F3 := fam_b9 (N := zn κ) (P := P2) (x := fun i => (zQ κ (zR κ soCells (zR κ chSolver a)) i).getD 0) (s := fun i => (zQ κ (zR κ soCells (zR κ chSolver a)) i).isSome) (n := zN κ (zR κ soCells (zR κ chSolver a))) (c := nn9 κ (zR κ soCells (zR κ chSolver a))) (B := Bc) (g := g) (fun i hi hs => ⟨S2 _ (rc i hi hs).1 (by rw [(rc i hi hs).2.1]; omega), lt8 _ (rc i hi hs).1⟩) (fun i j u v hs ht e => by
    have y1 := (rc i (by omega) hs).2.1
    have y2 := (rc j v ht).2.1
    rw [e] at y1
    omega) nn_f9 (by
    refine Nat.le_trans (Nat.le_trans (zSum_le9 (g := fun i => G (capR (1000000 + i))) (fun i hi => ?_)) (zSum_m9 (by omega))) hc
    show (if (zQ κ (zR κ soCells (zR κ chSolver a)) i).isSome = true then g ((zQ κ (zR κ soCells (zR κ chSolver a)) i).getD 0) else 0) ≤ _
    by_cases e : (zQ κ (zR κ soCells (zR κ chSolver a)) i).isSome = true
    · rw [if_pos e]
      exact cap _ _ _ (rc i hi e).1 (rc i hi e).2.1 (nb9 _ (by omega)) rfl
    · rw [if_neg e]
      exact Nat.zero_le _)
  have S3 : ∀ b, zT κ b = 8 → 100 ≤ ρ b → (ρ b < 1000000 ∨ 2000000 ≤ ρ b) → rmF9 P2 (fun i => (zQ κ (zR κ soCells (zR κ chSolver a)) i).getD 0) (fun i => (zQ κ (zR κ soCells (zR κ chSolver a)) i).isSome) (zN κ (zR κ soCells (zR κ chSolver a))) b = true := fun b h h1 h2 => rm_t9 (S2 b h h1) (fun i hi hs e => by
    have y := (rc i hi hs).2
    rw [e] at y
    omega)
  generalize rmF9 P2 (fun i => (zQ κ (zR κ soCells (zR κ chSolver a)) i).getD 0) (fun i => (zQ κ (zR κ soCells (zR κ chSolver a)) i).isSome) (zN κ (zR κ soCells (zR κ chSolver a))) = P3 at F3 S3
  have F4 := fam_b9 (N := zn κ) (P := P3) (x := fun i => (zQ κ (zR κ odEdges (zR κ chOdds a)) i).getD 0) (s := fun i => (zQ κ (zR κ odEdges (zR κ chOdds a)) i).isSome) (n := zN κ (zR κ odEdges (zR κ chOdds a))) (c := nn9 κ (zR κ odEdges (zR κ chOdds a))) (B := 31 * G 3000) (g := g) (fun i hi hs => ⟨S3 _ (re i hi hs).1 (by rw [(re i hi hs).2]; omega) (by rw [(re i hi hs).2]; omega), lt8 _ (re i hi hs).1⟩) (fun i j u v hs ht e => by
    have y1 := (re i (by omega) hs).2
    have y2 := (re j v ht).2
    rw [e] at y1
    omega) nn_f9 (Nat.le_trans (zSum_b9 (s := fun i => (zQ κ (zR κ odEdges (zR κ chOdds a)) i).isSome) (x := fun i => (zQ κ (zR κ odEdges (zR κ chOdds a)) i).getD 0) (c := G 3000) (fun i hi hs => cap _ _ _ (re i hi hs).1 (re i hi hs).2 (nb9 _ (by omega)) (by
      unfold capR
      rw [if_neg (by omega), if_neg (by omega), if_neg (by omega)]))) (Nat.mul_le_mul_right _ ne31))
  have S4 : ∀ b, zT κ b = 8 → 100 ≤ ρ b → ρ b < 1000000 → rmF9 P3 (fun i => (zQ κ (zR κ odEdges (zR κ chOdds a)) i).getD 0) (fun i => (zQ κ (zR κ odEdges (zR κ chOdds a)) i).isSome) (zN κ (zR κ odEdges (zR κ chOdds a))) b = true := fun b h h1 h2 => rm_t9 (S3 b h h1 (Or.inl h2)) (fun i hi hs e => by
    have y := (re i hi hs).2
    rw [e] at y
    omega)
  generalize rmF9 P3 (fun i => (zQ κ (zR κ odEdges (zR κ chOdds a)) i).getD 0) (fun i => (zQ κ (zR κ odEdges (zR κ chOdds a)) i).isSome) (zN κ (zR κ odEdges (zR κ chOdds a))) = P4 at F4 S4
  have F5 := fam_b9 (N := zn κ) (P := P4) (x := fun i => zR κ raTop ((zQ κ (zR κ soVisits (zR κ chSolver a)) i).getD 0)) (s := fun i => (zQ κ (zR κ soVisits (zR κ chSolver a)) i).isSome) (n := zN κ (zR κ soVisits (zR κ chSolver a))) (c := nn9 κ (zR κ soVisits (zR κ chSolver a))) (B := 1000 * G 20) (g := g) (fun i hi hs => ⟨S4 _ (rv i hi hs).1.1 (by rw [(rv i hi hs).1.2]; omega) (by have li := (rv i hi hs).2.2; rw [(rv i hi hs).1.2]; omega), lt8 _ (rv i hi hs).1.1⟩) (fun i j u v hs ht e => by
    have y1 := (rv i (by omega) hs).1.2
    have y2 := (rv j v ht).1.2
    rw [e] at y1
    omega) nn_f9 (Nat.le_trans (zSum_b9 (s := fun i => (zQ κ (zR κ soVisits (zR κ chSolver a)) i).isSome) (x := fun i => zR κ raTop ((zQ κ (zR κ soVisits (zR κ chSolver a)) i).getD 0)) (c := G 20) (fun i hi hs => by
      have li := (rv i hi hs).2.2
      exact cap _ _ _ (rv i hi hs).1.1 (rv i hi hs).1.2 (n20 _ (by omega) (by omega) (by omega)) (c20 _ (by omega) (by omega)))) (Nat.mul_le_mul_right _ v2))
  have S5 : ∀ b, zT κ b = 8 → 100 ≤ ρ b → ρ b < 1000000 → (ρ b - 100) % 8 ≠ 1 → rmF9 P4 (fun i => zR κ raTop ((zQ κ (zR κ soVisits (zR κ chSolver a)) i).getD 0)) (fun i => (zQ κ (zR κ soVisits (zR κ chSolver a)) i).isSome) (zN κ (zR κ soVisits (zR κ chSolver a))) b = true := fun b h h1 h2 g1 => rm_t9 (S4 b h h1 h2) (fun i hi hs e => by
    have y := (rv i hi hs).1.2
    rw [e] at y
    omega)
  generalize rmF9 P4 (fun i => zR κ raTop ((zQ κ (zR κ soVisits (zR κ chSolver a)) i).getD 0)) (fun i => (zQ κ (zR κ soVisits (zR κ chSolver a)) i).isSome) (zN κ (zR κ soVisits (zR κ chSolver a))) = P5 at F5 S5
  have F6 := fam_b9 (N := zn κ) (P := P5) (x := fun i => zR κ raBottom ((zQ κ (zR κ soVisits (zR κ chSolver a)) i).getD 0)) (s := fun i => (zQ κ (zR κ soVisits (zR κ chSolver a)) i).isSome) (n := zN κ (zR κ soVisits (zR κ chSolver a))) (c := nn9 κ (zR κ soVisits (zR κ chSolver a))) (B := 1000 * G 20) (g := g) (fun i hi hs => ⟨S5 _ (rv i hi hs).2.1.1 (by rw [(rv i hi hs).2.1.2]; omega) (by have li := (rv i hi hs).2.2; rw [(rv i hi hs).2.1.2]; omega) (by rw [(rv i hi hs).2.1.2]; omega), lt8 _ (rv i hi hs).2.1.1⟩) (fun i j u v hs ht e => by
    have y1 := (rv i (by omega) hs).2.1.2
    have y2 := (rv j v ht).2.1.2
    rw [e] at y1
    omega) nn_f9 (Nat.le_trans (zSum_b9 (s := fun i => (zQ κ (zR κ soVisits (zR κ chSolver a)) i).isSome) (x := fun i => zR κ raBottom ((zQ κ (zR κ soVisits (zR κ chSolver a)) i).getD 0)) (c := G 20) (fun i hi hs => by
      have li := (rv i hi hs).2.2
      exact cap _ _ _ (rv i hi hs).2.1.1 (rv i hi hs).2.1.2 (n20 _ (by omega) (by omega) (by omega)) (c20 _ (by omega) (by omega)))) (Nat.mul_le_mul_right _ v2))
  have S6 : ∀ b, zT κ b = 8 → 100 ≤ ρ b → ρ b < 1000000 → (ρ b - 100) % 8 ≠ 1 → (ρ b - 100) % 8 ≠ 2 → rmF9 P5 (fun i => zR κ raBottom ((zQ κ (zR κ soVisits (zR κ chSolver a)) i).getD 0)) (fun i => (zQ κ (zR κ soVisits (zR κ chSolver a)) i).isSome) (zN κ (zR κ soVisits (zR κ chSolver a))) b = true := fun b h h1 h2 g1 g2 => rm_t9 (S5 b h h1 h2 g1) (fun i hi hs e => by
    have y := (rv i hi hs).2.1.2
    rw [e] at y
    omega)
  generalize rmF9 P5 (fun i => zR κ raBottom ((zQ κ (zR κ soVisits (zR κ chSolver a)) i).getD 0)) (fun i => (zQ κ (zR κ soVisits (zR κ chSolver a)) i).isSome) (zN κ (zR κ soVisits (zR κ chSolver a))) = P6 at F6 S6
  have F7 := fam_b9 (N := zn κ) (P := P6) (x := fun i => zR κ raTop ((zQ κ (zR κ soWorths (zR κ chSolver a)) i).getD 0)) (s := fun i => (zQ κ (zR κ soWorths (zR κ chSolver a)) i).isSome) (n := zN κ (zR κ soWorths (zR κ chSolver a))) (c := nn9 κ (zR κ soWorths (zR κ chSolver a))) (B := 1000 * G 20) (g := g) (fun i hi hs => ⟨S6 _ (rw9 i hi hs).1.1 (by rw [(rw9 i hi hs).1.2]; omega) (by have li := (rw9 i hi hs).2.2; rw [(rw9 i hi hs).1.2]; omega) (by rw [(rw9 i hi hs).1.2]; omega) (by rw [(rw9 i hi hs).1.2]; omega), lt8 _ (rw9 i hi hs).1.1⟩) (fun i j u v hs ht e => by
    have y1 := (rw9 i (by omega) hs).1.2
    have y2 := (rw9 j v ht).1.2
    rw [e] at y1
    omega) nn_f9 (Nat.le_trans (zSum_b9 (s := fun i => (zQ κ (zR κ soWorths (zR κ chSolver a)) i).isSome) (x := fun i => zR κ raTop ((zQ κ (zR κ soWorths (zR κ chSolver a)) i).getD 0)) (c := G 20) (fun i hi hs => by
      have li := (rw9 i hi hs).2.2
      exact cap _ _ _ (rw9 i hi hs).1.1 (rw9 i hi hs).1.2 (n20 _ (by omega) (by omega) (by omega)) (c20 _ (by omega) (by omega)))) (Nat.mul_le_mul_right _ w2))
  have S7 : ∀ b, zT κ b = 8 → 100 ≤ ρ b → ρ b < 1000000 → (ρ b - 100) % 8 ≠ 1 → (ρ b - 100) % 8 ≠ 2 → (ρ b - 100) % 8 ≠ 5 → rmF9 P6 (fun i => zR κ raTop ((zQ κ (zR κ soWorths (zR κ chSolver a)) i).getD 0)) (fun i => (zQ κ (zR κ soWorths (zR κ chSolver a)) i).isSome) (zN κ (zR κ soWorths (zR κ chSolver a))) b = true := fun b h h1 h2 g1 g2 g5 => rm_t9 (S6 b h h1 h2 g1 g2) (fun i hi hs e => by
    have y := (rw9 i hi hs).1.2
    rw [e] at y
    omega)
  generalize rmF9 P6 (fun i => zR κ raTop ((zQ κ (zR κ soWorths (zR κ chSolver a)) i).getD 0)) (fun i => (zQ κ (zR κ soWorths (zR κ chSolver a)) i).isSome) (zN κ (zR κ soWorths (zR κ chSolver a))) = P7 at F7 S7
  have F8 := fam_b9 (N := zn κ) (P := P7) (x := fun i => zR κ raBottom ((zQ κ (zR κ soWorths (zR κ chSolver a)) i).getD 0)) (s := fun i => (zQ κ (zR κ soWorths (zR κ chSolver a)) i).isSome) (n := zN κ (zR κ soWorths (zR κ chSolver a))) (c := nn9 κ (zR κ soWorths (zR κ chSolver a))) (B := 1000 * G 20) (g := g) (fun i hi hs => ⟨S7 _ (rw9 i hi hs).2.1.1 (by rw [(rw9 i hi hs).2.1.2]; omega) (by have li := (rw9 i hi hs).2.2; rw [(rw9 i hi hs).2.1.2]; omega) (by rw [(rw9 i hi hs).2.1.2]; omega) (by rw [(rw9 i hi hs).2.1.2]; omega) (by rw [(rw9 i hi hs).2.1.2]; omega), lt8 _ (rw9 i hi hs).2.1.1⟩) (fun i j u v hs ht e => by
    have y1 := (rw9 i (by omega) hs).2.1.2
    have y2 := (rw9 j v ht).2.1.2
    rw [e] at y1
    omega) nn_f9 (Nat.le_trans (zSum_b9 (s := fun i => (zQ κ (zR κ soWorths (zR κ chSolver a)) i).isSome) (x := fun i => zR κ raBottom ((zQ κ (zR κ soWorths (zR κ chSolver a)) i).getD 0)) (c := G 20) (fun i hi hs => by
      have li := (rw9 i hi hs).2.2
      exact cap _ _ _ (rw9 i hi hs).2.1.1 (rw9 i hi hs).2.1.2 (n20 _ (by omega) (by omega) (by omega)) (c20 _ (by omega) (by omega)))) (Nat.mul_le_mul_right _ w2))
  have S8 : ∀ b, zT κ b = 8 → 100 ≤ ρ b → ρ b < 1000000 → (ρ b - 100) % 8 ≠ 1 → (ρ b - 100) % 8 ≠ 2 → (ρ b - 100) % 8 ≠ 5 → (ρ b - 100) % 8 ≠ 6 → rmF9 P7 (fun i => zR κ raBottom ((zQ κ (zR κ soWorths (zR κ chSolver a)) i).getD 0)) (fun i => (zQ κ (zR κ soWorths (zR κ chSolver a)) i).isSome) (zN κ (zR κ soWorths (zR κ chSolver a))) b = true := fun b h h1 h2 g1 g2 g5 g6 => rm_t9 (S7 b h h1 h2 g1 g2 g5) (fun i hi hs e => by
    have y := (rw9 i hi hs).2.1.2
    rw [e] at y
    omega)
  generalize rmF9 P7 (fun i => zR κ raBottom ((zQ κ (zR κ soWorths (zR κ chSolver a)) i).getD 0)) (fun i => (zQ κ (zR κ soWorths (zR κ chSolver a)) i).isSome) (zN κ (zR κ soWorths (zR κ chSolver a))) = P8 at F8 S8
  obtain ⟨a1, b1⟩ := F1
  obtain ⟨a2, b2⟩ := F2
  obtain ⟨a3, b3⟩ := F3
  obtain ⟨a4, b4⟩ := F4
  obtain ⟨a5, b5⟩ := F5
  obtain ⟨a6, b6⟩ := F6
  obtain ⟨a7, b7⟩ := F7
  obtain ⟨a8, b8⟩ := F8
  have z := fS_z9 (g := g) (show fS9 (zn κ) P8 (fun _ => 1) = 0 by omega)
  omega
