set_option maxHeartbeats 1600000
/-! the class: Atlas's expand -/
/-- a state's nexts in order -/
def exR (nS nE nx : Int) (F T C S N Wt : Nat → Int32) (k : Nat) : Prop := (0 ≤ (F k).toInt ∧ (F k).toInt ≤ (F (k + 1)).toInt ∧ (F (k + 1)).toInt ≤ nx) ∧ nxO nS nE S N Wt (F k).toInt (F (k + 1)).toInt ∧ (1 ≤ wSm Wt (F k).toInt (F (k + 1)).toInt ∧ wSm Wt (F k).toInt (F (k + 1)).toInt ≤ 8000000) ∧ (C k = 0 → wSm Wt (F k).toInt (F (k + 1)).toInt = (T k).toInt) ∧ (C k ≠ 0 → ∀ i : Nat, (F k).toInt ≤ (i : Int) → (i : Int) < (F (k + 1)).toInt → (Wt i).toInt = 1)
theorem exR_m {nS nE nx nS' nE' nx' : Int} {F T C S N Wt F' T' C' S' N' Wt' : Nat → Int32} {k : Nat} (h : exR nS nE nx F T C S N Wt k) (f0 : F' k = F k) (f1 : F' (k + 1) = F (k + 1)) (t : T' k = T k) (c : C' k = C k) (r : ∀ i : Nat, (i : Int) < (F (k + 1)).toInt → S' i = S i ∧ N' i = N i ∧ Wt' i = Wt i) (gS : nS ≤ nS') (gE : nE ≤ nE') (gx : (F (k + 1)).toInt ≤ nx') : exR nS' nE' nx' F' T' C' S' N' Wt' k := by
  obtain ⟨h1, h2, h3, h4, h5⟩ := h
  have w : wSm Wt' (F k).toInt (F (k + 1)).toInt = wSm Wt (F k).toInt (F (k + 1)).toInt := wSm_eq h1.1 (fun j _ hj => (r j hj).2.2)
  unfold exR
  rw [f0, f1, t, c, w]
  refine ⟨⟨h1.1, h1.2.1, gx⟩, fun j a b => ?_, h3, h4, fun z j a b => by rw [(r j b).2.2]; exact h5 z j a b⟩
  obtain ⟨b1, b2, b3⟩ := h2 j a b
  obtain ⟨c1, c2, c3⟩ := r j b
  rw [c1, c2, c3]
  exact ⟨fun z => ⟨(b1 z).1, Int.lt_of_lt_of_le (b1 z).2 gS⟩, fun z => ⟨(b2 z).1, Int.lt_of_lt_of_le (b2 z).2 gE⟩, b3⟩
def exK (κ : zS) (a k : Nat) : Prop := exR ((zI κ hoTotal (zR κ atStates a)).toInt) ((zI κ hoTotal (zR κ atEndings a)).toInt) ((zI κ atNexts a).toInt) (zA κ (zR κ atFirsts a)) (zA κ (zR κ atTotals a)) (zA κ (zR κ atChooses a)) (zA κ (zR κ atSorts a)) (zA κ (zR κ atNumbers a)) (zA κ (zR κ atWeights a)) k
def exU9 (κ : zS) (a k : Nat) : Prop := ∀ j : Nat, j < k → exK κ a j ∧ (zA κ (zR κ atFirsts a) (j + 1)).toInt ≤ (zA κ (zR κ atFirsts a) k).toInt
/-- what expand may touch -/
abbrev exF (κ : zS) (a : Nat) : Nat → Nat → Prop := fun f x => (x = a ∧ (f = atFirsts ∨ f = atTotals ∨ f = atGains ∨ f = atChooses ∨ f = atSorts ∨ f = atNumbers ∨ f = atWeights ∨ f = atNexts)) ∨ x = zR κ atMachine a ∨ x = zR κ atStates a ∨ x = zR κ atEndings a
theorem exF_l {κ : zS} {a f x : Nat} (h : ldF κ a f x) : exF κ a f x := by
  rcases h with ⟨e, h⟩ | h
  · refine Or.inl ⟨e, ?_⟩
    rcases h with h | h | h | h
    · exact Or.inr (Or.inr (Or.inr (Or.inr (Or.inl h))))
    · exact Or.inr (Or.inr (Or.inr (Or.inr (Or.inr (Or.inl h)))))
    · exact Or.inr (Or.inr (Or.inr (Or.inr (Or.inr (Or.inr (Or.inl h))))))
    · exact Or.inr (Or.inr (Or.inr (Or.inr (Or.inr (Or.inr (Or.inr h))))))
  · exact Or.inr h
theorem exU9_P {C : zC} {n0 a k : Nat} {κ τ : zS} (W : zW C n0 κ) (T : zT κ a = 3) (P : ldP κ τ a ((zA κ (zR κ atFirsts a) k).toInt)) (hx : (zA κ (zR κ atFirsts a) k).toInt ≤ (zI τ atNexts a).toInt) (A : exU9 κ a k) : exU9 τ a k := by
  obtain ⟨r, i, q⟩ := ld_r W T P.1
  have qF := (q atFirsts (by decide) (by decide)).1
  have qT := (q atTotals (by decide) (by decide)).1
  have qC := (q atChooses (by decide) (by decide)).1
  intro j hj
  obtain ⟨A1, A2⟩ := A j hj
  refine ⟨?_, by rw [qF]; exact A2⟩
  unfold exK
  rw [qF, qT, qC, r atStates (by decide), r atEndings (by decide)]
  exact exR_m A1 rfl rfl rfl rfl (fun i hi => P.2.1 i (Int.lt_of_lt_of_le hi A2)) P.2.2.1.1 P.2.2.1.2 (Int.le_trans A2 hx)
/-- a step of the machine -/
theorem ld_f {C : zC} {n0 a k : Nat} {κ τ : zS} {w lo : Int} (W : zW C n0 κ) (T : zT κ a = 3) (A : ldA κ a) (X : ldX κ a k w) (F : mF κ τ (zR κ atMachine a)) (G : mG κ τ (zR κ atMachine a)) (s : zI τ maShared (zR κ atMachine a) = zI κ maShared (zR κ atMachine a)) (O : mO τ (zR κ atMachine a) ∨ zI τ maOutcome (zR κ atMachine a) = 1) : ldA τ a ∧ ldP κ τ a lo ∧ ldX τ a k w := by
  have n := at_ne W T
  have Tm := ty_atMachine W T
  exact ld_0 W T A X (F.1.mono (fun f x q => Or.inl q)) (hoI_zF F.1 W (ty_atStates W T) (fun f e => n.2.1 e.symm) A.2.2.1.1) (hoI_zF F.1 W (ty_atEndings W T) (fun f e => n.2.2 e.symm) A.2.2.1.2) ⟨(mkI_f F W Tm A.2.2.2.1.1).1, by rw [s]; exact A.2.2.2.1.2.1, O⟩ (by rw [F.1.i (fun e => n.2.1 e.symm)]; exact Int.le_refl _) (by rw [F.1.i (fun e => n.2.2 e.symm)]; exact Int.le_refl _) G s
/-- a step of the machine that sets its draws -/
theorem ld_a {C : zC} {n0 a k : Nat} {κ τ : zS} (W : zW C n0 κ) (T : zT κ a = 3) (A : ldA κ a) (E : exU9 κ a k) (e : (zA κ (zR κ atFirsts a) k).toInt = (zI κ atNexts a).toInt) (F : mF κ τ (zR κ atMachine a)) (s : zI τ maShared (zR κ atMachine a) = zI κ maShared (zR κ atMachine a)) (O : mO τ (zR κ atMachine a) ∨ zI τ maOutcome (zR κ atMachine a) = 1) : ldA τ a ∧ exU9 τ a k ∧ (zA τ (zR τ atFirsts a) k).toInt = (zI τ atNexts a).toInt ∧ zF (exF κ a) κ τ ∧ zR τ = zR κ := by
  have n := at_ne W T
  have Tm := ty_atMachine W T
  have R := F.2.1
  have N := F.2.2.1
  have i : ∀ f, zI τ f a = zI κ f a := fun f => F.1.i (fun e => n.1.1 e.symm)
  have rw9 : ∀ f, f ∈ atRf → zA τ (zR κ f a) = zA κ (zR κ f a) := fun f hf => by
    obtain ⟨⟨t, h1, h2⟩, h3⟩ := atRf_r f hf
    have q := (F.1.row W h1 h2 (T.trans h3.symm) (fun e => n.1.1 e.symm)).1
    rw [R] at q
    exact q
  have iS : zI τ hoTotal (zR κ atStates a) = zI κ hoTotal (zR κ atStates a) := F.1.i (fun e => n.2.1 e.symm)
  have iE : zI τ hoTotal (zR κ atEndings a) = zI κ hoTotal (zR κ atEndings a) := F.1.i (fun e => n.2.2 e.symm)
  obtain ⟨A1, A2, A3, A4, A5, A6⟩ := A
  refine ⟨⟨?_, ?_, ⟨?_, ?_⟩, ?_, ?_, ?_⟩, fun j hj => ?_, ?_, F.1.mono (fun f x q => Or.inr (Or.inl q)), R⟩
  · unfold atM; rw [R, N]; exact A1
  · unfold atL; rw [R, N]; exact A2
  · rw [R]; exact hoI_zF F.1 W (ty_atStates W T) (fun f e => n.2.1 e.symm) A3.1
  · rw [R]; exact hoI_zF F.1 W (ty_atEndings W T) (fun f e => n.2.2 e.symm) A3.2
  · rw [R]; exact ⟨(mkI_f F W Tm A4.1).1, by rw [s]; exact A4.2.1, O⟩
  · rw [i, R, N]; exact A5
  · rw [R]; exact A6
  · obtain ⟨E1, E2⟩ := E j hj
    unfold exK
    rw [R, rw9 atFirsts (by decide), rw9 atTotals (by decide), rw9 atChooses (by decide), rw9 atSorts (by decide), rw9 atNumbers (by decide), rw9 atWeights (by decide), iS, iE, i]
    exact ⟨E1, E2⟩
  · rw [R, rw9 atFirsts (by decide), i]; exact e
/-- a row of the atlas's own was written -/
theorem ld_own {C : zC} {n0 a : Nat} {κ τ : zS} (W : zW C n0 κ) (T : zT κ a = 3) (A : ldA κ a) (Z : zF (objF a) κ τ) (R : zR τ = zR κ) (N : zN τ = zN κ) (I : zI τ = zI κ) : ldA τ a ∧ mG κ τ (zR κ atMachine a) := by
  have n := at_ne W T
  have Tm := ty_atMachine W T
  have Tc := ty_maCode W Tm
  have nc : zR κ maCode (zR κ atMachine a) ≠ a := fun z => by rw [z, T] at Tc; exact absurd Tc (by decide)
  obtain ⟨A1, A2, A3, A4, A5, A6⟩ := A
  refine ⟨⟨?_, ?_, ⟨?_, ?_⟩, ?_, ?_, ?_⟩, fun f _ => ⟨by rw [I], fun e => ⟨by rw [R], ?_⟩⟩⟩
  · unfold atM; rw [R, N]; exact A1
  · unfold atL; rw [R, N]; exact A2
  · rw [R]; exact hoI_zF Z W (ty_atStates W T) (fun f e => n.1.2.1 e) A3.1
  · rw [R]; exact hoI_zF Z W (ty_atEndings W T) (fun f e => n.1.2.2 e) A3.2
  · rw [R]; exact atR_zF Z W Tm (fun f e => n.1.1 e) (fun f e => nc e) A4
  · rw [I, R, N]; exact A5
  · rw [R]; exact A6
  · have z := (Z.row W (show zr maWeights = some 20 by decide +kernel) (by decide) Tm (fun e => n.1.1 e)).1
    rw [R] at z
    rw [e]
    exact z
def exI (κ τ : zS) (a k : Nat) : Prop := ldA τ a ∧ exU9 τ a k ∧ (zA τ (zR τ atFirsts a) k).toInt = (zI τ atNexts a).toInt ∧ zF (exF κ a) κ τ ∧ (zR τ atMachine a = zR κ atMachine a ∧ zR τ atStates a = zR κ atStates a ∧ zR τ atEndings a = zR κ atEndings a ∧ zI τ hoTotal (zR κ atStates a) = zI κ hoTotal (zR κ atStates a))
theorem ld_o3 {κ : zS} {a k : Nat} (A : ldA κ a) (e : (zA κ (zR κ atFirsts a) k).toInt = (zI κ atNexts a).toInt) : ldX κ a k 0 := by
  have b := A.2.2.2.2.1
  refine ⟨by omega, fun i h1 h2 => by omega, ?_, fun _ i h1 h2 => by omega⟩
  unfold wSm
  have z : ((zI κ atNexts a).toInt - (zA κ (zR κ atFirsts a) k).toInt).toNat = 0 := by omega
  rw [z]
  rfl
/-- chooses, totals or gains of the state -/
theorem ex_u {C : zC} {n0 a k f : Nat} {κ σ τ : zS} {x : Int32} (W : zW C n0 σ) (T : zT σ a = 3) (H : exI κ σ a k) (hf : f = atChooses ∨ f = atTotals ∨ f = atGains) (e : τ = ua σ (zR σ f a) k x) : exI κ τ a k ∧ mG σ τ (zR κ atMachine a) ∧ zR τ = zR σ ∧ zI τ = zI σ ∧ (∀ g, g ∈ atRf → g ≠ f → zA τ (zR σ g a) = zA σ (zR σ g a)) ∧ zA τ (zR σ f a) = upd (zA σ (zR σ f a)) k x := by
  obtain ⟨A, E, h, Z, rm, rs, re, tq⟩ := H
  have fm : f ∈ atRf ∧ f ≠ atFirsts ∧ f ≠ atSorts ∧ f ≠ atNumbers ∧ f ≠ atWeights := by rcases hf with rfl | rfl | rfl <;> decide
  have ow : zO σ (zR σ f a) = (f, a) := atRf_o W T fm.1
  have R : zR τ = zR σ := by rw [e]; rfl
  have I : zI τ = zI σ := by rw [e]; rfl
  have N : zN τ = zN σ := by rw [e]; rfl
  have o : ∀ g, g ∈ atRf → g ≠ f → zA τ (zR σ g a) = zA σ (zR σ g a) := fun g hg hn => by
    rw [e]; exact if_neg (atRf_n W T hg fm.1 hn)
  have u : zA τ (zR σ f a) = upd (zA σ (zR σ f a)) k x := by rw [e]; exact if_pos rfl
  obtain ⟨B, G⟩ := ld_own W T A (by rw [e]; exact zF_ua (by rw [ow])) R N I
  rw [rm] at G
  have c : ∀ g, g ∈ atRf → ∀ j, j < k → zA τ (zR σ g a) j = zA σ (zR σ g a) j := fun g hg j hj => by
    by_cases z : g = f
    · rw [z, u]; exact if_neg (Nat.ne_of_lt hj)
    · rw [o g hg z]
  have oF := o atFirsts (by decide) (fun z => fm.2.1 z.symm)
  have oS := o atSorts (by decide) (fun z => fm.2.2.1 z.symm)
  have oN := o atNumbers (by decide) (fun z => fm.2.2.2.1 z.symm)
  have oW := o atWeights (by decide) (fun z => fm.2.2.2.2 z.symm)
  refine ⟨⟨B, fun j hj => ?_, ?_, Z.tr ?_, ?_⟩, G, R, I, o, u⟩
  · obtain ⟨E1, E2⟩ := E j hj
    unfold exK
    rw [R, I, oF, oS, oN, oW]
    exact ⟨exR_m E1 rfl rfl (c _ (by decide) j hj) (c _ (by decide) j hj) (fun i _ => ⟨rfl, rfl, rfl⟩) (Int.le_refl _) (Int.le_refl _) E1.1.2.2, E2⟩
  · rw [R, I, oF]; exact h
  · rw [e]
    refine zF_ua ?_
    rw [ow]
    refine Or.inl ⟨rfl, ?_⟩
    rcases hf with z | z | z
    · exact Or.inr (Or.inr (Or.inr (Or.inl z)))
    · exact Or.inr (Or.inl z)
    · exact Or.inr (Or.inr (Or.inl z))
  · rw [R, I]; exact ⟨rm, rs, re, tq⟩
/-- the first next's place -/
theorem ex_1 {C : zC} {n0 a k : Nat} {κ τ : zS} (W : zW C n0 κ) (T : zT κ a = 3) (A : ldA κ a) (E : exU9 κ a k) (h : 0 < k → (zA κ (zR κ atFirsts a) k).toInt = (zI κ atNexts a).toInt) (e : τ = ua κ (zR κ atFirsts a) k (zI κ atNexts a)) : exI κ τ a k := by
  have ow : zO κ (zR κ atFirsts a) = (atFirsts, a) := atRf_o W T (by decide)
  have R : zR τ = zR κ := by rw [e]; rfl
  have I : zI τ = zI κ := by rw [e]; rfl
  have N : zN τ = zN κ := by rw [e]; rfl
  have o : ∀ g, g ∈ atRf → g ≠ atFirsts → zA τ (zR κ g a) = zA κ (zR κ g a) := fun g hg hn => by
    rw [e]; exact if_neg (atRf_n W T hg (by decide) hn)
  have u : zA τ (zR κ atFirsts a) = upd (zA κ (zR κ atFirsts a)) k (zI κ atNexts a) := by rw [e]; exact if_pos rfl
  obtain ⟨B, G⟩ := ld_own W T A (by rw [e]; exact zF_ua (by rw [ow])) R N I
  have uk : zA τ (zR κ atFirsts a) k = zI κ atNexts a := by rw [u]; exact if_pos rfl
  have c : ∀ j, 0 < k → zA τ (zR κ atFirsts a) j = zA κ (zR κ atFirsts a) j := fun j hk => by
    by_cases z : j = k
    · rw [z, uk]; exact (Int32.toInt_inj.mp (h hk)).symm
    · rw [u]; exact if_neg z
  refine ⟨B, fun j hj => ?_, ?_, ?_, ?_⟩
  · obtain ⟨E1, E2⟩ := E j hj
    have k0 : 0 < k := Nat.lt_of_le_of_lt (Nat.zero_le j) hj
    unfold exK
    rw [R, I, o atTotals (by decide) (by decide), o atChooses (by decide) (by decide), o atSorts (by decide) (by decide), o atNumbers (by decide) (by decide), o atWeights (by decide) (by decide)]
    exact ⟨exR_m E1 (c j k0) (c (j + 1) k0) rfl rfl (fun i _ => ⟨rfl, rfl, rfl⟩) (Int.le_refl _) (Int.le_refl _) E1.1.2.2, by rw [c _ k0, c _ k0]; exact E2⟩
  · rw [R, I, uk]
  · rw [e]; exact zF_ua (by rw [ow]; exact Or.inl ⟨rfl, Or.inl rfl⟩)
  · rw [R, I]; exact ⟨rfl, rfl, rfl, rfl⟩
/-- the last one's place -/
theorem ex_2 {C : zC} {n0 a k : Nat} {κ τ : zS} {w : Int} (W : zW C n0 κ) (T : zT κ a = 3) (A : ldA κ a) (E : exU9 κ a k) (X : ldX κ a k w) (w1 : 1 ≤ w ∧ w ≤ 8000000) (wt : zA κ (zR κ atChooses a) k = 0 → w = (zA κ (zR κ atTotals a) k).toInt) (e : τ = ua κ (zR κ atFirsts a) (k + 1) (zI κ atNexts a)) : exU9 τ a (k + 1) ∧ (zA τ (zR τ atFirsts a) (k + 1)).toInt = (zI τ atNexts a).toInt := by
  have R : zR τ = zR κ := by rw [e]; rfl
  have I : zI τ = zI κ := by rw [e]; rfl
  have o : ∀ g, g ∈ atRf → g ≠ atFirsts → zA τ (zR κ g a) = zA κ (zR κ g a) := fun g hg hn => by
    rw [e]; exact if_neg (atRf_n W T hg (by decide) hn)
  have u : zA τ (zR κ atFirsts a) = upd (zA κ (zR κ atFirsts a)) (k + 1) (zI κ atNexts a) := by rw [e]; exact if_pos rfl
  have uk : zA τ (zR κ atFirsts a) (k + 1) = zI κ atNexts a := by rw [u]; exact if_pos rfl
  have c : ∀ j, j ≤ k → zA τ (zR κ atFirsts a) j = zA κ (zR κ atFirsts a) j := fun j hk => by rw [u]; exact if_neg (by omega)
  obtain ⟨X1, X2, X3, X4⟩ := X
  refine ⟨fun j hj => ?_, by rw [R, I, uk]⟩
  unfold exK
  rw [R, I, uk, o atTotals (by decide) (by decide), o atChooses (by decide) (by decide), o atSorts (by decide) (by decide), o atNumbers (by decide) (by decide), o atWeights (by decide) (by decide)]
  by_cases z : j = k
  · subst z
    rw [uk]
    refine ⟨?_, Int.le_refl _⟩
    unfold exR
    rw [uk, c j (Nat.le_refl _)]
    rw [X3]
    exact ⟨⟨X1.1, X1.2, Int.le_refl _⟩, X2, w1, wt, X4⟩
  · obtain ⟨E1, E2⟩ := E j (by omega)
    refine ⟨exR_m E1 (c j (by omega)) (c (j + 1) (by omega)) rfl rfl (fun i _ => ⟨rfl, rfl, rfl⟩) (Int.le_refl _) (Int.le_refl _) E1.1.2.2, ?_⟩
    rw [c (j + 1) (by omega)]
    exact Int.le_trans E2 X1.2
/-- what the machine's draws are to the state -/
def exM (κ : zS) (a k : Nat) (d : Int32) : Prop := mDw κ (zR κ atMachine a) ∧ (d ≠ 0 ↔ zI κ maWants (zR κ atMachine a) = 3) ∧ (zA κ (zR κ atChooses a) k ≠ 0 ↔ zI κ maWants (zR κ atMachine a) = 4) ∧ (zI κ maWants (zR κ atMachine a) = 3 → (zA κ (zR κ atTotals a) k).toInt = (zI κ maTotal (zR κ atMachine a)).toInt) ∧ (zI κ maWants (zR κ atMachine a) = -1 → (zA κ (zR κ atTotals a) k).toInt = 1)
def exW (κ : zS) (a : Nat) (x : Int32) : Int := if zI κ maWants (zR κ atMachine a) = -1 then 1 else sgI (fun n => (zA κ (zR κ maWeights (zR κ atMachine a)) n).toInt) x.toNatClampNeg
theorem exM_P {C : zC} {n0 a k : Nat} {κ τ : zS} {d : Int32} {lo : Int} (W : zW C n0 κ) (T : zT κ a = 3) (P : ldP κ τ a lo) (M : exM κ a k d) : exM τ a k d ∧ (∀ x, exW τ a x = exW κ a x) ∧ zI τ maWants (zR τ atMachine a) = zI κ maWants (zR κ atMachine a) ∧ zI τ maWays (zR τ atMachine a) = zI κ maWays (zR κ atMachine a) ∧ zA τ (zR τ maWeights (zR τ atMachine a)) = zA κ (zR κ maWeights (zR κ atMachine a)) := by
  obtain ⟨r, i, q⟩ := ld_r W T P.1
  have G := P.2.2.2.1
  have rm := r atMachine (by decide)
  have qT := (q atTotals (by decide) (by decide)).1
  have qC := (q atChooses (by decide) (by decide)).1
  have g1 := (G maWants (by decide)).1
  have g2 := (G maTotal (by decide)).1
  have g3 := (G maWays (by decide)).1
  have g4 := (G maWeights (by decide)).2 rfl
  have g5 : zA τ (zR τ maWeights (zR κ atMachine a)) = zA κ (zR κ maWeights (zR κ atMachine a)) := by rw [g4.1]; exact g4.2
  refine ⟨?_, fun x => ?_, by rw [rm]; exact g1, by rw [rm]; exact g3, by rw [rm]; exact g5⟩
  · unfold exM
    rw [rm, qT, qC, g1, g2]
    exact ⟨mDw_g G M.1, M.2⟩
  · unfold exW
    rw [rm, g1, g5]
theorem sgI_mo {f : Nat → Int} {m : Nat} : ∀ {n : Nat}, n ≤ m → (∀ i, i < m → 0 ≤ f i) → sgI f n ≤ sgI f m := by
  induction m with
  | zero =>
    intro n h _
    have : n = 0 := by omega
    rw [this]; exact Int.le_refl _
  | succ m ih =>
    intro n h p
    by_cases z : n = m + 1
    · rw [z]; exact Int.le_refl _
    · have a1 := ih (n := n) (by omega) (fun i hi => p i (Nat.lt_succ_of_lt hi))
      have a2 := p m (Nat.lt_succ_self m)
      show _ ≤ sgI f m + f m
      omega
/-- one way more -/
theorem ex_w {κ : zS} {a k : Nat} {d x : Int32} (M : exM κ a k d) (h : zI κ maWants (zR κ atMachine a) ≠ -1) (h0 : 0 ≤ x.toInt) (h1 : x.toInt < (zI κ maWays (zR κ atMachine a)).toInt) : ((zI κ maWays (zR κ atMachine a)).toInt ≤ 64) ∧ exW κ a (x + 1) = exW κ a x + (zA κ (zR κ maWeights (zR κ atMachine a)) x.toNatClampNeg).toInt ∧ 0 ≤ (zA κ (zR κ maWeights (zR κ atMachine a)) x.toNatClampNeg).toInt ∧ exW κ a (x + 1) ≤ 8000000 ∧ (zA κ (zR κ atChooses a) k ≠ 0 → (zA κ (zR κ maWeights (zR κ atMachine a)) x.toNatClampNeg).toInt = 1) := by
  have kx := cnk h0
  have hi9 := ihi (zI κ maWays (zR κ atMachine a))
  have e1 := cn1 h0 (by omega)
  have eq : exW κ a (x + 1) = exW κ a x + (zA κ (zR κ maWeights (zR κ atMachine a)) x.toNatClampNeg).toInt := by
    unfold exW
    rw [if_neg h, if_neg h, e1.1]
    rfl
  have ew : exW κ a (x + 1) = sgI (fun n => (zA κ (zR κ maWeights (zR κ atMachine a)) n).toInt) (x.toNatClampNeg + 1) := by
    unfold exW
    rw [if_neg h, e1.1]
  rcases M.1 with z | ⟨z, D⟩ | ⟨z, D⟩
  · exact absurd z h
  · have p : ∀ i, i < ((zI κ maWays (zR κ atMachine a)).toInt).toNat → 0 ≤ (zA κ (zR κ maWeights (zR κ atMachine a)) i).toInt := fun i hi => (D.2.1 i (by omega)).1
    have mo := sgI_mo (f := fun n => (zA κ (zR κ maWeights (zR κ atMachine a)) n).toInt) (n := x.toNatClampNeg + 1) (m := ((zI κ maWays (zR κ atMachine a)).toInt).toNat) (by omega) p
    have t1 := D.2.2.1
    have t2 := D.2.2.2.2
    have t3 := D.1.2
    refine ⟨t3, eq, (D.2.1 _ (by omega)).1, by omega, fun y => ?_⟩
    have := M.2.2.1.mp y
    rw [z] at this
    exact absurd this (by decide)
  · have o := D.2 x.toNatClampNeg (by omega)
    have t3 := D.1.2
    have s8 : ∀ n : Nat, n ≤ 8 → (n : Int) ≤ (zI κ maWays (zR κ atMachine a)).toInt → sgI (fun n => (zA κ (zR κ maWeights (zR κ atMachine a)) n).toInt) n = n := by
      intro n
      induction n with
      | zero => intro _ _; rfl
      | succ n ih =>
        intro h8 hw
        have a1 := ih (by omega) (by omega)
        have a2 := D.2 n (by omega)
        show sgI _ n + (zA κ (zR κ maWeights (zR κ atMachine a)) n).toInt = _
        rw [a1, a2]
        omega
    have s9 := s8 (x.toNatClampNeg + 1) (by omega) (by omega)
    exact ⟨by omega, eq, by omega, by omega, fun _ => o⟩
/-- all ways -/
theorem ex_e {κ : zS} {a k : Nat} {d x : Int32} (M : exM κ a k d) (h0 : 0 ≤ x.toInt) (h : zI κ maWants (zR κ atMachine a) ≠ -1 → x.toInt = (zI κ maWays (zR κ atMachine a)).toInt) : (1 ≤ exW κ a x ∧ exW κ a x ≤ 8000000) ∧ (zA κ (zR κ atChooses a) k = 0 → exW κ a x = (zA κ (zR κ atTotals a) k).toInt) := by
  have kx := cnk h0
  rcases M.1 with z | ⟨z, D⟩ | ⟨z, D⟩
  · have e : exW κ a x = 1 := if_pos z
    rw [e, M.2.2.2.2 z]
    exact ⟨by omega, fun _ => rfl⟩
  · have n1 : zI κ maWants (zR κ atMachine a) ≠ -1 := by rw [z]; decide
    have e : exW κ a x = sgI (fun n => (zA κ (zR κ maWeights (zR κ atMachine a)) n).toInt) x.toNatClampNeg := if_neg n1
    have hx := h n1
    have kk : x.toNatClampNeg = ((zI κ maWays (zR κ atMachine a)).toInt).toNat := by omega
    rw [kk] at e
    have t1 := D.2.2.1
    have t2 := D.2.2.2
    have t4 := M.2.2.2.1 z
    exact ⟨by omega, fun _ => by omega⟩
  · have n1 : zI κ maWants (zR κ atMachine a) ≠ -1 := by rw [z]; decide
    have e : exW κ a x = sgI (fun n => (zA κ (zR κ maWeights (zR κ atMachine a)) n).toInt) x.toNatClampNeg := if_neg n1
    have hx := h n1
    have s8 : ∀ n : Nat, (n : Int) ≤ (zI κ maWays (zR κ atMachine a)).toInt → sgI (fun n => (zA κ (zR κ maWeights (zR κ atMachine a)) n).toInt) n = n := by
      intro n
      induction n with
      | zero => intro _; rfl
      | succ n ih =>
        intro hw
        have a1 := ih (by omega)
        have a2 := D.2 n (by omega)
        show sgI _ n + (zA κ (zR κ maWeights (zR κ atMachine a)) n).toInt = _
        rw [a1, a2]
        omega
    have s9 := s8 x.toNatClampNeg (by omega)
    have b := D.1
    exact ⟨by omega, fun y => absurd (M.2.2.1.mpr z) (fun q => q y)⟩
/-- on the way through the ways -/
def exL (κ τ : zS) (a k : Nat) (d r x : Int32) : Prop := ldA τ a ∧ zF (exF κ a) κ τ ∧ (zR τ atMachine a = zR κ atMachine a ∧ zR τ atStates a = zR κ atStates a ∧ zR τ atEndings a = zR κ atEndings a) ∧ nb r ∧ (0 ≤ x.toInt ∧ x.toInt ≤ 64) ∧ (r ≠ 0 → exU9 τ a k ∧ exM τ a k d ∧ ldX τ a k (exW τ a x) ∧ (zI τ maWants (zR τ atMachine a) ≠ -1 → x.toInt ≤ (zI τ maWays (zR τ atMachine a)).toInt))
def exZ (κ τ : zS) (a k : Nat) (r : Int32) : Prop := ldA τ a ∧ zF (exF κ a) κ τ ∧ nb r ∧ (r ≠ 0 → exU9 τ a k ∧ ∃ w, ldX τ a k w ∧ (1 ≤ w ∧ w ≤ 8000000) ∧ (zA τ (zR τ atChooses a) k = 0 → w = (zA τ (zR τ atTotals a) k).toInt))
theorem exZ_L {κ τ : zS} {a k : Nat} {d r x : Int32} (L : exL κ τ a k d r x) (h : r ≠ 0 → zI τ maWants (zR τ atMachine a) ≠ -1 → x.toInt = (zI τ maWays (zR τ atMachine a)).toInt) : exZ κ τ a k r := by
  obtain ⟨A, Z, R, b, x0, L⟩ := L
  refine ⟨A, Z, b, fun hr => ?_⟩
  obtain ⟨E, M, X, -⟩ := L hr
  have q := ex_e M x0.1 (h hr)
  exact ⟨E, _, X, q.1, q.2⟩
/-- load, settle and lead for one way -/
theorem exL_s {C : zC} {n0 a k : Nat} {κ σ τ υ : zS} {d x y r : Int32} (W : zW C n0 σ) (T : zT σ a = 3) (L : exL κ σ a k d 1 x) (h : zI σ maWants (zR σ atMachine a) ≠ -1) (h1 : x.toInt < (zI σ maWays (zR σ atMachine a)).toInt) (P : ldP σ τ a ((zA σ (zR σ atFirsts a) k).toInt)) (Wt : zW C n0 τ) (Tt : zT τ a = 3) (B : ldA υ a) (Q : ldP τ υ a ((zA τ (zR τ atFirsts a) k).toInt)) (hb : nb r) (X : r ≠ 0 → ldX υ a k (exW σ a x + (zA τ (zR τ maWeights (zR τ atMachine a)) x.toNatClampNeg).toInt)) (e : y = x + 1) : exL κ υ a k d r y := by
  obtain ⟨A, Z, ⟨R1, R2, R3⟩, b, x0, L⟩ := L
  obtain ⟨E, M, X0, hw⟩ := L (by decide)
  have ww := ex_w M h x0.1 h1
  have f0 : zA τ (zR τ atFirsts a) = zA σ (zR σ atFirsts a) := ((ld_r W T P.1).2.2 atFirsts (by decide) (by decide)).1
  rw [f0] at Q
  have PQ := ldP.tr W T P Q
  have r0 := (ld_r W T PQ.1).1
  have f1 : zA υ (zR υ atFirsts a) = zA σ (zR σ atFirsts a) := ((ld_r W T PQ.1).2.2 atFirsts (by decide) (by decide)).1
  have m1 := exM_P W T P M
  have m2 := exM_P W T PQ M
  have e1 := cn1 x0.1 (by omega)
  refine ⟨B, Z.tr (PQ.1.mono (fun f z q => ?_)), ⟨(r0 atMachine (by decide)).trans R1, (r0 atStates (by decide)).trans R2, (r0 atEndings (by decide)).trans R3⟩, hb, by rw [e, e1.2]; omega, fun hr => ?_⟩
  · rcases exF_l q with q | q | q | q
    · exact Or.inl q
    · exact Or.inr (Or.inl (q.trans R1))
    · exact Or.inr (Or.inr (Or.inl (q.trans R2)))
    · exact Or.inr (Or.inr (Or.inr (q.trans R3)))
  · have X := X hr
    refine ⟨exU9_P W T PQ (by rw [← f1]; exact X.1.2) E, m2.1, ?_, fun _ => by rw [m2.2.2.2.1, e, e1.2]; omega⟩
    rw [m2.2.1, e, ww.2.1]
    rw [m1.2.2.2.2] at X
    exact X
theorem exI_a {C : zC} {n0 a k : Nat} {κ σ τ : zS} (W : zW C n0 σ) (T : zT σ a = 3) (H : exI κ σ a k) (F : mF σ τ (zR σ atMachine a)) (s : zI τ maShared (zR σ atMachine a) = zI σ maShared (zR σ atMachine a)) (O : mO τ (zR σ atMachine a) ∨ zI τ maOutcome (zR σ atMachine a) = 1) : exI κ τ a k := by
  obtain ⟨A, E, e, Z, R1, R2, R3, tq⟩ := H
  have tz : zI τ hoTotal (zR σ atStates a) = zI σ hoTotal (zR σ atStates a) := F.1.i (fun e => (at_ne W T).2.1 e.symm)
  rw [R2] at tz
  obtain ⟨h1, h2, h3, h4, h5⟩ := ld_a W T A E e F s O
  refine ⟨h1, h2, h3, Z.tr (h4.mono (fun f z q => ?_)), ?_⟩
  · rcases q with q | q | q | q
    · exact Or.inl q
    · exact Or.inr (Or.inl (q.trans R1))
    · exact Or.inr (Or.inr (Or.inl (q.trans R2)))
    · exact Or.inr (Or.inr (Or.inr (q.trans R3)))
  · rw [h5]; exact ⟨R1, R2, R3, tz.trans tq⟩
theorem exL_0 {κ τ : zS} {a k : Nat} {d : Int32} (H : exI κ τ a k) (M : exM τ a k d) (h : zI τ maWants (zR τ atMachine a) ≠ -1) : exL κ τ a k d 1 0 := by
  obtain ⟨A, E, e, Z, R⟩ := H
  refine ⟨A, Z, ⟨R.1, R.2.1, R.2.2.1⟩, nb_1, by decide, fun _ => ⟨E, M, ?_, fun _ => ?_⟩⟩
  · have z : exW τ a 0 = 0 := if_neg h
    rw [z]
    exact ld_o3 A e
  · rcases M.1 with z | ⟨z, D⟩ | ⟨z, D⟩
    · exact absurd z h
    · rw [t0i]; exact D.1.1
    · have := D.1.1
      rw [t0i]; omega
theorem exL_1 {C : zC} {n0 a k : Nat} {κ σ υ : zS} {d r : Int32} (W : zW C n0 σ) (T : zT σ a = 3) (H : exI κ σ a k) (M : exM σ a k d) (h : zI σ maWants (zR σ atMachine a) = -1) (B : ldA υ a) (P : ldP σ υ a ((zA σ (zR σ atFirsts a) k).toInt)) (hb : nb r) (X : r ≠ 0 → ldX υ a k (0 + Int32.toInt 1)) : exL κ υ a k d r 0 := by
  obtain ⟨A, E, e, Z, R1, R2, R3, -⟩ := H
  have r0 := (ld_r W T P.1).1
  have f1 : zA υ (zR υ atFirsts a) = zA σ (zR σ atFirsts a) := ((ld_r W T P.1).2.2 atFirsts (by decide) (by decide)).1
  have m := exM_P W T P M
  refine ⟨B, Z.tr (P.1.mono (fun f z q => ?_)), ⟨(r0 atMachine (by decide)).trans R1, (r0 atStates (by decide)).trans R2, (r0 atEndings (by decide)).trans R3⟩, hb, by decide, fun hr => ?_⟩
  · rcases exF_l q with q | q | q | q
    · exact Or.inl q
    · exact Or.inr (Or.inl (q.trans R1))
    · exact Or.inr (Or.inr (Or.inl (q.trans R2)))
    · exact Or.inr (Or.inr (Or.inr (q.trans R3)))
  · have X := X hr
    refine ⟨exU9_P W T P (by rw [← f1]; exact X.1.2) E, m.1, ?_, fun z => absurd (m.2.2.1.trans h) z⟩
    have z : exW σ a 0 = 1 := if_pos h
    rw [m.2.1, z]
    exact X
theorem At_expand_c {C : zC} {n0 : Nat} {a0 : Nat} {a1 : Int32} {a2 : Int32} {κ : zS} {Q : Int32 → zS → Prop} (W : zW C n0 κ) (Ta0 : zT κ a0 = 3)  (hp : ldA κ a0 ∧ (0 ≤ a1.toInt ∧ a1.toInt < 1000) ∧ exU9 κ a0 a1.toNatClampNeg ∧ (0 < a1.toNatClampNeg → (zA κ (zR κ atFirsts a0) a1.toNatClampNeg).toInt = (zI κ atNexts a0).toInt)) (h : ∀ (v : Int32) (κ' : zS), (ldA κ' a0 ∧ zF (exF κ a0) κ κ' ∧ nb v ∧ (v ≠ 0 → exU9 κ' a0 (a1.toNatClampNeg + 1) ∧ (zA κ' (zR κ' atFirsts a0) (a1.toNatClampNeg + 1)).toInt = (zI κ' atNexts a0).toInt) ∧ stB κ κ' a0 a2) → Q v κ') : zRun C 5 mAt_expand [.ref a0, .int a1, .int a2] κ (oI Q noX) := by
  refine At_expand_run W Ta0 ?_
  replace W := W.lo (Nat.le_trans W.1.2.1 W.1.2.2) (Nat.le_refl (zn κ))
  unfold w_At_expand_0
  obtain ⟨A0, k01, E0, F0⟩ := hp
  have kn := cnk k01.1
  have en := cn1 k01.1 (by omega)
  have hj231 : ∀ (l0 : Nat) (l1 : Int32) (l4 : Int32) (τ : zS), zW C (zn κ) τ → zT τ l0 = 3 → (a0 = l0 ∧ a1 = l1 ∧ stB κ τ a0 a2 ∧ exZ κ τ a0 a1.toNatClampNeg l4) → w_At_expand_231 C (zn κ) Q  l0 l1 l4 τ := by
    rintro _ _ y231_4 τ231 W231 T231_0 ⟨rfl, rfl, j231⟩
    unfold w_At_expand_231
    obtain ⟨b231, j231⟩ := j231
    refine ⟨?_, ?_⟩
    · have L := j231.1.1.1
      rw [inb_iff, en.2]; omega
    intro κ_1 hκ_1
    intro W2
    refine ⟨?_, h _ _ ?_⟩
    · exact j231.2.2.1  -- b2
    · obtain ⟨A, Z, b, q⟩ := j231
      rw [en.1] at hκ_1
      have ow : zO τ231 (zR τ231 atFirsts a0) = (atFirsts, a0) := atRf_o W231 T231_0 (by decide)
      have R : zR κ_1 = zR τ231 := by rw [hκ_1]; rfl
      have I : zI κ_1 = zI τ231 := by rw [hκ_1]; rfl
      have N : zN κ_1 = zN τ231 := by rw [hκ_1]; rfl
      refine ⟨(ld_own W231 T231_0 A (by rw [hκ_1]; exact zF_ua (by rw [ow])) R N I).1, Z.tr (by rw [hκ_1]; exact zF_ua (by rw [ow]; exact Or.inl ⟨rfl, Or.inl rfl⟩)), b, fun hr => ?_, fun z => by rw [R, I]; exact b231 z⟩
      obtain ⟨E, w, X, w1, wt⟩ := q hr
      exact ex_2 W231 T231_0 A E X w1 wt hκ_1
  have hh143 : ∀ (l0 : Nat) (l1 : Int32) (l2 : Int32) (l3 : Int32) (l4 : Int32) (l5 : Int32) (τ : zS), zW C (zn κ) τ → zT τ l0 = 3 → (a0 = l0 ∧ a1 = l1 ∧ a2 = l2 ∧ stB κ τ a0 a2 ∧ exL κ τ a0 a1.toNatClampNeg l3 l4 l5) → w_At_expand_143 C (zn κ) Q  l0 l1 l2 l3 l4 l5 τ := by
    intro z0 z1 z2 z3 z4 z5 τi Wi _ hinit
    unfold w_At_expand_143
    refine ⟨fun n l0 l1 l2 l3 l4 l5 τ => n = (64 - l5.toInt).toNat ∧ (a0 = l0 ∧ a1 = l1 ∧ a2 = l2 ∧ stB κ τ a0 a2 ∧ exL κ τ a0 a1.toNatClampNeg l3 l4 l5), ⟨_, rfl, hinit⟩, ?_⟩
    clear hinit
    rintro n143 _ _ _ x143_3 x143_4 x143_5 κ143 W143 T143_0 ⟨hn143, rfl, rfl, rfl, i143⟩
    obtain ⟨b143, i143⟩ := i143
    have hj156 : ∀ (l0 : Nat) (l1 : Int32) (l2 : Int32) (l3 : Int32) (l4 : Int32) (l5 : Int32) (τ : zS), zW C (zn κ) τ → zT τ l0 = 3 → (a0 = l0 ∧ a1 = l1 ∧ a2 = l2 ∧ κ143 = τ ∧ x143_3 = l3 ∧ x143_4 = l4 ∧ x143_5 = l5 ∧ (l4 ≠ 0 → zI τ maWants (zR τ atMachine a0) ≠ -1)) → w_At_expand_156 C (zn κ) Q (fun (l0' : Nat) (l1' : Int32) (l2' : Int32) (l3' : Int32) (l4' : Int32) (l5' : Int32) (τ : zS) => ∃ k < n143, (fun (n : Nat) (l0 : Nat) (l1 : Int32) (l2 : Int32) (l3 : Int32) (l4 : Int32) (l5 : Int32) (τ : zS) => n = (64 - l5.toInt).toNat ∧ (a0 = l0 ∧ a1 = l1 ∧ a2 = l2 ∧ stB κ τ a0 a2 ∧ exL κ τ a0 a1.toNatClampNeg l3 l4 l5)) k l0' l1' l2' l3' l4' l5' τ) l0 l1 l2 l3 l4 l5 τ := by
      rintro _ _ _ y156_3 y156_4 y156_5 τ156 W156 T156_0 ⟨rfl, rfl, rfl, j156⟩
      unfold w_At_expand_156
      obtain ⟨rfl, rfl, rfl, rfl, jw⟩ := j156
      refine ⟨fun c3 => ?_, fun c3 => ?_⟩
      · skip
        refine hj231 _ _ _ _ W156 ?_ ?_
        · exact T143_0  -- t4
        · rw [lei] at c3
          exact ⟨rfl, rfl, b143, exZ_L i143 (fun hr hw => by
            have := (i143.2.2.2.2.2 hr).2.2.2 hw
            omega)⟩
      · skip
        refine ⟨fun c4 => ?_, fun c4 => ?_⟩
        · skip
          refine hj231 _ _ _ _ W156 ?_ ?_
          · exact T143_0  -- t6
          · exact ⟨rfl, rfl, b143, exZ_L i143 (fun hr => absurd c4 hr)⟩  -- k7
        · skip
          have jh := jw c4
          have e4 : x143_4 = 1 := i143.2.2.2.1.resolve_left c4
          have LL := i143
          rw [e4] at LL
          obtain ⟨A, Z, R, b, x0, L⟩ := i143
          obtain ⟨E, M, X, xw⟩ := L c4
          rw [lei] at c3
          have h1 : x143_5.toInt < (zI κ143 maWays (zR κ143 atMachine a0)).toInt := by omega
          have ww := ex_w M jh x0.1 h1
          have kx := cnk x0.1
          have e1 := cn1 x0.1 (by omega)
          refine ⟨?_, ?_⟩
          · have Lm := A.2.2.2.1.1.1.2.2.2.2
            rw [inb_iff]; omega
          refine ⟨fun c5 => ?_, fun c5 => ?_⟩
          · skip
            intro x6 hx6
            refine ⟨_, ?_, rfl, ?_⟩
            · rw [hn143, hx6, e1.2]; omega  -- d9
            · rw [lei, t0i] at c5
              have e : exW κ143 a0 x6 = exW κ143 a0 x143_5 := by rw [hx6, ww.2.1]; omega
              exact ⟨rfl, rfl, rfl, b143, A, Z, R, b, by rw [hx6, e1.2]; omega, fun hr => ⟨E, M, by rw [e]; exact X, fun _ => by rw [hx6, e1.2]; omega⟩⟩
          · skip
            intro T7
            intro T8
            refine Ma_load_c W156 T7 T8  ?_ (fun κ_9 q10 => ?_)
            · exact ⟨A.2.2.2.1.1, A.2.2.2.1.2.1, A.2.2.1.1⟩  -- p11
            obtain ⟨A1, P1, X1⟩ := ld_f (lo := (zA κ143 (zR κ143 atFirsts a0) a1.toNatClampNeg).toInt) W143 T143_0 A X q10.1 q10.2.1 q10.2.2.1 (Or.inl q10.2.2.2)
            have r1 := (ld_r W143 T143_0 P1.1).1
            have T1 := P1.1.t T143_0 (by decide)
            have rm1 := r1 atMachine (by decide)
            have M1 := exM_P W143 T143_0 P1 M
            intro W11
            intro M12
            intro T13
            refine Ma_settle_c W11 T13  ?_ (fun κ_14 q15 => ?_)
            · exact ⟨A1.2.2.2.1.1, by rw [rm1]; exact q10.2.2.2, by rw [M1.2.2.2.1]; exact ww.1⟩  -- p12
            obtain ⟨A2, P2, X2⟩ := ld_f (lo := (zA κ143 (zR κ143 atFirsts a0) a1.toNatClampNeg).toInt) W11 T1 A1 X1 q15.1 q15.2.2.2 q15.2.1 q15.2.2.1
            have P12 := ldP.tr W143 T143_0 P1 P2
            have M2 := exM_P W143 T143_0 P12 M
            have T2 := P2.1.t T1 (by decide)
            intro W16
            intro M17
            refine ⟨?_, ?_⟩
            · have L2 := A2.2.2.2.1.1.1.2.2.2.2
              rw [inb_iff]; omega
            intro T18
            refine At_lead_c W16 T18 (exW κ143 a0 x143_5) ?_ (fun r19 κ_20 q21 => ?_)
            · have qC := ((ld_r W143 T143_0 P12.1).2.2 atChooses (by decide) (by decide)).1
              have w2 := ww.2.1
              have w3 := ww.2.2.2.1
              refine ⟨A2, X2, k01, ⟨by rw [M2.2.2.2.2]; exact ww.2.2.1, by rw [M2.2.2.2.2]; omega⟩, fun z => ?_⟩
              rw [qC] at z
              rw [M2.2.2.2.2]
              exact ww.2.2.2.2 z
            intro W22
            intro M23
            intro x24 hx24
            refine ⟨_, ?_, rfl, ?_⟩
            · rw [hn143, hx24, e1.2]; omega  -- d15
            · have nS := (at_ne W143 T143_0).2.1
              have nS1 := (at_ne W11 T1).2.1
              have t1 : zI κ_14 hoTotal (zR κ_14 atStates a0) = zI κ143 hoTotal (zR κ143 atStates a0) := by
                rw [(ld_r W11 T1 P2.1).1 atStates (by decide), q15.1.1.i (fun y => nS1 y.symm), r1 atStates (by decide), q10.1.1.i (fun y => nS y.symm)]
              exact ⟨rfl, rfl, rfl, fun z => q21.2.2.2.2 (by rw [t1]; exact b143 z), exL_s W143 T143_0 LL jh h1 P12 W16 T2 q21.1 q21.2.1 q21.2.2.1 q21.2.2.2.1 hx24⟩
    refine ⟨fun c25 => ?_, fun c25 => ?_⟩
    · skip
      refine hj156 _ _ _ _ _ _ _ W143 ?_ ?_
      · exact T143_0  -- t17
      · exact ⟨rfl, rfl, rfl, rfl, rfl, rfl, rfl, fun hr => by
          rw [(i143.2.2.2.2.2 hr).2.1.2.1.mp c25]; decide⟩
    · skip
      refine ⟨?_, ?_⟩
      · have L := i143.1.1.2.2.2.2.1
        rw [inb_iff]; omega
      refine ⟨fun c26 => ?_, fun c26 => ?_⟩
      · skip
        refine hj231 _ _ _ _ W143 ?_ ?_
        · exact T143_0  -- t20
        · exact ⟨rfl, rfl, b143, exZ_L i143 (fun hr hw => by
            have M := (i143.2.2.2.2.2 hr).2.1
            rcases M.1 with z | ⟨z, -⟩ | ⟨z, -⟩
            · exact absurd z hw
            · exact absurd c25 (M.2.1.mpr z)
            · exact absurd c26 (M.2.2.1.mpr z))⟩
      · skip
        refine hj156 _ _ _ _ _ _ _ W143 ?_ ?_
        · exact T143_0  -- t22
        · exact ⟨rfl, rfl, rfl, rfl, rfl, rfl, rfl, fun hr => by
            rw [(i143.2.2.2.2.2 hr).2.1.2.2.1.mp c26]; decide⟩
  have hj101 : ∀ (l0 : Nat) (l1 : Int32) (l2 : Int32) (l3 : Int32) (s0 : Nat) (s1 : Int32) (s2 : Int32) (τ : zS), zW C (zn κ) τ → zT τ l0 = 3 → zT τ s0 = 20 → (a0 = l0 ∧ a1 = l1 ∧ a2 = l2 ∧ exI κ τ a0 a1.toNatClampNeg ∧ mDw τ (zR κ atMachine a0) ∧ (l3 ≠ 0 ↔ zI τ maWants (zR κ atMachine a0) = 3) ∧ s0 = zR τ atTotals a0 ∧ a1 = s1 ∧ (zA τ (zR τ atChooses a0) a1.toNatClampNeg ≠ 0 ↔ zI τ maWants (zR κ atMachine a0) = 4) ∧ (zI τ maWants (zR κ atMachine a0) = 3 → s2 = zI τ maTotal (zR κ atMachine a0)) ∧ (zI τ maWants (zR κ atMachine a0) = -1 → s2 = 1)) → w_At_expand_101 C (zn κ) Q  l0 l1 l2 l3 s0 s1 s2 τ := by
    rintro _ _ _ y101_3 y101_s0 y101_s1 y101_s2 τ101 W101 T101_0 T101_1 ⟨rfl, rfl, rfl, j101⟩
    unfold w_At_expand_101
    obtain ⟨H, D, d3, rfl, rfl, cC, t3, t1⟩ := j101
    refine ⟨?_, ?_⟩
    · have L := H.1.1.2.1
      rw [inb_iff]; omega
    intro κ_27 hκ_27
    intro W28
    have U1 := ex_u W101 T101_0 H (Or.inr (Or.inl rfl)) hκ_27
    have T27 : zT κ_27 a0 = 3 := by rw [hκ_27]; exact T101_0
    refine ⟨?_, ?_⟩
    · have L := U1.1.1.1.2.2.1
      rw [inb_iff]; omega
    intro κ_29 hκ_29
    intro W30
    have U2 := ex_u W28 T27 U1.1 (Or.inr (Or.inr rfl)) hκ_29
    have T29 : zT κ_29 a0 = 3 := by rw [hκ_29]; exact T27
    have G := U1.2.1.tr U2.2.1
    have rm : zR κ_29 atMachine a0 = zR κ atMachine a0 := U2.1.2.2.2.2.1
    have gw := (G maWants (by decide)).1
    have gt := (G maTotal (by decide)).1
    have cr : zA κ_29 (zR κ_29 atChooses a0) = zA τ101 (zR τ101 atChooses a0) := by
      rw [U2.2.2.1, U2.2.2.2.2.1 atChooses (by decide) (by decide), U1.2.2.1, U1.2.2.2.2.1 atChooses (by decide) (by decide)]
    have tr9 : zA κ_29 (zR κ_29 atTotals a0) a1.toNatClampNeg = y101_s2 := by
      rw [U2.2.2.1, U2.2.2.2.2.1 atTotals (by decide) (by decide), U1.2.2.1, U1.2.2.2.2.2]
      exact if_pos rfl
    have sb29 : stB κ κ_29 a0 a2 := fun z => by
      rw [U2.1.2.2.2.2.2.1, U2.1.2.2.2.2.2.2.2]
      exact z
    have M9 : exM κ_29 a0 a1.toNatClampNeg y101_3 := by
      unfold exM
      rw [rm, cr, tr9, gw, gt]
      exact ⟨mDw_g G D, d3, cC, fun z => by rw [t3 z], fun z => by rw [t1 z]; rfl⟩
    refine ⟨fun c31 => ?_, fun c31 => ?_⟩
    · skip
      refine hh143 _ _ _ _ _ _ _ W30 (by assumption) ?_
      · exact ⟨rfl, rfl, rfl, sb29, exL_0 U2.1 M9 (by rw [M9.2.1.mp c31]; decide)⟩  -- j26
    · skip
      refine ⟨?_, ?_⟩
      · have L := U2.1.1.1.2.2.2.2.1
        rw [inb_iff]; omega
      refine ⟨fun c32 => ?_, fun c32 => ?_⟩
      · skip
        refine hh143 _ _ _ _ _ _ _ W30 (by assumption) ?_
        · exact ⟨rfl, rfl, rfl, sb29, exL_0 U2.1 M9 (by rw [M9.2.2.1.mp c32]; decide)⟩  -- j28
      · skip
        intro T33
        refine At_lead_c W30 T33 0 ?_ (fun r34 κ_35 q36 => ?_)
        · exact ⟨U2.1.1, ld_o3 U2.1.1 U2.1.2.2.1, k01, by decide, fun z => absurd c32 z⟩  -- p29
        have T35 := q36.2.1.1.t T29 (by decide)
        intro W37
        intro M38
        refine hh143 _ _ _ _ _ _ _ W37 (by assumption) ?_
        · have hw : zI κ_29 maWants (zR κ_29 atMachine a0) = -1 := by
            rcases M9.1 with z | ⟨z, -⟩ | ⟨z, -⟩
            · exact z
            · exact absurd c31 (M9.2.1.mpr z)
            · exact absurd c32 (M9.2.2.1.mpr z)
          exact ⟨rfl, rfl, rfl, fun z => q36.2.2.2.2 (sb29 z), exL_1 W30 T29 U2.1 M9 hw q36.1 q36.2.1 q36.2.2.1 q36.2.2.2.1⟩
  have hj67 : ∀ (l0 : Nat) (l1 : Int32) (l2 : Int32) (l3 : Int32) (s0 : Nat) (s1 : Int32) (s2 : Int32) (τ : zS), zW C (zn κ) τ → zT τ l0 = 3 → zT τ s0 = 23 → (a0 = l0 ∧ a1 = l1 ∧ a2 = l2 ∧ exI κ τ a0 a1.toNatClampNeg ∧ mDw τ (zR κ atMachine a0) ∧ (l3 ≠ 0 ↔ zI τ maWants (zR κ atMachine a0) = 3) ∧ s0 = zR τ atChooses a0 ∧ a1 = s1 ∧ (s2 = 0 ∨ s2 = 1) ∧ (s2 ≠ 0 ↔ zI τ maWants (zR κ atMachine a0) = 4)) → w_At_expand_67 C (zn κ) Q  l0 l1 l2 l3 s0 s1 s2 τ := by
    rintro _ _ _ y67_3 y67_s0 y67_s1 y67_s2 τ67 W67 T67_0 T67_1 ⟨rfl, rfl, rfl, j67⟩
    unfold w_At_expand_67
    obtain ⟨H, D, d3, rfl, rfl, s01, s4⟩ := j67
    refine ⟨?_, ?_⟩
    · have L := H.1.1.2.2.2.2.1
      rw [inb_iff]; omega
    intro κ_39 hκ_39
    intro W40
    have nv : vp_nar .boolean y67_s2 = y67_s2 := by
      rcases s01 with e | e
      · rw [e]; rfl
      · rw [e]; rfl
    rw [nv] at hκ_39
    have U := ex_u W67 T67_0 H (Or.inl rfl) hκ_39
    have T39 : zT κ_39 a0 = 3 := by rw [hκ_39]; exact T67_0
    have gw := (U.2.1 maWants (by decide)).1
    have cv : zA κ_39 (zR κ_39 atChooses a0) a1.toNatClampNeg = y67_s2 := by
      rw [U.2.2.1, U.2.2.2.2.2]; exact if_pos rfl
    have D9 := mDw_g U.2.1 D
    rw [← gw] at d3 s4
    have s5 := s4
    rw [← cv] at s5
    refine ⟨fun c41 => ?_, fun c41 => ?_⟩
    · skip
      refine ⟨?_, ?_⟩
      · have L := U.1.1.1.2.2.2.2.1
        rw [inb_iff]; omega
      refine ⟨fun c42 => ?_, fun c42 => ?_⟩
      · skip
        refine hj101 _ _ _ _ _ _ _ _ W40 ?_ ?_ ?_
        · exact T39  -- t33
        · exact ty_atTotals W40 T39  -- t34
        · exact ⟨rfl, rfl, rfl, U.1, D9, d3, rfl, rfl, s5, fun z => absurd c41 (d3.mpr z), fun _ => rfl⟩  -- k35
      · skip
        refine hj101 _ _ _ _ _ _ _ _ W40 ?_ ?_ ?_
        · exact T39  -- t36
        · exact ty_atTotals W40 T39  -- t37
        · exact ⟨rfl, rfl, rfl, U.1, D9, d3, rfl, rfl, s5, fun z => absurd c41 (d3.mpr z), fun z => by
            have y := s5.mp c42
            rw [z] at y
            exact absurd y (by decide)⟩
    · skip
      refine hj101 _ _ _ _ _ _ _ _ W40 ?_ ?_ ?_
      · exact T39  -- t39
      · exact ty_atTotals W40 T39  -- t40
      · have rm : zR κ_39 atMachine a0 = zR κ atMachine a0 := U.1.2.2.2.2.1
        exact ⟨rfl, rfl, rfl, U.1, D9, d3, rfl, rfl, s5, fun _ => by rw [rm], fun z => by
          have y := d3.mp c41
          rw [z] at y
          exact absurd y (by decide)⟩
  have hj45 : ∀ (l0 : Nat) (l1 : Int32) (l2 : Int32) (s0 : Int32) (τ : zS), zW C (zn κ) τ → zT τ l0 = 3 → (a0 = l0 ∧ a1 = l1 ∧ a2 = l2 ∧ exI κ τ a0 a1.toNatClampNeg ∧ mDw τ (zR κ atMachine a0) ∧ (s0 ≠ 0 ↔ zI τ maWants (zR κ atMachine a0) = 3)) → w_At_expand_45 C (zn κ) Q  l0 l1 l2 s0 τ := by
    rintro _ _ _ y45_s0 τ45 W45 T45_0 ⟨rfl, rfl, rfl, j45⟩
    unfold w_At_expand_45
    have rm : zR τ45 atMachine a0 = zR κ atMachine a0 := j45.1.2.2.2.2.1
    refine ⟨fun c43 => ?_, fun c43 => ?_⟩
    · skip
      refine hj67 _ _ _ _ _ _ _ _ W45 ?_ ?_ ?_
      · exact T45_0  -- t42
      · exact ty_atChooses W45 T45_0  -- t43
      · rw [rm] at c43
        exact ⟨rfl, rfl, rfl, j45.1, j45.2.1, j45.2.2, rfl, rfl, Or.inl rfl, fun z => absurd rfl z, fun z => absurd z c43⟩
    · skip
      refine hj67 _ _ _ _ _ _ _ _ W45 ?_ ?_ ?_
      · exact T45_0  -- t45
      · exact ty_atChooses W45 T45_0  -- t46
      · rw [rm] at c43
        exact ⟨rfl, rfl, rfl, j45.1, j45.2.1, j45.2.2, rfl, rfl, Or.inr rfl, fun _ => c43, fun _ => by decide⟩
  refine ⟨?_, ?_⟩
  · have L := A0.1.1
    rw [inb_iff]; omega
  intro κ_44 hκ_44
  intro W45
  intro T46
  intro T47
  have H1 := ex_1 W Ta0 A0 E0 F0 hκ_44
  have T44 : zT κ_44 a0 = 3 := by rw [hκ_44]; exact Ta0
  refine Ma_load_c W45 T46 T47  ?_ (fun κ_48 q49 => ?_)
  · exact ⟨H1.1.2.2.2.1.1, H1.1.2.2.2.1.2.1, H1.1.2.2.1.1⟩  -- p49
  have H2 := exI_a W45 T44 H1 q49.1 q49.2.2.1 (Or.inl q49.2.2.2)
  have T48 := q49.1.1.t T44 (by decide)
  intro W50
  intro M51
  intro T52
  refine Ma_act_c W50 T52  ?_ (fun κ_53 q54 => ?_)
  · exact ⟨H2.1.2.2.2.1.1, by rw [q49.1.2.1]; exact q49.2.2.2⟩  -- p50
  have H3 := exI_a W50 T48 H2 q54.1 q54.2.1 q54.2.2.1
  have T53 := q54.1.1.t T48 (by decide)
  have rm : zR κ_53 atMachine a0 = zR κ atMachine a0 := H3.2.2.2.2.1
  have rm2 : zR κ_48 atMachine a0 = zR κ atMachine a0 := H2.2.2.2.2.1
  have D : mDw κ_53 (zR κ atMachine a0) := by rw [← rm2]; exact q54.2.2.2
  intro W55
  intro M56
  refine ⟨fun c57 => ?_, fun c57 => ?_⟩
  · skip
    refine hj45 _ _ _ _ _ W55 ?_ ?_
    · exact T53  -- t51
    · rw [rm] at c57
      exact ⟨rfl, rfl, rfl, H3, D, fun z => absurd rfl z, fun z => absurd z c57⟩
  · skip
    refine hj45 _ _ _ _ _ W55 ?_ ?_
    · exact T53  -- t53
    · rw [rm] at c57
      exact ⟨rfl, rfl, rfl, H3, D, fun _ => c57, fun _ => by decide⟩
