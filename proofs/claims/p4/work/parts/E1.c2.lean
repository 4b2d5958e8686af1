set_option maxHeartbeats 1600000
/-! the class: ChanceWorks between calls; what is not touched stays -/
/-- no field of an object of this class is in the frame -/
def un9 (F : Nat → Nat → Prop) (x K : Nat) : Prop := ∀ f, f / 100 = K → ¬ F f x
theorem ta_u9 {C : zC} {n0 t : Nat} {F : Nat → Nat → Prop} {κ τ : zS} (Z : zF F κ τ) (W : zW C n0 κ) (T : zT κ t = 13) (h : un9 F t 13) (H : taI κ t ∧ tokI κ t) : (taI τ t ∧ tokI τ t) ∧ zI τ taLength t = zI κ taLength t := by
  have i : ∀ f, f / 100 = 13 → zI τ f t = zI κ f t := fun f hf => Z.i (h f hf)
  have r : ∀ f, f / 100 = 13 → zR τ f t = zR κ f t := fun f hf => Z.r (h f hf)
  have p := (Z.row W (show zr taPlaces = some 20 by decide +kernel) (by decide) T (h taPlaces (by decide))).1
  have l := (Z.row W (show zr taLengths = some 20 by decide +kernel) (by decide) T (h taLengths (by decide))).1
  refine ⟨⟨?_, ?_⟩, i _ (by decide)⟩
  · unfold taI
    rw [i taLength (by decide), i taTotal (by decide), r taBytes (by decide), r taKinds (by decide), r taPlaces (by decide), r taLengths (by decide), Z.l (ty_taBytes W T), Z.l (ty_taKinds W T), Z.l (ty_taPlaces W T), Z.l (ty_taLengths W T)]
    exact H.1
  · unfold tokI
    rw [p, l, r taBytes (by decide), r taKinds (by decide), Z.l (ty_taBytes W T), Z.l (ty_taKinds W T)]
    exact H.2
theorem co_u9 {C : zC} {n0 c : Nat} {F : Nat → Nat → Prop} {κ τ : zS} (Z : zF F κ τ) (W : zW C n0 κ) (T : zT κ c = 5) (n : un9 F c 5) : (coI κ c → coI τ c) ∧ zI τ coVars c = zI κ coVars c ∧ zI τ coCells c = zI κ coCells c := by
  have i5 : ∀ f, f ∈ coIf → f / 100 = 5 := by decide
  refine ⟨fun I => coI_g I (fun f hf => Z.i (n f (i5 f hf))) (fun f hf => Z.r (n f (coRf_r f hf).2)) (fun f hf => Z.l (coRf_t W T hf)) (fun f hf => ?_), Z.i (n _ (by decide)), Z.i (n _ (by decide))⟩
  have m : f ∈ coRf := by rcases hf with rfl | rfl <;> decide
  have r := (Z.row W (coRf_r f m).1 (by decide) (T.trans (coRf_r f m).2.symm) (n f (coRf_r f m).2)).1
  rw [Z.r (n f (coRf_r f m).2)] at r
  exact r
theorem pa_u9 {C : zC} {n0 p : Nat} {F : Nat → Nat → Prop} {κ τ : zS} (Z : zF F κ τ) (W : zW C n0 κ) (T : zT κ p = 10) (n : un9 F p 10) (H : paL κ p ∧ paC κ p) : (paL τ p ∧ paC τ p) ∧ zR τ paTape p = zR κ paTape p := by
  have i : ∀ f, f / 100 = 10 → zI τ f p = zI κ f p := fun f hf => Z.i (n f hf)
  have r : ∀ f, f / 100 = 10 → zR τ f p = zR κ f p := fun f hf => Z.r (n f hf)
  refine ⟨⟨?_, ?_⟩, r _ (by decide)⟩
  · unfold paL
    rw [r paVarNames (by decide), r paArrayNames (by decide), r paFunctionNames (by decide), r paOwnNames (by decide), r paOwners (by decide), r paLasts (by decide), r paElses (by decide), Z.l (ty_paVarNames W T), Z.l (ty_paArrayNames W T), Z.l (ty_paFunctionNames W T), Z.l (ty_paOwnNames W T), Z.l (ty_paOwners W T), Z.l (ty_paLasts W T), Z.l (ty_paElses W T)]
    exact H.1
  · unfold paC
    rw [i paOwns (by decide), i paBlocks (by decide), i paWaits (by decide), r paWaiting (by decide), Z.l (ty_paWaiting W T)]
    exact H.2
theorem ma_u9 {C : zC} {n0 m : Nat} {F : Nat → Nat → Prop} {κ τ : zS} (Z : zF F κ τ) (W : zW C n0 κ) (T : zT κ m = 7) (n : un9 F m 7) (H : maL κ m) : maL τ m := by
  have r : ∀ f, f / 100 = 7 → zR τ f m = zR κ f m := fun f hf => Z.r (n f hf)
  unfold maL
  rw [r maMemory (by decide), r maStack (by decide), r maWorked (by decide), r maValues (by decide), r maWeights (by decide), Z.l (ty_maMemory W T), Z.l (ty_maStack W T), Z.l (ty_maWorked W T), Z.l (ty_maValues W T), Z.l (ty_maWeights W T)]
  exact H
theorem ho_u9 {C : zC} {n0 h M D S : Nat} {F : Nat → Nat → Prop} {κ τ : zS} (Z : zF F κ τ) (W : zW C n0 κ) (T : zT κ h = 6) (n : un9 F h 6) : (hoI κ h M D S → hoI τ h M D S) ∧ pV9 τ h = pV9 κ h ∧ zI τ hoTotal h = zI κ hoTotal h := by
  have q : ∀ f, f = hoStarts ∨ f = hoTable ∨ f = hoPool → zR τ f h = zR κ f h ∧ zA τ (zR κ f h) = zA κ (zR κ f h) ∧ zN τ (zR κ f h) = zN κ (zR κ f h) := fun f hf => by
    have q : zr f = some 20 ∧ f / 100 = 6 := by rcases hf with rfl | rfl | rfl <;> decide +kernel
    have w := (Z.row W q.1 (by decide) (T.trans q.2.symm) (n f q.2)).1
    have e := Z.r (n f q.2)
    rw [e] at w
    exact ⟨e, w, Z.l (W.r q.1 (T.trans q.2.symm))⟩
  have t : zI τ hoTotal h = zI κ hoTotal h := Z.i (n hoTotal (by decide))
  refine ⟨fun I => hoI_f I (fun f hf => Z.i (n f hf)) q, ?_, t⟩
  funext k i
  have s := q hoStarts (Or.inl rfl)
  have p := q hoPool (Or.inr (Or.inr rfl))
  unfold pV9
  rw [t, s.1, p.1, s.2.1, p.2.1]
theorem we_u9 {C : zC} {n0 w : Nat} {F : Nat → Nat → Prop} {κ τ : zS} (Z : zF F κ τ) (W : zW C n0 κ) (T : zT κ w = 14) (n : un9 F w 14) : (weM κ w → weM τ w) ∧ (weU κ w → weU τ w) ∧ (weL κ w → weL τ w) := by
  have h : ∀ f, f ∈ weRf → zN τ (zR τ f w) = zN κ (zR κ f w) := fun f hf => by
    obtain ⟨⟨t, h1, h2⟩, h3⟩ := weRf_r f hf
    have ty := W.r h1 (T.trans h3.symm)
    have t1 : zT κ (zR κ f w) = (t - 1) + 1 := by omega
    rw [Z.r (n f h3)]
    exact Z.l t1
  refine ⟨fun M => ?_, fun M => ?_, fun M => ?_⟩
  · unfold weM
    rw [h weFirsts (by decide), h weBackFirsts (by decide), h weOpen (by decide), h weKnotFirsts (by decide), h weKnotOf (by decide), h weOrder (by decide), h weSeen (by decide), h weLow (by decide), h weCursor (by decide), h wePath (by decide), h weHeap (by decide)]
    exact M
  · unfold weU
    rw [h weFirsts (by decide), h weBackFirsts (by decide), h weOpen (by decide), h weKnotFirsts (by decide), h weKnotOf (by decide), h weOrder (by decide), h weSeen (by decide), h weLow (by decide), h weCursor (by decide), h wePath (by decide), h weHeap (by decide)]
    exact M
  · unfold weL
    rw [h weTargets (by decide), h weSources (by decide), h weEdges (by decide)]
    exact M
/-- an atlas's rows and numbers: the plan may be touched -/
theorem at_u9 {C : zC} {n0 a : Nat} {F : Nat → Nat → Prop} {κ τ : zS} (Z : zF F κ τ) (W : zW C n0 κ) (T : zT κ a = 3) (n : ∀ f, f / 100 = 3 → f ≠ atPlan → ¬ F f a) (hp : zR τ atPlan a = zR κ atPlan a) : (∀ f, f / 100 = 3 → zR τ f a = zR κ f a) ∧ (∀ f, f ∈ atRf → zN τ (zR κ f a) = zN κ (zR κ f a) ∧ (f ≠ atPlan → zA τ (zR κ f a) = zA κ (zR κ f a))) := by
  have r : ∀ f, f / 100 = 3 → zR τ f a = zR κ f a := fun f hf => by
    by_cases e : f = atPlan
    · rw [e]; exact hp
    · exact Z.r (n f hf e)
  refine ⟨r, fun f hf => ?_⟩
  obtain ⟨⟨t, h1, h2⟩, h3⟩ := atRf_r f hf
  have ty := W.r h1 (T.trans h3.symm)
  have t1 : zT κ (zR κ f a) = (t - 1) + 1 := by omega
  refine ⟨Z.l t1, fun e => ?_⟩
  have q := (Z.row W h1 h2 (T.trans h3.symm) (n f h3 e)).1
  rw [r f h3] at q
  exact q
theorem atM_u9 {a : Nat} {κ τ : zS} (g : (∀ f, f / 100 = 3 → zR τ f a = zR κ f a) ∧ (∀ f, f ∈ atRf → zN τ (zR κ f a) = zN κ (zR κ f a) ∧ (f ≠ atPlan → zA τ (zR κ f a) = zA κ (zR κ f a)))) : (atM κ a → atM τ a) ∧ (atU κ a → atU τ a) ∧ (atL κ a → atL τ a) := by
  obtain ⟨r, g⟩ := g
  refine ⟨fun A1 => ?_, fun A1 => ?_, fun A2 => ?_⟩
  · unfold atM
    rw [r atFirsts (by decide), r atTotals (by decide), r atGains (by decide), r atPlan (by decide), r atChooses (by decide), r atHopeless (by decide), (g atFirsts (by decide)).1, (g atTotals (by decide)).1, (g atGains (by decide)).1, (g atPlan (by decide)).1, (g atChooses (by decide)).1, (g atHopeless (by decide)).1]
    exact A1
  · unfold atU
    rw [r atFirsts (by decide), r atTotals (by decide), r atGains (by decide), r atPlan (by decide), r atChooses (by decide), r atHopeless (by decide), (g atFirsts (by decide)).1, (g atTotals (by decide)).1, (g atGains (by decide)).1, (g atPlan (by decide)).1, (g atChooses (by decide)).1, (g atHopeless (by decide)).1]
    exact A1
  · unfold atL
    rw [r atSorts (by decide), r atNumbers (by decide), r atWeights (by decide), (g atSorts (by decide)).1, (g atNumbers (by decide)).1, (g atWeights (by decide)).1]
    exact A2
/-- atW stays, both ways -/
theorem atW_u9 {a n : Nat} {κ τ : zS} (g : (∀ f, f / 100 = 3 → zR τ f a = zR κ f a) ∧ (∀ f, f ∈ atRf → zN τ (zR κ f a) = zN κ (zR κ f a) ∧ (f ≠ atPlan → zA τ (zR κ f a) = zA κ (zR κ f a)))) (ix : zI τ atNexts a = zI κ atNexts a) (is : zI τ hoTotal (zR κ atStates a) = zI κ hoTotal (zR κ atStates a)) (ie : zI τ hoTotal (zR κ atEndings a) = zI κ hoTotal (zR κ atEndings a)) : atW τ a n ↔ atW κ a n := by
  obtain ⟨r, g⟩ := g
  unfold atW atM atL exK
  rw [r atFirsts (by decide), r atTotals (by decide), r atGains (by decide), r atPlan (by decide), r atChooses (by decide), r atHopeless (by decide), r atSorts (by decide), r atNumbers (by decide), r atWeights (by decide), r atStates (by decide), r atEndings (by decide), is, ie, ix, (g atFirsts (by decide)).1, (g atTotals (by decide)).1, (g atGains (by decide)).1, (g atPlan (by decide)).1, (g atChooses (by decide)).1, (g atHopeless (by decide)).1, (g atSorts (by decide)).1, (g atNumbers (by decide)).1, (g atWeights (by decide)).1, (g atFirsts (by decide)).2 (by decide), (g atTotals (by decide)).2 (by decide), (g atChooses (by decide)).2 (by decide), (g atSorts (by decide)).2 (by decide), (g atNumbers (by decide)).2 (by decide), (g atWeights (by decide)).2 (by decide)]
