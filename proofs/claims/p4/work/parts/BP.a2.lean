set_option maxHeartbeats 1600000
/-! the class: Atlas's lead -/
/-- nexts in order: states and endings that there are, weights not below 0 -/
def nxO (nS nE : Int) (S N Wt : Nat → Int32) (lo hi : Int) : Prop := ∀ i : Nat, lo ≤ (i : Int) → (i : Int) < hi → (S i = 0 → 0 ≤ (N i).toInt ∧ (N i).toInt < nS) ∧ (S i = 1 → 0 ≤ (N i).toInt ∧ (N i).toInt < nE) ∧ 0 ≤ (Wt i).toInt
def wSm (Wt : Nat → Int32) (lo hi : Int) : Int := sgI (fun i => (Wt (lo.toNat + i)).toInt) (hi - lo).toNat
theorem sgI_up {f g : Nat → Int} {j : Nat} {d : Int} : ∀ {n : Nat}, j < n → (∀ i, i < n → i ≠ j → g i = f i) → g j = f j + d → sgI g n = sgI f n + d
  | 0, h, _, _ => absurd h (Nat.not_lt_zero _)
  | n + 1, h, e, ej => by
    show sgI g n + g n = sgI f n + f n + d
    by_cases z : j = n
    · subst z
      rw [sgI_eq (f := g) (g := f) (fun i hi => e i (Nat.lt_succ_of_lt hi) (Nat.ne_of_lt hi)), ej]
      omega
    · rw [sgI_up (f := f) (g := g) (n := n) (by omega) (fun i hi hne => e i (Nat.lt_succ_of_lt hi) hne) ej, e n (Nat.lt_succ_self n) (fun q => z q.symm)]
      omega
/-- a machine at rest -/
def atR (κ : zS) (m : Nat) : Prop := mkI κ m ∧ (0 ≤ (zI κ maShared m).toInt ∧ (zI κ maShared m).toInt ≤ 34) ∧ (mO κ m ∨ zI κ maOutcome m = 1)
def ldA (κ : zS) (a : Nat) : Prop := atM κ a ∧ atL κ a ∧ atH κ a ∧ atR κ (zR κ atMachine a) ∧ (0 ≤ (zI κ atNexts a).toInt ∧ (zI κ atNexts a).toInt ≤ (zN κ (zR κ atNumbers a))) ∧ zR κ atStates a ≠ zR κ atEndings a
def ldX (κ : zS) (a : Nat) (k : Nat) (w : Int) : Prop := (0 ≤ (zA κ (zR κ atFirsts a) k).toInt ∧ (zA κ (zR κ atFirsts a) k).toInt ≤ (zI κ atNexts a).toInt) ∧ nxO ((zI κ hoTotal (zR κ atStates a)).toInt) ((zI κ hoTotal (zR κ atEndings a)).toInt) (zA κ (zR κ atSorts a)) (zA κ (zR κ atNumbers a)) (zA κ (zR κ atWeights a)) ((zA κ (zR κ atFirsts a) k).toInt) ((zI κ atNexts a).toInt) ∧ wSm (zA κ (zR κ atWeights a)) ((zA κ (zR κ atFirsts a) k).toInt) ((zI κ atNexts a).toInt) = w ∧ (zA κ (zR κ atChooses a) k ≠ 0 → ∀ i : Nat, (zA κ (zR κ atFirsts a) k).toInt ≤ (i : Int) → (i : Int) < (zI κ atNexts a).toInt → (zA κ (zR κ atWeights a) i).toInt = 1)
/-- what may be touched -/
abbrev ldF (κ : zS) (a : Nat) : Nat → Nat → Prop := fun f x => adF a f x ∨ x = zR κ atMachine a ∨ x = zR κ atStates a ∨ x = zR κ atEndings a
/-- nexts below a place stay, stores only grow -/
def ldP (κ τ : zS) (a : Nat) (lo : Int) : Prop := zF (ldF κ a) κ τ ∧ (∀ i : Nat, (i : Int) < lo → zA τ (zR τ atSorts a) i = zA κ (zR κ atSorts a) i ∧ zA τ (zR τ atNumbers a) i = zA κ (zR κ atNumbers a) i ∧ zA τ (zR τ atWeights a) i = zA κ (zR κ atWeights a) i) ∧ ((zI κ hoTotal (zR κ atStates a)).toInt ≤ (zI τ hoTotal (zR κ atStates a)).toInt ∧ (zI κ hoTotal (zR κ atEndings a)).toInt ≤ (zI τ hoTotal (zR κ atEndings a)).toInt) ∧ mG κ τ (zR κ atMachine a) ∧ zI τ maShared (zR κ atMachine a) = zI κ maShared (zR κ atMachine a)
/-- Atlas's own objects differ -/
theorem at_ne {C : zC} {n0 a : Nat} {κ : zS} (W : zW C n0 κ) (T : zT κ a = 3) : (zR κ atMachine a ≠ a ∧ zR κ atStates a ≠ a ∧ zR κ atEndings a ≠ a) ∧ zR κ atMachine a ≠ zR κ atStates a ∧ zR κ atMachine a ≠ zR κ atEndings a := by
  have m := ty_atMachine W T
  have s := ty_atStates W T
  have e := ty_atEndings W T
  refine ⟨⟨fun z => ?_, fun z => ?_, fun z => ?_⟩, fun z => ?_, fun z => ?_⟩
  · rw [z, T] at m; exact absurd m (by decide)
  · rw [z, T] at s; exact absurd s (by decide)
  · rw [z, T] at e; exact absurd e (by decide)
  · rw [z, s] at m; exact absurd m (by decide)
  · rw [z, e] at m; exact absurd m (by decide)
/-- what stays of the atlas under such a frame -/
theorem ld_r {C : zC} {n0 a : Nat} {κ τ : zS} (W : zW C n0 κ) (T : zT κ a = 3) (Z : zF (ldF κ a) κ τ) : (∀ f, f < atSorts ∨ atNexts < f → zR τ f a = zR κ f a) ∧ (∀ f, f < atSorts ∨ atNexts < f → zI τ f a = zI κ f a) ∧ (∀ f, f ∈ atRf → f < atSorts → zA τ (zR τ f a) = zA κ (zR κ f a) ∧ zN τ (zR τ f a) = zN κ (zR κ f a)) := by
  have n := at_ne W T
  have nf : ∀ f, f < atSorts ∨ atNexts < f → ¬ ldF κ a f a := fun f h z => by
    rcases z with z | z | z | z
    · have q := z.2
      have e1 : (atSorts : Nat) = 312 := rfl
      have e2 : (atNumbers : Nat) = 313 := rfl
      have e3 : (atWeights : Nat) = 314 := rfl
      have e4 : (atNexts : Nat) = 315 := rfl
      omega
    · exact n.1.1 z.symm
    · exact n.1.2.1 z.symm
    · exact n.1.2.2 z.symm
  refine ⟨fun f h => Z.r (nf f h), fun f h => Z.i (nf f h), fun f hf h => ?_⟩
  obtain ⟨⟨t, h1, h2⟩, h3⟩ := atRf_r f hf
  have T9 : zT κ a = f / 100 := T.trans h3.symm
  have ty := W.r h1 T9
  refine ⟨(Z.row W h1 h2 T9 (nf f (Or.inl h))).1, ?_⟩
  rw [Z.r (nf f (Or.inl h))]
  have t1 : zT κ (zR κ f a) = (t - 1) + 1 := by omega
  exact Z.l t1
theorem ldP.rf {κ : zS} {a : Nat} {lo : Int} : ldP κ κ a lo := ⟨zF.rf, fun _ _ => ⟨rfl, rfl, rfl⟩, ⟨Int.le_refl _, Int.le_refl _⟩, mG.rf, rfl⟩
theorem ldP.tr {C : zC} {n0 a : Nat} {κ τ σ : zS} {lo : Int} (W : zW C n0 κ) (T : zT κ a = 3) (h : ldP κ τ a lo) (g : ldP τ σ a lo) : ldP κ σ a lo := by
  have r := (ld_r W T h.1).1
  have rm : zR τ atMachine a = zR κ atMachine a := r atMachine (by decide)
  have rs : zR τ atStates a = zR κ atStates a := r atStates (by decide)
  have re : zR τ atEndings a = zR κ atEndings a := r atEndings (by decide)
  obtain ⟨z1, z2, z3, z4, z5⟩ := g
  have z1 : zF (ldF κ a) τ σ := z1.mono (fun f x q => by
    rcases q with q | q | q | q
    · exact Or.inl q
    · exact Or.inr (Or.inl (q.trans rm))
    · exact Or.inr (Or.inr (Or.inl (q.trans rs)))
    · exact Or.inr (Or.inr (Or.inr (q.trans re))))
  rw [rs, re] at z3
  rw [rm] at z4 z5
  refine ⟨h.1.tr z1, fun i hi => ?_, ⟨Int.le_trans h.2.2.1.1 z3.1, Int.le_trans h.2.2.1.2 z3.2⟩, h.2.2.2.1.tr z4, z5.trans h.2.2.2.2⟩
  obtain ⟨a1, a2, a3⟩ := h.2.1 i hi
  obtain ⟨b1, b2, b3⟩ := z2 i hi
  exact ⟨b1.trans a1, b2.trans a2, b3.trans a3⟩
/-- a Hoard that isn't touched -/
theorem hoI_zF {C : zC} {n0 h M D S : Nat} {F : Nat → Nat → Prop} {κ τ : zS} (Z : zF F κ τ) (W : zW C n0 κ) (T : zT κ h = 6) (hF : ∀ f, ¬ F f h) (H : hoI κ h M D S) : hoI τ h M D S := by
  refine hoI_f H (fun f _ => Z.i (hF f)) (fun f hf => ⟨Z.r (hF f), ?_, ?_⟩)
  · have q : (zr f = some 20 ∧ f / 100 = 6) := by rcases hf with rfl | rfl | rfl <;> decide +kernel
    have r := (Z.row W q.1 (by decide) (T.trans q.2.symm) (hF f)).1
    rw [Z.r (hF f)] at r
    exact r
  · have q : (zr f = some 20 ∧ f / 100 = 6) := by rcases hf with rfl | rfl | rfl <;> decide +kernel
    exact Z.l (W.r q.1 (T.trans q.2.symm))
/-- a machine that isn't touched -/
theorem mkI_zF {C : zC} {n0 m : Nat} {F : Nat → Nat → Prop} {κ τ : zS} (Z : zF F κ τ) (W : zW C n0 κ) (T : zT κ m = 7) (hF : ∀ f, ¬ F f m) (hC : ∀ f, ¬ F f (zR κ maCode m)) (H : mkI κ m) : mkI τ m := by
  refine ⟨?_, ?_⟩
  · unfold maL
    rw [Z.r (hF maMemory), Z.r (hF maStack), Z.r (hF maWorked), Z.r (hF maValues), Z.r (hF maWeights), Z.l (ty_maMemory W T), Z.l (ty_maStack W T), Z.l (ty_maWorked W T), Z.l (ty_maValues W T), Z.l (ty_maWeights W T)]
    exact H.1
  · rw [Z.r (hF maCode)]
    exact coI_zF Z W (ty_maCode W T) hC H.2
theorem atR_zF {C : zC} {n0 m : Nat} {F : Nat → Nat → Prop} {κ τ : zS} (Z : zF F κ τ) (W : zW C n0 κ) (T : zT κ m = 7) (hF : ∀ f, ¬ F f m) (hC : ∀ f, ¬ F f (zR κ maCode m)) (H : atR κ m) : atR τ m := by
  refine ⟨mkI_zF Z W T hF hC H.1, ?_, ?_⟩
  · rw [Z.i (hF maShared)]; exact H.2.1
  · unfold mO
    rw [Z.i (hF maShared), Z.i (hF maOpen), Z.i (hF maFrame), Z.i (hF maOutcome)]
    exact H.2.2
/-- one weight more in the sum -/
theorem wSm_up {Wt Wt' : Nat → Int32} {lo hi : Int} {i : Nat} {d : Int} (h0 : 0 ≤ lo) (h1 : lo ≤ (i : Int)) (h2 : (i : Int) < hi) (e : ∀ j, j ≠ i → Wt' j = Wt j) (ei : (Wt' i).toInt = (Wt i).toInt + d) : wSm Wt' lo hi = wSm Wt lo hi + d := by
  unfold wSm
  have q : lo.toNat + (i - lo.toNat) = i := by omega
  refine sgI_up (j := i - lo.toNat) (by omega) (fun j _ hj => ?_) ?_
  · show (Wt' (lo.toNat + j)).toInt = (Wt (lo.toNat + j)).toInt
    rw [e _ (by omega)]
  · show (Wt' (lo.toNat + (i - lo.toNat))).toInt = (Wt (lo.toNat + (i - lo.toNat))).toInt + d
    rw [q]; exact ei
theorem wSm_ex {Wt Wt' : Nat → Int32} {lo hi : Int} (h0 : 0 ≤ lo) (h1 : lo ≤ hi) (e : ∀ j : Nat, (j : Int) < hi → Wt' j = Wt j) : wSm Wt' lo (hi + 1) = wSm Wt lo hi + (Wt' hi.toNat).toInt := by
  unfold wSm
  have q : (hi + 1 - lo).toNat = (hi - lo).toNat + 1 := by omega
  rw [q]
  show sgI _ (hi - lo).toNat + (Wt' (lo.toNat + (hi - lo).toNat)).toInt = _
  have q2 : lo.toNat + (hi - lo).toNat = hi.toNat := by omega
  rw [q2]
  congr 1
  refine sgI_eq (fun j hj => ?_)
  rw [e _ (by omega)]
theorem wSm_eq {Wt Wt' : Nat → Int32} {lo hi : Int} (h0 : 0 ≤ lo) (e : ∀ j : Nat, lo ≤ (j : Int) → (j : Int) < hi → Wt' j = Wt j) : wSm Wt' lo hi = wSm Wt lo hi := by
  unfold wSm
  refine sgI_eq (fun j hj => ?_)
  rw [e _ (by omega) (by omega)]
/-- the machine and the stores alone were touched -/
theorem ld_0 {C : zC} {n0 a k : Nat} {κ τ : zS} {w lo : Int} (W : zW C n0 κ) (T : zT κ a = 3) (A : ldA κ a) (X : ldX κ a k w) (Z : zF (fun _ x => x = zR κ atMachine a ∨ x = zR κ atStates a ∨ x = zR κ atEndings a) κ τ) (H1 : hoI τ (zR κ atStates a) 1000 142 2048) (H2 : hoI τ (zR κ atEndings a) 1000 35 2048) (R : atR τ (zR κ atMachine a)) (g1 : (zI κ hoTotal (zR κ atStates a)).toInt ≤ (zI τ hoTotal (zR κ atStates a)).toInt) (g2 : (zI κ hoTotal (zR κ atEndings a)).toInt ≤ (zI τ hoTotal (zR κ atEndings a)).toInt) (G : mG κ τ (zR κ atMachine a)) (sh : zI τ maShared (zR κ atMachine a) = zI κ maShared (zR κ atMachine a)) : ldA τ a ∧ ldP κ τ a lo ∧ ldX τ a k w := by
  have n := at_ne W T
  have nf : ∀ f, ¬ (fun _ x => x = zR κ atMachine a ∨ x = zR κ atStates a ∨ x = zR κ atEndings a : Nat → Nat → Prop) f a := fun f z => by
    rcases z with z | z | z
    · exact n.1.1 z.symm
    · exact n.1.2.1 z.symm
    · exact n.1.2.2 z.symm
  have r : ∀ f, zR τ f a = zR κ f a := fun f => Z.r (nf f)
  have i : ∀ f, zI τ f a = zI κ f a := fun f => Z.i (nf f)
  have rw9 : ∀ f, f ∈ atRf → zA τ (zR κ f a) = zA κ (zR κ f a) ∧ zN τ (zR κ f a) = zN κ (zR κ f a) := fun f hf => by
    obtain ⟨⟨t, h1, h2⟩, h3⟩ := atRf_r f hf
    have T9 : zT κ a = f / 100 := T.trans h3.symm
    have ty := W.r h1 T9
    have q := (Z.row W h1 h2 T9 (nf f)).1
    rw [r f] at q
    have t1 : zT κ (zR κ f a) = (t - 1) + 1 := by omega
    exact ⟨q, Z.l t1⟩
  obtain ⟨A1, A2, A3, A4, A5, A6⟩ := A
  obtain ⟨X1, X2, X3, X4⟩ := X
  refine ⟨⟨?_, ?_, ⟨?_, ?_⟩, ?_, ?_, ?_⟩, ⟨Z.mono (fun f x q => Or.inr q), fun j _ => ?_, ⟨g1, g2⟩, G, sh⟩, ?_⟩
  · unfold atM
    rw [r, r, r, r, r, r, (rw9 atFirsts (by decide)).2, (rw9 atTotals (by decide)).2, (rw9 atGains (by decide)).2, (rw9 atPlan (by decide)).2, (rw9 atChooses (by decide)).2, (rw9 atHopeless (by decide)).2]
    exact A1
  · unfold atL
    rw [r, r, r, (rw9 atSorts (by decide)).2, (rw9 atNumbers (by decide)).2, (rw9 atWeights (by decide)).2]
    exact A2
  · rw [r]; exact H1
  · rw [r]; exact H2
  · rw [r]; exact R
  · rw [i, r, (rw9 atNumbers (by decide)).2]; exact A5
  · rw [r, r]; exact A6
  · rw [r, r, r, (rw9 atSorts (by decide)).1, (rw9 atNumbers (by decide)).1, (rw9 atWeights (by decide)).1]
    exact ⟨rfl, rfl, rfl⟩
  · unfold ldX
    rw [r, r, r, r, r, r, r, i, (rw9 atSorts (by decide)).1, (rw9 atNumbers (by decide)).1, (rw9 atWeights (by decide)).1, (rw9 atFirsts (by decide)).1, (rw9 atChooses (by decide)).1]
    refine ⟨X1, fun j h1 h2 => ?_, X3, X4⟩
    obtain ⟨b1, b2, b3⟩ := X2 j h1 h2
    exact ⟨fun z => ⟨(b1 z).1, Int.lt_of_lt_of_le (b1 z).2 g1⟩, fun z => ⟨(b2 z).1, Int.lt_of_lt_of_le (b2 z).2 g2⟩, b3⟩
/-- a frame of the nexts' rows alone -/
theorem ld_ad {C : zC} {n0 a : Nat} {κ τ : zS} (W : zW C n0 κ) (T : zT κ a = 3) (A : ldA κ a) (Z : zF (adF a) κ τ) (hL : atL τ a) (hb : 0 ≤ (zI τ atNexts a).toInt ∧ (zI τ atNexts a).toInt ≤ (zN τ (zR τ atNumbers a))) : ldA τ a ∧ zF (ldF κ a) κ τ ∧ (∀ x f, x ≠ a → zI τ f x = zI κ f x) ∧ mG κ τ (zR κ atMachine a) ∧ (∀ f, f < atSorts ∨ atNexts < f → zR τ f a = zR κ f a) ∧ (∀ f, f ∈ atRf → f < atSorts → zA τ (zR τ f a) = zA κ (zR κ f a) ∧ zN τ (zR τ f a) = zN κ (zR κ f a)) := by
  have n := at_ne W T
  have nx : ∀ x, x ≠ a → ∀ f, ¬ adF a f x := fun x hx f z => hx z.1
  have Z2 : zF (ldF κ a) κ τ := Z.mono (fun f x q => Or.inl q)
  obtain ⟨r, i, q⟩ := ld_r W T Z2
  have Tm := ty_atMachine W T
  have Tc := ty_maCode W Tm
  have nc : zR κ maCode (zR κ atMachine a) ≠ a := fun z => by rw [z, T] at Tc; exact absurd Tc (by decide)
  obtain ⟨A1, A2, A3, A4, A5, A6⟩ := A
  refine ⟨⟨?_, hL, ⟨?_, ?_⟩, ?_, hb, ?_⟩, Z2, fun x f hx => Z.i (nx x hx f), fun f hf => ⟨Z.i (nx _ n.1.1 f), fun e => ⟨Z.r (nx _ n.1.1 f), ?_⟩⟩, r, q⟩
  · unfold atM
    rw [(q atFirsts (by decide) (by decide)).2, (q atTotals (by decide) (by decide)).2, (q atGains (by decide) (by decide)).2, (q atPlan (by decide) (by decide)).2, (q atChooses (by decide) (by decide)).2, (q atHopeless (by decide) (by decide)).2]
    exact A1
  · rw [r atStates (by decide)]; exact hoI_zF Z W (ty_atStates W T) (nx _ n.1.2.1) A3.1
  · rw [r atEndings (by decide)]; exact hoI_zF Z W (ty_atEndings W T) (nx _ n.1.2.2) A3.2
  · rw [r atMachine (by decide)]; exact atR_zF Z W Tm (nx _ n.1.1) (nx _ nc) A4
  · rw [r atStates (by decide), r atEndings (by decide)]; exact A6
  · have z := (Z.row W (show zr maWeights = some 20 by decide +kernel) (by decide) Tm (nx _ n.1.1 maWeights)).1
    rw [e]
    rw [Z.r (nx _ n.1.1 maWeights)] at z
    exact z
/-- a weight grows -/
theorem ld_w {C : zC} {n0 a k i : Nat} {κ τ : zS} {w : Int} {d : Int32} (W : zW C n0 κ) (T : zT κ a = 3) (A : ldA κ a) (X : ldX κ a k w) (hc : zA κ (zR κ atChooses a) k = 0) (h1 : (zA κ (zR κ atFirsts a) k).toInt ≤ (i : Int)) (h2 : (i : Int) < (zI κ atNexts a).toInt) (d0 : 0 ≤ d.toInt) (hw : w + d.toInt ≤ 8000000) (e : τ = ua κ (zR κ atWeights a) i (zA κ (zR κ atWeights a) i + d)) : ldA τ a ∧ ldP κ τ a ((zA κ (zR κ atFirsts a) k).toInt) ∧ ldX τ a k (w + d.toInt) := by
  have Z : zF (adF a) κ τ := by rw [e]; exact zF_ua (by rw [atRf_o W T (by decide)]; exact ⟨rfl, Or.inr (Or.inr (Or.inl rfl))⟩)
  have R : zR τ = zR κ := by rw [e]; rfl
  have I : zI τ = zI κ := by rw [e]; rfl
  have N : zN τ = zN κ := by rw [e]; rfl
  have n13 := atRf_n W T (f := atSorts) (g := atWeights) (by decide) (by decide) (by decide)
  have n23 := atRf_n W T (f := atNumbers) (g := atWeights) (by decide) (by decide) (by decide)
  have aS : zA τ (zR κ atSorts a) = zA κ (zR κ atSorts a) := by rw [e]; exact if_neg n13
  have aN : zA τ (zR κ atNumbers a) = zA κ (zR κ atNumbers a) := by rw [e]; exact if_neg n23
  have aW : zA τ (zR κ atWeights a) = upd (zA κ (zR κ atWeights a)) i (zA κ (zR κ atWeights a) i + d) := by rw [e]; exact if_pos rfl
  obtain ⟨B, Z2, o, G, r, q⟩ := ld_ad W T A Z (by unfold atL; rw [R, N]; exact A.2.1) (by rw [I, R, N]; exact A.2.2.2.2.1)
  have qF := (q atFirsts (by decide) (by decide)).1
  have qC := (q atChooses (by decide) (by decide)).1
  rw [R] at qF qC
  obtain ⟨X1, X2, X3, X4⟩ := X
  have bi := (X2 i h1 h2).2.2
  have wb : (zA κ (zR κ atWeights a) i).toInt ≤ w := by
    rw [← X3]
    unfold wSm
    have q9 : ((zA κ (zR κ atFirsts a) k).toInt).toNat + (i - ((zA κ (zR κ atFirsts a) k).toInt).toNat) = i := by omega
    have le : ∀ (n j : Nat), j < n → (∀ x, x < n → 0 ≤ (zA κ (zR κ atWeights a) (((zA κ (zR κ atFirsts a) k).toInt).toNat + x)).toInt) → (zA κ (zR κ atWeights a) (((zA κ (zR κ atFirsts a) k).toInt).toNat + j)).toInt ≤ sgI (fun x => (zA κ (zR κ atWeights a) (((zA κ (zR κ atFirsts a) k).toInt).toNat + x)).toInt) n := by
      intro n
      induction n with
      | zero => intro j h; exact absurd h (Nat.not_lt_zero _)
      | succ n ih =>
        intro j hj hp
        show _ ≤ sgI _ n + (zA κ (zR κ atWeights a) (((zA κ (zR κ atFirsts a) k).toInt).toNat + n)).toInt
        by_cases z : j = n
        · subst z
          have s0 : ∀ m, (∀ x, x < m → 0 ≤ (zA κ (zR κ atWeights a) (((zA κ (zR κ atFirsts a) k).toInt).toNat + x)).toInt) → 0 ≤ sgI (fun x => (zA κ (zR κ atWeights a) (((zA κ (zR κ atFirsts a) k).toInt).toNat + x)).toInt) m := by
            intro m
            induction m with
            | zero => intro _; exact Int.le_refl _
            | succ m im =>
              intro hm
              have a1 := im (fun x hx => hm x (Nat.lt_succ_of_lt hx))
              have a2 := hm m (Nat.lt_succ_self m)
              show 0 ≤ sgI _ m + (zA κ (zR κ atWeights a) (((zA κ (zR κ atFirsts a) k).toInt).toNat + m)).toInt
              omega
          have := s0 j (fun x hx => hp x (Nat.lt_succ_of_lt hx))
          omega
        · have a1 := ih j (by omega) (fun x hx => hp x (Nat.lt_succ_of_lt hx))
          have a2 := hp n (Nat.lt_succ_self n)
          omega
    have := le (((zI κ atNexts a).toInt) - ((zA κ (zR κ atFirsts a) k).toInt)).toNat (i - ((zA κ (zR κ atFirsts a) k).toInt).toNat) (by omega) (fun x hx => (X2 _ (by omega) (by omega)).2.2)
    rw [q9] at this
    exact this
  have ei : (zA κ (zR κ atWeights a) i + d).toInt = (zA κ (zR κ atWeights a) i).toInt + d.toInt := add_i (by omega) (by omega)
  refine ⟨B, ⟨Z2, fun j hj => ?_, ⟨?_, ?_⟩, G, ?_⟩, ?_⟩
  · rw [R, aS, aN, aW]
    exact ⟨rfl, rfl, if_neg (by omega)⟩
  · rw [I]; exact Int.le_refl _
  · rw [I]; exact Int.le_refl _
  · rw [I]
  · unfold ldX
    rw [R, I, aS, aN, aW, qF, qC]
    refine ⟨X1, fun j h3 h4 => ?_, ?_, fun z => absurd hc z⟩
    · obtain ⟨b1, b2, b3⟩ := X2 j h3 h4
      refine ⟨b1, b2, ?_⟩
      show 0 ≤ Int32.toInt (if j = i then zA κ (zR κ atWeights a) i + d else zA κ (zR κ atWeights a) j)
      by_cases z : j = i
      · rw [if_pos z, ei]; omega
      · rw [if_neg z]; exact b3
    · rw [wSm_up (Wt := zA κ (zR κ atWeights a)) (Wt' := upd (zA κ (zR κ atWeights a)) i (zA κ (zR κ atWeights a) i + d)) X1.1 h1 h2 (fun j hj => if_neg hj) (d := d.toInt) (by
        show Int32.toInt (if i = i then zA κ (zR κ atWeights a) i + d else _) = _
        rw [if_pos rfl, ei]), X3]
/-- a next more -/
theorem ld_n {C : zC} {n0 a k : Nat} {κ τ : zS} {w : Int} {s n d : Int32} (W : zW C n0 κ) (T : zT κ a = 3) (A : ldA κ a) (X : ldX κ a k w) (hs : (s = 0 → 0 ≤ n.toInt ∧ n.toInt < (zI κ hoTotal (zR κ atStates a)).toInt) ∧ (s = 1 → 0 ≤ n.toInt ∧ n.toInt < (zI κ hoTotal (zR κ atEndings a)).toInt)) (d0 : 0 ≤ d.toInt) (h1 : zA κ (zR κ atChooses a) k ≠ 0 → d.toInt = 1) (J : adN κ τ a s n d) : ldA τ a ∧ ldP κ τ a ((zA κ (zR κ atFirsts a) k).toInt) ∧ ldX τ a k (w + d.toInt) := by
  obtain ⟨Z, jI, jR, jL, ⟨jn, jb⟩, jA, jS, jN, jW⟩ := J
  have nb0 := A.2.2.2.2.1
  obtain ⟨B, Z2, o, G, r, q⟩ := ld_ad W T A Z jL ⟨by omega, jb⟩
  have nn := at_ne W T
  have qF := (q atFirsts (by decide) (by decide)).1
  have qC := (q atChooses (by decide) (by decide)).1
  obtain ⟨X1, X2, X3, X4⟩ := X
  have oS := o (zR κ atStates a) hoTotal nn.1.2.1
  have oE := o (zR κ atEndings a) hoTotal nn.1.2.2
  refine ⟨B, ⟨Z2, fun j hj => jA j (by omega), ⟨by rw [oS]; exact Int.le_refl _, by rw [oE]; exact Int.le_refl _⟩, G, o _ _ nn.1.1⟩, ?_⟩
  unfold ldX
  rw [qF, qC, r atStates (by decide), r atEndings (by decide), oS, oE, jn]
  refine ⟨⟨X1.1, by omega⟩, fun j h3 h4 => ?_, ?_, fun z j h3 h4 => ?_⟩
  · by_cases z : (j : Int) < (zI κ atNexts a).toInt
    · obtain ⟨c1, c2, c3⟩ := jA j z
      rw [c1, c2, c3]
      exact X2 j h3 z
    · have ej : j = ((zI κ atNexts a).toInt).toNat := by omega
      rw [ej, jS, jN, jW]
      exact ⟨hs.1, hs.2, d0⟩
  · rw [wSm_ex (Wt := zA κ (zR κ atWeights a)) X1.1 X1.2 (fun j hj => (jA j hj).2.2), X3, jW]
  · by_cases y : (j : Int) < (zI κ atNexts a).toInt
    · rw [(jA j y).2.2]
      exact X4 z j h3 y
    · have ej : j = ((zI κ atNexts a).toInt).toNat := by omega
      rw [ej, jW]
      exact h1 z
/-- the machine's memory was written -/
theorem ld_m {C : zC} {n0 a k : Nat} {κ τ : zS} {w lo : Int} (W : zW C n0 κ) (T : zT κ a = 3) (A : ldA κ a) (X : ldX κ a k w) (F : mF κ τ (zR κ atMachine a)) (S : mS κ τ (zR κ atMachine a)) (I : zI τ = zI κ) : ldA τ a ∧ ldP κ τ a lo ∧ ldX τ a k w := by
  have n := at_ne W T
  have Tm := ty_atMachine W T
  refine ld_0 W T A X (F.1.mono (fun f x q => Or.inl q)) (hoI_zF F.1 W (ty_atStates W T) (fun f e => n.2.1 e.symm) A.2.2.1.1) (hoI_zF F.1 W (ty_atEndings W T) (fun f e => n.2.2 e.symm) A.2.2.1.2) ⟨(mkI_f F W Tm A.2.2.2.1.1).1, by rw [I]; exact A.2.2.2.1.2.1, ?_⟩ (by rw [I]; exact Int.le_refl _) (by rw [I]; exact Int.le_refl _) S.2 (by rw [I])
  unfold mO
  rw [I]
  exact A.2.2.2.1.2.2
/-- a store was entered -/
theorem ld_h {C : zC} {n0 a k h : Nat} {κ τ : zS} {w lo : Int} (W : zW C n0 κ) (T : zT κ a = 3) (A : ldA κ a) (X : ldX κ a k w) (hh : h = zR κ atStates a ∨ h = zR κ atEndings a) (Z : zF (hoF h) κ τ) (H1 : hoI τ (zR κ atStates a) 1000 142 2048) (H2 : hoI τ (zR κ atEndings a) 1000 35 2048) (g1 : (zI κ hoTotal (zR κ atStates a)).toInt ≤ (zI τ hoTotal (zR κ atStates a)).toInt) (g2 : (zI κ hoTotal (zR κ atEndings a)).toInt ≤ (zI τ hoTotal (zR κ atEndings a)).toInt) : ldA τ a ∧ ldP κ τ a lo ∧ ldX τ a k w := by
  have n := at_ne W T
  have Tm := ty_atMachine W T
  have Tc := ty_maCode W Tm
  have Th : zT κ h = 6 := by
    rcases hh with rfl | rfl
    · exact ty_atStates W T
    · exact ty_atEndings W T
  have nm : ∀ f, ¬ hoF h f (zR κ atMachine a) := fun f e => by
    have e := e.1
    rw [e, Th] at Tm
    exact absurd Tm (by decide)
  have nc : ∀ f, ¬ hoF h f (zR κ maCode (zR κ atMachine a)) := fun f e => by
    have e := e.1
    rw [e, Th] at Tc
    exact absurd Tc (by decide)
  refine ld_0 W T A X (Z.mono (fun f x q => ?_)) H1 H2 (atR_zF Z W Tm nm nc A.2.2.2.1) g1 g2 (fun f _ => ⟨Z.i (nm f), fun e => ⟨Z.r (nm f), ?_⟩⟩) (Z.i (nm _))
  · rcases hh with rfl | rfl
    · exact Or.inr (Or.inl q.1)
    · exact Or.inr (Or.inr q.1)
  · have z := (Z.row W (show zr maWeights = some 20 by decide +kernel) (by decide) Tm (nm maWeights)).1
    rw [e]
    rw [Z.r (nm maWeights)] at z
    exact z
theorem en_le {κ τ : zS} {h : Nat} {l m v : Int32} (e : enS κ τ h l m v) : (zI κ hoTotal h).toInt ≤ (zI τ hoTotal h).toInt := by
  rcases e with e | e
  · rw [e]; exact Int.le_refl _
  · have := e.1; omega
theorem ld_s {C : zC} {n0 a k : Nat} {κ τ : zS} {w lo : Int} {l m v : Int32} (W : zW C n0 κ) (T : zT κ a = 3) (A : ldA κ a) (X : ldX κ a k w) (q : zF (hoF (zR κ atStates a)) κ τ ∧ hoI τ (zR κ atStates a) 1000 142 2048 ∧ -1 ≤ v.toInt ∧ v.toInt < (zI τ hoTotal (zR κ atStates a)).toInt ∧ enS κ τ (zR κ atStates a) l m v) : ldA τ a ∧ ldP κ τ a lo ∧ ldX τ a k w := by
  have ne : ∀ f, ¬ hoF (zR κ atStates a) f (zR κ atEndings a) := fun f e => A.2.2.2.2.2 e.1.symm
  exact ld_h W T A X (Or.inl rfl) q.1 q.2.1 (hoI_zF q.1 W (ty_atEndings W T) ne A.2.2.1.2) (en_le q.2.2.2.2) (by rw [q.1.i (ne hoTotal)]; exact Int.le_refl _)
theorem ld_e {C : zC} {n0 a k : Nat} {κ τ : zS} {w lo : Int} {l m v : Int32} (W : zW C n0 κ) (T : zT κ a = 3) (A : ldA κ a) (X : ldX κ a k w) (q : zF (hoF (zR κ atEndings a)) κ τ ∧ hoI τ (zR κ atEndings a) 1000 35 2048 ∧ -1 ≤ v.toInt ∧ v.toInt < (zI τ hoTotal (zR κ atEndings a)).toInt ∧ enS κ τ (zR κ atEndings a) l m v) : ldA τ a ∧ ldP κ τ a lo ∧ ldX τ a k w := by
  have ne : ∀ f, ¬ hoF (zR κ atEndings a) f (zR κ atStates a) := fun f e => A.2.2.2.2.2 e.1
  exact ld_h W T A X (Or.inr rfl) q.1 (hoI_zF q.1 W (ty_atStates W T) ne A.2.2.1.1) q.2.1 (by rw [q.1.i (ne hoTotal)]; exact Int.le_refl _) (en_le q.2.2.2.2)
/-- how long a state's row is -/
theorem mO_l {κ : zS} {m : Nat} (O : mO κ m) : 0 ≤ (zI κ maShared m + zI κ maOpen m * 9).toInt := by
  obtain ⟨s, o, f⟩ := O
  have e9 : (9 : Int32).toInt = 9 := rfl
  have d2 : (zI κ maOpen m * 9).toInt = (zI κ maOpen m).toInt * 9 := by rw [mul_i (by rw [e9]; omega) (by rw [e9]; omega), e9]
  rw [add_i (by rw [d2]; omega) (by rw [d2]; omega), d2]
  omega
/-- no more states than there may be -/
def stB (κ τ : zS) (a : Nat) (m : Int32) : Prop := (zI κ hoTotal (zR κ atStates a)).toInt ≤ m.toInt → (zI τ hoTotal (zR τ atStates a)).toInt ≤ m.toInt
theorem At_lead_c {C : zC} {n0 : Nat} {a0 : Nat} {a1 : Int32} {a2 : Int32} {a3 : Int32} {κ : zS} {Q : Int32 → zS → Prop} (W : zW C n0 κ) (Ta0 : zT κ a0 = 3) (w : Int) (hp : ldA κ a0 ∧ ldX κ a0 a1.toNatClampNeg w ∧ (0 ≤ a1.toInt ∧ a1.toInt < 1000) ∧ (0 ≤ a2.toInt ∧ w + a2.toInt ≤ 8000000) ∧ (zA κ (zR κ atChooses a0) a1.toNatClampNeg ≠ 0 → a2.toInt = 1)) (h : ∀ (v : Int32) (κ' : zS), (ldA κ' a0 ∧ ldP κ κ' a0 ((zA κ (zR κ atFirsts a0) a1.toNatClampNeg).toInt) ∧ nb v ∧ (v ≠ 0 → ldX κ' a0 a1.toNatClampNeg (w + a2.toInt)) ∧ stB κ κ' a0 a3) → Q v κ') : zRun C 3 mAt_lead [.ref a0, .int a1, .int a2, .int a3] κ (oI Q noX) := by
  refine At_lead_run W Ta0 ?_
  replace W := W.lo (Nat.le_trans W.1.2.1 W.1.2.2) (Nat.le_refl (zn κ))
  unfold w_At_lead_0
  have pk := hp.2.2.1
  have hj195 : ∀ (l0 : Nat) (l2 : Int32) (l4 : Int32) (l5 : Int32) (τ : zS), zW C (zn κ) τ → zT τ l0 = 3 → (a0 = l0 ∧ a2 = l2 ∧ ldA τ a0 ∧ ldP κ τ a0 ((zA κ (zR κ atFirsts a0) a1.toNatClampNeg).toInt) ∧ ldX τ a0 a1.toNatClampNeg w ∧ ((l4 = 0 → 0 ≤ l5.toInt ∧ l5.toInt < (zI τ hoTotal (zR τ atStates a0)).toInt) ∧ (l4 = 1 → 0 ≤ l5.toInt ∧ l5.toInt < (zI τ hoTotal (zR τ atEndings a0)).toInt)) ∧ stB κ τ a0 a3) → w_At_lead_195 C (zn κ) Q  l0 l2 l4 l5 τ := by
    rintro _ _ y195_4 y195_5 τ195 W195 T195_0 ⟨rfl, rfl, j195⟩
    unfold w_At_lead_195
    intro T1
    refine At_addNext_c W195 T1  ?_ (fun r2 κ_3 q4 => ?_)
    · exact ⟨j195.1.2.1, j195.1.2.2.2.2.1.1, j195.1.2.2.2.2.1.2⟩  -- p1
    intro W5
    intro M6
    refine ⟨?_, h _ _ ?_⟩
    · rcases q4 with ⟨e, -⟩ | ⟨e, -⟩
      · rw [e]; exact nb_0
      · rw [e]; exact nb_1
    · rcases q4 with ⟨e1, e2⟩ | ⟨e1, J⟩
      · rw [e1, e2]
        exact ⟨j195.1, j195.2.1, nb_0, fun z => absurd rfl z, j195.2.2.2.2⟩
      · have qq := (ld_r W Ta0 j195.2.1.1).2.2
        have qC := (qq atChooses (by decide) (by decide)).1
        have qF := (qq atFirsts (by decide) (by decide)).1
        obtain ⟨B, P, X⟩ := ld_n W195 T195_0 j195.1 j195.2.2.1 j195.2.2.2.1 hp.2.2.2.1.1 (fun z => hp.2.2.2.2 (by rw [← qC]; exact z)) J
        rw [qF] at P
        rw [e1]
        refine ⟨B, ldP.tr W Ta0 j195.2.1 P, nb_1, fun _ => X, fun z => ?_⟩
        have nS := (at_ne W195 T195_0).1.2.1
        rw [J.2.2.1 atStates a0 (fun y => absurd y.2 (by decide)), J.2.1 hoTotal (zR τ195 atStates a0) (fun y => nS y.2)]
        exact j195.2.2.2.2 z
  have hj118 : ∀ (l0 : Nat) (l1 : Int32) (l2 : Int32) (l4 : Int32) (l5 : Int32) (τ : zS), zW C (zn κ) τ → zT τ l0 = 3 → (a0 = l0 ∧ a1 = l1 ∧ a2 = l2 ∧ ldA τ a0 ∧ ldP κ τ a0 ((zA κ (zR κ atFirsts a0) a1.toNatClampNeg).toInt) ∧ ldX τ a0 a1.toNatClampNeg w ∧ (l5 ≠ -1 → (l4 = 0 → 0 ≤ l5.toInt ∧ l5.toInt < (zI τ hoTotal (zR τ atStates a0)).toInt) ∧ (l4 = 1 → 0 ≤ l5.toInt ∧ l5.toInt < (zI τ hoTotal (zR τ atEndings a0)).toInt)) ∧ stB κ τ a0 a3) → w_At_lead_118 C (zn κ) Q  l0 l1 l2 l4 l5 τ := by
    rintro _ _ _ y118_4 y118_5 τ118 W118 T118_0 ⟨rfl, rfl, rfl, j118⟩
    unfold w_At_lead_118
    refine ⟨fun c7 => ?_, fun c7 => ?_⟩
    · skip
      refine ⟨?_, ?_⟩
      · have L := j118.1.1.1
        rw [inb_iff]; omega
      intro x8 hx8
      unfold w_At_lead_134
      refine ⟨fun n l0 l1 l2 l4 l5 l6 τ => n = ((zI τ118 atNexts a0).toInt - l6.toInt).toNat ∧ (a0 = l0 ∧ a1 = l1 ∧ a2 = l2 ∧ τ = τ118 ∧ l4 = y118_4 ∧ l5 = y118_5 ∧ (zA τ118 (zR τ118 atFirsts a0) a1.toNatClampNeg).toInt ≤ l6.toInt), ⟨_, rfl, ?_⟩, ?_⟩
      · exact ⟨rfl, rfl, rfl, rfl, rfl, rfl, by rw [hx8]; exact Int.le_refl _⟩  -- j5
      rintro n134 _ _ _ x134_4 x134_5 x134_6 κ134 W134 T134_0 ⟨hn134, rfl, rfl, rfl, i134⟩
      obtain ⟨rfl, rfl, rfl, l6⟩ := i134
      have nb0 := j118.1.2.2.2.2.1
      have L := j118.1.2.1.1
      have f0 := j118.2.2.1.1.1
      refine ⟨fun c9 => ?_, fun c9 => ?_⟩
      · skip
        refine hj195 _ _ _ _ _ W134 ?_ ?_
        · exact T134_0  -- t6
        · exact ⟨rfl, rfl, j118.1, j118.2.1, j118.2.2.1, j118.2.2.2.1 c7, j118.2.2.2.2⟩  -- k7
      · skip
        refine ⟨?_, ?_⟩
        · have L9 := j118.1.1.2.2.2.2.1
          rw [inb_iff]; omega
        refine ⟨fun c10 => ?_, fun c10 => ?_⟩
        · skip
          refine hj195 _ _ _ _ _ W134 ?_ ?_
          · exact T134_0  -- t9
          · exact ⟨rfl, rfl, j118.1, j118.2.1, j118.2.2.1, j118.2.2.2.1 c7, j118.2.2.2.2⟩  -- k10
        · skip
          rw [lei] at c9
          have l7 : x134_6.toInt < (zI κ134 atNexts a0).toInt := by omega
          have e1 := inc_i (x := x134_6) (y := zI κ134 atNexts a0) (by omega) l7
          have kn := cnk (x := x134_6) (by omega)
          refine ⟨?_, ?_⟩
          · rw [inb_iff]; omega  -- b11
          refine ⟨fun c11 => ?_, fun c11 => ?_⟩
          · skip
            intro x12 hx12
            refine ⟨_, ?_, rfl, ?_⟩
            · rw [hn134, hx12, e1]; omega  -- d12
            · exact ⟨rfl, rfl, rfl, rfl, rfl, rfl, by rw [hx12, e1]; omega⟩  -- i13
          · skip
            refine ⟨?_, ?_⟩
            · rw [inb_iff]; omega  -- b14
            refine ⟨fun c13 => ?_, fun c13 => ?_⟩
            · skip
              intro x14 hx14
              refine ⟨_, ?_, rfl, ?_⟩
              · rw [hn134, hx14, e1]; omega  -- d15
              · exact ⟨rfl, rfl, rfl, rfl, rfl, rfl, by rw [hx14, e1]; omega⟩  -- i16
            · skip
              refine ⟨?_, ?_⟩
              · rw [inb_iff]; omega  -- b17
              refine ⟨?_, ?_⟩
              · rw [inb_iff]; omega  -- b18
              intro κ_15 hκ_15
              intro W16
              refine h _ _ ?_
              · have qF := ((ld_r W Ta0 j118.2.1.1).2.2 atFirsts (by decide) (by decide)).1
                obtain ⟨B, P, X⟩ := ld_w W134 T134_0 j118.1 j118.2.2.1 c10 (by omega) (by omega) hp.2.2.2.1.1 hp.2.2.2.1.2 hκ_15
                rw [qF] at P
                refine ⟨B, ldP.tr W Ta0 j118.2.1 P, nb_1, fun _ => X, fun z => ?_⟩
                rw [hκ_15]
                exact j118.2.2.2.2 z
    · skip
      refine h _ _ ?_
      · exact ⟨j118.1, j118.2.1, nb_0, fun z => absurd rfl z, j118.2.2.2.2⟩  -- q20
  intro x17 hx17
  refine ⟨fun c18 => ?_, fun c18 => ?_⟩
  · skip
    refine ⟨fun c19 => ?_, fun c19 => ?_⟩
    · skip
      refine ⟨fun c20 => ?_, fun c20 => ?_⟩
      · skip
        refine hj118 _ _ _ _ _ _ W ?_ ?_
        · exact Ta0  -- t21
        · exact ⟨rfl, rfl, rfl, hp.1, ldP.rf, hp.2.1, fun _ => ⟨fun z => absurd z c18, fun z => absurd z c19⟩, fun z => z⟩  -- k22
      · skip
        intro x21 hx21
        refine hj118 _ _ _ _ _ _ W ?_ ?_
        · exact Ta0  -- t23
        · exact ⟨rfl, rfl, rfl, hp.1, ldP.rf, hp.2.1, fun _ => ⟨fun z => absurd z c18, fun z => absurd z c19⟩, fun z => z⟩  -- k24
    · skip
      have A4 := hp.1.2.2.2.1
      have sb := A4.2.1
      have Lm := A4.1.1.1
      refine ⟨?_, ?_⟩
      · rw [inb_iff]; omega  -- b25
      intro κ_22 hκ_22
      intro W23
      intro T24
      intro T25
      have f := mF_ua W (ty_atMachine W Ta0) (show zr maMemory = some 20 by decide +kernel) (by decide) hκ_22
      obtain ⟨B, P, X⟩ := ld_m (lo := ((zA κ (zR κ atFirsts a0) a1.toNatClampNeg).toInt)) W Ta0 hp.1 hp.2.1 f.1 f.2.1 f.2.2
      have e1 : (zI κ_22 maShared (zR κ_22 atMachine a0) + 1).toInt = (zI κ maShared (zR κ atMachine a0)).toInt + 1 := by
        have e : zI κ_22 maShared (zR κ_22 atMachine a0) = zI κ maShared (zR κ atMachine a0) := by rw [hκ_22]; rfl
        rw [e, add_i (by rw [t1i]; omega) (by rw [t1i]; omega), t1i]
      refine Ho_enter_c W23 T24 T25 1000 35 2048 ?_ (fun r26 κ_27 q28 => ?_)
      · exact ⟨B.2.2.1.2, hP2, by rw [e1]; omega⟩  -- p26
      intro W29
      intro M30
      refine hj118 _ _ _ _ _ _ W29 ?_ ?_
      · exact q28.1.t (P.1.t Ta0 (by decide)) (by decide)  -- t27
      · have T22 := P.1.t Ta0 (by decide)
        obtain ⟨B2, P2, X2⟩ := ld_e (lo := ((zA κ (zR κ atFirsts a0) a1.toNatClampNeg).toInt)) W23 T22 B X q28
        have rE := (ld_r W23 T22 P2.1).1 atEndings (by decide)
        have neE : zR κ_22 atStates a0 ≠ zR κ_22 atEndings a0 := B.2.2.2.2.2
        have sb9 : stB κ κ_27 a0 a3 := fun z => by
          rw [(ld_r W23 T22 P2.1).1 atStates (by decide), q28.1.i (fun y => neE y.1), hκ_22]
          exact z
        refine ⟨rfl, rfl, rfl, B2, ldP.tr W Ta0 P P2, X2, fun z => ⟨fun y => absurd y c18, fun y => ?_⟩, sb9⟩
        have n1 : r26.toInt ≠ -1 := fun e => z (Int32.toInt_inj.mp (e.trans tmi.symm))
        rw [rE]
        have u := q28.2.2.1
        exact ⟨by omega, q28.2.2.2.1⟩
  · skip
    intro T31
    refine Ma_length_c W T31  (fun r32 q34 => ?_)
    intro W35
    intro M36
    intro T37
    intro T38
    refine Ho_enter_c W35 T37 T38 1000 142 2048 ?_ (fun r39 κ_40 q41 => ?_)
    · refine ⟨hp.1.2.2.1.1, hP1, ?_⟩
      have O := hp.1.2.2.2.1.2.2.resolve_right (fun e => by rw [hx17] at c18; rw [e] at c18; exact absurd c18 (by decide))
      rw [q34]
      exact mO_l O
    intro W42
    intro M43
    refine hj118 _ _ _ _ _ _ W42 ?_ ?_
    · exact q41.1.t Ta0 (by decide)  -- t30
    · obtain ⟨B2, P2, X2⟩ := ld_s (lo := ((zA κ (zR κ atFirsts a0) a1.toNatClampNeg).toInt)) W Ta0 hp.1 hp.2.1 q41
      have rS := (ld_r W Ta0 P2.1).1 atStates (by decide)
      have sb9 : stB κ κ_40 a0 a3 := fun z => by
        rw [rS]
        rcases q41.2.2.2.2 with e | e
        · rw [e]; exact z
        · have e1 := e.1
          have e2 := e.2.2.1
          omega
      refine ⟨rfl, rfl, rfl, B2, P2, X2, fun z => ⟨fun y => ?_, fun y => by rw [c18] at y; exact absurd y (by decide)⟩, sb9⟩
      have n1 : r39.toInt ≠ -1 := fun e => z (Int32.toInt_inj.mp (e.trans tmi.symm))
      rw [rS]
      have u := q41.2.2.1
      exact ⟨by omega, q41.2.2.2.1⟩
