set_option maxHeartbeats 1600000
/-! the class: Odds' comesToEnd, markEndings, placeTables, linkCells -/
/-- a frame among the rows of one Odds and its groups -/
def frT9 (m a g : Nat) (F : Nat → Nat → Prop) : Prop := ∀ f b, F f b → m ≤ b ∨ (b = a ∧ 905 ≤ f ∧ f < 914) ∨ (b = g ∧ f / 100 = 6)
theorem frT9_o {m a g : Nat} {F : Nat → Nat → Prop} (H : frT9 m a g F) : frO9 m g F := fun f b z => by
  rcases H f b z with h | h | h
  · exact Or.inl h
  · exact Or.inr (Or.inr (Or.inr (Or.inr (Or.inr (Or.inl (by omega))))))
  · exact Or.inr (Or.inr (Or.inr (Or.inr (Or.inr (Or.inr (Or.inr ⟨h.2, h.1⟩))))))
theorem frT9_n {C : zC} {n0 a g f b c : Nat} {F : Nat → Nat → Prop} {κ : zS} (W : zW C n0 κ) (Ta : zT κ a = 9) (Tg : zT κ g = 6) (H : frT9 (zn κ) a g F) (T : zT κ b = c + 1) (h : ((c + 1 ≠ 9 ∨ f < 905) ∧ (c + 1 ≠ 6 ∨ b ≠ g))) : ¬ F f b := fun z => by
  have l := (W.2.1 b (by omega)).2
  rcases H f b z with q | q | q
  · omega
  · rw [q.1, Ta] at T
    rcases h.1 with y | y
    · exact y T.symm
    · omega
  · rcases h.2 with y | y
    · rw [q.1, Tg] at T
      exact y T.symm
    · exact y q.1
/-- a run comes to an ending by this next -/
def cE9 (κ : zS) (a k : Nat) (i : Int32) : Prop := zA κ (zR κ atSorts (zR κ odAtlas a)) i.toNatClampNeg = 1 ∧ (zA κ (zR κ atChooses (zR κ odAtlas a)) k = 0 ∨ i = zA κ (zR κ atFirsts (zR κ odAtlas a)) k + zA κ (zR κ atPlan (zR κ odAtlas a)) k) ∧ zI κ raSign (vU9 κ (zR κ odSolver a) k) ≠ 0
/-- what stays while only tables are touched -/
theorem od_t9 {C : zC} {n0 a n P g : Nat} {ρ : Nat → Nat} {F : Nat → Nat → Prop} {κ τ : zS} (W : zW C n0 κ) (Ta : zT κ a = 9) (Tg : zT κ g = 6) (H : frT9 (zn κ) a g F) (Z : zF F κ τ) (hs : zR κ atStates (zR κ odAtlas a) ≠ g) (he : zR κ atEndings (zR κ odAtlas a) ≠ g) (X : odX9 ρ κ a n P) : odX9 ρ τ a n P ∧ (∀ k i, k < n → (cE9 τ a k i ↔ cE9 κ a k i)) ∧ (∀ f, f / 100 = 9 → f < 905 → zR τ f a = zR κ f a) ∧ (∀ f, f ∈ atRf → zA τ (zR τ f (zR τ odAtlas a)) = zA κ (zR κ f (zR κ odAtlas a)) ∧ zN τ (zR τ f (zR τ odAtlas a)) = zN κ (zR κ f (zR κ odAtlas a))) ∧ (zR τ atStates (zR κ odAtlas a) = zR κ atStates (zR κ odAtlas a) ∧ zR τ atEndings (zR κ odAtlas a) = zR κ atEndings (zR κ odAtlas a)) := by
  have e : ∀ f, f / 100 = 9 → f < 905 → zR τ f a = zR κ f a := fun f _ h2 => Z.r (frT9_n W Ta Tg H Ta ⟨Or.inr h2, Or.inl (by decide)⟩)
  have ts := ty_odSolver W Ta
  have tA := ty_odAtlas W Ta
  have tc := ty_atCode W tA
  have te := ty_atEndings W tA
  have nS : ∀ f, ¬ F f (zR κ odSolver a) := fun f => frT9_n W Ta Tg H ts ⟨Or.inl (by decide), Or.inl (by decide)⟩
  have nA : ∀ f, ¬ F f (zR κ odAtlas a) := fun f => frT9_n W Ta Tg H tA ⟨Or.inl (by decide), Or.inl (by decide)⟩
  have n8 : ∀ f w, zT κ w = 8 → ¬ F f w := fun f w t => frT9_n W Ta Tg H t ⟨Or.inl (by decide), Or.inl (by decide)⟩
  have n11 : ∀ f w, zT κ w = 11 → ¬ F f w := fun f w t => frT9_n W Ta Tg H t ⟨Or.inl (by decide), Or.inl (by decide)⟩
  have n3 : ∀ f w, zT κ w = 3 → ¬ F f w := fun f w t => frT9_n W Ta Tg H t ⟨Or.inl (by decide), Or.inl (by decide)⟩
  have O := frT9_o H
  have ga := fun f hf => at_o9 W O Z tA (f := f) hf
  obtain ⟨⟨x1, x2⟩, x3, ⟨x4, x5⟩, x6, ⟨x7, x9⟩, x8⟩ := X
  have rv := Z.row W (f := soVisits) (t := 25) (by decide +kernel) (by decide) ts (nS soVisits)
  have lv : zN τ (zR τ soVisits (zR κ odSolver a)) = zN κ (zR κ soVisits (zR κ odSolver a)) := by
    rw [Z.r (nS soVisits)]
    exact Z.l (ty_soVisits W ts)
  have vu : ∀ k, vU9 τ (zR κ odSolver a) k = vU9 κ (zR κ odSolver a) k := fun k => by
    unfold vU9
    rw [rv.2.2]
  have eA := e odAtlas (by decide) (by decide)
  have eS := e odSolver (by decide) (by decide)
  refine ⟨⟨⟨?_, ?_⟩, ?_, ⟨?_, ?_⟩, ?_, ⟨?_, fun hn => ?_⟩, ?_⟩, fun k i hk => ?_, e, fun f hf => ?_, Z.r (nA _), Z.r (nA _)⟩
  · rw [eS, eA, Z.r (nS soAtlas)]; exact x1
  · rw [eS, e odCalc (by decide) (by decide), Z.r (nS soCalc)]; exact x2
  · rw [e odHeld (by decide) (by decide)]; exact x3
  · rw [eA]; exact atW_o9 W O Z tA hs he x4
  · rw [eS, lv]; exact x5
  · rw [eS]; exact vs_h9 W ts Z n8 n11 n3 nS x6
  · rw [eA, Z.r (nA atCode)]; exact co_o9 W O Z tc x7
  · rw [eA]; exact enZ_o9 W O Z tA he (x9 hn)
  · rw [eA, Z.r (nA atEndings)]; exact (ho_o9 W O Z te he).1 x8
  · have tu := W.2.2.2.2.1 _ _ _ (ty_soVisits W ts) (x6 k hk).1
    unfold cE9
    rw [eA, eS, vu, (ga atSorts (by decide)).2.1, (ga atChooses (by decide)).2.1, (ga atFirsts (by decide)).2.1, (ga atPlan (by decide)).2.1, Z.i (n11 raSign _ tu)]
  · rw [eA]
    exact (ga f hf).2
/-- how many are not -1 -/
def cC9 (r : Nat → Int32) : Nat → Nat
  | 0 => 0
  | n + 1 => cC9 r n + if r n = -1 then 0 else 1
theorem cC_le9 {r : Nat → Int32} : ∀ n, cC9 r n ≤ n := by
  intro n
  induction n with
  | zero => exact Nat.le_refl _
  | succ n ih =>
    show cC9 r n + (if r n = -1 then 0 else 1) ≤ n + 1
    split <;> omega
theorem cC_09 {r : Nat → Int32} : ∀ n, (∀ i, i < n → r i = -1) → cC9 r n = 0 := by
  intro n
  induction n with
  | zero => intro _; rfl
  | succ n ih =>
    intro h
    show cC9 r n + (if r n = -1 then 0 else 1) = 0
    rw [ih (fun i hi => h i (by omega)), if_pos (h n (by omega))]
theorem cC_e9 {r r' : Nat → Int32} : ∀ n, (∀ i, i < n → r' i = r i) → cC9 r' n = cC9 r n := by
  intro n
  induction n with
  | zero => intro _; rfl
  | succ n ih =>
    intro h
    show cC9 r' n + (if r' n = -1 then 0 else 1) = cC9 r n + (if r n = -1 then 0 else 1)
    rw [ih (fun i hi => h i (by omega)), h n (by omega)]
theorem cC_u9 {r : Nat → Int32} {j : Nat} {x : Int32} (hj : r j = -1) (hx : x ≠ -1) : ∀ n, j < n → cC9 (upd r j x) n = cC9 r n + 1 := by
  intro n
  induction n with
  | zero => intro h; omega
  | succ n ih =>
    intro h
    show cC9 (upd r j x) n + (if upd r j x n = -1 then 0 else 1) = cC9 r n + (if r n = -1 then 0 else 1) + 1
    by_cases z : n = j
    · have a : upd r j x n = x := if_pos z
      have b := cC_e9 (r := r) (r' := upd r j x) n (fun i hi => if_neg (by omega))
      rw [a, b, if_neg hx, z, if_pos hj]
    · have a : upd r j x n = r n := if_neg z
      rw [a, ih (by omega)]
      omega
/-- firsts rise -/
theorem fm_9 {κ : zS} {b n : Nat} (A : atW κ b n) : ∀ j i, i ≤ j → j ≤ n → (zA κ (zR κ atFirsts b) i).toInt ≤ (zA κ (zR κ atFirsts b) j).toInt := by
  intro j
  induction j with
  | zero => intro i h _; rw [Nat.le_zero.mp h]; exact Int.le_refl _
  | succ j ih =>
    intro i h hn
    by_cases z : i = j + 1
    · rw [z]; exact Int.le_refl _
    · exact Int.le_trans (ih i (by omega) (by omega)) (A.2.2.2.2.2 j (by omega)).1.2.1
theorem fu_9 {κ : zS} {b n k j : Nat} {x : Int} (A : atW κ b n) (hk : k < n) (hj : j < n) (k0 : (zA κ (zR κ atFirsts b) k).toInt ≤ x) (k1 : x < (zA κ (zR κ atFirsts b) (k + 1)).toInt) (j0 : (zA κ (zR κ atFirsts b) j).toInt ≤ x) (j1 : x < (zA κ (zR κ atFirsts b) (j + 1)).toInt) : k = j := by
  by_cases h : k < j
  · have q := fm_9 A j (k + 1) (by omega) (by omega)
    omega
  · by_cases g : j < k
    · have q := fm_9 A k (j + 1) (by omega) (by omega)
      omega
    · omega
/-- only rows of numbers were written -/
def rwE9 (κ τ : zS) : Prop := zR τ = zR κ ∧ zN τ = zN κ ∧ zI τ = zI κ
theorem Od_comesToEnd_c {C : zC} {n0 : Nat} {a0 : Nat} {a1 : Int32} {a2 : Int32} {κ : zS} {Q : Int32 → zS → Prop} (W : zW C n0 κ) (Ta0 : zT κ a0 = 9) (ρ : Nat → Nat) (n9 P9 : Nat) (hp : odX9 ρ κ a0 n9 P9 ∧ (0 ≤ a1.toInt ∧ a1.toInt < n9) ∧ 0 ≤ a2.toInt ∧ a2.toInt < (zN κ (zR κ atNumbers (zR κ odAtlas a0)))) (h : ∀ (v : Int32), (nb v ∧ (v ≠ 0 ↔ cE9 κ a0 a1.toNatClampNeg a2)) → Q v κ) : zRun C 1 mOd_comesToEnd [.ref a0, .int a1, .int a2] κ (oI Q noX) := by
  refine Od_comesToEnd_run W Ta0 ?_
  replace W := W.lo (Nat.le_trans W.1.2.1 W.1.2.2) (Nat.le_refl (zn κ))
  unfold w_Od_comesToEnd_0
  obtain ⟨⟨⟨x1, x2⟩, x3, ⟨⟨A1, A2, A3, A4, A5, A6⟩, x5⟩, x6, ⟨x7, _⟩, x8⟩, p1, p2, p3⟩ := hp
  have k1 := cnk p1.1
  obtain ⟨v1, v2, v3⟩ := x6 a1.toNatClampNeg (by omega)
  refine ⟨?_, ?_⟩
  · rw [inb_iff, A2.1.1]; exact ⟨p2, p3⟩  -- b1
  refine ⟨fun c1 => ?_, fun c1 => ?_⟩
  · skip
    refine h _ ?_
    · exact ⟨nb_0, fun z => absurd rfl z, fun z => absurd z.1 c1⟩  -- q2
  · skip
    intro T2
    refine At_isTaken_c W T2  ?_ (fun r3 q5 => ?_)
    · exact ⟨A1, p1.1, by omega⟩  -- p3
    intro W6
    intro M7
    refine ⟨fun c8 => ?_, fun c8 => ?_⟩
    · skip
      refine h _ ?_
      · exact ⟨nb_0, fun z => absurd rfl z, fun z => absurd c8 (q5.2.mpr z.2.1)⟩  -- q4
    · skip
      refine ⟨?_, ?_⟩
      · rw [inb_iff]; omega  -- b5
      refine ex_some ?_ (fun u9 hu9 => ?_)
      · exact ⟨_, v1⟩  -- e6
      refine ⟨fun c10 => ?_, fun c10 => ?_⟩
      · skip
        refine h _ ?_
        · have eu := Option.some.inj (hu9.symm.trans v1)
          exact ⟨nb_0, fun z => absurd rfl z, fun z => absurd (by rw [← eu]; exact c10) z.2.2⟩
      · skip
        refine h _ ?_
        · have eu := Option.some.inj (hu9.symm.trans v1)
          exact ⟨nb_1, fun _ => ⟨c1, q5.2.mp c8, by rw [← eu]; exact c10⟩, fun _ => by decide⟩

/-- on the way through the endings -/
def mkB9 (κ τ : zS) (a : Nat) (m : Int32) : Prop := (zF (oneF odCellOf a) κ τ ∧ rwE9 κ τ) ∧ m.toInt = (cC9 (zA τ (zR κ odCellOf a)) 1000 : Int) ∧ ∀ e, e < 1000 → zA τ (zR κ odCellOf a) e = -1 ∨ zA τ (zR κ odCellOf a) e = 0
def mkD9 (κ τ : zS) (a k : Nat) (i : Int32) : Prop := cE9 κ a k i → zA τ (zR κ odCellOf a) (zA κ (zR κ atNumbers (zR κ odAtlas a)) i.toNatClampNeg).toNatClampNeg ≠ -1
theorem oneF_t9 {m a g f : Nat} (h : 905 ≤ f ∧ f < 914) : frT9 m a g (oneF f a) := fun f' b z => Or.inr (Or.inl ⟨z.2, by rw [z.1]; exact h⟩)
theorem Od_markEndings_c {C : zC} {n0 : Nat} {a0 : Nat} {κ : zS} {Q : Int32 → zS → Prop} (W : zW C n0 κ) (Ta0 : zT κ a0 = 9) (ρ : Nat → Nat) (n9 P9 : Nat) (hp : odX9 ρ κ a0 n9 P9 ∧ (zN κ (zR κ odCellOf a0)) = 1000 ∧ (zR κ atStates (zR κ odAtlas a0) ≠ zR κ odGroups a0 ∧ zR κ atEndings (zR κ odAtlas a0) ≠ zR κ odGroups a0)) (h : ∀ (v : Int32) (κ' : zS), ((zF (oneF odCellOf a0) κ κ' ∧ rwE9 κ κ') ∧ (0 ≤ v.toInt ∧ v.toInt ≤ 1000) ∧ (∀ e, e < 1000 → zA κ' (zR κ odCellOf a0) e = -1 ∨ zA κ' (zR κ odCellOf a0) e = 0) ∧ ∀ k i, k < n9 → (zA κ (zR κ atFirsts (zR κ odAtlas a0)) k).toInt ≤ i.toInt → i.toInt < (zA κ (zR κ atFirsts (zR κ odAtlas a0)) (k + 1)).toInt → mkD9 κ κ' a0 k i) → Q v κ') : zRun C 2 mOd_markEndings [.ref a0] κ (oI Q noX) := by
  refine Od_markEndings_run W Ta0 ?_
  replace W := W.lo (Nat.le_trans W.1.2.1 W.1.2.2) (Nat.le_refl (zn κ))
  unfold w_Od_markEndings_0
  obtain ⟨X0, c1k, hg⟩ := hp
  have A0 := X0.2.2.1.1
  have hn := A0.2.2.1
  have l20 := A0.2.1.2.2
  have nx5 := A0.2.2.2.2.1
  have Tg := ty_odGroups W Ta0
  have eh := X0.2.2.2.2.2
  have lc : zN κ (zR κ odCellOf a0) = 1000 := c1k
  intro T1
  refine Ar_fill_c W T1  (fun κ_2 q3 => ?_)
  have x2 : zA κ_2 (zR κ odCellOf a0) = fun k => if 0 ≤ k ∧ k < 1000 then -1 else zA κ (zR κ odCellOf a0) k := by
    rw [q3, ← lc]
    exact if_pos rfl
  have m2 : ∀ e, e < 1000 → zA κ_2 (zR κ odCellOf a0) e = -1 := fun e he => by
    rw [x2]
    exact if_pos ⟨Nat.zero_le _, he⟩
  have Z2 : zF (oneF odCellOf a0) κ κ_2 := by
    rw [q3]
    exact zF_uf (by rw [W.o (show zr odCellOf = some 20 by decide +kernel) (by decide) Ta0]; exact ⟨rfl, rfl⟩)
  intro W4
  intro M5
  unfold w_Od_markEndings_12
  refine ⟨fun n l0 l1 l2 τ => n = ((n9 : Int) - l2.toInt).toNat ∧ (a0 = l0 ∧ mkB9 κ τ a0 l1 ∧ (0 ≤ l2.toInt ∧ l2.toInt ≤ n9) ∧ ∀ (k : Nat) (i : Int32), (k : Int) < l2.toInt → (zA κ (zR κ atFirsts (zR κ odAtlas a0)) k).toInt ≤ i.toInt → i.toInt < (zA κ (zR κ atFirsts (zR κ odAtlas a0)) (k + 1)).toInt → mkD9 κ τ a0 k i), ⟨_, rfl, ?_⟩, ?_⟩
  · refine ⟨rfl, ⟨⟨Z2, by rw [q3]; rfl, by rw [q3]; rfl, by rw [q3]; rfl⟩, ?_, fun e he => Or.inl (m2 e he)⟩, ⟨by decide, by rw [t0i]; omega⟩, fun k i hk => by rw [t0i] at hk; omega⟩
    rw [cC_09 1000 m2]
    rfl
  rintro n12 _ x12_1 x12_2 κ12 W12 T12_0 ⟨hn12, rfl, i12⟩
  obtain ⟨⟨⟨Z1, R1, N1, I1⟩, C1, E1⟩, l2, D1⟩ := i12
  have k2 := cnk l2.1
  obtain ⟨X1, _, _, g1, _⟩ := od_t9 W Ta0 Tg (oneF_t9 (by decide)) Z1 hg.1 hg.2 X0
  have tot1 := X1.2.2.1.1.2.2.2.1
  refine ⟨fun c6 => ?_, fun c6 => ?_⟩
  · skip
    refine h _ _ ?_
    · rw [lei, tot1] at c6
      have cl := cC_le9 (r := zA κ12 (zR κ odCellOf a0)) 1000
      exact ⟨⟨Z1, R1, N1, I1⟩, ⟨by omega, by omega⟩, E1, fun k i hk => D1 k i (by omega)⟩
  · skip
    rw [lei, tot1] at c6
    have f1 := (g1 atFirsts (by decide))
    obtain ⟨⟨f0, f01, f02⟩, nx, _⟩ := A0.2.2.2.2.2 x12_2.toNatClampNeg (by omega)
    refine ⟨?_, ?_⟩
    · rw [inb_iff, f1.2, A0.1.1]; omega  -- b3
    intro x7 hx7
    unfold w_Od_markEndings_36
    refine ⟨fun n l0 l1 l2 l3 τ => n = ((zA κ (zR κ atFirsts (zR κ odAtlas a0)) (x12_2.toNatClampNeg + 1)).toInt - l3.toInt).toNat ∧ (a0 = l0 ∧ mkB9 κ τ a0 l1 ∧ (x12_2 = l2 ∧ (zA κ (zR κ atFirsts (zR κ odAtlas a0)) x12_2.toNatClampNeg).toInt ≤ l3.toInt ∧ l3.toInt ≤ (zA κ (zR κ atFirsts (zR κ odAtlas a0)) (x12_2.toNatClampNeg + 1)).toInt) ∧ (∀ (k : Nat) (i : Int32), (k : Int) < x12_2.toInt → (zA κ (zR κ atFirsts (zR κ odAtlas a0)) k).toInt ≤ i.toInt → i.toInt < (zA κ (zR κ atFirsts (zR κ odAtlas a0)) (k + 1)).toInt → mkD9 κ τ a0 k i) ∧ ∀ i : Int32, (zA κ (zR κ atFirsts (zR κ odAtlas a0)) x12_2.toNatClampNeg).toInt ≤ i.toInt → i.toInt < l3.toInt → mkD9 κ τ a0 x12_2.toNatClampNeg i), ⟨_, rfl, ?_⟩, ?_⟩
    · rw [f1.1] at hx7
      refine ⟨rfl, ⟨⟨Z1, R1, N1, I1⟩, C1, E1⟩, ⟨rfl, by rw [hx7]; exact Int.le_refl _, by rw [hx7]; exact f01⟩, D1, fun i h1 h2 => by rw [hx7] at h2; omega⟩
    rintro n36 _ x36_1 x36_2 x36_3 κ36 W36 T36_0 ⟨hn36, rfl, i36⟩
    obtain ⟨⟨⟨Z3, R3, N3, I3⟩, C3, E3⟩, ⟨rfl, l31, l32⟩, D3, D4⟩ := i36
    obtain ⟨X3, ce3, _, g3, _⟩ := od_t9 W Ta0 Tg (oneF_t9 (by decide)) Z3 hg.1 hg.2 X0
    have k3 := cnk (x := x36_3) (by omega)
    have f3 := (g3 atFirsts (by decide)).1
    have n3 := (g3 atNumbers (by decide))
    have i1 := cn1 (x := x12_2) l2.1 (by omega)
    have ix := cn1 (x := x36_3) (by omega) (by omega)
    refine ⟨?_, ?_⟩
    · rw [inb_iff, i1.2, (g3 atFirsts (by decide)).2, A0.1.1]; omega  -- b5
    refine ⟨fun c8 => ?_, fun c8 => ?_⟩
    · skip
      intro x9 hx9
      refine ⟨_, ?_, rfl, ?_⟩
      · rw [hn12, hx9, i1.2]; omega  -- d6
      · rw [f3, i1.1, lei] at c8
        refine ⟨rfl, ⟨⟨Z3, R3, N3, I3⟩, C3, E3⟩, ⟨by rw [hx9, i1.2]; omega, by rw [hx9, i1.2]; omega⟩, fun k i hk h1 h2 => ?_⟩
        rw [hx9, i1.2] at hk
        by_cases z : k = x12_2.toNatClampNeg
        · rw [z] at h1 h2 ⊢
          exact D4 i h1 (by omega)
        · exact D3 k i (by omega) h1 h2
    · skip
      intro T10
      rw [f3, i1.1, lei] at c8
      have nxi := nx x36_3.toNatClampNeg (by omega) (by omega)
      refine Od_comesToEnd_c W36 T10 ρ n9 P9 ?_ (fun r11 q13 => ?_)
      · exact ⟨X3, ⟨l2.1, by omega⟩, by omega, by rw [n3.2]; omega⟩  -- p8
      intro W14
      intro M15
      have q14 := q13.2.trans (ce3 x12_2.toNatClampNeg x36_3 (by omega))
      refine ⟨fun c16 => ?_, fun c16 => ?_⟩
      · skip
        intro x17 hx17
        refine ⟨_, ?_, rfl, ?_⟩
        · rw [hn36, hx17, ix.2]; omega  -- d9
        · refine ⟨rfl, ⟨⟨Z3, R3, N3, I3⟩, C3, E3⟩, ⟨rfl, by rw [hx17, ix.2]; omega, by rw [hx17, ix.2]; omega⟩, D3, fun i h1 h2 => ?_⟩
          rw [hx17, ix.2] at h2
          by_cases z : i.toInt = x36_3.toInt
          · rw [Int32.toInt_inj.mp z]
            exact fun y => absurd c16 (q14.mpr y)
          · exact D4 i h1 (by omega)
      · skip
        have ce := q14.mp c16
        have s1 : zA κ (zR κ atSorts (zR κ odAtlas a0)) x36_3.toNatClampNeg = 1 := ce.1
        have nb3 := nxi.2.1 s1
        have ke := cnk nb3.1
        have eM := eh.2.1.2
        have ec : zR κ36 odCellOf a0 = zR κ odCellOf a0 := by rw [R3]
        refine ⟨?_, ?_⟩
        · rw [inb_iff, n3.2]; omega  -- b11
        refine ⟨?_, ?_⟩
        · rw [n3.1, inb_iff, ec, N3, lc]; omega  -- b12
        refine ⟨fun c18 => ?_, fun c18 => ?_⟩
        · skip
          intro x19 hx19
          refine ⟨_, ?_, rfl, ?_⟩
          · rw [hn36, hx19, ix.2]; omega  -- d13
          · rw [n3.1, ec] at c18
            refine ⟨rfl, ⟨⟨Z3, R3, N3, I3⟩, C3, E3⟩, ⟨rfl, by rw [hx19, ix.2]; omega, by rw [hx19, ix.2]; omega⟩, D3, fun i h1 h2 => ?_⟩
            rw [hx19, ix.2] at h2
            by_cases z : i.toInt = x36_3.toInt
            · rw [Int32.toInt_inj.mp z]
              exact fun _ => c18
            · exact D4 i h1 (by omega)
        · skip
          rw [n3.1, ec] at c18
          refine ⟨?_, ?_⟩
          · rw [inb_iff, n3.2]; omega  -- b15
          refine ⟨?_, ?_⟩
          · rw [n3.1, inb_iff, ec, N3, lc]; omega  -- b16
          intro κ_20 hκ_20
          intro W21
          intro x22 hx22
          intro x23 hx23
          rw [n3.1, ec] at hκ_20
          have x20 : zA κ_20 (zR κ odCellOf a0) = upd (zA κ36 (zR κ odCellOf a0)) (zA κ (zR κ atNumbers (zR κ odAtlas a0)) x36_3.toNatClampNeg).toNatClampNeg 0 := by
            rw [hκ_20]
            exact if_pos rfl
          have o36 := W36.o (show zr odCellOf = some 20 by decide +kernel) (by decide) T36_0
          rw [ec] at o36
          have Z20 : zF (oneF odCellOf a0) κ κ_20 := Z3.tr (by rw [hκ_20]; exact zF_ua (by rw [o36]; exact ⟨rfl, rfl⟩))
          have cu := cC_u9 (x := 0) c18 (by decide) 1000 (show (zA κ (zR κ atNumbers (zR κ odAtlas a0)) x36_3.toNatClampNeg).toNatClampNeg < 1000 by omega)
          have cl := cC_le9 (r := zA κ_20 (zR κ odCellOf a0)) 1000
          rw [x20, cu] at cl
          have m1 := cn1 (x := x36_1) (by omega) (by omega)
          have kp : ∀ k i, mkD9 κ κ36 a0 k i → mkD9 κ κ_20 a0 k i := fun k i d y => by
            rw [x20]
            unfold upd
            split
            · decide
            · exact d y
          refine ⟨_, ?_, rfl, ?_⟩
          · rw [hn36, hx23, ix.2]; omega  -- d17
          · refine ⟨rfl, ⟨⟨Z20, by rw [hκ_20]; exact R3, by rw [hκ_20]; exact N3, by rw [hκ_20]; exact I3⟩, ?_, fun e he => ?_⟩, ⟨rfl, by rw [hx23, ix.2]; omega, by rw [hx23, ix.2]; omega⟩, fun k i hk h1 h2 => kp k i (D3 k i hk h1 h2), fun i h1 h2 => ?_⟩
            · rw [hx22, m1.2, x20, cu]
              omega
            · rw [x20]
              unfold upd
              split
              · exact Or.inr rfl
              · exact E3 e he
            · rw [hx23, ix.2] at h2
              by_cases z : i.toInt = x36_3.toInt
              · rw [Int32.toInt_inj.mp z]
                intro _
                rw [x20]
                unfold upd
                rw [if_pos rfl]
                decide
              · exact kp _ i (D4 i h1 (by omega))
