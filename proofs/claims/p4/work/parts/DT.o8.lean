set_option maxHeartbeats 1600000
/-! the class: Odds' arrange -/
def tbJ9 (β τ : zS) (a : Nat) : Prop := zF (tbF9 a (zR β odGroups a)) β τ ∧ (∀ f, f / 100 = 9 → zR τ f a = zR β f a) ∧ grI9 τ a
theorem tbF9_t {m a g : Nat} : frT9 m a g (tbF9 a g) := fun f b z => by
  rcases z with ⟨y, z | z | z | z⟩ | ⟨y, z | z | z | z⟩
  · rw [z]; exact Or.inr (Or.inl ⟨y, by decide⟩)
  · rw [z]; exact Or.inr (Or.inl ⟨y, by decide⟩)
  · rw [z]; exact Or.inr (Or.inl ⟨y, by decide⟩)
  · rw [z]; exact Or.inr (Or.inl ⟨y, by decide⟩)
  · rw [z]; exact Or.inr (Or.inr ⟨y, by decide⟩)
  · rw [z]; exact Or.inr (Or.inr ⟨y, by decide⟩)
  · rw [z]; exact Or.inr (Or.inr ⟨y, by decide⟩)
  · rw [z]; exact Or.inr (Or.inr ⟨y, by decide⟩)
/-- frames of whole arrangements -/
def arF9 (a g : Nat) : Nat → Nat → Prop := fun f b => (b = a ∧ 905 ≤ f ∧ f < 913) ∨ hoF g f b
def arO9 (a g : Nat) : Nat → Nat → Prop := fun f b => (b = a ∧ 905 ≤ f ∧ f < 914) ∨ hoF g f b
theorem arF9_t {m a g : Nat} : frT9 m a g (arF9 a g) := fun f b z => by
  rcases z with z | ⟨y, z | z | z | z⟩
  · exact Or.inr (Or.inl ⟨z.1, z.2.1, by omega⟩)
  · rw [z]; exact Or.inr (Or.inr ⟨y, by decide⟩)
  · rw [z]; exact Or.inr (Or.inr ⟨y, by decide⟩)
  · rw [z]; exact Or.inr (Or.inr ⟨y, by decide⟩)
  · rw [z]; exact Or.inr (Or.inr ⟨y, by decide⟩)
theorem arO9_t {m a g : Nat} : frT9 m a g (arO9 a g) := fun f b z => by
  rcases z with z | ⟨y, z | z | z | z⟩
  · exact Or.inr (Or.inl z)
  · rw [z]; exact Or.inr (Or.inr ⟨y, by decide⟩)
  · rw [z]; exact Or.inr (Or.inr ⟨y, by decide⟩)
  · rw [z]; exact Or.inr (Or.inr ⟨y, by decide⟩)
  · rw [z]; exact Or.inr (Or.inr ⟨y, by decide⟩)
theorem arO9_m {a g f b : Nat} (z : arF9 a g f b) : arO9 a g f b := by
  rcases z with z | z
  · exact Or.inl ⟨z.1, z.2.1, by omega⟩
  · exact Or.inr z
theorem tbF9_a {a g f b : Nat} (z : tbF9 a g f b) : arF9 a g f b := by
  rcases z with ⟨y, z⟩ | z
  · exact Or.inl ⟨y, by rcases z with z | z | z | z <;> rw [z] <;> decide⟩
  · exact Or.inr z
theorem tbJ9_s {a : Nat} {β τ τ' : zS} (J : tbJ9 β τ a) (S : tbS9 τ τ' a) : tbJ9 β τ' a := by
  obtain ⟨j1, j2, j3⟩ := J
  obtain ⟨s1, s2, s3, _⟩ := S
  rw [j2 odGroups (by decide)] at s1
  exact ⟨j1.tr s1, fun f hf => (s2 f hf).trans (j2 f hf), s3⟩
/-- what is read on the way -/
theorem tb_c9 {C : zC} {n0 a n P : Nat} {ρ : Nat → Nat} {F : Nat → Nat → Prop} {β τ : zS} (W : zW C n0 β) (Ta : zT β a = 9) (X : odX9 ρ β a n P) (hg : zR β atStates (zR β odAtlas a) ≠ zR β odGroups a ∧ zR β atEndings (zR β odAtlas a) ≠ zR β odGroups a) (H : frT9 (zn β) a (zR β odGroups a) F) (Z : zF F β τ) (e : ∀ f, f / 100 = 9 → zR τ f a = zR β f a) : odX9 ρ τ a n P ∧ hoI τ (zR τ atEndings (zR τ odAtlas a)) 1000 35 2048 ∧ pV9 τ (zR τ atEndings (zR τ odAtlas a)) = pV9 β (zR β atEndings (zR β odAtlas a)) ∧ zI τ hoTotal (zR τ atEndings (zR τ odAtlas a)) = zI β hoTotal (zR β atEndings (zR β odAtlas a)) ∧ zT τ a = 9 ∧ (tbL9 β a → tbL9 τ a) ∧ (∀ k i, k < n → (cE9 τ a k i ↔ cE9 β a k i)) ∧ (zR τ atStates (zR τ odAtlas a) ≠ zR τ odGroups a ∧ zR τ atEndings (zR τ odAtlas a) ≠ zR τ odGroups a) := by
  have Tg := ty_odGroups W Ta
  have tA := ty_odAtlas W Ta
  have te := ty_atEndings W tA
  obtain ⟨X1, c1, e1, g1, r1, r2⟩ := od_t9 W Ta Tg H Z hg.1 hg.2 X
  have h := ho_o9 (M := 1000) (D := 35) (S := 2048) W (frT9_o H) Z te hg.2
  have eA := e odAtlas (by decide)
  have er : zR τ atEndings (zR τ odAtlas a) = zR β atEndings (zR β odAtlas a) := by rw [eA]; exact r2
  refine ⟨X1, by rw [er]; exact h.1 X.2.2.2.2.2, by rw [er]; exact h.2.1, by rw [er]; exact h.2.2, Z.t Ta (by decide), fun L => ?_, c1, by rw [eA, r1, e odGroups (by decide)]; exact hg.1, by rw [er, e odGroups (by decide)]; exact hg.2⟩
  unfold tbL9
  rw [e odLefts (by decide), e odRights (by decide), e odBases (by decide), e odRanks (by decide), e odCellOf (by decide), e odHeads (by decide), e odEdges (by decide)]
  rw [Z.l (ty_odLefts W Ta), Z.l (ty_odRights W Ta), Z.l (ty_odBases W Ta), Z.l (ty_odRanks W Ta), Z.l (ty_odCellOf W Ta), Z.l (ty_odHeads W Ta), Z.l (ty_odEdges W Ta)]
  exact L
/-- an ending's groups are there -/
def pr9 (β τ : zS) (a : Nat) (i j t e : Int32) : Prop := ∃ T : Int32, 0 ≤ T.toInt ∧ hkS9 τ (zR β odGroups a) 8192 (tK9 β a e t) 3 T.toNatClampNeg ∧ (∃ L : Nat, hkS9 τ (zR β odGroups a) 8192 (k39 1 T (pV9 β (zR β atEndings (zR β odAtlas a)) e i)) 3 L) ∧ ∃ R : Nat, hkS9 τ (zR β odGroups a) 8192 (k39 2 T (pV9 β (zR β atEndings (zR β odAtlas a)) e j)) 3 R
theorem pr9_m {β τ τ' : zS} {a : Nat} {i j t e : Int32} (p : ∀ K L x, hkS9 τ (zR β odGroups a) 8192 K L x → hkS9 τ' (zR β odGroups a) 8192 K L x) (h : pr9 β τ a i j t e) : pr9 β τ' a i j t e := by
  obtain ⟨T, t0, h1, ⟨L, h2⟩, R, h3⟩ := h
  exact ⟨T, t0, p _ _ _ h1, ⟨L, p _ _ _ h2⟩, R, p _ _ _ h3⟩
/-- nothing new in the tables -/
theorem tb_k9 {C : zC} {n0 a : Nat} {τ τ' : zS} (W : zW C n0 τ) (Ta : zT τ a = 9) (S : tbS9 τ τ' a) (N : tbN9 τ τ' a) : (∀ ml mr, gI9 τ a ml mr → gI9 τ' a ml mr) ∧ (∀ c, plC9 τ τ a ((zI τ hoTotal (zR τ odGroups a)).toInt) c → plC9 τ' τ' a ((zI τ' hoTotal (zR τ' odGroups a)).toInt) c) ∧ (∀ f, f = odLefts ∨ f = odRights ∨ f = odRanks ∨ f = odBases ∨ f = odCellOf → zA τ' (zR τ' f a) = zA τ (zR τ f a)) ∧ (zI τ' hoTotal (zR τ' odGroups a)).toInt = (zI τ hoTotal (zR τ odGroups a)).toInt := by
  obtain ⟨s1, s2, s3, s4, s5, s6⟩ := S
  obtain ⟨n1, n2, n3, n4⟩ := N
  have eg := s2 odGroups (by decide)
  have w : ∀ f, zr f = some 20 → f / 100 = 9 → f = odBases ∨ f = odCellOf → zA τ' (zR τ' f a) = zA τ (zR τ f a) := fun f h1 h2 h3 => (s1.row W h1 (by decide) (Ta.trans h2.symm) (fun z => by
    have Tg := ty_odGroups W Ta
    rcases z with ⟨_, z⟩ | z
    · rcases h3 with y | y <;> rw [y] at z <;> exact absurd z (by decide)
    · rw [← z.1, Ta] at Tg
      exact absurd Tg (by decide))).1
  have rows : ∀ f, f = odLefts ∨ f = odRights ∨ f = odRanks ∨ f = odBases ∨ f = odCellOf → zA τ' (zR τ' f a) = zA τ (zR τ f a) := fun f hf => by
    rcases hf with h | h | h | h | h
    · rw [h, s2 odLefts (by decide)]; exact n2
    · rw [h, s2 odRights (by decide)]; exact n3
    · rw [h, s2 odRanks (by decide)]; exact n4
    · rw [h]; exact w odBases (by decide +kernel) (by decide) (Or.inl rfl)
    · rw [h]; exact w odCellOf (by decide +kernel) (by decide) (Or.inr rfl)
  refine ⟨fun ml mr I => ?_, fun c D x x0 x1 xt => ?_, rows, by rw [eg]; exact n1⟩
  · unfold gI9
    rw [rows odLefts (Or.inl rfl), rows odRights (Or.inr (Or.inl rfl)), rows odRanks (Or.inr (Or.inr (Or.inl rfl))), eg, n1]
    exact gp_e9 I (fun x hx => s6 x 0 hx) (fun x hx => s6 x 1 hx)
  · rw [eg, n1] at x1
    rw [eg, s6 x 0 x1] at xt
    rw [rows odLefts (Or.inl rfl), rows odRights (Or.inr (Or.inl rfl)), rows odBases (Or.inr (Or.inr (Or.inr (Or.inl rfl))))]
    exact D x x0 x1 xt
theorem lm_9 {l r x y : Int} (x0 : 0 ≤ x) (x1 : x < l) (y0 : 0 ≤ y) (y1 : y < r) (l1 : l ≤ 1000) (r1 : r ≤ 1000) : 0 ≤ x * r + y ∧ x * r + y < l * r ∧ 0 ≤ x * r ∧ x * r ≤ 1000000 ∧ l * r ≤ 1000000 := by
  have a : x * r ≤ (l - 1) * r := Int.mul_le_mul_of_nonneg_right (by omega) (by omega)
  have b : (l - 1) * r = l * r - r := by rw [Int.sub_mul, Int.one_mul]
  have c : 0 ≤ x * r := Int.mul_nonneg x0 (by omega)
  have d : l * r ≤ 1000 * 1000 := Int.mul_le_mul l1 r1 (by omega) (by decide)
  exact ⟨by omega, by omega, c, by omega, by omega⟩
theorem lf_9 {x y z w : Int32} {l r : Int} (hr : z.toInt = r) (x0 : 0 ≤ x.toInt) (x1 : x.toInt < l) (y0 : 0 ≤ y.toInt) (y1 : y.toInt < r) (l1 : l ≤ 1000) (r1 : r ≤ 1000) (w0 : 0 ≤ w.toInt) (w1 : w.toInt + l * r ≤ 1000) : (w + (x * z + y)).toInt = w.toInt + (x.toInt * r + y.toInt) ∧ 0 ≤ (w + (x * z + y)).toInt ∧ (w + (x * z + y)).toInt < w.toInt + l * r := by
  have m := lm_9 x0 x1 y0 y1 l1 r1
  have e1 : (x * z).toInt = x.toInt * r := by rw [mul_i (by rw [hr]; omega) (by rw [hr]; omega), hr]
  have e2 : (x * z + y).toInt = x.toInt * r + y.toInt := by rw [add_i (by rw [e1]; omega) (by rw [e1]; omega), e1]
  have e3 : (w + (x * z + y)).toInt = w.toInt + (x.toInt * r + y.toInt) := by rw [add_i (by rw [e2]; omega) (by rw [e2]; omega), e2]
  exact ⟨e3, by omega, by omega⟩
/-- tables ready to be held against each other -/
def agP9 (κ : zS) (a n : Nat) : Prop := (grI9 κ a ∧ tbL9 κ a ∧ gI9 κ a 1000 1000) ∧ (zI κ atNexts (zR κ odAtlas a)).toInt ≤ (zN κ (zR κ odLinks a)) ∧ lkB9 κ κ a n 0 ∧ ∃ c : Int, c ≤ 1000 ∧ plC9 κ κ a ((zI κ hoTotal (zR κ odGroups a)).toInt) c
/-- cells on the way -/
def ceL9 (β τ : zS) (a : Nat) (m c : Int) : Prop := ∀ e : Nat, e < 1000 → (zA τ (zR β odCellOf a) e = -1 ↔ zA β (zR β odCellOf a) e = -1) ∧ ((e : Int) < m → zA τ (zR β odCellOf a) e ≠ -1 → 0 ≤ (zA τ (zR β odCellOf a) e).toInt ∧ (zA τ (zR β odCellOf a) e).toInt < c)
/-- on the way through the endings, the second time -/
def arJ9 (β τ : zS) (a : Nat) (i j t : Int32) (m c : Int) : Prop := (zF (arF9 a (zR β odGroups a)) β τ ∧ (∀ f, f / 100 = 9 → zR τ f a = zR β f a) ∧ grI9 τ a) ∧ (gI9 τ a 1000 1000 ∧ plC9 τ τ a ((zI τ hoTotal (zR τ odGroups a)).toInt) c) ∧ (∀ e : Int32, 0 ≤ e.toInt → e.toInt < (zI β hoTotal (zR β atEndings (zR β odAtlas a))).toInt → zA β (zR β odCellOf a) e.toNatClampNeg ≠ -1 → pr9 β τ a i j t e) ∧ ceL9 β τ a m c
theorem arJ_s9 {C : zC} {n0 a : Nat} {β τ τ' : zS} {i j t : Int32} {m c : Int} (W : zW C n0 τ) (Ta : zT τ a = 9) (J : arJ9 β τ a i j t m c) (S : tbS9 τ τ' a) (N : tbN9 τ τ' a) : arJ9 β τ' a i j t m c := by
  obtain ⟨⟨Z, e, G⟩, ⟨I, D⟩, p, ce⟩ := J
  have K := tb_k9 W Ta S N
  have eg := e odGroups (by decide)
  have s1 := S.1
  rw [eg] at s1
  refine ⟨⟨Z.tr (s1.mono (fun f b z => tbF9_a z)), fun f hf => (S.2.1 f hf).trans (e f hf), S.2.2.1⟩, ⟨K.1 _ _ I, K.2.1 _ D⟩, fun x x0 x1 xm => pr9_m (fun K' L y H => ?_) (p x x0 x1 xm), fun x hx => ?_⟩
  · rw [← eg] at H ⊢
    exact S.2.2.2.2.1 K' L y H
  · have q := K.2.2.1 odCellOf (Or.inr (Or.inr (Or.inr (Or.inr rfl))))
    rw [S.2.1 odCellOf (by decide), e odCellOf (by decide)] at q
    rw [q]
    exact ce x hx
/-- an ending gets its cell -/
theorem arJ_u9 {C : zC} {n0 a : Nat} {β τ τ' : zS} {i j t e v : Int32} {c : Int} (W : zW C n0 τ) (Ta : zT τ a = 9) (J : arJ9 β τ a i j t e.toInt c) (h : τ' = ua τ (zR τ odCellOf a) e.toNatClampNeg v) (e0 : 0 ≤ e.toInt) (mk : zA β (zR β odCellOf a) e.toNatClampNeg ≠ -1) (v0 : 0 ≤ v.toInt) (v1 : v.toInt < c) : arJ9 β τ' a i j t (e.toInt + 1) c := by
  obtain ⟨⟨Z, er, G⟩, ⟨I, D⟩, p, ce⟩ := J
  have o := W.o (show zr odCellOf = some 20 by decide +kernel) (by decide) Ta
  have Z1 : zF (oneF odCellOf a) τ τ' := by rw [h]; exact zF_ua (by rw [o]; exact ⟨rfl, rfl⟩)
  have R : zR τ' = zR τ := by rw [h]; rfl
  have N : zN τ' = zN τ := by rw [h]; rfl
  have V := ho_t9 W (ty_odGroups W Ta) Z1 (fun f b z => by rw [z.1]; decide)
  have row : ∀ f, zr f = some 20 → f / 100 = 9 → f ≠ odCellOf → zA τ' (zR τ' f a) = zA τ (zR τ f a) := fun f h1 h2 h3 => (Z1.row W h1 (by decide) (Ta.trans h2.symm) (fun z => h3 z.1)).1
  have k := cnk e0
  refine ⟨⟨Z.tr (Z1.mono (fun f b z => Or.inl ⟨z.2, by rw [z.1]; decide⟩)), fun f hf => by rw [R]; exact er f hf, ?_⟩, ⟨?_, fun x x0 x1 xt => ?_⟩, fun x x0 x1 xm => pr9_m (fun K' L y H => ?_) (p x x0 x1 xm), fun x hx => ?_⟩
  · obtain ⟨⟨g1, g2, g3⟩, g4⟩ := G
    unfold grI9
    rw [R, N]
    have I9 := V.2.2.2.2 _ _ _ g1
    refine ⟨⟨I9, hoI_A I9 (Or.inr ?_), (V.2.1 _).mpr g3⟩, g4⟩
    rw [R, N, g2.1]
    decide
  · unfold gI9
    rw [row odLefts (by decide +kernel) (by decide) (by decide), row odRights (by decide +kernel) (by decide) (by decide), row odRanks (by decide +kernel) (by decide) (by decide), R, V.2.2.1, V.2.2.2.1]
    exact I
  · rw [R, V.2.2.2.1] at x1
    rw [R, V.2.2.1] at xt
    rw [row odLefts (by decide +kernel) (by decide) (by decide), row odRights (by decide +kernel) (by decide) (by decide), row odBases (by decide +kernel) (by decide) (by decide)]
    exact D x x0 x1 xt
  · rw [← er odGroups (by decide)] at H ⊢
    exact (V.1 _ _ _ _).mpr H
  · have q : zA τ' (zR β odCellOf a) = upd (zA τ (zR β odCellOf a)) e.toNatClampNeg v := by
      rw [← er odCellOf (by decide), h]
      exact if_pos rfl
    have nv : v ≠ -1 := fun y => by
      rw [y, tmi] at v0
      omega
    rw [q]
    unfold upd
    by_cases z : x = e.toNatClampNeg
    · rw [if_pos z]
      exact ⟨⟨fun y => absurd y nv, fun y => absurd (by rw [← z]; exact y) mk⟩, fun _ _ => ⟨v0, v1⟩⟩
    · rw [if_neg z]
      exact ⟨(ce x hx).1, fun y => (ce x hx).2 (by omega)⟩
theorem lkN_e9 {a n : Nat} {κ τ : zS} {x : Int32} (f : zA τ (zR τ atFirsts (zR τ odAtlas a)) = zA κ (zR κ atFirsts (zR κ odAtlas a))) (c : ∀ k i, k < n → (cE9 τ a k i ↔ cE9 κ a k i)) : lkN9 τ a n x ↔ lkN9 κ a n x := by
  unfold lkN9
  rw [f]
  constructor
  · rintro ⟨k, h1, h2, h3, h4⟩
    exact ⟨k, h1, h2, h3, (c k x h1).mp h4⟩
  · rintro ⟨k, h1, h2, h3, h4⟩
    exact ⟨k, h1, h2, h3, (c k x h1).mpr h4⟩
theorem Od_arrange_c {C : zC} {n0 : Nat} {a0 : Nat} {a1 : Int32} {a2 : Int32} {a3 : Int32} {κ : zS} {Q : Int32 → zS → Prop} (W : zW C n0 κ) (Ta0 : zT κ a0 = 9) (ρ : Nat → Nat) (n9 P9 : Nat) (hp : odX9 ρ κ a0 n9 P9 ∧ ((odU9 κ a0 ∨ tbL9 κ a0) ∧ (zN κ (zR κ odLinks a0)) ≤ 20000 ∧ 0 ≤ (zI κ atNexts (zR κ odAtlas a0)).toInt) ∧ (hoI κ (zR κ odGroups a0) 3000 3 8192 ∧ (zN κ (zR κ odKey a0)) = 3) ∧ (zR κ atStates (zR κ odAtlas a0) ≠ zR κ odGroups a0 ∧ zR κ atEndings (zR κ odAtlas a0) ≠ zR κ odGroups a0)) (h : ∀ (v : Int32) (κ' : zS), (nb v ∧ zF (arO9 a0 (zR κ odGroups a0)) κ κ' ∧ (hoI κ' (zR κ odGroups a0) 3000 3 8192 ∧ (zN κ' (zR κ' odKey a0)) = 3) ∧ (tbL9 κ' a0 ∧ (zN κ' (zR κ' odLinks a0)) ≤ 20000) ∧ eO9 κ κ' a0 ∧ (v ≠ 0 → agP9 κ' a0 n9)) → Q v κ') : zRun C 5 mOd_arrange [.ref a0, .int a1, .int a2, .int a3] κ (oI Q noX) := by
  refine Od_arrange_run W Ta0 ?_
  replace W := W.lo (Nat.le_trans W.1.2.1 W.1.2.2) (Nat.le_refl (zn κ))
  unfold w_Od_arrange_0
  obtain ⟨X0, ⟨U0, l20, nx0⟩, ⟨H0, k0⟩, hg⟩ := hp
  have A0 := X0.2.2.1.1
  have Tg := ty_odGroups W Ta0
  have ag : a0 ≠ zR κ odGroups a0 := fun z => by rw [← z, Ta0] at Tg; exact absurd Tg (by decide)
  have hE := X0.2.2.2.2.2.2.1.2
  intro T1
  refine Od_makeRows_c W T1  ?_ (fun κ_2 q3 => ?_)
  · exact ⟨U0, l20, nx0, by have := A0.2.2.2.2.1; have := A0.2.1.2.2; omega⟩  -- p1
  obtain ⟨Z2, L2, ⟨ln2, ll2⟩, Q2⟩ := q3
  have nm : ∀ f, f < 906 → ¬ mrF9 a0 f a0 := fun f hf z => by
    have := z.2.1
    omega
  have e2 : ∀ f, f < 906 → zR κ_2 f a0 = zR κ f a0 := fun f hf => Z2.r (nm f hf)
  have g2 : ∀ f b, b ≠ a0 → ¬ mrF9 a0 f b := fun f b hb z => hb z.1
  have H2 : hoI κ_2 (zR κ odGroups a0) 3000 3 8192 := hoI_zF Z2 W Tg (fun f => g2 f _ (Ne.symm ag)) H0
  have kl2 : zN κ_2 (zR κ_2 odKey a0) = 3 := by
    rw [e2 odKey (by decide), Z2.l (ty_odKey W Ta0)]
    exact k0
  intro W4
  intro M5
  intro T6
  refine Ho_clear_c W4 T6 3000 3 8192 ?_ (fun κ_7 q8 => ?_)
  · rw [e2 odGroups (by decide)]
    exact ⟨H2, Or.inr (Or.inr ⟨rfl, rfl, rfl⟩)⟩
  rw [e2 odGroups (by decide)] at q8
  obtain ⟨Z7, H7, A7, t7⟩ := q8
  have T2 : zT κ_2 a0 = 9 := Z2.t Ta0 (by decide)
  have r7 : ∀ f, zR κ_7 f a0 = zR κ_2 f a0 := fun f => Z7.r (fun z => ag z.1)
  have F7 : zF (arO9 a0 (zR κ odGroups a0)) κ κ_7 := (Z2.mono (fun f b z => Or.inl ⟨z.1, by have := z.2; omega⟩)).tr (Z7.mono (fun f b z => Or.inr z))
  have T7 : zT κ_7 a0 = 9 := F7.t Ta0 (by decide)
  obtain ⟨X7, _, e7, g7, s71, s72⟩ := od_t9 W Ta0 Tg arO9_t F7 hg.1 hg.2 X0
  have eg7 := e7 odGroups (by decide) (by decide)
  have eA7 := e7 odAtlas (by decide) (by decide)
  have hg7 : zR κ_7 atStates (zR κ_7 odAtlas a0) ≠ zR κ_7 odGroups a0 ∧ zR κ_7 atEndings (zR κ_7 odAtlas a0) ≠ zR κ_7 odGroups a0 := by
    rw [eA7, eg7, s71, s72]
    exact hg
  have L7 : tbL9 κ_7 a0 := by
    unfold tbL9
    rw [r7, r7, r7, r7, r7, r7, r7]
    rw [Z7.l (ty_odLefts W4 T2), Z7.l (ty_odRights W4 T2), Z7.l (ty_odBases W4 T2), Z7.l (ty_odRanks W4 T2), Z7.l (ty_odCellOf W4 T2), Z7.l (ty_odHeads W4 T2), Z7.l (ty_odEdges W4 T2)]
    exact L2
  have U7 : hoU9 κ_7 (zR κ odGroups a0) 8192 := fun i j hi hj h1 _ => by
    have q := A7.2.2.2.2.2 i hi
    rw [t7] at q
    exact absurd (Int32.toInt_inj.mp (show (zA κ_7 (zR κ_7 hoTable (zR κ odGroups a0)) i).toInt = (0 : Int32).toInt by rw [t0i]; omega)) h1
  have kl7 : zN κ_7 (zR κ_7 odKey a0) = 3 := by
    rw [r7, Z7.l (ty_odKey W4 T2)]
    exact kl2
  intro W9
  intro M10
  intro T11
  refine Od_markEndings_c W9 T11 ρ n9 P9 ?_ (fun r12 κ_13 q14 => ?_)
  · exact ⟨X7, L7.2.2.2.2.1, hg7⟩  -- p3
  obtain ⟨⟨Z13, R13, N13, I13⟩, v12, m13, d13⟩ := q14
  have T13 : zT κ_13 a0 = 9 := Z13.t T7 (by decide)
  have F13 : zF (arO9 a0 (zR κ odGroups a0)) κ κ_13 := F7.tr (Z13.mono (fun f b z => Or.inl ⟨z.2, by rw [z.1]; decide⟩))
  obtain ⟨X13, _, e13, g13, s131, s132⟩ := od_t9 W Ta0 Tg arO9_t F13 hg.1 hg.2 X0
  have eg13 : zR κ_13 odGroups a0 = zR κ odGroups a0 := e13 odGroups (by decide) (by decide)
  have eA13 : zR κ_13 odAtlas a0 = (zR κ odAtlas a0) := e13 odAtlas (by decide) (by decide)
  have hg13 : zR κ_13 atStates (zR κ_13 odAtlas a0) ≠ zR κ_13 odGroups a0 ∧ zR κ_13 atEndings (zR κ_13 odAtlas a0) ≠ zR κ_13 odGroups a0 := by
    rw [eA13, eg13, s131, s132]
    exact hg
  have L13 : tbL9 κ_13 a0 := by
    unfold tbL9
    rw [R13, N13]
    exact L7
  have ag13 : a0 ≠ zR κ_13 odGroups a0 := by rw [eg13]; exact ag
  have Tg7 : zT κ_7 (zR κ odGroups a0) = 6 := F7.t Tg (by decide)
  have V13 := ho_t9 W9 Tg7 Z13 (fun f b z => by rw [z.1]; decide)
  have G13 : grI9 κ_13 a0 := by
    unfold grI9
    rw [eg13, R13, N13]
    have I := V13.2.2.2.2 _ _ _ H7
    refine ⟨⟨I, hoI_A I (Or.inr ?_), (V13.2.1 _).mpr U7⟩, kl7⟩
    rw [R13, N13, A7.1]
    decide
  have t13 : (zI κ_13 hoTotal (zR κ_13 odGroups a0)).toInt = 0 := by rw [eg13, V13.2.2.2.1]; exact t7
  have hE13 := X13.2.2.2.2.2.2.1
  have mk13 : ∀ e, e < 1000 → zA κ_13 (zR κ_13 odCellOf a0) e = -1 ∨ zA κ_13 (zR κ_13 odCellOf a0) e = 0 := fun e he => by rw [R13]; exact m13 e he
  have md13 : ∀ k i, k < n9 → (zA κ_13 (zR κ_13 atFirsts (zR κ_13 odAtlas a0)) k).toInt ≤ i.toInt → i.toInt < (zA κ_13 (zR κ_13 atFirsts (zR κ_13 odAtlas a0)) (k + 1)).toInt → cE9 κ_13 a0 k i → zA κ_13 (zR κ_13 odCellOf a0) (zA κ_13 (zR κ_13 atNumbers (zR κ_13 odAtlas a0)) i.toNatClampNeg).toNatClampNeg ≠ -1 := by
    obtain ⟨_, ce, _, g, _⟩ := od_t9 W9 T7 (by rw [eg7]; exact Tg7) (oneF_t9 (f := odCellOf) (by decide)) Z13 hg7.1 hg7.2 X7
    intro k i hk h1 h2 h3
    rw [(g atFirsts (by decide)).1] at h1 h2
    rw [(g atNumbers (by decide)).1, R13]
    exact d13 k i hk h1 h2 ((ce k i hk).mp h3)
  have Q13 : eO9 κ κ_13 a0 := eO_z9 W9 T7 Z13 (fun z => absurd z.1 (by decide)) (eO_z9 W4 T2 Z7 (fun z => ag z.1) Q2)
  have ll13 : zN κ_13 (zR κ_13 odLinks a0) = zN κ_2 (zR κ_2 odLinks a0) := by
    rw [R13, N13, r7, Z7.l (ty_odLinks W4 T2)]
  have ix13 : zI κ_13 atNexts (zR κ_13 odAtlas a0) = zI κ atNexts (zR κ odAtlas a0) := by
    rw [eA13]
    exact F13.i (frT9_n W Ta0 Tg arO9_t (ty_odAtlas W Ta0) ⟨Or.inl (by decide), Or.inl (by decide)⟩)
  intro W15
  intro M16
  unfold w_Od_arrange_20
  refine ⟨fun n l0 l1 l2 l3 l4 l5 τ => n = ((zI κ_13 hoTotal (zR κ_13 atEndings (zR κ_13 odAtlas a0))).toInt - l5.toInt).toNat ∧ (a0 = l0 ∧ a1 = l1 ∧ a2 = l2 ∧ a3 = l3 ∧ tbJ9 κ_13 τ a0 ∧ gI9 τ a0 l5.toInt l5.toInt ∧ (zI τ hoTotal (zR κ_13 odGroups a0)).toInt ≤ 3 * l5.toInt ∧ (r12 = l4 ∧ 0 ≤ l5.toInt ∧ l5.toInt ≤ (zI κ_13 hoTotal (zR κ_13 atEndings (zR κ_13 odAtlas a0))).toInt) ∧ ∀ e : Int32, 0 ≤ e.toInt → e.toInt < l5.toInt → zA κ_13 (zR κ_13 odCellOf a0) e.toNatClampNeg ≠ -1 → pr9 κ_13 τ a0 a1 a2 a3 e), ⟨_, rfl, ?_⟩, ?_⟩
  · refine ⟨rfl, rfl, rfl, rfl, ⟨zF.rf, fun _ _ => rfl, G13⟩, fun x x0 x1 => ?_, ?_, ⟨rfl, by decide, by rw [t0i]; exact hE13.1⟩, fun e e0 e1 => ?_⟩
    · rw [t13] at x1; omega
    · rw [t13, t0i]; decide
    · rw [t0i] at e1; omega
  rintro n20 _ _ _ _ x20_4 x20_5 κ20 W20 T20_0 ⟨hn20, rfl, rfl, rfl, rfl, i20⟩
  obtain ⟨J1, I1, t1, ⟨rfl, l50, l51⟩, D1⟩ := i20
  obtain ⟨X1, H1, V1, E1, T1', L1, _, _⟩ := tb_c9 W15 T13 X13 hg13 tbF9_t J1.1 J1.2.1
  have L1 := L1 L13
  have k5 := cnk l50
  have eg1 := J1.2.1 odGroups (by decide)
  have ec1 : zA κ20 (zR κ20 odCellOf a0) = zA κ_13 (zR κ_13 odCellOf a0) := (J1.1.row W15 (f := odCellOf) (t := 20) (by decide +kernel) (by decide) T13 (fun z => by
  rcases z with ⟨_, z⟩ | z
  · exact absurd z (by decide)
  · exact ag13 z.1)).1
  refine ⟨fun c17 => ?_, fun c17 => ?_⟩
  · skip
    intro T18
    refine Od_placeTables_c W20 T18  ?_ (fun r19 κ_20 q21 => ?_)
    · rw [lei, E1] at c17
      exact ⟨⟨J1.2.2, L1, gp_m9 I1 (by omega) (by omega)⟩, v12.1, v12.2⟩
    rw [lei, E1] at c17
    obtain ⟨⟨Zp, Rp, Np, Ip⟩, vp, dp⟩ := q21
    have Z20 : zF (arF9 a0 (zR κ_13 odGroups a0)) κ_13 κ_20 := (J1.1.mono (fun f b z => tbF9_a z)).tr (Zp.mono (fun f b z => Or.inl ⟨z.2, by rw [z.1]; decide⟩))
    have e20 : ∀ f, f / 100 = 9 → zR κ_20 f a0 = zR κ_13 f a0 := fun f hf => by rw [Rp]; exact J1.2.1 f hf
    have Tg20 : zT κ20 (zR κ20 odGroups a0) = 6 := ty_odGroups W20 T20_0
    have V20 := ho_t9 W20 Tg20 Zp (fun f b z => by rw [z.1]; decide)
    have G20 : grI9 κ_20 a0 := by
      obtain ⟨⟨g1, g2, g3⟩, g4⟩ := J1.2.2
      unfold grI9
      rw [Rp, Np]
      have I := V20.2.2.2.2 _ _ _ g1
      refine ⟨⟨I, hoI_A I (Or.inr ?_), (V20.2.1 _).mpr g3⟩, g4⟩
      rw [Rp, Np, g2.1]
      decide
    have row20 : ∀ f, zr f = some 20 → f / 100 = 9 → f ≠ odBases → zA κ_20 (zR κ_20 f a0) = zA κ20 (zR κ20 f a0) := fun f h1 h2 h3 => (Zp.row W20 h1 (by decide) (T20_0.trans h2.symm) (fun z => h3 z.1)).1
    have I20 : gI9 κ_20 a0 1000 1000 := by
      unfold gI9
      rw [row20 odLefts (by decide +kernel) (by decide) (by decide), row20 odRights (by decide +kernel) (by decide) (by decide), row20 odRanks (by decide +kernel) (by decide) (by decide), Rp, V20.2.2.1, V20.2.2.2.1]
      exact gp_m9 I1 (by omega) (by omega)
    obtain ⟨_, _, _, _, T20', L20, _, _⟩ := tb_c9 W15 T13 X13 hg13 arF9_t Z20 e20
    have ec20 : zA κ_20 (zR κ_20 odCellOf a0) = zA κ_13 (zR κ_13 odCellOf a0) := (row20 odCellOf (by decide +kernel) (by decide) (by decide)).trans ec1
    intro W22
    intro M23
    refine ⟨fun c24 => ?_, fun c24 => ?_⟩
    · skip
      unfold w_Od_arrange_131
      refine ⟨fun n l0 l1 l2 l3 l5 l6 τ => n = ((zI κ_13 hoTotal (zR κ_13 atEndings (zR κ_13 odAtlas a0))).toInt - l6.toInt).toNat ∧ (a0 = l0 ∧ a1 = l1 ∧ a2 = l2 ∧ a3 = l3 ∧ arJ9 κ_13 τ a0 a1 a2 a3 l6.toInt l5.toInt ∧ (r19 = l5 ∧ 0 ≤ l6.toInt ∧ l6.toInt ≤ (zI κ_13 hoTotal (zR κ_13 atEndings (zR κ_13 odAtlas a0))).toInt)), ⟨_, rfl, ?_⟩, ?_⟩
      · rw [lei] at c24
        refine ⟨rfl, rfl, rfl, rfl, ⟨⟨Z20, e20, G20⟩, ⟨I20, fun x x0 x1 xt => ?_⟩, fun e e0 e1 em => pr9_m (fun K L x H => ?_) (D1 e e0 (by omega) em), fun e he => ⟨?_, fun h => by rw [t0i] at h; omega⟩⟩, ⟨rfl, by decide, by rw [t0i]; exact hE13.1⟩⟩
        · rw [Rp, V20.2.2.2.1] at x1
          rw [Rp, V20.2.2.1] at xt
          rw [row20 odLefts (by decide +kernel) (by decide) (by decide), row20 odRights (by decide +kernel) (by decide) (by decide), Rp]
          exact dp c24 x x0 x1 xt
        · rw [← eg1] at H ⊢
          exact (V20.1 _ _ _ _).mpr H
        · rw [← e20 odCellOf (by decide), ec20, e20 odCellOf (by decide)]
      rintro n131 _ _ _ _ x131_5 x131_6 κ131 W131 T131_0 ⟨hn131, rfl, rfl, rfl, rfl, i131⟩
      obtain ⟨J2, ⟨rfl, l60, l61⟩⟩ := i131
      obtain ⟨⟨Z2, e2, G2⟩, ⟨I2, D2⟩, p2, C2⟩ := id J2
      obtain ⟨X2, H2, V2, E2, T2', L2, ce2, hg2⟩ := tb_c9 W15 T13 X13 hg13 arF9_t Z2 e2
      have L2 := L2 L13
      have k6 := cnk l60
      have eg2 := e2 odGroups (by decide)
      have hj240 : ∀ (l0 : Nat) (l1 : Int32) (l2 : Int32) (l3 : Int32) (l5 : Int32) (l6 : Int32) (l7 : Int32) (l8 : Int32) (l9 : Int32) (s0 : Int32) (τ : zS), zW C (zn κ) τ → zT τ l0 = 9 → (a0 = l0 ∧ a1 = l1 ∧ a2 = l2 ∧ a3 = l3 ∧ arJ9 κ_13 τ a0 a1 a2 a3 l6.toInt l5.toInt ∧ (r19 = l5 ∧ x131_6 = l6 ∧ l6.toInt < (zI κ_13 hoTotal (zR κ_13 atEndings (zR κ_13 odAtlas a0))).toInt ∧ zA κ_13 (zR κ_13 odCellOf a0) l6.toNatClampNeg ≠ -1) ∧ (0 ≤ l7.toInt ∧ l7.toInt < (zI τ hoTotal (zR τ odGroups a0)).toInt ∧ pV9 τ (zR τ odGroups a0) l7 0 = 0) ∧ (0 ≤ l8.toInt ∧ l8.toInt < (zA τ (zR τ odLefts a0) l7.toNatClampNeg).toInt) ∧ (0 ≤ l9.toInt ∧ l9.toInt < (zA τ (zR τ odRights a0) l7.toNatClampNeg).toInt)) → w_Od_arrange_240 C (zn κ) Q (fun (l0' : Nat) (l1' : Int32) (l2' : Int32) (l3' : Int32) (l5' : Int32) (l6' : Int32) (τ : zS) => ∃ k < n131, (fun (n : Nat) (l0 : Nat) (l1 : Int32) (l2 : Int32) (l3 : Int32) (l5 : Int32) (l6 : Int32) (τ : zS) => n = ((zI κ_13 hoTotal (zR κ_13 atEndings (zR κ_13 odAtlas a0))).toInt - l6.toInt).toNat ∧ (a0 = l0 ∧ a1 = l1 ∧ a2 = l2 ∧ a3 = l3 ∧ arJ9 κ_13 τ a0 a1 a2 a3 l6.toInt l5.toInt ∧ (r19 = l5 ∧ 0 ≤ l6.toInt ∧ l6.toInt ≤ (zI κ_13 hoTotal (zR κ_13 atEndings (zR κ_13 odAtlas a0))).toInt))) k l0' l1' l2' l3' l5' l6' τ) l0 l1 l2 l3 l5 l6 l7 l8 l9 s0 τ := by
        rintro _ _ _ _ y240_5 y240_6 y240_7 y240_8 y240_9 y240_s0 τ240 W240 T240_0 ⟨rfl, rfl, rfl, rfl, j240⟩
        unfold w_Od_arrange_240
        obtain ⟨J4, ⟨rfl, rfl, l6e, mk⟩, ⟨u0, u1, ut⟩, ⟨w0, w1⟩, y0, y1⟩ := j240
        obtain ⟨⟨Z4, e4, G4⟩, ⟨I4, D4⟩, _, _⟩ := id J4
        have L4 := (tb_c9 W15 T13 X13 hg13 arF9_t Z4 e4).2.2.2.2.2.1 L13
        have tM := G4.1.1.2.1.2
        obtain ⟨⟨l0, l1⟩, r0, r1⟩ := (I4 y240_7 u0 u1).1 ut
        have d := D4 y240_7 u0 u1 ut
        have k7 := cnk u0
        have hE2 := hE13.2
        have c24' := lei.mp c24
        have v122 := v12.2
        have cm := Int.mul_comm ((zA τ240 (zR τ240 odLefts a0) y240_7.toNatClampNeg).toInt) ((zA τ240 (zR τ240 odRights a0) y240_7.toNatClampNeg).toInt)
        have ix := cn1 (x := x131_6) l60 (by omega)
        refine ⟨?_, ?_⟩
        · rw [inb_iff, L4.2.2.1]; omega  -- b7
        refine ⟨fun c25 => ?_, fun c25 => ?_⟩
        · skip
          refine ⟨?_, ?_⟩
          · rw [inb_iff, L4.1]; omega  -- b8
          refine ⟨?_, ?_⟩
          · rw [inb_iff, L4.2.2.2.2.1]; omega  -- b9
          intro κ_26 hκ_26
          intro W27
          intro x28 hx28
          have f := lf_9 (x := y240_9) (y := y240_8) (z := zA τ240 (zR τ240 odLefts a0) y240_7.toNatClampNeg) (w := zA τ240 (zR τ240 odBases a0) y240_7.toNatClampNeg) rfl y0 y1 w0 w1 r1 l1 d.1 (by omega)
          have J5 := arJ_u9 W240 T240_0 J4 hκ_26 l60 mk f.2.1 (by omega)
          refine ⟨_, ?_, rfl, ?_⟩
          · rw [hn131, hx28, ix.2]; omega  -- d10
          · exact ⟨rfl, rfl, rfl, rfl, by rw [hx28, ix.2]; exact J5, ⟨rfl, by rw [hx28, ix.2]; omega, by rw [hx28, ix.2]; omega⟩⟩  -- i11
        · skip
          refine ⟨?_, ?_⟩
          · rw [inb_iff, L4.2.1]; omega  -- b12
          refine ⟨?_, ?_⟩
          · rw [inb_iff, L4.2.2.2.2.1]; omega  -- b13
          intro κ_29 hκ_29
          intro W30
          intro x31 hx31
          have f := lf_9 (x := y240_8) (y := y240_9) (z := zA τ240 (zR τ240 odRights a0) y240_7.toNatClampNeg) (w := zA τ240 (zR τ240 odBases a0) y240_7.toNatClampNeg) rfl w0 w1 y0 y1 l1 r1 d.1 (by omega)
          have J5 := arJ_u9 W240 T240_0 J4 hκ_29 l60 mk f.2.1 (by omega)
          refine ⟨_, ?_, rfl, ?_⟩
          · rw [hn131, hx31, ix.2]; omega  -- d14
          · exact ⟨rfl, rfl, rfl, rfl, by rw [hx31, ix.2]; exact J5, ⟨rfl, by rw [hx31, ix.2]; omega, by rw [hx31, ix.2]; omega⟩⟩  -- i15
      obtain ⟨_, ceq, _, gq, sq1, sq2⟩ := od_t9 W15 T13 (ty_odGroups W15 T13) arF9_t Z2 hg13.1 hg13.2 X13
      have eA2 := e2 odAtlas (by decide)
      have ix2 : zI κ131 atNexts (zR κ131 odAtlas a0) = zI κ atNexts (zR κ odAtlas a0) := by
        rw [eA2, ← ix13]
        exact Z2.i (frT9_n W15 T13 (ty_odGroups W15 T13) arF9_t (ty_odAtlas W15 T13) ⟨Or.inl (by decide), Or.inl (by decide)⟩)
      have ll2' : zN κ131 (zR κ131 odLinks a0) = zN κ_2 (zR κ_2 odLinks a0) := by
        rw [e2 odLinks (by decide), Z2.l (ty_odLinks W15 T13)]
        exact ll13
      refine ⟨fun c32 => ?_, fun c32 => ?_⟩
      · skip
        intro T33
        refine Od_linkCells_c W131 T33 ρ n9 P9 ?_ (fun r34 κ_35 q36 => ?_)
        · rw [lei, E2] at c32
          refine ⟨⟨X2, L2, hg2⟩, ⟨by rw [ix2, ll2']; exact ln2, by have := lei.mp c24; have := v12.2; omega⟩, fun k i hk h1 h2 h3 => ?_⟩
          rw [(gq atFirsts (by decide)).1] at h1 h2
          have ce := (ceq k i hk).mp h3
          have m := md13 k i hk h1 h2 ce
          obtain ⟨⟨f0, _, _⟩, nx, _⟩ := X13.2.2.1.1.2.2.2.2.2 k hk
          have ki := cnk (x := i) (by omega)
          have nb3 := (nx i.toNatClampNeg (by omega) (by omega)).2.1 ce.1
          have ke := cnk nb3.1
          have hE2 := hE13.2
          rw [(gq atNumbers (by decide)).1, e2 odCellOf (by decide)]
          have q := C2 (zA κ_13 (zR κ_13 atNumbers (zR κ_13 odAtlas a0)) i.toNatClampNeg).toNatClampNeg (by omega)
          exact q.2 (by omega) (fun y => m (q.1.mp y))
        intro W37
        intro M38
        refine ⟨?_, h _ _ ?_⟩
        · exact q36.1  -- b17
        · obtain ⟨vb, ⟨Z5, R5, N5, I5⟩, D5⟩ := q36
          have Tg2 : zT κ131 (zR κ131 odGroups a0) = 6 := ty_odGroups W131 T131_0
          have V5 := ho_t9 W131 Tg2 Z5 (fun f b z => by rcases z.2 with y | y <;> rw [y] <;> decide)
          have row5 : ∀ f, zr f = some 20 → f / 100 = 9 → f ≠ odHeads → f ≠ odLinks → zA κ_35 (zR κ_35 f a0) = zA κ131 (zR κ131 f a0) := fun f h1 h2 h3 h4 => (Z5.row W131 h1 (by decide) (T131_0.trans h2.symm) (fun z => z.2.elim h3 h4)).1
          obtain ⟨X5, ce5, _, g5, _⟩ := od_t9 W131 T131_0 Tg2 hlF9_t Z5 hg2.1 hg2.2 X2
          have Z2' := Z2
          rw [eg13] at Z2'
          have I9 := V5.2.2.2.2 _ _ _ G2.1.1
          have eg3 : zR κ131 odGroups a0 = zR κ odGroups a0 := eg2.trans eg13
          refine ⟨vb, (F13.tr (Z2'.mono (fun f b z => arO9_m z))).tr (Z5.mono (fun f b z => Or.inl ⟨z.1, by rcases z.2 with y | y <;> rw [y] <;> decide⟩)), ⟨by rw [← eg3]; exact I9, by rw [R5, N5]; exact G2.2⟩, ⟨by unfold tbL9; rw [R5, N5]; exact L2, by rw [R5, N5, ll2']; exact ll2⟩, ?_, fun _ => ⟨⟨?_, by unfold tbL9; rw [R5, N5]; exact L2, ?_⟩, ?_, ⟨fun c hc => ?_, fun x hx _ => ?_⟩, r19.toInt, by have := lei.mp c24; have := v12.2; omega, fun x x0 x1 xt => ?_⟩⟩
          · exact eO_z9 W131 T131_0 Z5 (fun z => absurd z.2 (by decide)) (eO_z9 W15 T13 Z2 (fun z => by
              rcases z with ⟨_, _, z⟩ | z
              · exact absurd z (by decide)
              · exact ag13 z.1) Q13)
          · obtain ⟨⟨g1, g2', g3⟩, g4⟩ := G2
            unfold grI9
            rw [R5, N5]
            refine ⟨⟨I9, hoI_A I9 (Or.inr ?_), (V5.2.1 _).mpr g3⟩, g4⟩
            rw [R5, N5, g2'.1]
            decide
          · unfold gI9
            rw [row5 odLefts (by decide +kernel) (by decide) (by decide) (by decide), row5 odRights (by decide +kernel) (by decide) (by decide) (by decide), row5 odRanks (by decide +kernel) (by decide) (by decide) (by decide), R5, V5.2.2.1, V5.2.2.2.1]
            exact I2
          · rw [R5, N5, I5, ix2, ll2']
            exact ln2
          · rw [R5]
            rcases D5.1 c hc with y | y
            · exact Or.inl y
            · exact Or.inr ⟨(lkN_e9 (g5 atFirsts (by decide)).1 ce5).mpr y.1, y.2⟩
          · rw [R5]
            have y := (lkN_e9 (g5 atFirsts (by decide)).1 ce5).mp hx
            have x0 : 0 ≤ x.toInt := by
              obtain ⟨k, h1, h2, _⟩ := y
              have f9 := (X2.2.2.1.1.2.2.2.2.2 k h1).1.1
              omega
            rcases D5.2 x y x0 with w | w
            · exact Or.inl w
            · exact Or.inr ⟨(lkN_e9 (g5 atFirsts (by decide)).1 ce5).mpr w.1, w.2⟩
          · rw [R5, V5.2.2.2.1] at x1
            rw [R5, V5.2.2.1] at xt
            rw [row5 odLefts (by decide +kernel) (by decide) (by decide) (by decide), row5 odRights (by decide +kernel) (by decide) (by decide) (by decide), row5 odBases (by decide +kernel) (by decide) (by decide) (by decide)]
            exact D2 x x0 x1 xt
      · skip
        rw [lei, E2] at c32
        have hE2 := hE13.2
        have ix := cn1 (x := x131_6) l60 (by omega)
        have ec2 := e2 odCellOf (by decide)
        have cq := C2 x131_6.toNatClampNeg (by omega)
        refine ⟨?_, ?_⟩
        · rw [inb_iff, L2.2.2.2.2.1]; omega  -- b19
        refine ⟨fun c39 => ?_, fun c39 => ?_⟩
        · skip
          intro x40 hx40
          refine ⟨_, ?_, rfl, ?_⟩
          · rw [hn131, hx40, ix.2]; omega  -- d20
          · refine ⟨rfl, rfl, rfl, rfl, ⟨⟨Z2, e2, G2⟩, ⟨I2, D2⟩, p2, fun e he => ⟨(C2 e he).1, fun h1 h2 => ?_⟩⟩, ⟨rfl, by rw [hx40, ix.2]; omega, by rw [hx40, ix.2]; omega⟩⟩
            rw [hx40, ix.2] at h1
            rw [ec2] at c39
            by_cases z : e = x131_6.toNatClampNeg
            · rw [z] at h2
              exact absurd c39 h2
            · exact (C2 e he).2 (by omega) h2
        · skip
          intro T41
          rw [ec2] at c39
          have mk : zA κ_13 (zR κ_13 odCellOf a0) x131_6.toNatClampNeg ≠ -1 := fun y => c39 (cq.1.mpr y)
          obtain ⟨T, T0, h1, ⟨Lx, h2⟩, Rx, h3⟩ := p2 x131_6 l60 (by omega) mk
          have etk : tK9 κ131 a0 x131_6 a3 = tK9 κ_13 a0 x131_6 a3 := by unfold tK9; rw [V2]
          have kT := cnk T0
          refine Od_tableOf_c W131 T41 1000 1000 ?_ (fun r42 κ_43 q44 => ?_)
          · rw [eg2, etk]
            exact ⟨⟨G2, L2, I2⟩, by decide, H2, Or.inr ⟨_, h1⟩⟩
          rw [eg2, etk] at q44
          obtain ⟨S44, _, v44, k44, n44⟩ := q44
          obtain ⟨N44, ev⟩ := n44 _ h1
          have eT : r42 = T := Int32.toInt_inj.mp (by omega)
          have J43 := arJ_s9 W131 T131_0 J2 S44 N44
          obtain ⟨⟨Z43, e43, G43⟩, ⟨I43, D43⟩, p43, C43⟩ := id J43
          obtain ⟨X43, H43, V43, E43, T43, L43, _, _⟩ := tb_c9 W15 T13 X13 hg13 arF9_t Z43 e43
          have L43 := L43 L13
          have eg43 := e43 odGroups (by decide)
          have pk := fun K L x (H : hkS9 κ131 (zR κ_13 odGroups a0) 8192 K L x) => (show hkS9 κ_43 (zR κ_13 odGroups a0) 8192 K L x by
            have q := S44.2.2.2.2.1 K L x
            rw [eg2] at q
            exact q H)
          intro W45
          intro M46
          intro T47
          refine Ho_part_c2 W45 T47 1000 35 2048 ?_ (fun r48 q50 => ?_)
          · exact ⟨H43, Or.inr (Or.inl ⟨rfl, rfl, rfl⟩)⟩  -- p23
          intro W51
          intro M52
          intro T53
          intro T54
          rw [V43] at q50
          have h2' := pk _ _ _ h2
          rw [← eT, ← q50] at h2'
          have tg43 : pV9 κ_43 (zR κ_13 odGroups a0) r42 0 = 0 := pV9_k (K := tK9 κ_13 a0 x131_6 a3) v44.1 k44.1 (by decide) (by decide)
          refine Od_rankOf_c1 W51 T53 T54 1000 1000 ?_ (fun r55 κ_56 q57 => ?_)
          · rw [eg43]
            exact ⟨⟨G43, L43, I43⟩, by decide, ⟨rfl, rfl⟩, ⟨v44.1, v44.2, tg43⟩, Or.inr ⟨_, h2'⟩⟩
          rw [eg43] at q57
          obtain ⟨xl, ⟨S57, _, v57, k57, n57⟩, ev57⟩ := q57
          obtain ⟨N57, _⟩ := n57 _ h2'
          have J56 := arJ_s9 W51 T43 J43 S57 N57
          obtain ⟨⟨Z56, e56, G56⟩, ⟨I56, D56⟩, p56, C56⟩ := id J56
          obtain ⟨X56, H56, V56, E56, T56, L56, _, _⟩ := tb_c9 W15 T13 X13 hg13 arF9_t Z56 e56
          have L56 := L56 L13
          have eg56 := e56 odGroups (by decide)
          have pk56 := fun K L x (H : hkS9 κ_43 (zR κ_13 odGroups a0) 8192 K L x) => (show hkS9 κ_56 (zR κ_13 odGroups a0) 8192 K L x by
            have q := S57.2.2.2.2.1 K L x
            rw [eg43] at q
            exact q H)
          have k44' := pk56 _ _ _ k44
          intro W58
          intro M59
          intro T60
          refine Ho_part_c2 W58 T60 1000 35 2048 ?_ (fun r61 q63 => ?_)
          · exact ⟨H56, Or.inr (Or.inl ⟨rfl, rfl, rfl⟩)⟩  -- p25
          intro W64
          intro M65
          intro T66
          intro T67
          rw [V56] at q63
          have h3' := pk56 _ _ _ (pk _ _ _ h3)
          rw [← eT, ← q63] at h3'
          have tg56 : pV9 κ_56 (zR κ_13 odGroups a0) r42 0 = 0 := pV9_k (K := tK9 κ_13 a0 x131_6 a3) v44.1 k44'.1 (by decide) (by decide)
          have vt56 : r42.toInt < (zI κ_56 hoTotal (zR κ_13 odGroups a0)).toInt := by
            have q := k44'.1.1
            have kr := cnk v44.1
            omega
          refine Od_rankOf_c2 W64 T66 T67 1000 1000 ?_ (fun r68 κ_69 q70 => ?_)
          · rw [eg56]
            exact ⟨⟨G56, L56, I56⟩, by decide, ⟨rfl, rfl⟩, ⟨v44.1, vt56, tg56⟩, Or.inr ⟨_, h3'⟩⟩
          intro W71
          intro M72
          rw [eg56] at q70
          obtain ⟨xr, ⟨S70, _, v70, k70, n70⟩, ev70⟩ := q70
          obtain ⟨N70, _⟩ := n70 _ h3'
          have J69 := arJ_s9 W64 T56 J56 S70 N70
          obtain ⟨⟨Z69, e69, G69⟩, ⟨I69, D69⟩, p69, C69⟩ := id J69
          obtain ⟨X69, H69, V69, E69, T69, L69, _, _⟩ := tb_c9 W15 T13 X13 hg13 arF9_t Z69 e69
          have L69 := L69 L13
          have eg69 := e69 odGroups (by decide)
          have pk69 := fun K L x (H : hkS9 κ_56 (zR κ_13 odGroups a0) 8192 K L x) => (show hkS9 κ_69 (zR κ_13 odGroups a0) 8192 K L x by
            have q := S70.2.2.2.2.1 K L x
            rw [eg56] at q
            exact q H)
          have kt := pk69 _ _ _ k44'
          have kl := pk69 _ _ _ k57
          have kr9 := cnk v44.1
          have kxl := cnk v57.1
          have kxr := cnk v70.1
          have vt : r42.toInt < (zI κ_69 hoTotal (zR κ_13 odGroups a0)).toInt := by
            have q := kt.1.1
            omega
          have vl : xl.toInt < (zI κ_69 hoTotal (zR κ_13 odGroups a0)).toInt := by
            have q := kl.1.1
            omega
          have tg69 : pV9 κ_69 (zR κ_13 odGroups a0) r42 0 = 0 := pV9_k (K := tK9 κ_13 a0 x131_6 a3) v44.1 kt.1 (by decide) (by decide)
          have gl := I69 xl v57.1 (by rw [eg69]; exact vl)
          have gr := I69 xr v70.1 (by rw [eg69]; exact v70.2)
          have l0' : pV9 κ_69 (zR κ_13 odGroups a0) xl 0 = 1 := pV9_k (K := k39 1 r42 r48) v57.1 kl.1 (by decide) (by decide)
          have l1' : pV9 κ_69 (zR κ_13 odGroups a0) xl 1 = r42 := pV9_k (K := k39 1 r42 r48) v57.1 kl.1 (by decide) (by decide)
          have r0' : pV9 κ_69 (zR κ_13 odGroups a0) xr 0 = 2 := pV9_k (K := k39 2 r42 r61) v70.1 k70.1 (by decide) (by decide)
          have r1' : pV9 κ_69 (zR κ_13 odGroups a0) xr 1 = r42 := pV9_k (K := k39 2 r42 r61) v70.1 k70.1 (by decide) (by decide)
          dsimp only at gl gr
          rw [eg69] at gl gr
          obtain ⟨_, gl1, gl2⟩ := gl.2.1 l0'
          obtain ⟨_, gr1, gr2⟩ := gr.2.2 r0'
          rw [l1'] at gl2
          rw [r1'] at gr2
          have rk := (tb_k9 W64 T56 S70 N70).2.2.1 odRanks (Or.inr (Or.inr (Or.inl rfl)))
          rw [rk, ← ev57] at gl1 gl2
          rw [← ev70] at gr1 gr2
          have tM69 := G69.1.1.2.1.2
          rw [eg69] at tM69
          refine ⟨?_, ?_⟩
          · rw [inb_iff, L69.1]; omega  -- b27
          refine ⟨?_, ?_⟩
          · rw [inb_iff, L69.2.1]; omega  -- b28
          refine ⟨fun c73 => ?_, fun c73 => ?_⟩
          · skip
            refine hj240 _ _ _ _ _ _ _ _ _ _ _ W71 ?_ ?_
            · exact T69  -- t29
            · exact ⟨rfl, rfl, rfl, rfl, J69, ⟨rfl, rfl, by omega, mk⟩, ⟨v44.1, by rw [eg69]; exact vt, by rw [eg69]; exact tg69⟩, ⟨gl1, gl2⟩, gr1, gr2⟩  -- k30
          · skip
            refine hj240 _ _ _ _ _ _ _ _ _ _ _ W71 ?_ ?_
            · exact T69  -- t31
            · exact ⟨rfl, rfl, rfl, rfl, J69, ⟨rfl, rfl, by omega, mk⟩, ⟨v44.1, by rw [eg69]; exact vt, by rw [eg69]; exact tg69⟩, ⟨gl1, gl2⟩, gr1, gr2⟩  -- k32
    · skip
      refine h _ _ ?_
      · have Z20' := Z20
        rw [eg13] at Z20'
        refine ⟨nb_0, F13.tr (Z20'.mono (fun f b z => arO9_m z)), ⟨by rw [← eg13, ← e20 odGroups (by decide)]; exact G20.1.1, G20.2⟩, ⟨L20 L13, ?_⟩, ?_, fun z => absurd rfl z⟩
        · rw [e20 odLinks (by decide), Z20.l (ty_odLinks W15 T13), ll13]
          exact ll2
        · exact eO_z9 W20 T20_0 Zp (fun z => absurd z.1 (by decide)) (eO_z9 W15 T13 J1.1 (fun z => by
            rcases z with ⟨_, z⟩ | z
            · exact absurd z (by decide)
            · exact ag13 z.1) Q13)
  · skip
    rw [lei, E1] at c17
    have hE2 := hE13.2
    have ix := cn1 (x := x20_5) l50 (by omega)
    refine ⟨?_, ?_⟩
    · rw [inb_iff, L1.2.2.2.2.1]; omega  -- b34
    refine ⟨fun c74 => ?_, fun c74 => ?_⟩
    · skip
      intro x75 hx75
      refine ⟨_, ?_, rfl, ?_⟩
      · rw [hn20, hx75, ix.2]; omega  -- d35
      · rw [ec1] at c74
        refine ⟨rfl, rfl, rfl, rfl, J1, by rw [hx75, ix.2]; exact gp_m9 I1 (by omega) (by omega), by rw [hx75, ix.2]; omega, ⟨rfl, by rw [hx75, ix.2]; omega, by rw [hx75, ix.2]; omega⟩, fun e e0 e1 em => ?_⟩
        rw [hx75, ix.2] at e1
        by_cases z : e.toInt = x20_5.toInt
        · rw [Int32.toInt_inj.mp z] at em
          exact absurd c74 em
        · exact D1 e e0 (by omega) em
    · skip
      intro T76
      rw [ec1] at c74
      have etk : tK9 κ20 a0 x20_5 a3 = tK9 κ_13 a0 x20_5 a3 := by unfold tK9; rw [V1]
      refine Od_tableOf_c W20 T76 x20_5.toInt x20_5.toInt ?_ (fun r77 κ_78 q79 => ?_)
      · rw [eg1]
        exact ⟨⟨J1.2.2, L1, I1⟩, ⟨l50, l50⟩, H1, Or.inl (by omega)⟩
      rw [eg1, etk] at q79
      obtain ⟨S79, I79, v79, k79, _⟩ := q79
      have J78 := tbJ9_s J1 S79
      obtain ⟨X78, H78, V78, E78, T78, L78, _, _⟩ := tb_c9 W15 T13 X13 hg13 tbF9_t J78.1 J78.2.1
      have L78 := L78 L13
      have eg78 := J78.2.1 odGroups (by decide)
      have t78 := S79.2.2.2.1
      rw [eg1] at t78
      have pk := fun K L x (H : hkS9 κ20 (zR κ_13 odGroups a0) 8192 K L x) => (show hkS9 κ_78 (zR κ_13 odGroups a0) 8192 K L x by
        have q := S79.2.2.2.2.1 K L x
        rw [eg1] at q
        exact q H)
      intro W80
      intro M81
      intro T82
      refine Ho_part_c2 W80 T82 1000 35 2048 ?_ (fun r83 q85 => ?_)
      · exact ⟨H78, Or.inr (Or.inl ⟨rfl, rfl, rfl⟩)⟩  -- p38
      intro W86
      intro M87
      intro T88
      intro T89
      rw [V78] at q85
      have tg78 : pV9 κ_78 (zR κ_13 odGroups a0) r77 0 = 0 := pV9_k (K := tK9 κ_13 a0 x20_5 a3) v79.1 k79.1 (by decide) (by decide)
      refine Od_rankOf_c1 W86 T88 T89 x20_5.toInt x20_5.toInt ?_ (fun r90 κ_91 q92 => ?_)
      · rw [eg78]
        exact ⟨⟨J78.2.2, L78, I79⟩, ⟨by omega, by omega⟩, ⟨rfl, rfl⟩, ⟨v79.1, v79.2, tg78⟩, Or.inl (by omega)⟩
      rw [eg78] at q92
      obtain ⟨xl, ⟨S92, I92, v92, k92, _⟩, _⟩ := q92
      have J91 := tbJ9_s J78 S92
      obtain ⟨X91, H91, V91, E91, T91, L91, _, _⟩ := tb_c9 W15 T13 X13 hg13 tbF9_t J91.1 J91.2.1
      have L91 := L91 L13
      have eg91 := J91.2.1 odGroups (by decide)
      have t91 := S92.2.2.2.1
      rw [eg78] at t91
      have pk91 := fun K L x (H : hkS9 κ_78 (zR κ_13 odGroups a0) 8192 K L x) => (show hkS9 κ_91 (zR κ_13 odGroups a0) 8192 K L x by
        have q := S92.2.2.2.2.1 K L x
        rw [eg78] at q
        exact q H)
      have k79' := pk91 _ _ _ k79
      intro W93
      intro M94
      intro T95
      refine Ho_part_c2 W93 T95 1000 35 2048 ?_ (fun r96 q98 => ?_)
      · exact ⟨H91, Or.inr (Or.inl ⟨rfl, rfl, rfl⟩)⟩  -- p40
      intro W99
      intro M100
      intro T101
      intro T102
      rw [V91] at q98
      have tg91 : pV9 κ_91 (zR κ_13 odGroups a0) r77 0 = 0 := pV9_k (K := tK9 κ_13 a0 x20_5 a3) v79.1 k79'.1 (by decide) (by decide)
      refine Od_rankOf_c2 W99 T101 T102 (x20_5.toInt + 1) x20_5.toInt ?_ (fun r103 κ_104 q105 => ?_)
      · rw [eg91]
        exact ⟨⟨J91.2.2, L91, I92⟩, ⟨by omega, by omega⟩, ⟨rfl, rfl⟩, ⟨v79.1, by omega, tg91⟩, Or.inl (by omega)⟩
      intro W106
      intro M107
      intro x108 hx108
      rw [eg91] at q105
      obtain ⟨xr, ⟨S105, I105, v105, k105, _⟩, _⟩ := q105
      have J104 := tbJ9_s J91 S105
      have t104 := S105.2.2.2.1
      rw [eg91] at t104
      have pk104 := fun K L x (H : hkS9 κ_91 (zR κ_13 odGroups a0) 8192 K L x) => (show hkS9 κ_104 (zR κ_13 odGroups a0) 8192 K L x by
        have q := S105.2.2.2.2.1 K L x
        rw [eg91] at q
        exact q H)
      rw [q85] at k92
      rw [q98] at k105
      refine ⟨_, ?_, rfl, ?_⟩
      · rw [hn20, hx108, ix.2]; omega  -- d42
      · refine ⟨rfl, rfl, rfl, rfl, J104, by rw [hx108, ix.2]; exact I105, by rw [hx108, ix.2]; omega, ⟨rfl, by rw [hx108, ix.2]; omega, by rw [hx108, ix.2]; omega⟩, fun e e0 e1 em => ?_⟩
        rw [hx108, ix.2] at e1
        by_cases z : e.toInt = x20_5.toInt
        · rw [Int32.toInt_inj.mp z]
          exact ⟨r77, v79.1, pk104 _ _ _ k79', ⟨_, pk104 _ _ _ k92⟩, _, k105⟩
        · exact pr9_m (fun K L x H => pk104 _ _ _ (pk91 _ _ _ (pk _ _ _ H))) (D1 e e0 (by omega) em)
