section
set_option maxHeartbeats 1600000
/-! the class: Odds' linkCells -/
/-- a next by which a run comes to an ending -/
def lkN9 (κ : zS) (a n : Nat) (x : Int32) : Prop := ∃ k, k < n ∧ (zA κ (zR κ atFirsts (zR κ odAtlas a)) k).toInt ≤ x.toInt ∧ x.toInt < (zA κ (zR κ atFirsts (zR κ odAtlas a)) (k + 1)).toInt ∧ cE9 κ a k x
/-- cells' nexts are linked, from a place on -/
def lkB9 (κ τ : zS) (a n : Nat) (b : Int) : Prop := (∀ c, c < 1000 → zA τ (zR κ odHeads a) c = -1 ∨ (lkN9 κ a n (zA τ (zR κ odHeads a) c) ∧ b ≤ (zA τ (zR κ odHeads a) c).toInt)) ∧ ∀ x, lkN9 κ a n x → b ≤ x.toInt → zA τ (zR κ odLinks a) x.toNatClampNeg = -1 ∨ (lkN9 κ a n (zA τ (zR κ odLinks a) x.toNatClampNeg) ∧ x.toInt < (zA τ (zR κ odLinks a) x.toNatClampNeg).toInt)
def hlF9 (a : Nat) : Nat → Nat → Prop := fun f b => b = a ∧ (f = odHeads ∨ f = odLinks)
theorem hlF9_t {m a g : Nat} : frT9 m a g (hlF9 a) := fun f b z => Or.inr (Or.inl ⟨z.1, by rcases z.2 with y | y <;> rw [y] <;> decide⟩)
theorem dm1_9 {x : Int32} (h : 0 ≤ x.toInt) : (x + -1).toInt = x.toInt - 1 := by
  have e : (-1 : Int32).toInt = -1 := rfl
  have u := ihi x
  rw [add_i (by rw [e]; omega) (by rw [e]; omega), e]
  omega
theorem Od_linkCells_c {C : zC} {n0 : Nat} {a0 : Nat} {a1 : Int32} {κ : zS} {Q : Int32 → zS → Prop} (W : zW C n0 κ) (Ta0 : zT κ a0 = 9) (ρ : Nat → Nat) (n9 P9 : Nat) (hp : (odX9 ρ κ a0 n9 P9 ∧ tbL9 κ a0 ∧ (zR κ atStates (zR κ odAtlas a0) ≠ zR κ odGroups a0 ∧ zR κ atEndings (zR κ odAtlas a0) ≠ zR κ odGroups a0)) ∧ ((zI κ atNexts (zR κ odAtlas a0)).toInt ≤ (zN κ (zR κ odLinks a0)) ∧ a1.toInt ≤ 1000) ∧ ∀ k i, k < n9 → (zA κ (zR κ atFirsts (zR κ odAtlas a0)) k).toInt ≤ i.toInt → i.toInt < (zA κ (zR κ atFirsts (zR κ odAtlas a0)) (k + 1)).toInt → cE9 κ a0 k i → 0 ≤ (zA κ (zR κ odCellOf a0) (zA κ (zR κ atNumbers (zR κ odAtlas a0)) i.toNatClampNeg).toNatClampNeg).toInt ∧ (zA κ (zR κ odCellOf a0) (zA κ (zR κ atNumbers (zR κ odAtlas a0)) i.toNatClampNeg).toNatClampNeg).toInt < a1.toInt) (h : ∀ (v : Int32) (κ' : zS), (nb v ∧ (zF (hlF9 a0) κ κ' ∧ rwE9 κ κ') ∧ lkB9 κ κ' a0 n9 0) → Q v κ') : zRun C 2 mOd_linkCells [.ref a0, .int a1] κ (oI Q noX) := by
  refine Od_linkCells_run W Ta0 ?_
  replace W := W.lo (Nat.le_trans W.1.2.1 W.1.2.2) (Nat.le_refl (zn κ))
  unfold w_Od_linkCells_0
  obtain ⟨⟨X0, L0, hg⟩, ⟨nl, c10⟩, cc⟩ := hp
  have A0 := X0.2.2.1.1
  have hn := A0.2.2.1
  have l20k := A0.2.1.2.2
  have nx5 := A0.2.2.2.2.1
  have tot := A0.2.2.2.1
  have Tg := ty_odGroups W Ta0
  have eh := X0.2.2.2.2.2
  have lh : zN κ (zR κ odHeads a0) = 1000 := L0.2.2.2.2.2.1
  have nhl := od_ow9 W Ta0 (f := odHeads) (g := odLinks) (by decide +kernel) (by decide +kernel) (by decide) (by decide) (by decide)
  intro T1
  refine Ar_fill_c W T1  (fun κ_2 q3 => ?_)
  have x2 : zA κ_2 (zR κ odHeads a0) = fun k => if 0 ≤ k ∧ k < 1000 then -1 else zA κ (zR κ odHeads a0) k := by
    rw [q3, ← lh]
    exact if_pos rfl
  have Z2 : zF (hlF9 a0) κ κ_2 := by
    rw [q3]
    exact zF_uf (by rw [W.o (show zr odHeads = some 20 by decide +kernel) (by decide) Ta0]; exact ⟨rfl, Or.inl rfl⟩)
  have R2 : zR κ_2 = zR κ := by rw [q3]; rfl
  have N2 : zN κ_2 = zN κ := by rw [q3]; rfl
  have I2 : zI κ_2 = zI κ := by rw [q3]; rfl
  intro W4
  intro M5
  intro x6 hx6
  unfold w_Od_linkCells_21
  refine ⟨fun n l0 l1 l2 τ => n = (l2.toInt + 1).toNat ∧ (a0 = l0 ∧ a1 = l1 ∧ (zF (hlF9 a0) κ τ ∧ rwE9 κ τ) ∧ (-1 ≤ l2.toInt ∧ l2.toInt < n9) ∧ lkB9 κ τ a0 n9 ((zA κ (zR κ atFirsts (zR κ odAtlas a0)) (l2.toInt + 1).toNat).toInt)), ⟨_, rfl, ?_⟩, ?_⟩
  · rw [R2, I2] at hx6
    have ex : x6.toInt = (n9 : Int) - 1 := by
      rw [hx6, sub_i (by rw [tot, t1i]; omega) (by rw [tot, t1i]; omega), tot, t1i]
    refine ⟨rfl, rfl, ⟨Z2, R2, N2, I2⟩, ⟨by omega, by omega⟩, fun c hc => Or.inl ?_, fun x hx hb => ?_⟩
    · rw [x2]
      exact if_pos ⟨Nat.zero_le _, hc⟩
    · obtain ⟨k, h1, h2, h3, _⟩ := hx
      rw [ex, show ((n9 : Int) - 1 + 1).toNat = n9 by omega] at hb
      have q := fm_9 A0 n9 (k + 1) (by omega) (Nat.le_refl _)
      omega
  rintro n21 _ _ x21_2 κ21 W21 T21_0 ⟨hn21, rfl, rfl, i21⟩
  obtain ⟨⟨Z1, R1, N1, I1⟩, l2, D1⟩ := i21
  obtain ⟨X1, _, _, g1, _⟩ := od_t9 W Ta0 Tg hlF9_t Z1 hg.1 hg.2 X0
  refine ⟨fun c7 => ?_, fun c7 => ?_⟩
  · skip
    unfold w_Od_linkCells_112
    refine ⟨fun n l0 l1 l2 τ => n = (l1.toInt - l2.toInt).toNat ∧ (a0 = l0 ∧ a1 = l1 ∧ (zF (hlF9 a0) κ τ ∧ rwE9 κ τ) ∧ 0 ≤ l2.toInt ∧ lkB9 κ τ a0 n9 0), ⟨_, rfl, ?_⟩, ?_⟩
    · rw [lti, t0i] at c7
      rw [show (x21_2.toInt + 1).toNat = 0 by omega] at D1
      refine ⟨rfl, rfl, ⟨Z1, R1, N1, I1⟩, by decide, fun c hc => ?_, fun x hx _ => ?_⟩
      · rcases D1.1 c hc with y | y
        · exact Or.inl y
        · obtain ⟨k, h1, h2, _⟩ := y.1
          have f0 := (A0.2.2.2.2.2 k h1).1.1
          exact Or.inr ⟨y.1, by omega⟩
      · have hx' := hx
        obtain ⟨k, h1, h2, _⟩ := hx'
        have q := fm_9 A0 k 0 (by omega) (by omega)
        exact D1.2 x hx (by omega)
    rintro n112 _ _ x112_2 κ112 W112 T112_0 ⟨hn112, rfl, rfl, i112⟩
    obtain ⟨⟨Z2, R2, N2, I2⟩, l20, D2⟩ := i112
    refine ⟨fun c8 => ?_, fun c8 => ?_⟩
    · skip
      refine h _ _ ?_
      · exact ⟨nb_1, ⟨Z2, R2, N2, I2⟩, D2⟩  -- q3
    · skip
      rw [lei] at c8
      have ix := cn1 (x := x112_2) l20 (by omega)
      refine ⟨?_, ?_⟩
      · rw [inb_iff, R2, N2, lh]; omega  -- b4
      refine ⟨fun c9 => ?_, fun c9 => ?_⟩
      · skip
        intro x10 hx10
        refine ⟨_, ?_, rfl, ?_⟩
        · rw [hn112, hx10, ix.2]; omega  -- d5
        · exact ⟨rfl, rfl, ⟨Z2, R2, N2, I2⟩, by rw [hx10, ix.2]; omega, D2⟩  -- i6
      · skip
        refine h _ _ ?_
        · exact ⟨nb_0, ⟨Z2, R2, N2, I2⟩, D2⟩  -- q7
  · skip
    rw [lti, t0i] at c7
    have k2 := cnk (x := x21_2) (by omega)
    have i1 := cn1 (x := x21_2) (by omega) (by omega)
    have f1 := g1 atFirsts (by decide)
    have hk9 : x21_2.toNatClampNeg < n9 := by omega
    obtain ⟨⟨f0, f01, f02⟩, nx, -⟩ := A0.2.2.2.2.2 x21_2.toNatClampNeg hk9
    rw [show (x21_2.toInt + 1).toNat = x21_2.toNatClampNeg + 1 by omega] at D1
    refine ⟨?_, ?_⟩
    · rw [inb_iff, i1.2, f1.2, A0.1.1]; omega  -- b8
    intro x11 hx11
    unfold w_Od_linkCells_39
    refine ⟨fun n l0 l1 l2 l3 τ => n = (l3.toInt + 1).toNat ∧ (a0 = l0 ∧ a1 = l1 ∧ (zF (hlF9 a0) κ τ ∧ rwE9 κ τ) ∧ (x21_2 = l2 ∧ (zA κ (zR κ atFirsts (zR κ odAtlas a0)) x21_2.toNatClampNeg).toInt - 1 ≤ l3.toInt ∧ l3.toInt < (zA κ (zR κ atFirsts (zR κ odAtlas a0)) (x21_2.toNatClampNeg + 1)).toInt) ∧ lkB9 κ τ a0 n9 (l3.toInt + 1)), ⟨_, rfl, ?_⟩, ?_⟩
    · rw [f1.1, i1.1] at hx11
      have ex : x11.toInt = (zA κ (zR κ atFirsts (zR κ odAtlas a0)) (x21_2.toNatClampNeg + 1)).toInt - 1 := by
        rw [hx11, sub_i (by rw [t1i]; omega) (by rw [t1i]; omega), t1i]
      refine ⟨rfl, rfl, ⟨Z1, R1, N1, I1⟩, ⟨rfl, by omega, by omega⟩, ?_⟩
      rw [ex, show (zA κ (zR κ atFirsts (zR κ odAtlas a0)) (x21_2.toNatClampNeg + 1)).toInt - 1 + 1 = (zA κ (zR κ atFirsts (zR κ odAtlas a0)) (x21_2.toNatClampNeg + 1)).toInt by omega]
      exact D1
    rintro n39 _ _ x39_2 x39_3 κ39 W39 T39_0 ⟨hn39, rfl, rfl, i39⟩
    obtain ⟨⟨Z3, R3, N3, I3⟩, ⟨rfl, l31, l32⟩, D3⟩ := i39
    obtain ⟨X3, ce3, _, g3, _⟩ := od_t9 W Ta0 Tg hlF9_t Z3 hg.1 hg.2 X0
    have f3 := g3 atFirsts (by decide)
    have n3 := g3 atNumbers (by decide)
    refine ⟨?_, ?_⟩
    · rw [inb_iff, f3.2, A0.1.1]; omega  -- b10
    refine ⟨fun c12 => ?_, fun c12 => ?_⟩
    · skip
      intro x13 hx13
      refine ⟨_, ?_, rfl, ?_⟩
      · have e13 : x13.toInt = x21_2.toInt - 1 := by rw [hx13]; exact dm1_9 (Int.not_lt.mp c7)
        rw [hn21]; omega
      · rw [f3.1, lti] at c12
        have e13 : x13.toInt = x21_2.toInt - 1 := by rw [hx13]; exact dm1_9 (Int.not_lt.mp c7)
        refine ⟨rfl, rfl, ⟨Z3, R3, N3, I3⟩, ⟨by omega, by omega⟩, ?_⟩
        rw [show (x13.toInt + 1).toNat = x21_2.toNatClampNeg by omega]
        rw [show x39_3.toInt + 1 = (zA κ (zR κ atFirsts (zR κ odAtlas a0)) x21_2.toNatClampNeg).toInt by omega] at D3
        exact D3
    · skip
      intro T14
      rw [f3.1, lti] at c12
      have k3 := cnk (x := x39_3) (by omega)
      have p39 : 0 ≤ x39_3.toInt := by omega
      refine Od_comesToEnd_c W39 T14 ρ n9 P9 ?_ (fun r15 q17 => ?_)
      · exact ⟨X3, ⟨by omega, by omega⟩, by omega, by rw [n3.2]; omega⟩  -- p13
      intro W18
      intro M19
      have ce9 := ce3 x21_2.toNatClampNeg x39_3 hk9
      have q14 := Iff.trans q17.2 ce9
      refine ⟨fun c20 => ?_, fun c20 => ?_⟩
      · skip
        intro x21 hx21
        refine ⟨_, ?_, rfl, ?_⟩
        · have e21 : x21.toInt = x39_3.toInt - 1 := by rw [hx21]; exact dm1_9 p39
          rw [hn39]; omega
        · have e21 : x21.toInt = x39_3.toInt - 1 := by rw [hx21]; exact dm1_9 p39
          refine ⟨rfl, rfl, ⟨Z3, R3, N3, I3⟩, ⟨rfl, by omega, by omega⟩, fun c hc => ?_, fun x hx hb => ?_⟩
          · rcases D3.1 c hc with y | y
            · exact Or.inl y
            · exact Or.inr ⟨y.1, by omega⟩
          · by_cases z : x.toInt = x39_3.toInt
            · exfalso
              have ex := Int32.toInt_inj.mp z
              obtain ⟨k, h1, h2, h3, h4⟩ := hx
              have ek := fu_9 A0 h1 hk9 h2 h3 (by omega) (by omega)
              rw [ek, ex] at h4
              exact absurd c20 (q14.mpr h4)
            · exact D3.2 x hx (by omega)
      · skip
        have ce := q14.mp c20
        have s1 : zA κ (zR κ atSorts (zR κ odAtlas a0)) x39_3.toNatClampNeg = 1 := ce.1
        have nb3 := (nx x39_3.toNatClampNeg (by omega) (by omega)).2.1 s1
        have ke := cnk nb3.1
        have eM := eh.2.1.2
        have ec : zR κ39 odCellOf a0 = zR κ odCellOf a0 := by rw [R3]
        have eh9 : zR κ39 odHeads a0 = zR κ odHeads a0 := by rw [R3]
        have el9 : zR κ39 odLinks a0 = zR κ odLinks a0 := by rw [R3]
        have wc := Z3.row W (f := odCellOf) (t := 20) (by decide +kernel) (by decide) Ta0 (fun z => absurd z.2 (by decide))
        rw [R3] at wc
        have cl := cc x21_2.toNatClampNeg x39_3 hk9 (by omega) (by omega) ce
        have kc := cnk cl.1
        have lkn : lkN9 κ a0 n9 x39_3 := ⟨x21_2.toNatClampNeg, hk9, by omega, by omega, ce⟩
        refine ⟨?_, ?_⟩
        · rw [inb_iff, n3.2]; omega  -- b16
        refine ⟨?_, ?_⟩
        · rw [n3.1, inb_iff, ec, N3, L0.2.2.2.2.1]; omega  -- b17
        intro x22 hx22
        rw [n3.1, ec, wc.1] at hx22
        rw [← hx22] at cl kc
        refine ⟨?_, ?_⟩
        · rw [inb_iff, eh9, N3, lh]; omega  -- b18
        refine ⟨?_, ?_⟩
        · rw [inb_iff, el9, N3]; omega  -- b19
        intro κ_23 hκ_23
        intro W24
        rw [el9, eh9] at hκ_23
        have r23 : zR κ_23 = zR κ := by rw [hκ_23]; exact R3
        have n23 : zN κ_23 = zN κ := by rw [hκ_23]; exact N3
        refine ⟨?_, ?_⟩
        · rw [inb_iff, r23, n23, lh]; omega  -- b20
        intro κ_25 hκ_25
        intro W26
        intro x27 hx27
        rw [r23] at hκ_25
        have xh : zA κ_25 (zR κ odHeads a0) = upd (zA κ39 (zR κ odHeads a0)) x22.toNatClampNeg x39_3 := by
          rw [hκ_25]
          refine (if_pos rfl).trans ?_
          have q : zA κ_23 (zR κ odHeads a0) = zA κ39 (zR κ odHeads a0) := by
            rw [hκ_23]
            exact if_neg nhl
          show upd (zA κ_23 (zR κ odHeads a0)) _ _ = _
          rw [q]
        have xl : zA κ_25 (zR κ odLinks a0) = upd (zA κ39 (zR κ odLinks a0)) x39_3.toNatClampNeg (zA κ39 (zR κ odHeads a0) x22.toNatClampNeg) := by
          rw [hκ_25]
          refine (if_neg (Ne.symm nhl)).trans ?_
          rw [hκ_23]
          exact if_pos rfl
        have oh := W39.o (show zr odHeads = some 20 by decide +kernel) (by decide) T39_0
        have ol := W39.o (show zr odLinks = some 20 by decide +kernel) (by decide) T39_0
        rw [eh9] at oh
        rw [el9] at ol
        have Z23 : zF (hlF9 a0) κ κ_23 := Z3.tr (by rw [hκ_23]; exact zF_ua (by rw [ol]; exact ⟨rfl, Or.inr rfl⟩))
        have o23 : zO κ_23 = zO κ39 := by rw [hκ_23]; rfl
        have Z25 : zF (hlF9 a0) κ κ_25 := Z23.tr (by rw [hκ_25]; exact zF_ua (by rw [o23, oh]; exact ⟨rfl, Or.inl rfl⟩))
        refine ⟨_, ?_, rfl, ?_⟩
        · have e27 : x27.toInt = x39_3.toInt - 1 := by rw [hx27]; exact dm1_9 p39
          rw [hn39]; omega
        · have e27 : x27.toInt = x39_3.toInt - 1 := by rw [hx27]; exact dm1_9 p39
          refine ⟨rfl, rfl, ⟨Z25, by rw [hκ_25]; exact r23, by rw [hκ_25]; exact n23, by rw [hκ_25, hκ_23]; exact I3⟩, ⟨rfl, by omega, by omega⟩, fun c hc => ?_, fun x hx hb => ?_⟩
          · rw [xh]
            unfold upd
            by_cases z : c = x22.toNatClampNeg
            · rw [if_pos z]
              exact Or.inr ⟨lkn, by omega⟩
            · rw [if_neg z]
              rcases D3.1 c hc with y | y
              · exact Or.inl y
              · exact Or.inr ⟨y.1, by omega⟩
          · have x0 : 0 ≤ x.toInt := by
              obtain ⟨k, h1, h2, _⟩ := id hx
              have f9 := (A0.2.2.2.2.2 k h1).1.1
              omega
            have kx := cnk x0
            rw [xl]
            unfold upd
            by_cases z : x.toInt = x39_3.toInt
            · have ex := Int32.toInt_inj.mp z
              rw [ex, if_pos rfl]
              rcases D3.1 x22.toNatClampNeg (by omega) with y | y
              · exact Or.inl y
              · exact Or.inr ⟨y.1, by omega⟩
            · rw [if_neg (by omega)]
              exact D3.2 x hx (by omega)

end
section
set_option maxHeartbeats 1600000
/-! the class: Odds' makeRows -/
def odU9 (κ : zS) (a : Nat) : Prop := (zN κ (zR κ odLefts a)) = 0 ∧ (zN κ (zR κ odRights a)) ≤ 1 ∧ (zN κ (zR κ odBases a)) ≤ 1 ∧ (zN κ (zR κ odRanks a)) ≤ 1 ∧ (zN κ (zR κ odCellOf a)) ≤ 1 ∧ (zN κ (zR κ odHeads a)) ≤ 1 ∧ (zN κ (zR κ odEdges a)) = 0
theorem nE_z9 {C : zC} {n0 o : Nat} {F : Nat → Nat → Prop} {κ τ : zS} (W : zW C n0 κ) (Ta : zT κ o = 9) (Z : zF F κ τ) (he : ¬ F odEdges o) : nn9 τ (zR τ odEdges o) = nn9 κ (zR κ odEdges o) :=
  nn_s9 (τ := τ) (κ := κ) (y := zR τ odEdges o) (x := zR κ odEdges o) (by rw [Z.r he]; exact Z.l (c := 23) (ty_odEdges W Ta)) (Z.row W (f := odEdges) (t := 24) (by decide +kernel) (by decide) Ta he).2.2
/-- edges are kept, or made where none were -/
def eO9 (κ τ : zS) (a : Nat) : Prop := (∀ j u, zQ τ (zR τ odEdges a) j = some u → zQ κ (zR κ odEdges a) j = some u) ∧ nn9 κ (zR κ odEdges a) ≤ nn9 τ (zR τ odEdges a)
theorem eO_z9 {C : zC} {n0 a : Nat} {F : Nat → Nat → Prop} {κ τ σ : zS} (W : zW C n0 τ) (T : zT τ a = 9) (Z : zF F τ σ) (n : ¬ F odEdges a) (h : eO9 κ τ a) : eO9 κ σ a := by
  have q := (Z.row W (f := odEdges) (t := 24) (by decide +kernel) (by decide) T n).2.2
  exact ⟨fun j u z => h.1 j u (by rw [← q]; exact z), by rw [nE_z9 W T Z n]; exact h.2⟩
def mrF9 (a : Nat) : Nat → Nat → Prop := fun f b => b = a ∧ 906 ≤ f ∧ f < 914
theorem wS_ln9 {n o : Nat} (h0 : o < 20000) (h : n = 20000 ∨ 2 * o + 2 ≤ n) : n + wS 912 o ≤ wS 912 n ∧ 4 + wC 912 o ≤ wC 912 n := by
  have c : cap9 912 = 20000 := by decide
  have w1 : ∀ m, wS 912 m = 2 * m + (if m = 20000 then m else 0) := fun m => by
    unfold wS
    rw [if_neg (show ¬ (912 : Nat) = 0 by decide), if_neg (show ¬ (912 : Nat) = 605 by decide), if_neg (show ¬ (912 : Nat) = 800 by decide), c]
  have w2 : ∀ m, wC 912 m = 2 * m + (if m = 20000 then 8 else 0) := fun m => by
    unfold wC
    rw [if_neg (show ¬ (912 : Nat) = 0 by decide), if_neg (show ¬ (912 : Nat) = 605 by decide), if_neg (show ¬ (912 : Nat) = 800 by decide), c]
  rw [w1, w1, w2, w2, if_neg (show ¬ o = 20000 by omega), if_neg (show ¬ o = 20000 by omega)]
  by_cases z : n = 20000
  · rw [if_pos z, if_pos z]; omega
  · rw [if_neg z, if_neg z]; omega
theorem Od_makeRows_c {C : zC} {n0 : Nat} {a0 : Nat} {κ : zS} {Q : zS → Prop} (W : zW C n0 κ) (Ta0 : zT κ a0 = 9)  (hp : (odU9 κ a0 ∨ tbL9 κ a0) ∧ (zN κ (zR κ odLinks a0)) ≤ 20000 ∧ (0 ≤ (zI κ atNexts (zR κ odAtlas a0)).toInt ∧ (zI κ atNexts (zR κ odAtlas a0)).toInt ≤ 20000)) (h : ∀ (κ' : zS), (zF (mrF9 a0) κ κ' ∧ tbL9 κ' a0 ∧ ((zI κ atNexts (zR κ odAtlas a0)).toInt ≤ (zN κ' (zR κ' odLinks a0)) ∧ (zN κ' (zR κ' odLinks a0)) ≤ 20000) ∧ eO9 κ κ' a0) → Q κ') : zRun C 1 mOd_makeRows [.ref a0] κ (oV Q noX) := by
  refine Od_makeRows_run W Ta0 ?_
  replace W := W.lo (Nat.le_trans W.1.2.1 W.1.2.2) (Nat.le_refl (zn κ))
  unfold w_Od_makeRows_0
  obtain ⟨U0, l20, n0', n20⟩ := hp
  have tl := ty_odLinks W Ta0
  have tA := ty_odAtlas W Ta0
  have hj71 : ∀ (l0 : Nat) (τ : zS), zW C (zn κ) τ → zT τ l0 = 9 → (a0 = l0 ∧ zF (mrF9 a0) κ τ ∧ tbL9 τ a0 ∧ (zR τ odLinks a0 = zR κ odLinks a0 ∧ zR τ odAtlas a0 = (zR κ odAtlas a0) ∧ zI τ = zI κ) ∧ eO9 κ τ a0) → w_Od_makeRows_71 C (zn κ) Q  l0 τ := by
    rintro _ τ71 W71 T71_0 ⟨rfl, j71⟩
    unfold w_Od_makeRows_71
    obtain ⟨Z1, L1, ⟨e1, e2, e3⟩, E1⟩ := j71
    have nl : zN τ71 (zR τ71 odLinks a0) = zN κ (zR κ odLinks a0) := by rw [e1]; exact Z1.l tl
    refine ⟨fun c1 => ?_, fun c1 => ?_⟩
    · skip
      refine h _ ?_
      · rw [lei, e2, e3, nl, ofn_i (by omega)] at c1
        exact ⟨Z1, L1, ⟨by rw [nl]; exact c1, by rw [nl]; exact l20⟩, E1⟩
    · skip
      rw [lei, e2, e3, nl, ofn_i (by omega)] at c1
      obtain ⟨nn, hnn⟩ : ∃ nn, nn = (if (20000 : Int32) < 2 * zI τ71 atNexts (zR τ71 odAtlas a0) then (20000 : Int32) else 2 * zI τ71 atNexts (zR τ71 odAtlas a0)) := ⟨_, rfl⟩
      rw [← hnn]
      rw [e2, e3] at hnn
      have t20 : (20000 : Int32).toInt = 20000 := rfl
      have em : ((2 : Int32) * zI κ atNexts (zR κ odAtlas a0)).toInt = 2 * (zI κ atNexts (zR κ odAtlas a0)).toInt := by
        rw [mul_i (by rw [t2i]; omega) (by rw [t2i]; omega), t2i]
      have nt : (zI κ atNexts (zR κ odAtlas a0)).toInt ≤ nn.toInt ∧ nn.toInt ≤ 20000 ∧ (nn.toInt = 20000 ∨ nn.toInt = 2 * (zI κ atNexts (zR κ odAtlas a0)).toInt) := by
        rw [hnn]
        by_cases z : (20000 : Int32) < 2 * zI κ atNexts (zR κ odAtlas a0)
        · rw [if_pos z, t20]; exact ⟨n20, Int.le_refl _, Or.inl rfl⟩
        · rw [if_neg z, em]
          rw [lti, t20, em] at z
          exact ⟨by omega, by omega, Or.inr rfl⟩
      have kn := cnk (x := nn) (by omega)
      refine ⟨?_, ?_⟩
      · exact ⟨by rw [lei, t0i]; omega, by omega⟩  -- b2
      intro κ_2 hκ_2
      intro W3
      refine ⟨?_, ?_⟩
      · rw [hκ_2]; exact if_pos rfl  -- b3
      intro κ_4 hκ_4
      intro W5
      refine h _ ?_
      · have w := wS_ln9 (n := nn.toNatClampNeg) (o := zN κ (zR κ odLinks a0)) (by omega) (by omega)
        have G := we_gr (f := odLinks) (c := a0) W71 (show zr odLinks = some 20 by decide +kernel) (by decide) T71_0 hκ_2 hκ_4 (by rw [nl]; exact w.1) (by rw [nl]; exact w.2)
        obtain ⟨Zg, Ig, Rg, rg, ng, og⟩ := G
        have rr : ∀ f, f ≠ odLinks → zR κ_4 f a0 = zR τ71 f a0 := fun f hf => Rg f a0 (fun z => hf z.1)
        have ll : zN κ_4 (zR κ_4 odLinks a0) = nn.toNatClampNeg := by rw [rg]; exact ng
        refine ⟨Z1.tr (Zg.mono (fun f b z => ⟨z.2, by rw [z.1]; decide⟩)), ?_, ⟨by rw [ll]; omega, by rw [ll]; omega⟩, eO_z9 W71 T71_0 Zg (fun z => absurd z.1 (by decide)) E1⟩
        unfold tbL9
        rw [rr odLefts (by decide), rr odRights (by decide), rr odBases (by decide), rr odRanks (by decide), rr odCellOf (by decide), rr odHeads (by decide), rr odEdges (by decide)]
        rw [Zg.l (ty_odLefts W71 T71_0), Zg.l (ty_odRights W71 T71_0), Zg.l (ty_odBases W71 T71_0), Zg.l (ty_odRanks W71 T71_0), Zg.l (ty_odCellOf W71 T71_0), Zg.l (ty_odHeads W71 T71_0), Zg.l (ty_odEdges W71 T71_0)]
        exact L1
  refine ⟨fun c6 => ?_, fun c6 => ?_⟩
  · skip
    refine hj71 _ _ W ?_ ?_
    · exact Ta0  -- t5
    · refine ⟨rfl, zF.rf, ?_, ⟨rfl, rfl, rfl⟩, fun _ _ h => h, Nat.le_refl _⟩
      rcases U0 with y | y
      · exact absurd (by rw [y.1]; rfl) c6
      · exact y
  · skip
    have U : odU9 κ a0 := by
      rcases U0 with y | y
      · exact y
      · rw [y.1] at c6
        exact absurd c6 (by decide)
    obtain ⟨L0, L1, L2, L3, L4, L5, L6⟩ := U
    replace L0 : zN κ (zR κ odLefts a0) ≤ 1 := by omega
    have L7 : zN κ (zR κ odEdges a0) = 0 := L6
    replace L6 : zN κ (zR κ odEdges a0) ≤ 1 := by omega
    refine ⟨?_, ?_⟩
    · exact ⟨by decide, by decide⟩  -- b7
    intro κ_7 hκ_7
    intro W8
    refine ⟨?_, ?_⟩
    · rw [hκ_7]; exact if_pos rfl  -- b8
    intro κ_9 hκ_9
    intro W10
    have J0 := mkJ_s (f := odLefts) (t := 20) (n := 3000) W W Ta0 (mkJ.rf) (show zr odLefts = some 20 by decide +kernel) (by decide) rfl (by decide) (by decide) L0 (by decide) hκ_7 hκ_9 W10
    refine ⟨?_, ?_⟩
    · exact ⟨by decide, by decide⟩  -- b9
    intro κ_11 hκ_11
    intro W12
    refine ⟨?_, ?_⟩
    · rw [hκ_11]; exact if_pos rfl  -- b10
    intro κ_13 hκ_13
    intro W14
    have J1 := mkJ_s (f := odRights) (t := 20) (n := 3000) W W10 Ta0 (J0) (show zr odRights = some 20 by decide +kernel) (by decide) rfl (by decide) (by decide) L1 (by decide) hκ_11 hκ_13 W14
    refine ⟨?_, ?_⟩
    · exact ⟨by decide, by decide⟩  -- b11
    intro κ_15 hκ_15
    intro W16
    refine ⟨?_, ?_⟩
    · rw [hκ_15]; exact if_pos rfl  -- b12
    intro κ_17 hκ_17
    intro W18
    have J2 := mkJ_s (f := odBases) (t := 20) (n := 3000) W W14 Ta0 (J1) (show zr odBases = some 20 by decide +kernel) (by decide) rfl (by decide) (by decide) L2 (by decide) hκ_15 hκ_17 W18
    refine ⟨?_, ?_⟩
    · exact ⟨by decide, by decide⟩  -- b13
    intro κ_19 hκ_19
    intro W20
    refine ⟨?_, ?_⟩
    · rw [hκ_19]; exact if_pos rfl  -- b14
    intro κ_21 hκ_21
    intro W22
    have J3 := mkJ_s (f := odRanks) (t := 20) (n := 3000) W W18 Ta0 (J2) (show zr odRanks = some 20 by decide +kernel) (by decide) rfl (by decide) (by decide) L3 (by decide) hκ_19 hκ_21 W22
    refine ⟨?_, ?_⟩
    · exact ⟨by decide, by decide⟩  -- b15
    intro κ_23 hκ_23
    intro W24
    refine ⟨?_, ?_⟩
    · rw [hκ_23]; exact if_pos rfl  -- b16
    intro κ_25 hκ_25
    intro W26
    have J4 := mkJ_s (f := odCellOf) (t := 20) (n := 1000) W W22 Ta0 (J3) (show zr odCellOf = some 20 by decide +kernel) (by decide) rfl (by decide) (by decide) L4 (by decide) hκ_23 hκ_25 W26
    refine ⟨?_, ?_⟩
    · exact ⟨by decide, by decide⟩  -- b17
    intro κ_27 hκ_27
    intro W28
    refine ⟨?_, ?_⟩
    · rw [hκ_27]; exact if_pos rfl  -- b18
    intro κ_29 hκ_29
    intro W30
    have J5 := mkJ_s (f := odHeads) (t := 20) (n := 1000) W W26 Ta0 (J4) (show zr odHeads = some 20 by decide +kernel) (by decide) rfl (by decide) (by decide) L5 (by decide) hκ_27 hκ_29 W30
    refine ⟨?_, ?_⟩
    · exact ⟨by decide, by decide⟩  -- b19
    intro κ_31 hκ_31
    intro W32
    refine ⟨?_, ?_⟩
    · rw [hκ_31]; exact if_pos rfl  -- b20
    intro κ_33 hκ_33
    intro W34
    have J6 := mkJ_s (f := odEdges) (t := 24) (n := 31) W W30 Ta0 (J5) (show zr odEdges = some 24 by decide +kernel) (by decide) rfl (by decide) (by decide) L6 (by decide) hκ_31 hκ_33 W34
    refine hj71 _ _ W34 ?_ ?_
    · exact J6.1.t Ta0 (by decide)  -- t21
    · have q := J6.2.2.2.2
      have re : zR κ_33 odEdges a0 = zn κ_29 := by rw [hκ_33]; exact if_pos ⟨rfl, rfl⟩
      have rq : zQ κ_33 (zn κ_29) = fun _ => none := by
        rw [hκ_33]
        show zQ κ_31 (zn κ_29) = _
        rw [hκ_31]
        exact if_pos rfl
      refine ⟨rfl, J6.1.mono (fun f b z => ⟨z.1, ?_⟩), ⟨(q (odLefts, 3000) (by decide)).1, (q (odRights, 3000) (by decide)).1, (q (odBases, 3000) (by decide)).1, (q (odRanks, 3000) (by decide)).1, (q (odCellOf, 1000) (by decide)).1, (q (odHeads, 1000) (by decide)).1, (q (odEdges, 31) (by decide)).1⟩, ⟨J6.2.2.1 odLinks a0 (fun z => absurd z.2 (by decide)), J6.2.2.1 odAtlas a0 (fun z => absurd z.2 (by decide)), J6.2.1⟩, fun j u h => ?_, by unfold nn9; rw [L7]; exact Nat.zero_le _⟩
      · have y := z.2
        have m : ∀ g, g ∈ [odEdges, odHeads, odCellOf, odRanks, odBases, odRights, odLefts] → 906 ≤ g ∧ g < 914 := by decide
        exact m f y
      · rw [re, rq] at h
        cases h

end
section
set_option maxHeartbeats 1600000
/-! the class: Odds' arrange -/
def tbJ9 (β τ : zS) (a : Nat) : Prop := zF (tbF9 a (zR β odGroups a)) β τ ∧ (∀ f, f / 100 = 9 → zR τ f a = zR β f a) ∧ grI9 τ a
theorem tbF9_t {m a g : Nat} : frT9 m a g (tbF9 a g) := fun f b z => by
  rcases z with ⟨y, z | z | z | z⟩ | ⟨y, z | z | z | z⟩
  · rw [z]; exact Or.inr (Or.inl ⟨y, by decide⟩)
  · rw [z]; exact Or.inr (Or.inl ⟨y, by decide⟩)
  · rw [z]; exact Or.inr (Or.inl ⟨y, by decide⟩)
  · rw [z]; exact Or.inr (Or.inl ⟨y, by decide⟩)
  · rw [z]; exact Or.inr (Or.inr ⟨y, by decide⟩)
  · rw [z]; exact Or.inr (Or.inr ⟨y, by decide⟩)
  · rw [z]; exact Or.inr (Or.inr ⟨y, by decide⟩)
  · rw [z]; exact Or.inr (Or.inr ⟨y, by decide⟩)
/-- frames of whole arrangements -/
def arF9 (a g : Nat) : Nat → Nat → Prop := fun f b => (b = a ∧ 905 ≤ f ∧ f < 913) ∨ hoF g f b
def arO9 (a g : Nat) : Nat → Nat → Prop := fun f b => (b = a ∧ 905 ≤ f ∧ f < 914) ∨ hoF g f b
theorem arF9_t {m a g : Nat} : frT9 m a g (arF9 a g) := fun f b z => by
  rcases z with z | ⟨y, z | z | z | z⟩
  · exact Or.inr (Or.inl ⟨z.1, z.2.1, by omega⟩)
  · rw [z]; exact Or.inr (Or.inr ⟨y, by decide⟩)
  · rw [z]; exact Or.inr (Or.inr ⟨y, by decide⟩)
  · rw [z]; exact Or.inr (Or.inr ⟨y, by decide⟩)
  · rw [z]; exact Or.inr (Or.inr ⟨y, by decide⟩)
theorem arO9_t {m a g : Nat} : frT9 m a g (arO9 a g) := fun f b z => by
  rcases z with z | ⟨y, z | z | z | z⟩
  · exact Or.inr (Or.inl z)
  · rw [z]; exact Or.inr (Or.inr ⟨y, by decide⟩)
  · rw [z]; exact Or.inr (Or.inr ⟨y, by decide⟩)
  · rw [z]; exact Or.inr (Or.inr ⟨y, by decide⟩)
  · rw [z]; exact Or.inr (Or.inr ⟨y, by decide⟩)
theorem arO9_m {a g f b : Nat} (z : arF9 a g f b) : arO9 a g f b := by
  rcases z with z | z
  · exact Or.inl ⟨z.1, z.2.1, by omega⟩
  · exact Or.inr z
theorem tbF9_a {a g f b : Nat} (z : tbF9 a g f b) : arF9 a g f b := by
  rcases z with ⟨y, z⟩ | z
  · exact Or.inl ⟨y, by rcases z with z | z | z | z <;> rw [z] <;> decide⟩
  · exact Or.inr z
theorem tbJ9_s {a : Nat} {β τ τ' : zS} (J : tbJ9 β τ a) (S : tbS9 τ τ' a) : tbJ9 β τ' a := by
  obtain ⟨j1, j2, j3⟩ := J
  obtain ⟨s1, s2, s3, _⟩ := S
  rw [j2 odGroups (by decide)] at s1
  exact ⟨j1.tr s1, fun f hf => (s2 f hf).trans (j2 f hf), s3⟩
/-- what is read on the way -/
theorem tb_c9 {C : zC} {n0 a n P : Nat} {ρ : Nat → Nat} {F : Nat → Nat → Prop} {β τ : zS} (W : zW C n0 β) (Ta : zT β a = 9) (X : odX9 ρ β a n P) (hg : zR β atStates (zR β odAtlas a) ≠ zR β odGroups a ∧ zR β atEndings (zR β odAtlas a) ≠ zR β odGroups a) (H : frT9 (zn β) a (zR β odGroups a) F) (Z : zF F β τ) (e : ∀ f, f / 100 = 9 → zR τ f a = zR β f a) : odX9 ρ τ a n P ∧ hoI τ (zR τ atEndings (zR τ odAtlas a)) 1000 35 2048 ∧ pV9 τ (zR τ atEndings (zR τ odAtlas a)) = pV9 β (zR β atEndings (zR β odAtlas a)) ∧ zI τ hoTotal (zR τ atEndings (zR τ odAtlas a)) = zI β hoTotal (zR β atEndings (zR β odAtlas a)) ∧ zT τ a = 9 ∧ (tbL9 β a → tbL9 τ a) ∧ (∀ k i, k < n → (cE9 τ a k i ↔ cE9 β a k i)) ∧ (zR τ atStates (zR τ odAtlas a) ≠ zR τ odGroups a ∧ zR τ atEndings (zR τ odAtlas a) ≠ zR τ odGroups a) := by
  have Tg := ty_odGroups W Ta
  have tA := ty_odAtlas W Ta
  have te := ty_atEndings W tA
  obtain ⟨X1, c1, e1, g1, r1, r2⟩ := od_t9 W Ta Tg H Z hg.1 hg.2 X
  have h := ho_o9 (M := 1000) (D := 35) (S := 2048) W (frT9_o H) Z te hg.2
  have eA := e odAtlas (by decide)
  have er : zR τ atEndings (zR τ odAtlas a) = zR β atEndings (zR β odAtlas a) := by rw [eA]; exact r2
  refine ⟨X1, by rw [er]; exact h.1 X.2.2.2.2.2, by rw [er]; exact h.2.1, by rw [er]; exact h.2.2, Z.t Ta (by decide), fun L => ?_, c1, by rw [eA, r1, e odGroups (by decide)]; exact hg.1, by rw [er, e odGroups (by decide)]; exact hg.2⟩
  unfold tbL9
  rw [e odLefts (by decide), e odRights (by decide), e odBases (by decide), e odRanks (by decide), e odCellOf (by decide), e odHeads (by decide), e odEdges (by decide)]
  rw [Z.l (ty_odLefts W Ta), Z.l (ty_odRights W Ta), Z.l (ty_odBases W Ta), Z.l (ty_odRanks W Ta), Z.l (ty_odCellOf W Ta), Z.l (ty_odHeads W Ta), Z.l (ty_odEdges W Ta)]
  exact L
/-- an ending's groups are there -/
def pr9 (β τ : zS) (a : Nat) (i j t e : Int32) : Prop := ∃ T : Int32, 0 ≤ T.toInt ∧ hkS9 τ (zR β odGroups a) 8192 (tK9 β a e t) 3 T.toNatClampNeg ∧ (∃ L : Nat, hkS9 τ (zR β odGroups a) 8192 (k39 1 T (pV9 β (zR β atEndings (zR β odAtlas a)) e i)) 3 L) ∧ ∃ R : Nat, hkS9 τ (zR β odGroups a) 8192 (k39 2 T (pV9 β (zR β atEndings (zR β odAtlas a)) e j)) 3 R
theorem pr9_m {β τ τ' : zS} {a : Nat} {i j t e : Int32} (p : ∀ K L x, hkS9 τ (zR β odGroups a) 8192 K L x → hkS9 τ' (zR β odGroups a) 8192 K L x) (h : pr9 β τ a i j t e) : pr9 β τ' a i j t e := by
  obtain ⟨T, t0, h1, ⟨L, h2⟩, R, h3⟩ := h
  exact ⟨T, t0, p _ _ _ h1, ⟨L, p _ _ _ h2⟩, R, p _ _ _ h3⟩
/-- nothing new in the tables -/
theorem tb_k9 {C : zC} {n0 a : Nat} {τ τ' : zS} (W : zW C n0 τ) (Ta : zT τ a = 9) (S : tbS9 τ τ' a) (N : tbN9 τ τ' a) : (∀ ml mr, gI9 τ a ml mr → gI9 τ' a ml mr) ∧ (∀ c, plC9 τ τ a ((zI τ hoTotal (zR τ odGroups a)).toInt) c → plC9 τ' τ' a ((zI τ' hoTotal (zR τ' odGroups a)).toInt) c) ∧ (∀ f, f = odLefts ∨ f = odRights ∨ f = odRanks ∨ f = odBases ∨ f = odCellOf → zA τ' (zR τ' f a) = zA τ (zR τ f a)) ∧ (zI τ' hoTotal (zR τ' odGroups a)).toInt = (zI τ hoTotal (zR τ odGroups a)).toInt := by
  obtain ⟨s1, s2, s3, s4, s5, s6⟩ := S
  obtain ⟨n1, n2, n3, n4⟩ := N
  have eg := s2 odGroups (by decide)
  have w : ∀ f, zr f = some 20 → f / 100 = 9 → f = odBases ∨ f = odCellOf → zA τ' (zR τ' f a) = zA τ (zR τ f a) := fun f h1 h2 h3 => (s1.row W h1 (by decide) (Ta.trans h2.symm) (fun z => by
    have Tg := ty_odGroups W Ta
    rcases z with ⟨_, z⟩ | z
    · rcases h3 with y | y <;> rw [y] at z <;> exact absurd z (by decide)
    · rw [← z.1, Ta] at Tg
      exact absurd Tg (by decide))).1
  have rows : ∀ f, f = odLefts ∨ f = odRights ∨ f = odRanks ∨ f = odBases ∨ f = odCellOf → zA τ' (zR τ' f a) = zA τ (zR τ f a) := fun f hf => by
    rcases hf with h | h | h | h | h
    · rw [h, s2 odLefts (by decide)]; exact n2
    · rw [h, s2 odRights (by decide)]; exact n3
    · rw [h, s2 odRanks (by decide)]; exact n4
    · rw [h]; exact w odBases (by decide +kernel) (by decide) (Or.inl rfl)
    · rw [h]; exact w odCellOf (by decide +kernel) (by decide) (Or.inr rfl)
  refine ⟨fun ml mr I => ?_, fun c D x x0 x1 xt => ?_, rows, by rw [eg]; exact n1⟩
  · unfold gI9
    rw [rows odLefts (Or.inl rfl), rows odRights (Or.inr (Or.inl rfl)), rows odRanks (Or.inr (Or.inr (Or.inl rfl))), eg, n1]
    exact gp_e9 I (fun x hx => s6 x 0 hx) (fun x hx => s6 x 1 hx)
  · rw [eg, n1] at x1
    rw [eg, s6 x 0 x1] at xt
    rw [rows odLefts (Or.inl rfl), rows odRights (Or.inr (Or.inl rfl)), rows odBases (Or.inr (Or.inr (Or.inr (Or.inl rfl))))]
    exact D x x0 x1 xt
theorem lm_9 {l r x y : Int} (x0 : 0 ≤ x) (x1 : x < l) (y0 : 0 ≤ y) (y1 : y < r) (l1 : l ≤ 1000) (r1 : r ≤ 1000) : 0 ≤ x * r + y ∧ x * r + y < l * r ∧ 0 ≤ x * r ∧ x * r ≤ 1000000 ∧ l * r ≤ 1000000 := by
  have a : x * r ≤ (l - 1) * r := Int.mul_le_mul_of_nonneg_right (by omega) (by omega)
  have b : (l - 1) * r = l * r - r := by rw [Int.sub_mul, Int.one_mul]
  have c : 0 ≤ x * r := Int.mul_nonneg x0 (by omega)
  have d : l * r ≤ 1000 * 1000 := Int.mul_le_mul l1 r1 (by omega) (by decide)
  exact ⟨by omega, by omega, c, by omega, by omega⟩
theorem lf_9 {x y z w : Int32} {l r : Int} (hr : z.toInt = r) (x0 : 0 ≤ x.toInt) (x1 : x.toInt < l) (y0 : 0 ≤ y.toInt) (y1 : y.toInt < r) (l1 : l ≤ 1000) (r1 : r ≤ 1000) (w0 : 0 ≤ w.toInt) (w1 : w.toInt + l * r ≤ 1000) : (w + (x * z + y)).toInt = w.toInt + (x.toInt * r + y.toInt) ∧ 0 ≤ (w + (x * z + y)).toInt ∧ (w + (x * z + y)).toInt < w.toInt + l * r := by
  have m := lm_9 x0 x1 y0 y1 l1 r1
  have e1 : (x * z).toInt = x.toInt * r := by rw [mul_i (by rw [hr]; omega) (by rw [hr]; omega), hr]
  have e2 : (x * z + y).toInt = x.toInt * r + y.toInt := by rw [add_i (by rw [e1]; omega) (by rw [e1]; omega), e1]
  have e3 : (w + (x * z + y)).toInt = w.toInt + (x.toInt * r + y.toInt) := by rw [add_i (by rw [e2]; omega) (by rw [e2]; omega), e2]
  exact ⟨e3, by omega, by omega⟩
/-- tables ready to be held against each other -/
def agP9 (κ : zS) (a n : Nat) : Prop := (grI9 κ a ∧ tbL9 κ a ∧ gI9 κ a 1000 1000) ∧ (zI κ atNexts (zR κ odAtlas a)).toInt ≤ (zN κ (zR κ odLinks a)) ∧ lkB9 κ κ a n 0 ∧ ∃ c : Int, c ≤ 1000 ∧ plC9 κ κ a ((zI κ hoTotal (zR κ odGroups a)).toInt) c
/-- cells on the way -/
def ceL9 (β τ : zS) (a : Nat) (m c : Int) : Prop := ∀ e : Nat, e < 1000 → (zA τ (zR β odCellOf a) e = -1 ↔ zA β (zR β odCellOf a) e = -1) ∧ ((e : Int) < m → zA τ (zR β odCellOf a) e ≠ -1 → 0 ≤ (zA τ (zR β odCellOf a) e).toInt ∧ (zA τ (zR β odCellOf a) e).toInt < c)
/-- on the way through the endings, the second time -/
def arJ9 (β τ : zS) (a : Nat) (i j t : Int32) (m c : Int) : Prop := (zF (arF9 a (zR β odGroups a)) β τ ∧ (∀ f, f / 100 = 9 → zR τ f a = zR β f a) ∧ grI9 τ a) ∧ (gI9 τ a 1000 1000 ∧ plC9 τ τ a ((zI τ hoTotal (zR τ odGroups a)).toInt) c) ∧ (∀ e : Int32, 0 ≤ e.toInt → e.toInt < (zI β hoTotal (zR β atEndings (zR β odAtlas a))).toInt → zA β (zR β odCellOf a) e.toNatClampNeg ≠ -1 → pr9 β τ a i j t e) ∧ ceL9 β τ a m c
theorem arJ_s9 {C : zC} {n0 a : Nat} {β τ τ' : zS} {i j t : Int32} {m c : Int} (W : zW C n0 τ) (Ta : zT τ a = 9) (J : arJ9 β τ a i j t m c) (S : tbS9 τ τ' a) (N : tbN9 τ τ' a) : arJ9 β τ' a i j t m c := by
  obtain ⟨⟨Z, e, G⟩, ⟨I, D⟩, p, ce⟩ := J
  have K := tb_k9 W Ta S N
  have eg := e odGroups (by decide)
  have s1 := S.1
  rw [eg] at s1
  refine ⟨⟨Z.tr (s1.mono (fun f b z => tbF9_a z)), fun f hf => (S.2.1 f hf).trans (e f hf), S.2.2.1⟩, ⟨K.1 _ _ I, K.2.1 _ D⟩, fun x x0 x1 xm => pr9_m (fun K' L y H => ?_) (p x x0 x1 xm), fun x hx => ?_⟩
  · rw [← eg] at H ⊢
    exact S.2.2.2.2.1 K' L y H
  · have q := K.2.2.1 odCellOf (Or.inr (Or.inr (Or.inr (Or.inr rfl))))
    rw [S.2.1 odCellOf (by decide), e odCellOf (by decide)] at q
    rw [q]
    exact ce x hx
/-- an ending gets its cell -/
theorem arJ_u9 {C : zC} {n0 a : Nat} {β τ τ' : zS} {i j t e v : Int32} {c : Int} (W : zW C n0 τ) (Ta : zT τ a = 9) (J : arJ9 β τ a i j t e.toInt c) (h : τ' = ua τ (zR τ odCellOf a) e.toNatClampNeg v) (e0 : 0 ≤ e.toInt) (mk : zA β (zR β odCellOf a) e.toNatClampNeg ≠ -1) (v0 : 0 ≤ v.toInt) (v1 : v.toInt < c) : arJ9 β τ' a i j t (e.toInt + 1) c := by
  obtain ⟨⟨Z, er, G⟩, ⟨I, D⟩, p, ce⟩ := J
  have o := W.o (show zr odCellOf = some 20 by decide +kernel) (by decide) Ta
  have Z1 : zF (oneF odCellOf a) τ τ' := by rw [h]; exact zF_ua (by rw [o]; exact ⟨rfl, rfl⟩)
  have R : zR τ' = zR τ := by rw [h]; rfl
  have N : zN τ' = zN τ := by rw [h]; rfl
  have V := ho_t9 W (ty_odGroups W Ta) Z1 (fun f b z => by rw [z.1]; decide)
  have row : ∀ f, zr f = some 20 → f / 100 = 9 → f ≠ odCellOf → zA τ' (zR τ' f a) = zA τ (zR τ f a) := fun f h1 h2 h3 => (Z1.row W h1 (by decide) (Ta.trans h2.symm) (fun z => h3 z.1)).1
  have k := cnk e0
  refine ⟨⟨Z.tr (Z1.mono (fun f b z => Or.inl ⟨z.2, by rw [z.1]; decide⟩)), fun f hf => by rw [R]; exact er f hf, ?_⟩, ⟨?_, fun x x0 x1 xt => ?_⟩, fun x x0 x1 xm => pr9_m (fun K' L y H => ?_) (p x x0 x1 xm), fun x hx => ?_⟩
  · obtain ⟨⟨g1, g2, g3⟩, g4⟩ := G
    unfold grI9
    rw [R, N]
    have I9 := V.2.2.2.2 _ _ _ g1
    refine ⟨⟨I9, hoI_A I9 (Or.inr ?_), (V.2.1 _).mpr g3⟩, g4⟩
    rw [R, N, g2.1]
    decide
  · unfold gI9
    rw [row odLefts (by decide +kernel) (by decide) (by decide), row odRights (by decide +kernel) (by decide) (by decide), row odRanks (by decide +kernel) (by decide) (by decide), R, V.2.2.1, V.2.2.2.1]
    exact I
  · rw [R, V.2.2.2.1] at x1
    rw [R, V.2.2.1] at xt
    rw [row odLefts (by decide +kernel) (by decide) (by decide), row odRights (by decide +kernel) (by decide) (by decide), row odBases (by decide +kernel) (by decide) (by decide)]
    exact D x x0 x1 xt
  · rw [← er odGroups (by decide)] at H ⊢
    exact (V.1 _ _ _ _).mpr H
  · have q : zA τ' (zR β odCellOf a) = upd (zA τ (zR β odCellOf a)) e.toNatClampNeg v := by
      rw [← er odCellOf (by decide), h]
      exact if_pos rfl
    have nv : v ≠ -1 := fun y => by
      rw [y, tmi] at v0
      omega
    rw [q]
    unfold upd
    by_cases z : x = e.toNatClampNeg
    · rw [if_pos z]
      exact ⟨⟨fun y => absurd y nv, fun y => absurd (by rw [← z]; exact y) mk⟩, fun _ _ => ⟨v0, v1⟩⟩
    · rw [if_neg z]
      exact ⟨(ce x hx).1, fun y => (ce x hx).2 (by omega)⟩
theorem lkN_e9 {a n : Nat} {κ τ : zS} {x : Int32} (f : zA τ (zR τ atFirsts (zR τ odAtlas a)) = zA κ (zR κ atFirsts (zR κ odAtlas a))) (c : ∀ k i, k < n → (cE9 τ a k i ↔ cE9 κ a k i)) : lkN9 τ a n x ↔ lkN9 κ a n x := by
  unfold lkN9
  rw [f]
  constructor
  · rintro ⟨k, h1, h2, h3, h4⟩
    exact ⟨k, h1, h2, h3, (c k x h1).mp h4⟩
  · rintro ⟨k, h1, h2, h3, h4⟩
    exact ⟨k, h1, h2, h3, (c k x h1).mpr h4⟩
theorem Od_arrange_c {C : zC} {n0 : Nat} {a0 : Nat} {a1 : Int32} {a2 : Int32} {a3 : Int32} {κ : zS} {Q : Int32 → zS → Prop} (W : zW C n0 κ) (Ta0 : zT κ a0 = 9) (ρ : Nat → Nat) (n9 P9 : Nat) (hp : odX9 ρ κ a0 n9 P9 ∧ ((odU9 κ a0 ∨ tbL9 κ a0) ∧ (zN κ (zR κ odLinks a0)) ≤ 20000 ∧ 0 ≤ (zI κ atNexts (zR κ odAtlas a0)).toInt) ∧ (hoI κ (zR κ odGroups a0) 3000 3 8192 ∧ (zN κ (zR κ odKey a0)) = 3) ∧ (zR κ atStates (zR κ odAtlas a0) ≠ zR κ odGroups a0 ∧ zR κ atEndings (zR κ odAtlas a0) ≠ zR κ odGroups a0)) (h : ∀ (v : Int32) (κ' : zS), (nb v ∧ zF (arO9 a0 (zR κ odGroups a0)) κ κ' ∧ (hoI κ' (zR κ odGroups a0) 3000 3 8192 ∧ (zN κ' (zR κ' odKey a0)) = 3) ∧ (tbL9 κ' a0 ∧ (zN κ' (zR κ' odLinks a0)) ≤ 20000) ∧ eO9 κ κ' a0 ∧ (v ≠ 0 → agP9 κ' a0 n9)) → Q v κ') : zRun C 5 mOd_arrange [.ref a0, .int a1, .int a2, .int a3] κ (oI Q noX) := by
  refine Od_arrange_run W Ta0 ?_
  replace W := W.lo (Nat.le_trans W.1.2.1 W.1.2.2) (Nat.le_refl (zn κ))
  unfold w_Od_arrange_0
  obtain ⟨X0, ⟨U0, l20, nx0⟩, ⟨H0, k0⟩, hg⟩ := hp
  have A0 := X0.2.2.1.1
  have Tg := ty_odGroups W Ta0
  have ag : a0 ≠ zR κ odGroups a0 := fun z => by rw [← z, Ta0] at Tg; exact absurd Tg (by decide)
  have hE := X0.2.2.2.2.2.2.1.2
  intro T1
  refine Od_makeRows_c W T1  ?_ (fun κ_2 q3 => ?_)
  · exact ⟨U0, l20, nx0, by have := A0.2.2.2.2.1; have := A0.2.1.2.2; omega⟩  -- p1
  obtain ⟨Z2, L2, ⟨ln2, ll2⟩, Q2⟩ := q3
  have nm : ∀ f, f < 906 → ¬ mrF9 a0 f a0 := fun f hf z => by
    have := z.2.1
    omega
  have e2 : ∀ f, f < 906 → zR κ_2 f a0 = zR κ f a0 := fun f hf => Z2.r (nm f hf)
  have g2 : ∀ f b, b ≠ a0 → ¬ mrF9 a0 f b := fun f b hb z => hb z.1
  have H2 : hoI κ_2 (zR κ odGroups a0) 3000 3 8192 := hoI_zF Z2 W Tg (fun f => g2 f _ (Ne.symm ag)) H0
  have kl2 : zN κ_2 (zR κ_2 odKey a0) = 3 := by
    rw [e2 odKey (by decide), Z2.l (ty_odKey W Ta0)]
    exact k0
  intro W4
  intro M5
  intro T6
  refine Ho_clear_c W4 T6 3000 3 8192 ?_ (fun κ_7 q8 => ?_)
  · rw [e2 odGroups (by decide)]
    exact ⟨H2, Or.inr (Or.inr ⟨rfl, rfl, rfl⟩)⟩
  rw [e2 odGroups (by decide)] at q8
  obtain ⟨Z7, H7, A7, t7⟩ := q8
  have T2 : zT κ_2 a0 = 9 := Z2.t Ta0 (by decide)
  have r7 : ∀ f, zR κ_7 f a0 = zR κ_2 f a0 := fun f => Z7.r (fun z => ag z.1)
  have F7 : zF (arO9 a0 (zR κ odGroups a0)) κ κ_7 := (Z2.mono (fun f b z => Or.inl ⟨z.1, by have := z.2; omega⟩)).tr (Z7.mono (fun f b z => Or.inr z))
  have T7 : zT κ_7 a0 = 9 := F7.t Ta0 (by decide)
  obtain ⟨X7, _, e7, g7, s71, s72⟩ := od_t9 W Ta0 Tg arO9_t F7 hg.1 hg.2 X0
  have eg7 := e7 odGroups (by decide) (by decide)
  have eA7 := e7 odAtlas (by decide) (by decide)
  have hg7 : zR κ_7 atStates (zR κ_7 odAtlas a0) ≠ zR κ_7 odGroups a0 ∧ zR κ_7 atEndings (zR κ_7 odAtlas a0) ≠ zR κ_7 odGroups a0 := by
    rw [eA7, eg7, s71, s72]
    exact hg
  have L7 : tbL9 κ_7 a0 := by
    unfold tbL9
    rw [r7, r7, r7, r7, r7, r7, r7]
    rw [Z7.l (ty_odLefts W4 T2), Z7.l (ty_odRights W4 T2), Z7.l (ty_odBases W4 T2), Z7.l (ty_odRanks W4 T2), Z7.l (ty_odCellOf W4 T2), Z7.l (ty_odHeads W4 T2), Z7.l (ty_odEdges W4 T2)]
    exact L2
  have U7 : hoU9 κ_7 (zR κ odGroups a0) 8192 := fun i j hi hj h1 _ => by
    have q := A7.2.2.2.2.2 i hi
    rw [t7] at q
    exact absurd (Int32.toInt_inj.mp (show (zA κ_7 (zR κ_7 hoTable (zR κ odGroups a0)) i).toInt = (0 : Int32).toInt by rw [t0i]; omega)) h1
  have kl7 : zN κ_7 (zR κ_7 odKey a0) = 3 := by
    rw [r7, Z7.l (ty_odKey W4 T2)]
    exact kl2
  intro W9
  intro M10
  intro T11
  refine Od_markEndings_c W9 T11 ρ n9 P9 ?_ (fun r12 κ_13 q14 => ?_)
  · exact ⟨X7, L7.2.2.2.2.1, hg7⟩  -- p3
  obtain ⟨⟨Z13, R13, N13, I13⟩, v12, m13, d13⟩ := q14
  have T13 : zT κ_13 a0 = 9 := Z13.t T7 (by decide)
  have F13 : zF (arO9 a0 (zR κ odGroups a0)) κ κ_13 := F7.tr (Z13.mono (fun f b z => Or.inl ⟨z.2, by rw [z.1]; decide⟩))
  obtain ⟨X13, _, e13, g13, s131, s132⟩ := od_t9 W Ta0 Tg arO9_t F13 hg.1 hg.2 X0
  have eg13 : zR κ_13 odGroups a0 = zR κ odGroups a0 := e13 odGroups (by decide) (by decide)
  have eA13 : zR κ_13 odAtlas a0 = (zR κ odAtlas a0) := e13 odAtlas (by decide) (by decide)
  have hg13 : zR κ_13 atStates (zR κ_13 odAtlas a0) ≠ zR κ_13 odGroups a0 ∧ zR κ_13 atEndings (zR κ_13 odAtlas a0) ≠ zR κ_13 odGroups a0 := by
    rw [eA13, eg13, s131, s132]
    exact hg
  have L13 : tbL9 κ_13 a0 := by
    unfold tbL9
    rw [R13, N13]
    exact L7
  have ag13 : a0 ≠ zR κ_13 odGroups a0 := by rw [eg13]; exact ag
  have Tg7 : zT κ_7 (zR κ odGroups a0) = 6 := F7.t Tg (by decide)
  have V13 := ho_t9 W9 Tg7 Z13 (fun f b z => by rw [z.1]; decide)
  have G13 : grI9 κ_13 a0 := by
    unfold grI9
    rw [eg13, R13, N13]
    have I := V13.2.2.2.2 _ _ _ H7
    refine ⟨⟨I, hoI_A I (Or.inr ?_), (V13.2.1 _).mpr U7⟩, kl7⟩
    rw [R13, N13, A7.1]
    decide
  have t13 : (zI κ_13 hoTotal (zR κ_13 odGroups a0)).toInt = 0 := by rw [eg13, V13.2.2.2.1]; exact t7
  have hE13 := X13.2.2.2.2.2.2.1
  have mk13 : ∀ e, e < 1000 → zA κ_13 (zR κ_13 odCellOf a0) e = -1 ∨ zA κ_13 (zR κ_13 odCellOf a0) e = 0 := fun e he => by rw [R13]; exact m13 e he
  have md13 : ∀ k i, k < n9 → (zA κ_13 (zR κ_13 atFirsts (zR κ_13 odAtlas a0)) k).toInt ≤ i.toInt → i.toInt < (zA κ_13 (zR κ_13 atFirsts (zR κ_13 odAtlas a0)) (k + 1)).toInt → cE9 κ_13 a0 k i → zA κ_13 (zR κ_13 odCellOf a0) (zA κ_13 (zR κ_13 atNumbers (zR κ_13 odAtlas a0)) i.toNatClampNeg).toNatClampNeg ≠ -1 := by
    obtain ⟨_, ce, _, g, _⟩ := od_t9 W9 T7 (by rw [eg7]; exact Tg7) (oneF_t9 (f := odCellOf) (by decide)) Z13 hg7.1 hg7.2 X7
    intro k i hk h1 h2 h3
    rw [(g atFirsts (by decide)).1] at h1 h2
    rw [(g atNumbers (by decide)).1, R13]
    exact d13 k i hk h1 h2 ((ce k i hk).mp h3)
  have Q13 : eO9 κ κ_13 a0 := eO_z9 W9 T7 Z13 (fun z => absurd z.1 (by decide)) (eO_z9 W4 T2 Z7 (fun z => ag z.1) Q2)
  have ll13 : zN κ_13 (zR κ_13 odLinks a0) = zN κ_2 (zR κ_2 odLinks a0) := by
    rw [R13, N13, r7, Z7.l (ty_odLinks W4 T2)]
  have ix13 : zI κ_13 atNexts (zR κ_13 odAtlas a0) = zI κ atNexts (zR κ odAtlas a0) := by
    rw [eA13]
    exact F13.i (frT9_n W Ta0 Tg arO9_t (ty_odAtlas W Ta0) ⟨Or.inl (by decide), Or.inl (by decide)⟩)
  intro W15
  intro M16
  unfold w_Od_arrange_20
  refine ⟨fun n l0 l1 l2 l3 l4 l5 τ => n = ((zI κ_13 hoTotal (zR κ_13 atEndings (zR κ_13 odAtlas a0))).toInt - l5.toInt).toNat ∧ (a0 = l0 ∧ a1 = l1 ∧ a2 = l2 ∧ a3 = l3 ∧ tbJ9 κ_13 τ a0 ∧ gI9 τ a0 l5.toInt l5.toInt ∧ (zI τ hoTotal (zR κ_13 odGroups a0)).toInt ≤ 3 * l5.toInt ∧ (r12 = l4 ∧ 0 ≤ l5.toInt ∧ l5.toInt ≤ (zI κ_13 hoTotal (zR κ_13 atEndings (zR κ_13 odAtlas a0))).toInt) ∧ ∀ e : Int32, 0 ≤ e.toInt → e.toInt < l5.toInt → zA κ_13 (zR κ_13 odCellOf a0) e.toNatClampNeg ≠ -1 → pr9 κ_13 τ a0 a1 a2 a3 e), ⟨_, rfl, ?_⟩, ?_⟩
  · refine ⟨rfl, rfl, rfl, rfl, ⟨zF.rf, fun _ _ => rfl, G13⟩, fun x x0 x1 => ?_, ?_, ⟨rfl, by decide, by rw [t0i]; exact hE13.1⟩, fun e e0 e1 => ?_⟩
    · rw [t13] at x1; omega
    · rw [t13, t0i]; decide
    · rw [t0i] at e1; omega
  rintro n20 _ _ _ _ x20_4 x20_5 κ20 W20 T20_0 ⟨hn20, rfl, rfl, rfl, rfl, i20⟩
  obtain ⟨J1, I1, t1, ⟨rfl, l50, l51⟩, D1⟩ := i20
  obtain ⟨X1, H1, V1, E1, T1', L1, _, _⟩ := tb_c9 W15 T13 X13 hg13 tbF9_t J1.1 J1.2.1
  have L1 := L1 L13
  have k5 := cnk l50
  have eg1 := J1.2.1 odGroups (by decide)
  have ec1 : zA κ20 (zR κ20 odCellOf a0) = zA κ_13 (zR κ_13 odCellOf a0) := (J1.1.row W15 (f := odCellOf) (t := 20) (by decide +kernel) (by decide) T13 (fun z => by
  rcases z with ⟨_, z⟩ | z
  · exact absurd z (by decide)
  · exact ag13 z.1)).1
  refine ⟨fun c17 => ?_, fun c17 => ?_⟩
  · skip
    intro T18
    refine Od_placeTables_c W20 T18  ?_ (fun r19 κ_20 q21 => ?_)
    · rw [lei, E1] at c17
      exact ⟨⟨J1.2.2, L1, gp_m9 I1 (by omega) (by omega)⟩, v12.1, v12.2⟩
    rw [lei, E1] at c17
    obtain ⟨⟨Zp, Rp, Np, Ip⟩, vp, dp⟩ := q21
    have Z20 : zF (arF9 a0 (zR κ_13 odGroups a0)) κ_13 κ_20 := (J1.1.mono (fun f b z => tbF9_a z)).tr (Zp.mono (fun f b z => Or.inl ⟨z.2, by rw [z.1]; decide⟩))
    have e20 : ∀ f, f / 100 = 9 → zR κ_20 f a0 = zR κ_13 f a0 := fun f hf => by rw [Rp]; exact J1.2.1 f hf
    have Tg20 : zT κ20 (zR κ20 odGroups a0) = 6 := ty_odGroups W20 T20_0
    have V20 := ho_t9 W20 Tg20 Zp (fun f b z => by rw [z.1]; decide)
    have G20 : grI9 κ_20 a0 := by
      obtain ⟨⟨g1, g2, g3⟩, g4⟩ := J1.2.2
      unfold grI9
      rw [Rp, Np]
      have I := V20.2.2.2.2 _ _ _ g1
      refine ⟨⟨I, hoI_A I (Or.inr ?_), (V20.2.1 _).mpr g3⟩, g4⟩
      rw [Rp, Np, g2.1]
      decide
    have row20 : ∀ f, zr f = some 20 → f / 100 = 9 → f ≠ odBases → zA κ_20 (zR κ_20 f a0) = zA κ20 (zR κ20 f a0) := fun f h1 h2 h3 => (Zp.row W20 h1 (by decide) (T20_0.trans h2.symm) (fun z => h3 z.1)).1
    have I20 : gI9 κ_20 a0 1000 1000 := by
      unfold gI9
      rw [row20 odLefts (by decide +kernel) (by decide) (by decide), row20 odRights (by decide +kernel) (by decide) (by decide), row20 odRanks (by decide +kernel) (by decide) (by decide), Rp, V20.2.2.1, V20.2.2.2.1]
      exact gp_m9 I1 (by omega) (by omega)
    obtain ⟨_, _, _, _, T20', L20, _, _⟩ := tb_c9 W15 T13 X13 hg13 arF9_t Z20 e20
    have ec20 : zA κ_20 (zR κ_20 odCellOf a0) = zA κ_13 (zR κ_13 odCellOf a0) := (row20 odCellOf (by decide +kernel) (by decide) (by decide)).trans ec1
    intro W22
    intro M23
    refine ⟨fun c24 => ?_, fun c24 => ?_⟩
    · skip
      unfold w_Od_arrange_131
      refine ⟨fun n l0 l1 l2 l3 l5 l6 τ => n = ((zI κ_13 hoTotal (zR κ_13 atEndings (zR κ_13 odAtlas a0))).toInt - l6.toInt).toNat ∧ (a0 = l0 ∧ a1 = l1 ∧ a2 = l2 ∧ a3 = l3 ∧ arJ9 κ_13 τ a0 a1 a2 a3 l6.toInt l5.toInt ∧ (r19 = l5 ∧ 0 ≤ l6.toInt ∧ l6.toInt ≤ (zI κ_13 hoTotal (zR κ_13 atEndings (zR κ_13 odAtlas a0))).toInt)), ⟨_, rfl, ?_⟩, ?_⟩
      · rw [lei] at c24
        refine ⟨rfl, rfl, rfl, rfl, ⟨⟨Z20, e20, G20⟩, ⟨I20, fun x x0 x1 xt => ?_⟩, fun e e0 e1 em => pr9_m (fun K L x H => ?_) (D1 e e0 (by omega) em), fun e he => ⟨?_, fun h => by rw [t0i] at h; omega⟩⟩, ⟨rfl, by decide, by rw [t0i]; exact hE13.1⟩⟩
        · rw [Rp, V20.2.2.2.1] at x1
          rw [Rp, V20.2.2.1] at xt
          rw [row20 odLefts (by decide +kernel) (by decide) (by decide), row20 odRights (by decide +kernel) (by decide) (by decide), Rp]
          exact dp c24 x x0 x1 xt
        · rw [← eg1] at H ⊢
          exact (V20.1 _ _ _ _).mpr H
        · rw [← e20 odCellOf (by decide), ec20, e20 odCellOf (by decide)]
      rintro n131 _ _ _ _ x131_5 x131_6 κ131 W131 T131_0 ⟨hn131, rfl, rfl, rfl, rfl, i131⟩
      obtain ⟨J2, ⟨rfl, l60, l61⟩⟩ := i131
      obtain ⟨⟨Z2, e2, G2⟩, ⟨I2, D2⟩, p2, C2⟩ := id J2
      obtain ⟨X2, H2, V2, E2, T2', L2, ce2, hg2⟩ := tb_c9 W15 T13 X13 hg13 arF9_t Z2 e2
      have L2 := L2 L13
      have k6 := cnk l60
      have eg2 := e2 odGroups (by decide)
      have hj240 : ∀ (l0 : Nat) (l1 : Int32) (l2 : Int32) (l3 : Int32) (l5 : Int32) (l6 : Int32) (l7 : Int32) (l8 : Int32) (l9 : Int32) (s0 : Int32) (τ : zS), zW C (zn κ) τ → zT τ l0 = 9 → (a0 = l0 ∧ a1 = l1 ∧ a2 = l2 ∧ a3 = l3 ∧ arJ9 κ_13 τ a0 a1 a2 a3 l6.toInt l5.toInt ∧ (r19 = l5 ∧ x131_6 = l6 ∧ l6.toInt < (zI κ_13 hoTotal (zR κ_13 atEndings (zR κ_13 odAtlas a0))).toInt ∧ zA κ_13 (zR κ_13 odCellOf a0) l6.toNatClampNeg ≠ -1) ∧ (0 ≤ l7.toInt ∧ l7.toInt < (zI τ hoTotal (zR τ odGroups a0)).toInt ∧ pV9 τ (zR τ odGroups a0) l7 0 = 0) ∧ (0 ≤ l8.toInt ∧ l8.toInt < (zA τ (zR τ odLefts a0) l7.toNatClampNeg).toInt) ∧ (0 ≤ l9.toInt ∧ l9.toInt < (zA τ (zR τ odRights a0) l7.toNatClampNeg).toInt)) → w_Od_arrange_240 C (zn κ) Q (fun (l0' : Nat) (l1' : Int32) (l2' : Int32) (l3' : Int32) (l5' : Int32) (l6' : Int32) (τ : zS) => ∃ k < n131, (fun (n : Nat) (l0 : Nat) (l1 : Int32) (l2 : Int32) (l3 : Int32) (l5 : Int32) (l6 : Int32) (τ : zS) => n = ((zI κ_13 hoTotal (zR κ_13 atEndings (zR κ_13 odAtlas a0))).toInt - l6.toInt).toNat ∧ (a0 = l0 ∧ a1 = l1 ∧ a2 = l2 ∧ a3 = l3 ∧ arJ9 κ_13 τ a0 a1 a2 a3 l6.toInt l5.toInt ∧ (r19 = l5 ∧ 0 ≤ l6.toInt ∧ l6.toInt ≤ (zI κ_13 hoTotal (zR κ_13 atEndings (zR κ_13 odAtlas a0))).toInt))) k l0' l1' l2' l3' l5' l6' τ) l0 l1 l2 l3 l5 l6 l7 l8 l9 s0 τ := by
        rintro _ _ _ _ y240_5 y240_6 y240_7 y240_8 y240_9 y240_s0 τ240 W240 T240_0 ⟨rfl, rfl, rfl, rfl, j240⟩
        unfold w_Od_arrange_240
        obtain ⟨J4, ⟨rfl, rfl, l6e, mk⟩, ⟨u0, u1, ut⟩, ⟨w0, w1⟩, y0, y1⟩ := j240
        obtain ⟨⟨Z4, e4, G4⟩, ⟨I4, D4⟩, _, _⟩ := id J4
        have L4 := (tb_c9 W15 T13 X13 hg13 arF9_t Z4 e4).2.2.2.2.2.1 L13
        have tM := G4.1.1.2.1.2
        obtain ⟨⟨l0, l1⟩, r0, r1⟩ := (I4 y240_7 u0 u1).1 ut
        have d := D4 y240_7 u0 u1 ut
        have k7 := cnk u0
        have hE2 := hE13.2
        have c24' := lei.mp c24
        have v122 := v12.2
        have cm := Int.mul_comm ((zA τ240 (zR τ240 odLefts a0) y240_7.toNatClampNeg).toInt) ((zA τ240 (zR τ240 odRights a0) y240_7.toNatClampNeg).toInt)
        have ix := cn1 (x := x131_6) l60 (by omega)
        refine ⟨?_, ?_⟩
        · rw [inb_iff, L4.2.2.1]; omega  -- b7
        refine ⟨fun c25 => ?_, fun c25 => ?_⟩
        · skip
          refine ⟨?_, ?_⟩
          · rw [inb_iff, L4.1]; omega  -- b8
          refine ⟨?_, ?_⟩
          · rw [inb_iff, L4.2.2.2.2.1]; omega  -- b9
          intro κ_26 hκ_26
          intro W27
          intro x28 hx28
          have f := lf_9 (x := y240_9) (y := y240_8) (z := zA τ240 (zR τ240 odLefts a0) y240_7.toNatClampNeg) (w := zA τ240 (zR τ240 odBases a0) y240_7.toNatClampNeg) rfl y0 y1 w0 w1 r1 l1 d.1 (by omega)
          have J5 := arJ_u9 W240 T240_0 J4 hκ_26 l60 mk f.2.1 (by omega)
          refine ⟨_, ?_, rfl, ?_⟩
          · rw [hn131, hx28, ix.2]; omega  -- d10
          · exact ⟨rfl, rfl, rfl, rfl, by rw [hx28, ix.2]; exact J5, ⟨rfl, by rw [hx28, ix.2]; omega, by rw [hx28, ix.2]; omega⟩⟩  -- i11
        · skip
          refine ⟨?_, ?_⟩
          · rw [inb_iff, L4.2.1]; omega  -- b12
          refine ⟨?_, ?_⟩
          · rw [inb_iff, L4.2.2.2.2.1]; omega  -- b13
          intro κ_29 hκ_29
          intro W30
          intro x31 hx31
          have f := lf_9 (x := y240_8) (y := y240_9) (z := zA τ240 (zR τ240 odRights a0) y240_7.toNatClampNeg) (w := zA τ240 (zR τ240 odBases a0) y240_7.toNatClampNeg) rfl w0 w1 y0 y1 l1 r1 d.1 (by omega)
          have J5 := arJ_u9 W240 T240_0 J4 hκ_29 l60 mk f.2.1 (by omega)
          refine ⟨_, ?_, rfl, ?_⟩
          · rw [hn131, hx31, ix.2]; omega  -- d14
          · exact ⟨rfl, rfl, rfl, rfl, by rw [hx31, ix.2]; exact J5, ⟨rfl, by rw [hx31, ix.2]; omega, by rw [hx31, ix.2]; omega⟩⟩  -- i15
      obtain ⟨_, ceq, _, gq, sq1, sq2⟩ := od_t9 W15 T13 (ty_odGroups W15 T13) arF9_t Z2 hg13.1 hg13.2 X13
      have eA2 := e2 odAtlas (by decide)
      have ix2 : zI κ131 atNexts (zR κ131 odAtlas a0) = zI κ atNexts (zR κ odAtlas a0) := by
        rw [eA2, ← ix13]
        exact Z2.i (frT9_n W15 T13 (ty_odGroups W15 T13) arF9_t (ty_odAtlas W15 T13) ⟨Or.inl (by decide), Or.inl (by decide)⟩)
      have ll2' : zN κ131 (zR κ131 odLinks a0) = zN κ_2 (zR κ_2 odLinks a0) := by
        rw [e2 odLinks (by decide), Z2.l (ty_odLinks W15 T13)]
        exact ll13
      refine ⟨fun c32 => ?_, fun c32 => ?_⟩
      · skip
        intro T33
        refine Od_linkCells_c W131 T33 ρ n9 P9 ?_ (fun r34 κ_35 q36 => ?_)
        · rw [lei, E2] at c32
          refine ⟨⟨X2, L2, hg2⟩, ⟨by rw [ix2, ll2']; exact ln2, by have := lei.mp c24; have := v12.2; omega⟩, fun k i hk h1 h2 h3 => ?_⟩
          rw [(gq atFirsts (by decide)).1] at h1 h2
          have ce := (ceq k i hk).mp h3
          have m := md13 k i hk h1 h2 ce
          obtain ⟨⟨f0, _, _⟩, nx, _⟩ := X13.2.2.1.1.2.2.2.2.2 k hk
          have ki := cnk (x := i) (by omega)
          have nb3 := (nx i.toNatClampNeg (by omega) (by omega)).2.1 ce.1
          have ke := cnk nb3.1
          have hE2 := hE13.2
          rw [(gq atNumbers (by decide)).1, e2 odCellOf (by decide)]
          have q := C2 (zA κ_13 (zR κ_13 atNumbers (zR κ_13 odAtlas a0)) i.toNatClampNeg).toNatClampNeg (by omega)
          exact q.2 (by omega) (fun y => m (q.1.mp y))
        intro W37
        intro M38
        refine ⟨?_, h _ _ ?_⟩
        · exact q36.1  -- b17
        · obtain ⟨vb, ⟨Z5, R5, N5, I5⟩, D5⟩ := q36
          have Tg2 : zT κ131 (zR κ131 odGroups a0) = 6 := ty_odGroups W131 T131_0
          have V5 := ho_t9 W131 Tg2 Z5 (fun f b z => by rcases z.2 with y | y <;> rw [y] <;> decide)
          have row5 : ∀ f, zr f = some 20 → f / 100 = 9 → f ≠ odHeads → f ≠ odLinks → zA κ_35 (zR κ_35 f a0) = zA κ131 (zR κ131 f a0) := fun f h1 h2 h3 h4 => (Z5.row W131 h1 (by decide) (T131_0.trans h2.symm) (fun z => z.2.elim h3 h4)).1
          obtain ⟨X5, ce5, _, g5, _⟩ := od_t9 W131 T131_0 Tg2 hlF9_t Z5 hg2.1 hg2.2 X2
          have Z2' := Z2
          rw [eg13] at Z2'
          have I9 := V5.2.2.2.2 _ _ _ G2.1.1
          have eg3 : zR κ131 odGroups a0 = zR κ odGroups a0 := eg2.trans eg13
          refine ⟨vb, (F13.tr (Z2'.mono (fun f b z => arO9_m z))).tr (Z5.mono (fun f b z => Or.inl ⟨z.1, by rcases z.2 with y | y <;> rw [y] <;> decide⟩)), ⟨by rw [← eg3]; exact I9, by rw [R5, N5]; exact G2.2⟩, ⟨by unfold tbL9; rw [R5, N5]; exact L2, by rw [R5, N5, ll2']; exact ll2⟩, ?_, fun _ => ⟨⟨?_, by unfold tbL9; rw [R5, N5]; exact L2, ?_⟩, ?_, ⟨fun c hc => ?_, fun x hx _ => ?_⟩, r19.toInt, by have := lei.mp c24; have := v12.2; omega, fun x x0 x1 xt => ?_⟩⟩
          · exact eO_z9 W131 T131_0 Z5 (fun z => absurd z.2 (by decide)) (eO_z9 W15 T13 Z2 (fun z => by
              rcases z with ⟨_, _, z⟩ | z
              · exact absurd z (by decide)
              · exact ag13 z.1) Q13)
          · obtain ⟨⟨g1, g2', g3⟩, g4⟩ := G2
            unfold grI9
            rw [R5, N5]
            refine ⟨⟨I9, hoI_A I9 (Or.inr ?_), (V5.2.1 _).mpr g3⟩, g4⟩
            rw [R5, N5, g2'.1]
            decide
          · unfold gI9
            rw [row5 odLefts (by decide +kernel) (by decide) (by decide) (by decide), row5 odRights (by decide +kernel) (by decide) (by decide) (by decide), row5 odRanks (by decide +kernel) (by decide) (by decide) (by decide), R5, V5.2.2.1, V5.2.2.2.1]
            exact I2
          · rw [R5, N5, I5, ix2, ll2']
            exact ln2
          · rw [R5]
            rcases D5.1 c hc with y | y
            · exact Or.inl y
            · exact Or.inr ⟨(lkN_e9 (g5 atFirsts (by decide)).1 ce5).mpr y.1, y.2⟩
          · rw [R5]
            have y := (lkN_e9 (g5 atFirsts (by decide)).1 ce5).mp hx
            have x0 : 0 ≤ x.toInt := by
              obtain ⟨k, h1, h2, _⟩ := y
              have f9 := (X2.2.2.1.1.2.2.2.2.2 k h1).1.1
              omega
            rcases D5.2 x y x0 with w | w
            · exact Or.inl w
            · exact Or.inr ⟨(lkN_e9 (g5 atFirsts (by decide)).1 ce5).mpr w.1, w.2⟩
          · rw [R5, V5.2.2.2.1] at x1
            rw [R5, V5.2.2.1] at xt
            rw [row5 odLefts (by decide +kernel) (by decide) (by decide) (by decide), row5 odRights (by decide +kernel) (by decide) (by decide) (by decide), row5 odBases (by decide +kernel) (by decide) (by decide) (by decide)]
            exact D2 x x0 x1 xt
      · skip
        rw [lei, E2] at c32
        have hE2 := hE13.2
        have ix := cn1 (x := x131_6) l60 (by omega)
        have ec2 := e2 odCellOf (by decide)
        have cq := C2 x131_6.toNatClampNeg (by omega)
        refine ⟨?_, ?_⟩
        · rw [inb_iff, L2.2.2.2.2.1]; omega  -- b19
        refine ⟨fun c39 => ?_, fun c39 => ?_⟩
        · skip
          intro x40 hx40
          refine ⟨_, ?_, rfl, ?_⟩
          · rw [hn131, hx40, ix.2]; omega  -- d20
          · refine ⟨rfl, rfl, rfl, rfl, ⟨⟨Z2, e2, G2⟩, ⟨I2, D2⟩, p2, fun e he => ⟨(C2 e he).1, fun h1 h2 => ?_⟩⟩, ⟨rfl, by rw [hx40, ix.2]; omega, by rw [hx40, ix.2]; omega⟩⟩
            rw [hx40, ix.2] at h1
            rw [ec2] at c39
            by_cases z : e = x131_6.toNatClampNeg
            · rw [z] at h2
              exact absurd c39 h2
            · exact (C2 e he).2 (by omega) h2
        · skip
          intro T41
          rw [ec2] at c39
          have mk : zA κ_13 (zR κ_13 odCellOf a0) x131_6.toNatClampNeg ≠ -1 := fun y => c39 (cq.1.mpr y)
          obtain ⟨T, T0, h1, ⟨Lx, h2⟩, Rx, h3⟩ := p2 x131_6 l60 (by omega) mk
          have etk : tK9 κ131 a0 x131_6 a3 = tK9 κ_13 a0 x131_6 a3 := by unfold tK9; rw [V2]
          have kT := cnk T0
          refine Od_tableOf_c W131 T41 1000 1000 ?_ (fun r42 κ_43 q44 => ?_)
          · rw [eg2, etk]
            exact ⟨⟨G2, L2, I2⟩, by decide, H2, Or.inr ⟨_, h1⟩⟩
          rw [eg2, etk] at q44
          obtain ⟨S44, _, v44, k44, n44⟩ := q44
          obtain ⟨N44, ev⟩ := n44 _ h1
          have eT : r42 = T := Int32.toInt_inj.mp (by omega)
          have J43 := arJ_s9 W131 T131_0 J2 S44 N44
          obtain ⟨⟨Z43, e43, G43⟩, ⟨I43, D43⟩, p43, C43⟩ := id J43
          obtain ⟨X43, H43, V43, E43, T43, L43, _, _⟩ := tb_c9 W15 T13 X13 hg13 arF9_t Z43 e43
          have L43 := L43 L13
          have eg43 := e43 odGroups (by decide)
          have pk := fun K L x (H : hkS9 κ131 (zR κ_13 odGroups a0) 8192 K L x) => (show hkS9 κ_43 (zR κ_13 odGroups a0) 8192 K L x by
            have q := S44.2.2.2.2.1 K L x
            rw [eg2] at q
            exact q H)
          intro W45
          intro M46
          intro T47
          refine Ho_part_c2 W45 T47 1000 35 2048 ?_ (fun r48 q50 => ?_)
          · exact ⟨H43, Or.inr (Or.inl ⟨rfl, rfl, rfl⟩)⟩  -- p23
          intro W51
          intro M52
          intro T53
          intro T54
          rw [V43] at q50
          have h2' := pk _ _ _ h2
          rw [← eT, ← q50] at h2'
          have tg43 : pV9 κ_43 (zR κ_13 odGroups a0) r42 0 = 0 := pV9_k (K := tK9 κ_13 a0 x131_6 a3) v44.1 k44.1 (by decide) (by decide)
          refine Od_rankOf_c1 W51 T53 T54 1000 1000 ?_ (fun r55 κ_56 q57 => ?_)
          · rw [eg43]
            exact ⟨⟨G43, L43, I43⟩, by decide, ⟨rfl, rfl⟩, ⟨v44.1, v44.2, tg43⟩, Or.inr ⟨_, h2'⟩⟩
          rw [eg43] at q57
          obtain ⟨xl, ⟨S57, _, v57, k57, n57⟩, ev57⟩ := q57
          obtain ⟨N57, _⟩ := n57 _ h2'
          have J56 := arJ_s9 W51 T43 J43 S57 N57
          obtain ⟨⟨Z56, e56, G56⟩, ⟨I56, D56⟩, p56, C56⟩ := id J56
          obtain ⟨X56, H56, V56, E56, T56, L56, _, _⟩ := tb_c9 W15 T13 X13 hg13 arF9_t Z56 e56
          have L56 := L56 L13
          have eg56 := e56 odGroups (by decide)
          have pk56 := fun K L x (H : hkS9 κ_43 (zR κ_13 odGroups a0) 8192 K L x) => (show hkS9 κ_56 (zR κ_13 odGroups a0) 8192 K L x by
            have q := S57.2.2.2.2.1 K L x
            rw [eg43] at q
            exact q H)
          have k44' := pk56 _ _ _ k44
          intro W58
          intro M59
          intro T60
          refine Ho_part_c2 W58 T60 1000 35 2048 ?_ (fun r61 q63 => ?_)
          · exact ⟨H56, Or.inr (Or.inl ⟨rfl, rfl, rfl⟩)⟩  -- p25
          intro W64
          intro M65
          intro T66
          intro T67
          rw [V56] at q63
          have h3' := pk56 _ _ _ (pk _ _ _ h3)
          rw [← eT, ← q63] at h3'
          have tg56 : pV9 κ_56 (zR κ_13 odGroups a0) r42 0 = 0 := pV9_k (K := tK9 κ_13 a0 x131_6 a3) v44.1 k44'.1 (by decide) (by decide)
          have vt56 : r42.toInt < (zI κ_56 hoTotal (zR κ_13 odGroups a0)).toInt := by
            have q := k44'.1.1
            have kr := cnk v44.1
            omega
          refine Od_rankOf_c2 W64 T66 T67 1000 1000 ?_ (fun r68 κ_69 q70 => ?_)
          · rw [eg56]
            exact ⟨⟨G56, L56, I56⟩, by decide, ⟨rfl, rfl⟩, ⟨v44.1, vt56, tg56⟩, Or.inr ⟨_, h3'⟩⟩
          intro W71
          intro M72
          rw [eg56] at q70
          obtain ⟨xr, ⟨S70, _, v70, k70, n70⟩, ev70⟩ := q70
          obtain ⟨N70, _⟩ := n70 _ h3'
          have J69 := arJ_s9 W64 T56 J56 S70 N70
          obtain ⟨⟨Z69, e69, G69⟩, ⟨I69, D69⟩, p69, C69⟩ := id J69
          obtain ⟨X69, H69, V69, E69, T69, L69, _, _⟩ := tb_c9 W15 T13 X13 hg13 arF9_t Z69 e69
          have L69 := L69 L13
          have eg69 := e69 odGroups (by decide)
          have pk69 := fun K L x (H : hkS9 κ_56 (zR κ_13 odGroups a0) 8192 K L x) => (show hkS9 κ_69 (zR κ_13 odGroups a0) 8192 K L x by
            have q := S70.2.2.2.2.1 K L x
            rw [eg56] at q
            exact q H)
          have kt := pk69 _ _ _ k44'
          have kl := pk69 _ _ _ k57
          have kr9 := cnk v44.1
          have kxl := cnk v57.1
          have kxr := cnk v70.1
          have vt : r42.toInt < (zI κ_69 hoTotal (zR κ_13 odGroups a0)).toInt := by
            have q := kt.1.1
            omega
          have vl : xl.toInt < (zI κ_69 hoTotal (zR κ_13 odGroups a0)).toInt := by
            have q := kl.1.1
            omega
          have tg69 : pV9 κ_69 (zR κ_13 odGroups a0) r42 0 = 0 := pV9_k (K := tK9 κ_13 a0 x131_6 a3) v44.1 kt.1 (by decide) (by decide)
          have gl := I69 xl v57.1 (by rw [eg69]; exact vl)
          have gr := I69 xr v70.1 (by rw [eg69]; exact v70.2)
          have l0' : pV9 κ_69 (zR κ_13 odGroups a0) xl 0 = 1 := pV9_k (K := k39 1 r42 r48) v57.1 kl.1 (by decide) (by decide)
          have l1' : pV9 κ_69 (zR κ_13 odGroups a0) xl 1 = r42 := pV9_k (K := k39 1 r42 r48) v57.1 kl.1 (by decide) (by decide)
          have r0' : pV9 κ_69 (zR κ_13 odGroups a0) xr 0 = 2 := pV9_k (K := k39 2 r42 r61) v70.1 k70.1 (by decide) (by decide)
          have r1' : pV9 κ_69 (zR κ_13 odGroups a0) xr 1 = r42 := pV9_k (K := k39 2 r42 r61) v70.1 k70.1 (by decide) (by decide)
          dsimp only at gl gr
          rw [eg69] at gl gr
          obtain ⟨_, gl1, gl2⟩ := gl.2.1 l0'
          obtain ⟨_, gr1, gr2⟩ := gr.2.2 r0'
          rw [l1'] at gl2
          rw [r1'] at gr2
          have rk := (tb_k9 W64 T56 S70 N70).2.2.1 odRanks (Or.inr (Or.inr (Or.inl rfl)))
          rw [rk, ← ev57] at gl1 gl2
          rw [← ev70] at gr1 gr2
          have tM69 := G69.1.1.2.1.2
          rw [eg69] at tM69
          refine ⟨?_, ?_⟩
          · rw [inb_iff, L69.1]; omega  -- b27
          refine ⟨?_, ?_⟩
          · rw [inb_iff, L69.2.1]; omega  -- b28
          refine ⟨fun c73 => ?_, fun c73 => ?_⟩
          · skip
            refine hj240 _ _ _ _ _ _ _ _ _ _ _ W71 ?_ ?_
            · exact T69  -- t29
            · exact ⟨rfl, rfl, rfl, rfl, J69, ⟨rfl, rfl, by omega, mk⟩, ⟨v44.1, by rw [eg69]; exact vt, by rw [eg69]; exact tg69⟩, ⟨gl1, gl2⟩, gr1, gr2⟩  -- k30
          · skip
            refine hj240 _ _ _ _ _ _ _ _ _ _ _ W71 ?_ ?_
            · exact T69  -- t31
            · exact ⟨rfl, rfl, rfl, rfl, J69, ⟨rfl, rfl, by omega, mk⟩, ⟨v44.1, by rw [eg69]; exact vt, by rw [eg69]; exact tg69⟩, ⟨gl1, gl2⟩, gr1, gr2⟩  -- k32
    · skip
      refine h _ _ ?_
      · have Z20' := Z20
        rw [eg13] at Z20'
        refine ⟨nb_0, F13.tr (Z20'.mono (fun f b z => arO9_m z)), ⟨by rw [← eg13, ← e20 odGroups (by decide)]; exact G20.1.1, G20.2⟩, ⟨L20 L13, ?_⟩, ?_, fun z => absurd rfl z⟩
        · rw [e20 odLinks (by decide), Z20.l (ty_odLinks W15 T13), ll13]
          exact ll2
        · exact eO_z9 W20 T20_0 Zp (fun z => absurd z.1 (by decide)) (eO_z9 W15 T13 J1.1 (fun z => by
            rcases z with ⟨_, z⟩ | z
            · exact absurd z (by decide)
            · exact ag13 z.1) Q13)
  · skip
    rw [lei, E1] at c17
    have hE2 := hE13.2
    have ix := cn1 (x := x20_5) l50 (by omega)
    refine ⟨?_, ?_⟩
    · rw [inb_iff, L1.2.2.2.2.1]; omega  -- b34
    refine ⟨fun c74 => ?_, fun c74 => ?_⟩
    · skip
      intro x75 hx75
      refine ⟨_, ?_, rfl, ?_⟩
      · rw [hn20, hx75, ix.2]; omega  -- d35
      · rw [ec1] at c74
        refine ⟨rfl, rfl, rfl, rfl, J1, by rw [hx75, ix.2]; exact gp_m9 I1 (by omega) (by omega), by rw [hx75, ix.2]; omega, ⟨rfl, by rw [hx75, ix.2]; omega, by rw [hx75, ix.2]; omega⟩, fun e e0 e1 em => ?_⟩
        rw [hx75, ix.2] at e1
        by_cases z : e.toInt = x20_5.toInt
        · rw [Int32.toInt_inj.mp z] at em
          exact absurd c74 em
        · exact D1 e e0 (by omega) em
    · skip
      intro T76
      rw [ec1] at c74
      have etk : tK9 κ20 a0 x20_5 a3 = tK9 κ_13 a0 x20_5 a3 := by unfold tK9; rw [V1]
      refine Od_tableOf_c W20 T76 x20_5.toInt x20_5.toInt ?_ (fun r77 κ_78 q79 => ?_)
      · rw [eg1]
        exact ⟨⟨J1.2.2, L1, I1⟩, ⟨l50, l50⟩, H1, Or.inl (by omega)⟩
      rw [eg1, etk] at q79
      obtain ⟨S79, I79, v79, k79, _⟩ := q79
      have J78 := tbJ9_s J1 S79
      obtain ⟨X78, H78, V78, E78, T78, L78, _, _⟩ := tb_c9 W15 T13 X13 hg13 tbF9_t J78.1 J78.2.1
      have L78 := L78 L13
      have eg78 := J78.2.1 odGroups (by decide)
      have t78 := S79.2.2.2.1
      rw [eg1] at t78
      have pk := fun K L x (H : hkS9 κ20 (zR κ_13 odGroups a0) 8192 K L x) => (show hkS9 κ_78 (zR κ_13 odGroups a0) 8192 K L x by
        have q := S79.2.2.2.2.1 K L x
        rw [eg1] at q
        exact q H)
      intro W80
      intro M81
      intro T82
      refine Ho_part_c2 W80 T82 1000 35 2048 ?_ (fun r83 q85 => ?_)
      · exact ⟨H78, Or.inr (Or.inl ⟨rfl, rfl, rfl⟩)⟩  -- p38
      intro W86
      intro M87
      intro T88
      intro T89
      rw [V78] at q85
      have tg78 : pV9 κ_78 (zR κ_13 odGroups a0) r77 0 = 0 := pV9_k (K := tK9 κ_13 a0 x20_5 a3) v79.1 k79.1 (by decide) (by decide)
      refine Od_rankOf_c1 W86 T88 T89 x20_5.toInt x20_5.toInt ?_ (fun r90 κ_91 q92 => ?_)
      · rw [eg78]
        exact ⟨⟨J78.2.2, L78, I79⟩, ⟨by omega, by omega⟩, ⟨rfl, rfl⟩, ⟨v79.1, v79.2, tg78⟩, Or.inl (by omega)⟩
      rw [eg78] at q92
      obtain ⟨xl, ⟨S92, I92, v92, k92, _⟩, _⟩ := q92
      have J91 := tbJ9_s J78 S92
      obtain ⟨X91, H91, V91, E91, T91, L91, _, _⟩ := tb_c9 W15 T13 X13 hg13 tbF9_t J91.1 J91.2.1
      have L91 := L91 L13
      have eg91 := J91.2.1 odGroups (by decide)
      have t91 := S92.2.2.2.1
      rw [eg78] at t91
      have pk91 := fun K L x (H : hkS9 κ_78 (zR κ_13 odGroups a0) 8192 K L x) => (show hkS9 κ_91 (zR κ_13 odGroups a0) 8192 K L x by
        have q := S92.2.2.2.2.1 K L x
        rw [eg78] at q
        exact q H)
      have k79' := pk91 _ _ _ k79
      intro W93
      intro M94
      intro T95
      refine Ho_part_c2 W93 T95 1000 35 2048 ?_ (fun r96 q98 => ?_)
      · exact ⟨H91, Or.inr (Or.inl ⟨rfl, rfl, rfl⟩)⟩  -- p40
      intro W99
      intro M100
      intro T101
      intro T102
      rw [V91] at q98
      have tg91 : pV9 κ_91 (zR κ_13 odGroups a0) r77 0 = 0 := pV9_k (K := tK9 κ_13 a0 x20_5 a3) v79.1 k79'.1 (by decide) (by decide)
      refine Od_rankOf_c2 W99 T101 T102 (x20_5.toInt + 1) x20_5.toInt ?_ (fun r103 κ_104 q105 => ?_)
      · rw [eg91]
        exact ⟨⟨J91.2.2, L91, I92⟩, ⟨by omega, by omega⟩, ⟨rfl, rfl⟩, ⟨v79.1, by omega, tg91⟩, Or.inl (by omega)⟩
      intro W106
      intro M107
      intro x108 hx108
      rw [eg91] at q105
      obtain ⟨xr, ⟨S105, I105, v105, k105, _⟩, _⟩ := q105
      have J104 := tbJ9_s J91 S105
      have t104 := S105.2.2.2.1
      rw [eg91] at t104
      have pk104 := fun K L x (H : hkS9 κ_91 (zR κ_13 odGroups a0) 8192 K L x) => (show hkS9 κ_104 (zR κ_13 odGroups a0) 8192 K L x by
        have q := S105.2.2.2.2.1 K L x
        rw [eg91] at q
        exact q H)
      rw [q85] at k92
      rw [q98] at k105
      refine ⟨_, ?_, rfl, ?_⟩
      · rw [hn20, hx108, ix.2]; omega  -- d42
      · refine ⟨rfl, rfl, rfl, rfl, J104, by rw [hx108, ix.2]; exact I105, by rw [hx108, ix.2]; omega, ⟨rfl, by rw [hx108, ix.2]; omega, by rw [hx108, ix.2]; omega⟩, fun e e0 e1 em => ?_⟩
        rw [hx108, ix.2] at e1
        by_cases z : e.toInt = x20_5.toInt
        · rw [Int32.toInt_inj.mp z]
          exact ⟨r77, v79.1, pk104 _ _ _ k79', ⟨_, pk104 _ _ _ k92⟩, _, k105⟩
        · exact pr9_m (fun K L x H => pk104 _ _ _ (pk91 _ _ _ (pk _ _ _ H))) (D1 e e0 (by omega) em)

end
section
set_option maxHeartbeats 1600000
/-! the class: Odds' throughCell -/
def tcR9 : Nat → Prop := fun r => r = 1 ∨ (4 ≤ r ∧ r ≤ 10) ∨ (20 ≤ r ∧ r ≤ 22)
theorem tcR9_l : ∀ r, 100 ≤ r → ¬ tcR9 r := fun r h z => by
  unfold tcR9 at z
  omega
theorem soF_n9 {ρ : Nat → Nat} {R : Nat → Prop} {ca f b : Nat} (hf : f / 100 = 9) : ¬ soF ρ R ca f b := fun z => by
  rcases z with ⟨_, z | z | z⟩ | ⟨_, z | z | z | z⟩ <;> (rw [z] at hf; exact absurd hf (by decide))
/-- what the cells' walks read -/
theorem od_w9 {C : zC} {n0 a n P ca : Nat} {ρ : Nat → Nat} {R : Nat → Prop} {κ τ : zS} (W : zW C n0 κ) (Ta : zT κ a = 9) (N : nmI ρ κ) (Z : zF (soF ρ R ca) κ τ) (hR : ∀ r, 100 ≤ r → ¬ R r) (X : odX9 ρ κ a n P) : (∀ f t, zr f = some t → 20 ≤ t → f / 100 = 9 → zR τ f a = zR κ f a ∧ zA τ (zR τ f a) = zA κ (zR κ f a) ∧ zQ τ (zR τ f a) = zQ κ (zR κ f a) ∧ zN τ (zR τ f a) = zN κ (zR κ f a)) ∧ (∀ f, f ∈ atRf → zA τ (zR τ f (zR τ odAtlas a)) = zA κ (zR κ f (zR κ odAtlas a)) ∧ zN τ (zR τ f (zR τ odAtlas a)) = zN κ (zR κ f (zR κ odAtlas a))) ∧ zI τ atNexts (zR τ odAtlas a) = zI κ atNexts (zR κ odAtlas a) ∧ zI τ hoTotal (zR τ atStates (zR τ odAtlas a)) = zI κ hoTotal (zR κ atStates (zR κ odAtlas a)) ∧ (∀ k, k < n → zI τ raSign (vU9 τ (zR τ odSolver a) k) = zI κ raSign (vU9 κ (zR κ odSolver a) k)) := by
  obtain ⟨X1, e1, e2, e3⟩ := odX9_f W Ta N Z hR X
  have tA := ty_odAtlas W Ta
  have ts := ty_odSolver W Ta
  have eA := e1 odAtlas (Or.inl (by decide)) a
  refine ⟨fun f t h1 h2 h3 => ?_, fun f hf => ?_, ?_, ?_, fun k hk => ?_⟩
  · have T9 : zT κ a = f / 100 := Ta.trans h3.symm
    have r := Z.r (soF_n9 (ρ := ρ) (R := R) (ca := ca) (b := a) h3)
    have w := Z.row W h1 h2 T9 (soF_n9 h3)
    have ty := W.r h1 T9
    obtain ⟨c, hc⟩ : ∃ c, t = c + 1 := ⟨t - 1, by omega⟩
    refine ⟨r, w.1, w.2.2, ?_⟩
    rw [r]
    exact Z.l (c := c) (ty.trans hc)
  · rw [eA]
    have g := at_f9 W soF_fr Z tA (f := f) hf
    exact ⟨g.2.1, g.2.2⟩
  · rw [eA]
    exact (soF_r9 Z (by decide)).2
  · rw [eA, show zR τ atStates (zR κ odAtlas a) = zR κ atStates (zR κ odAtlas a) from congrFun e3 _]
    exact e2
  · obtain ⟨v1, v2, v3⟩ := X.2.2.2.1 k hk
    have vu := (vU9_f W ts Z).2 k
    rw [e1 odSolver (Or.inl (by decide)) a, vu]
    exact Z.i (soF_sg (by rw [v2]; exact hR _ (by omega)))
theorem ju_9 {u : Int64} {w : Int32} {n : Int} (h0 : 0 ≤ u.toInt) (h1 : u.toInt ≤ 2147483648 * n) (hn : 0 ≤ n) (hn2 : n ≤ 20000) (w0 : 0 ≤ w.toInt) : 0 ≤ (u + Int32.toInt64 w).toInt ∧ (u + Int32.toInt64 w).toInt ≤ 2147483648 * (n + 1) := by
  have e := Int32.toInt_toInt64 w
  have u2 := ihi w
  rw [jadd_i (by rw [e]; omega) (by rw [e]; omega), e]
  omega
theorem Od_throughCell_c {C : zC} {n0 : Nat} {a0 : Nat} {a1 : Int32} {a2 : Int32} {κ : zS} {Q : zS → Prop} (W : zW C n0 κ) (Ta0 : zT κ a0 = 9) (ρ : Nat → Nat) (n9 P9 : Nat) (hp : (nmI ρ κ ∧ soI ρ κ (zR κ odSolver a0)) ∧ odX9 ρ κ a0 n9 P9 ∧ (0 < P9 ∧ P9 < pB9 1490) ∧ (tbL9 κ a0 ∧ (zI κ atNexts (zR κ odAtlas a0)).toInt ≤ (zN κ (zR κ odLinks a0)) ∧ lkB9 κ κ a0 n9 0) ∧ (0 ≤ a1.toInt ∧ a1.toInt < 1000) ∧ dz9 (nuN κ (zR κ soWhole (zR κ odSolver a0))) P9 ∧ nuN κ (zR κ soLess (zR κ odSolver a0)) < pB9 4000) (h : ∀ (κ' : zS), ((zF (soF ρ tcR9 (zR κ odCalc a0)) κ κ' ∧ nmI ρ κ' ∧ soI ρ κ' (zR κ odSolver a0)) ∧ nuN κ' (zR κ soSum (zR κ odSolver a0)) < pB9 1502 ∧ dz9 (nuN κ' (zR κ soWhole (zR κ odSolver a0))) P9 ∧ nuN κ' (zR κ soLess (zR κ odSolver a0)) < pB9 4000) → Q κ') : zRun C 6 mOd_throughCell [.ref a0, .int a1, .int a2] κ (oV Q noX) := by
  refine Od_throughCell_run W Ta0 ?_
  replace W := W.lo (Nat.le_trans W.1.2.1 W.1.2.2) (Nat.le_refl (zn κ))
  unfold w_Od_throughCell_0
  obtain ⟨⟨N0, S0⟩, X0, ⟨P0, P1⟩, ⟨L0, nl, ⟨hd, lk⟩⟩, ⟨c0, c1⟩, D0, Le0⟩ := hp
  have ts := ty_odSolver W Ta0
  have A0 := X0.2.2.1.1
  have hn := A0.2.2.1
  have tot := A0.2.2.2.1
  have nx5 := A0.2.2.2.2.1
  have l20 := A0.2.1.2.2
  have h1 := S0.1.1
  have h7 := S0.1.2.2.2.2.1
  have h8 := S0.1.2.2.2.2.2.1
  have h20 := S0.1.2.2.2.2.2.2
  have g7 := nm_g N0 (w := (zR κ soSum (zR κ odSolver a0))) h7 (Or.inl ⟨by decide, by decide⟩) (by decide)
  have tW := ty_soWhole W ts
  have tS := ty_soSum W ts
  have tL := ty_soLess W ts
  have lw0 : nuN κ (zR κ soWhole (zR κ odSolver a0)) < pB9 1490 := Nat.lt_of_le_of_lt (dz9_le D0 P0) P1
  have b4 : pB9 1502 ≤ pB9 4000 := pB9_l (by decide)
  have kc := cnk c0
  intro T1
  refine Nu_put_c W T1 6500 ?_ (fun κ_2 q3 => ?_)
  · exact ⟨by decide, g7.2.2⟩  -- p1
  intro W4
  intro M5
  obtain ⟨Fs, ⟨Rs, Ns⟩, Is, Vs⟩ := q3
  have Zs0 : zF (soF ρ (fun r => r = 7) (zR κ odCalc a0)) κ κ_2 := soF_1 h7 Fs
  have Zs : zF (soF ρ tcR9 (zR κ odCalc a0)) κ κ_2 := soF_m (fun r z => Or.inr (Or.inl (by omega))) Zs0
  have N2 : nmI ρ κ_2 := nm_1 W N0 Fs (by rw [h7]; exact Is)
  have S2 : soI ρ κ_2 (zR κ odSolver a0) := so_1 W ts S0 Fs
  have w2 := (soF_B (c := 0) W tW Zs0 (by rw [h1]; decide)).2.1
  have l2 := (soF_B (c := 0) W tL Zs0 (by rw [h8]; decide)).2.1
  have ro2 := (od_w9 W Ta0 N0 Zs tcR9_l X0).1 odHeads 20 (by decide +kernel) (by decide) (by decide)
  refine ⟨?_, ?_⟩
  · rw [inb_iff, ro2.2.2.2, L0.2.2.2.2.2.1]; omega  -- b2
  intro x6 hx6
  unfold w_Od_throughCell_27
  refine ⟨fun n l0 l2 l3 l4 l5 l7 τ => n = ((zI κ atNexts (zR κ odAtlas a0)).toInt - l7.toInt).toNat ∧ (a0 = l0 ∧ a2 = l2 ∧ (zF (soF ρ tcR9 (zR κ odCalc a0)) κ τ ∧ nmI ρ τ ∧ soI ρ τ (zR κ odSolver a0)) ∧ (dz9 (nuN τ (zR κ soWhole (zR κ odSolver a0))) P9 ∧ nuN τ (zR κ soLess (zR κ odSolver a0)) < pB9 4000) ∧ ((a2 = 0 → nuN τ (zR κ soWhole (zR κ odSolver a0)) = nuN κ (zR κ soWhole (zR κ odSolver a0)) ∧ nuN τ (zR κ soSum (zR κ odSolver a0)) ≤ uB9 (nuN κ (zR κ soWhole (zR κ odSolver a0))) l7.toNatClampNeg) ∧ (a2 ≠ 0 → nuN τ (zR κ soSum (zR κ odSolver a0)) = 0)) ∧ (0 ≤ l7.toInt ∧ l7.toInt ≤ 20000) ∧ (0 ≤ l3.toInt ∧ (l4 = -1 ∨ ((lkN9 κ a0 n9 l4 ∧ l3.toInt < n9) ∧ (zA κ (zR κ atFirsts (zR κ odAtlas a0)) l3.toNatClampNeg).toInt ≤ l4.toInt))) ∧ (0 ≤ l5.toInt ∧ l5.toInt ≤ 2147483648 * l7.toInt)), ⟨_, rfl, ?_⟩, ?_⟩
  · rw [ro2.2.1] at hx6
    refine ⟨rfl, rfl, ⟨Zs, N2, S2⟩, ⟨by rw [w2]; exact D0, by rw [l2]; exact Le0⟩, ⟨fun _ => ⟨w2, ?_⟩, fun _ => ?_⟩, by decide, ⟨by decide, ?_⟩, by decide⟩
    · rw [Vs]; exact uB_0 (by decide)
    · rw [Vs]; rfl
    · rcases hd a1.toNatClampNeg (by omega) with y | y
      · exact Or.inl (by rw [hx6]; exact y)
      · rw [← hx6] at y
        obtain ⟨k, k1, k2, _⟩ := id y.1
        have f0 := fm_9 A0 k 0 (by omega) (by omega)
        exact Or.inr ⟨⟨y.1, by rw [t0i]; omega⟩, Int.le_trans f0 k2⟩
  rintro n27 _ _ x27_3 x27_4 x27_5 x27_7 κ27 W27 T27_0 ⟨hn27, rfl, rfl, i27⟩
  obtain ⟨⟨Z1, N1, S1⟩, ⟨D1, L1⟩, ⟨B1, B2⟩, l7, ⟨l30, l4⟩, l50, l51⟩ := i27
  obtain ⟨X1, e1, _, _⟩ := odX9_f W Ta0 N0 Z1 tcR9_l X0
  obtain ⟨ro1, at1, nx1, tt1, sg1⟩ := od_w9 W Ta0 N0 Z1 tcR9_l X0
  have es : zR κ27 odSolver a0 = (zR κ odSolver a0) := e1 odSolver (Or.inl (by decide)) a0
  have ec : zR κ27 odCalc a0 = (zR κ odCalc a0) := e1 odCalc (Or.inl (by decide)) a0
  have ew : zR κ27 soWhole (zR κ odSolver a0) = (zR κ soWhole (zR κ odSolver a0)) := e1 soWhole (Or.inr (by decide)) _
  have eu : zR κ27 soSum (zR κ odSolver a0) = (zR κ soSum (zR κ odSolver a0)) := e1 soSum (Or.inr (by decide)) _
  have el : zR κ27 soLess (zR κ odSolver a0) = (zR κ soLess (zR κ odSolver a0)) := e1 soLess (Or.inr (by decide)) _
  have ep : zR κ27 soPart (zR κ odSolver a0) = (zR κ soPart (zR κ odSolver a0)) := e1 soPart (Or.inr (by decide)) _
  have lw1 : nuN κ27 (zR κ soWhole (zR κ odSolver a0)) < pB9 1490 := Nat.lt_of_le_of_lt (dz9_le D1 P0) P1
  have k7 := cnk l7.1
  have sumB : nuN κ27 (zR κ soSum (zR κ odSolver a0)) < pB9 1502 := if z : a2 = 0 then uB_l lw0 (by omega) (B1 z).2 else (by rw [B2 z]; exact pB9_p)
  have fr1 := (at1 atFirsts (by decide))
  have hj130 : ∀ (l0 : Nat) (l2 : Int32) (l3 : Int32) (l4 : Int32) (l5 : Int64) (l7 : Int32) (τ : zS), zW C (zn κ) τ → zT τ l0 = 9 → (a0 = l0 ∧ a2 = l2 ∧ κ27 = τ ∧ x27_7 = l7 ∧ (0 ≤ l3.toInt ∧ l3.toInt < n9) ∧ (l4 = -1 ∨ (lkN9 κ a0 n9 l4 ∧ (zA κ (zR κ atFirsts (zR κ odAtlas a0)) l3.toNatClampNeg).toInt ≤ l4.toInt)) ∧ zI κ raSign (vU9 κ (zR κ odSolver a0) l3.toNatClampNeg) ≠ 0 ∧ (0 ≤ l5.toInt ∧ l5.toInt ≤ 2147483648 * (l7.toInt + 1)) ∧ x27_7.toInt < (zI κ atNexts (zR κ odAtlas a0)).toInt) → w_Od_throughCell_130 C (zn κ) Q (fun (l0' : Nat) (l2' : Int32) (l3' : Int32) (l4' : Int32) (l5' : Int64) (l7' : Int32) (τ : zS) => ∃ k < n27, (fun (n : Nat) (l0 : Nat) (l2 : Int32) (l3 : Int32) (l4 : Int32) (l5 : Int64) (l7 : Int32) (τ : zS) => n = ((zI κ atNexts (zR κ odAtlas a0)).toInt - l7.toInt).toNat ∧ (a0 = l0 ∧ a2 = l2 ∧ (zF (soF ρ tcR9 (zR κ odCalc a0)) κ τ ∧ nmI ρ τ ∧ soI ρ τ (zR κ odSolver a0)) ∧ (dz9 (nuN τ (zR κ soWhole (zR κ odSolver a0))) P9 ∧ nuN τ (zR κ soLess (zR κ odSolver a0)) < pB9 4000) ∧ ((a2 = 0 → nuN τ (zR κ soWhole (zR κ odSolver a0)) = nuN κ (zR κ soWhole (zR κ odSolver a0)) ∧ nuN τ (zR κ soSum (zR κ odSolver a0)) ≤ uB9 (nuN κ (zR κ soWhole (zR κ odSolver a0))) l7.toNatClampNeg) ∧ (a2 ≠ 0 → nuN τ (zR κ soSum (zR κ odSolver a0)) = 0)) ∧ (0 ≤ l7.toInt ∧ l7.toInt ≤ 20000) ∧ (0 ≤ l3.toInt ∧ (l4 = -1 ∨ ((lkN9 κ a0 n9 l4 ∧ l3.toInt < n9) ∧ (zA κ (zR κ atFirsts (zR κ odAtlas a0)) l3.toNatClampNeg).toInt ≤ l4.toInt))) ∧ (0 ≤ l5.toInt ∧ l5.toInt ≤ 2147483648 * l7.toInt))) k l0' l2' l3' l4' l5' l7' τ) l0 l2 l3 l4 l5 l7 τ := by
    rintro _ _ y130_3 y130_4 y130_5 y130_7 τ130 W130 T130_0 ⟨rfl, rfl, j130⟩
    unfold w_Od_throughCell_130
    intro T7
    obtain ⟨rfl, rfl, m3, m4, sg, m5, m7⟩ := j130
    have sg9 := sg
    have k3 := cnk m3.1
    rw [← sg1 y130_3.toNatClampNeg (by omega)] at sg9
    have S1' : soI ρ κ27 (zR κ27 odSolver a0) := by rw [es]; exact S1
    have ix := cn1 (x := x27_7) l7.1 (by omega)
    refine So_unit_c2 W130 T7 ρ (vU9 κ27 (zR κ27 odSolver a0) y130_3.toNatClampNeg) ?_ (fun κ_8 q9 => ?_)
    · exact od_u9 N1 S1' X1 m3.1 m3.2 sg9  -- p4
    obtain ⟨⟨Zu, Nu9, Su9⟩, tu, bu, du⟩ := od_v9 X1 m3.1 m3.2 sg9 q9
    rw [ec] at Zu
    rw [es] at Su9 tu bu du
    rw [ep] at tu bu du
    have Z8 : zF (soF ρ tcR9 (zR κ odCalc a0)) κ κ_8 := Z1.tr (soF_m (fun r z => by unfold tcR9; rcases z with z | z | z <;> omega) Zu)
    obtain ⟨X8, e8, _, _⟩ := odX9_f W Ta0 N0 Z8 tcR9_l X0
    have es2 : zR κ_8 odSolver a0 = (zR κ odSolver a0) := e8 odSolver (Or.inl (by decide)) a0
    have ec2 : zR κ_8 odCalc a0 = (zR κ odCalc a0) := e8 odCalc (Or.inl (by decide)) a0
    have ew2 : zR κ_8 soWhole (zR κ odSolver a0) = (zR κ soWhole (zR κ odSolver a0)) := e8 soWhole (Or.inr (by decide)) _
    have eu2 : zR κ_8 soSum (zR κ odSolver a0) = (zR κ soSum (zR κ odSolver a0)) := e8 soSum (Or.inr (by decide)) _
    have el2 : zR κ_8 soLess (zR κ odSolver a0) = (zR κ soLess (zR κ odSolver a0)) := e8 soLess (Or.inr (by decide)) _
    have ep2 : zR κ_8 soPart (zR κ odSolver a0) = (zR κ soPart (zR κ odSolver a0)) := e8 soPart (Or.inr (by decide)) _
    have eca : zR κ_8 soCalc (zR κ odSolver a0) = (zR κ odCalc a0) := by
      have y := X8.1.2
      rw [es2, ec2] at y
      exact y
    have u1 : zT κ27 (zR κ soWhole (zR κ odSolver a0)) = 8 := Z1.t tW (by decide)
    have u2 : zT κ27 (zR κ soSum (zR κ odSolver a0)) = 8 := Z1.t tS (by decide)
    have u3 : zT κ27 (zR κ soLess (zR κ odSolver a0)) = 8 := Z1.t tL (by decide)
    have w8 := (soF_B (c := 0) W27 u1 Zu (by rw [h1]; unfold unR9; decide)).2.1
    have s8 := (soF_B (c := 0) W27 u2 Zu (by rw [h7]; unfold unR9; decide)).2.1
    have l8 := (soF_B (c := 0) W27 u3 Zu (by rw [h8]; unfold unR9; decide)).2.1
    have et2 : zR κ_8 raTop (zR κ soPart (zR κ odSolver a0)) = zR κ27 raTop (zR κ soPart (zR κ odSolver a0)) := (soF_r9 Zu (by decide)).1
    have eb2 : zR κ_8 raBottom (zR κ soPart (zR κ odSolver a0)) = zR κ27 raBottom (zR κ soPart (zR κ odSolver a0)) := (soF_r9 Zu (by decide)).1
    have m4' : y130_4 = -1 ∨ ((lkN9 κ a0 n9 y130_4 ∧ y130_3.toInt < n9) ∧ (zA κ (zR κ atFirsts (zR κ odAtlas a0)) y130_3.toNatClampNeg).toInt ≤ y130_4.toInt) := by
      rcases m4 with y | y
      · exact Or.inl y
      · exact Or.inr ⟨⟨y.1, m3.2⟩, y.2⟩
    intro W10
    intro M11
    refine ⟨fun c12 => ?_, fun c12 => ?_⟩
    · skip
      intro T13
      refine So_addTerm_c2 W10 T13 ρ ?_ (fun κ_14 q15 => ?_)
      · rw [es2, ew2, eu2, el2, ep2, et2, w8, s8, l8]
        exact ⟨⟨Nu9, Su9⟩, ⟨by omega, by omega⟩, ⟨Nat.lt_of_lt_of_le lw1 (pB9_l (by decide)), Nat.lt_of_lt_of_le tu (by unfold pB9; decide)⟩, Nat.lt_of_lt_of_le sumB b4, L1⟩
      intro W16
      intro M17
      intro x18 hx18
      rw [es2, ew2, eu2, el2, ep2, eca, et2, w8, s8, l8] at q15
      obtain ⟨Za, Na, A1, A2⟩ := q15
      have Zf : zF (soF ρ tcR9 (zR κ odCalc a0)) κ κ_14 := Z8.tr (soF_m (fun r z => by unfold tcR9; rcases z with z | z | z | z | z | z <;> omega) Za)
      have w14 := (soF_B (c := 0) (w := (zR κ soWhole (zR κ odSolver a0))) W10 (Zu.t u1 (by decide)) Za (by rw [h1]; unfold adR9; decide)).2.1
      obtain ⟨bw, bs⟩ := B1 c12
      have tmb : nuN κ_8 (zR κ27 raTop (zR κ soPart (zR κ odSolver a0))) * y130_5.toInt.natAbs * (nuN κ (zR κ soWhole (zR κ odSolver a0)) + 1) ≤ (nuN κ (zR κ soWhole (zR κ odSolver a0)) + 1) * sU9 := tm_u9 tu (by omega)
      rw [bw] at A1 A2
      refine ⟨_, ?_, rfl, ?_⟩
      · rw [hn27, hx18, ix.2]; omega  -- d6
      · refine ⟨rfl, rfl, ⟨Zf, Na⟩, ⟨by rw [w14, w8]; exact D1, ?_⟩, ⟨fun _ => ⟨by rw [w14, w8]; exact bw, ?_⟩, fun z => absurd c12 z⟩, ⟨by rw [hx18, ix.2]; omega, by rw [hx18, ix.2]; omega⟩, ⟨m3.1, m4'⟩, by rw [hx18, ix.2]; exact ⟨by decide, by show (0 : Int) ≤ _; omega⟩⟩
        · by_cases z : 0 < y130_5.toInt
          · rw [(A1 z).2]; exact L1
          · have y0 : y130_5.toInt.natAbs = 0 := by omega
            have q := (A2 z).1
            rw [y0, Nat.mul_zero, Nat.zero_mul, Nat.add_zero] at q
            exact Nat.lt_of_le_of_lt q L1
        · rw [hx18, ix.1]
          by_cases z : 0 < y130_5.toInt
          · exact Nat.le_trans (A1 z).1 (uB_s bs tmb)
          · rw [(A2 z).2]; exact uB_m bs
    · skip
      intro T19
      intro T20
      intro T21
      have b22 : ρ (zR κ_8 raBottom (zR κ soPart (zR κ odSolver a0))) = 22 := (ra_t9 Nu9 h20 (Or.inl rfl)).1.2
      refine Ca_join_c W10 T19 T20 T21 6500 2000 6500 6500 ?_ (fun κ_22 q23 => ?_)
      · have J := jn_p (w := zR κ_8 raBottom (zR κ soPart (zR κ odSolver a0))) Nu9 Su9 b22 (Or.inr (Or.inr (Or.inl rfl))) ⟨by decide, by decide, by decide⟩ (by rw [ew2, w8]; exact Nat.lt_of_lt_of_le lw1 (pB9_l (by decide))) (by rw [eb2]; exact bu)
        rw [es2, ec2, ep2, ← eca]
        exact J
      intro W24
      intro M25
      intro x26 hx26
      rw [es2, ec2, ep2, ← eca] at q23
      have J := jn_q W10 Nu9 Su9 q23
      have Vj := q23.2.2.2
      rw [ew2, w8, eb2] at Vj
      rw [eca] at J
      have Zj := J.2.1
      have s22 := (soF_B (c := 0) (w := (zR κ soSum (zR κ odSolver a0))) W10 (Zu.t u2 (by decide)) Zj (by rw [h7]; unfold jnR9; decide)).2.1
      have l22 := (soF_B (c := 0) (w := (zR κ soLess (zR κ odSolver a0))) W10 (Zu.t u3 (by decide)) Zj (by rw [h8]; unfold jnR9; decide)).2.1
      refine ⟨_, ?_, rfl, ?_⟩
      · rw [hn27, hx26, ix.2]; omega  -- d9
      · refine ⟨rfl, rfl, ⟨Z8.tr (soF_m (fun r z => by unfold tcR9; rcases z with z | z | z <;> omega) Zj), J.1⟩, ⟨?_, by rw [l22, l8]; exact L1⟩, ⟨fun z => absurd z c12, fun _ => by rw [s22, s8]; exact B2 c12⟩, ⟨by rw [hx26, ix.2]; omega, by rw [hx26, ix.2]; omega⟩, ⟨m3.1, m4'⟩, by rw [hx26, ix.2]; exact ⟨by decide, by show (0 : Int) ≤ _; omega⟩⟩
        rw [Vj]
        exact dz9_lcm D1 du
  have hj83 : ∀ (l0 : Nat) (l2 : Int32) (l3 : Int32) (l4 : Int32) (l5 : Int64) (l7 : Int32) (τ : zS), zW C (zn κ) τ → zT τ l0 = 9 → (a0 = l0 ∧ a2 = l2 ∧ κ27 = τ ∧ (x27_4 = l4 ∧ x27_5 = l5 ∧ x27_7 = l7) ∧ (0 ≤ l3.toInt ∧ l3.toInt < n9) ∧ ((zA κ (zR κ atFirsts (zR κ odAtlas a0)) l3.toNatClampNeg).toInt ≤ l4.toInt ∧ l4.toInt < (zA κ (zR κ atFirsts (zR κ odAtlas a0)) (l3.toNatClampNeg + 1)).toInt) ∧ lkN9 κ a0 n9 l4 ∧ x27_7.toInt < (zI κ atNexts (zR κ odAtlas a0)).toInt) → w_Od_throughCell_83 C (zn κ) Q (fun (l0' : Nat) (l2' : Int32) (l3' : Int32) (l4' : Int32) (l5' : Int64) (l7' : Int32) (τ : zS) => ∃ k < n27, (fun (n : Nat) (l0 : Nat) (l2 : Int32) (l3 : Int32) (l4 : Int32) (l5 : Int64) (l7 : Int32) (τ : zS) => n = ((zI κ atNexts (zR κ odAtlas a0)).toInt - l7.toInt).toNat ∧ (a0 = l0 ∧ a2 = l2 ∧ (zF (soF ρ tcR9 (zR κ odCalc a0)) κ τ ∧ nmI ρ τ ∧ soI ρ τ (zR κ odSolver a0)) ∧ (dz9 (nuN τ (zR κ soWhole (zR κ odSolver a0))) P9 ∧ nuN τ (zR κ soLess (zR κ odSolver a0)) < pB9 4000) ∧ ((a2 = 0 → nuN τ (zR κ soWhole (zR κ odSolver a0)) = nuN κ (zR κ soWhole (zR κ odSolver a0)) ∧ nuN τ (zR κ soSum (zR κ odSolver a0)) ≤ uB9 (nuN κ (zR κ soWhole (zR κ odSolver a0))) l7.toNatClampNeg) ∧ (a2 ≠ 0 → nuN τ (zR κ soSum (zR κ odSolver a0)) = 0)) ∧ (0 ≤ l7.toInt ∧ l7.toInt ≤ 20000) ∧ (0 ≤ l3.toInt ∧ (l4 = -1 ∨ ((lkN9 κ a0 n9 l4 ∧ l3.toInt < n9) ∧ (zA κ (zR κ atFirsts (zR κ odAtlas a0)) l3.toNatClampNeg).toInt ≤ l4.toInt))) ∧ (0 ≤ l5.toInt ∧ l5.toInt ≤ 2147483648 * l7.toInt))) k l0' l2' l3' l4' l5' l7' τ) l0 l2 l3 l4 l5 l7 τ := by
    rintro _ _ y83_3 y83_4 y83_5 y83_7 τ83 W83 T83_0 ⟨rfl, rfl, j83⟩
    unfold w_Od_throughCell_83
    obtain ⟨rfl, ⟨rfl, rfl, rfl⟩, m3, ⟨m4, m5⟩, lkx, m7⟩ := j83
    have k3 := cnk m3.1
    obtain ⟨⟨f0, f01, f02⟩, nx, -⟩ := A0.2.2.2.2.2 y83_3.toNatClampNeg (by omega)
    have k4 := cnk (x := x27_4) (by omega)
    have wn := (nx x27_4.toNatClampNeg (by omega) (by omega)).2.2
    have we := at1 atWeights (by decide)
    have lr := ro1 odLinks 20 (by decide +kernel) (by decide) (by decide)
    have i3 := cn1 (x := y83_3) m3.1 (by omega)
    have ix := cn1 (x := x27_7) l7.1 (by omega)
    have sg : zI κ raSign (vU9 κ (zR κ odSolver a0) y83_3.toNatClampNeg) ≠ 0 := by
      obtain ⟨k, h1', h2', h3', h4'⟩ := id lkx
      have ek := fu_9 A0 h1' (show y83_3.toNatClampNeg < n9 by omega) h2' h3' m4 m5
      rw [ek] at h4'
      exact h4'.2.2
    refine ⟨?_, ?_⟩
    · rw [inb_iff, we.2, A0.2.1.1.2]; omega  -- b11
    intro x27 hx27
    rw [we.1] at hx27
    have ju := ju_9 (w := zA κ (zR κ atWeights (zR κ odAtlas a0)) x27_4.toNatClampNeg) l50 l51 l7.1 l7.2 wn
    rw [← hx27] at ju
    refine ⟨?_, ?_⟩
    · rw [inb_iff, lr.2.2.2]; omega  -- b12
    intro x28 hx28
    rw [lr.2.1] at hx28
    have lk4 := lk x27_4 lkx (by omega)
    rw [← hx28] at lk4
    refine ⟨fun c29 => ?_, fun c29 => ?_⟩
    · skip
      refine hj130 _ _ _ _ _ _ _ W83 ?_ ?_
      · exact T83_0  -- t13
      · exact ⟨rfl, rfl, rfl, rfl, m3, Or.inl c29, sg, ju, m7⟩  -- k14
    · skip
      have lk5 := lk4.resolve_left c29
      refine ⟨?_, ?_⟩
      · rw [inb_iff, i3.2, fr1.2, A0.1.1]; omega  -- b15
      refine ⟨fun c30 => ?_, fun c30 => ?_⟩
      · skip
        intro x31 hx31
        refine ⟨_, ?_, rfl, ?_⟩
        · rw [hn27, hx31, ix.2]; omega  -- d16
        · exact ⟨rfl, rfl, ⟨Z1, N1, S1⟩, ⟨D1, L1⟩, ⟨fun z => ⟨(B1 z).1, by rw [hx31, ix.1]; exact uB_m (B1 z).2⟩, B2⟩, ⟨by rw [hx31, ix.2]; omega, by rw [hx31, ix.2]; omega⟩, ⟨m3.1, Or.inr ⟨⟨lk5.1, m3.2⟩, by omega⟩⟩, by rw [hx31, ix.2]; exact ju⟩  -- i17
      · skip
        refine hj130 _ _ _ _ _ _ _ W83 ?_ ?_
        · exact T83_0  -- t18
        · exact ⟨rfl, rfl, rfl, rfl, m3, Or.inr ⟨lk5.1, by omega⟩, sg, ju, m7⟩  -- k19
  refine ⟨fun c32 => ?_, fun c32 => ?_⟩
  · skip
    refine h _ ?_
    · exact ⟨⟨Z1, N1, S1⟩, sumB, D1, L1⟩  -- q20
  · skip
    refine ⟨fun c33 => ?_, fun c33 => ?_⟩
    · skip
      refine h _ ?_
      · exact ⟨⟨Z1, N1, S1⟩, sumB, D1, L1⟩  -- q21
    · skip
      have l4' := l4.resolve_left c33
      rw [lei, nx1] at c32
      unfold w_Od_throughCell_45
      refine ⟨fun n l0 l2 l3 l4 l5 l7 τ => n = ((n9 : Int) - l3.toInt).toNat ∧ (a0 = l0 ∧ a2 = l2 ∧ κ27 = τ ∧ (x27_4 = l4 ∧ x27_5 = l5 ∧ x27_7 = l7) ∧ (0 ≤ l3.toInt ∧ l3.toInt < n9) ∧ (zA κ (zR κ atFirsts (zR κ odAtlas a0)) l3.toNatClampNeg).toInt ≤ l4.toInt), ⟨_, rfl, ?_⟩, ?_⟩
      · exact ⟨rfl, rfl, rfl, ⟨rfl, rfl, rfl⟩, ⟨l30, l4'.1.2⟩, l4'.2⟩  -- j22
      rintro n45 _ _ x45_3 x45_4 x45_5 x45_7 κ45 W45 T45_0 ⟨hn45, rfl, rfl, i45⟩
      obtain ⟨rfl, ⟨rfl, rfl, rfl⟩, m3, m4⟩ := i45
      have k3 := cnk m3.1
      have i3 := cn1 (x := x45_3) m3.1 (by omega)
      refine ⟨fun c34 => ?_, fun c34 => ?_⟩
      · skip
        refine hj83 _ _ _ _ _ _ _ W45 ?_ ?_
        · exact T45_0  -- t23
        · rw [lei, tt1, tot, i3.2] at c34
          refine ⟨rfl, rfl, rfl, ⟨rfl, rfl, rfl⟩, m3, ⟨m4, ?_⟩, l4'.1.1, by omega⟩
          obtain ⟨k, h1', h2', h3', _⟩ := id l4'.1.1
          have q := fm_9 A0 (x45_3.toNatClampNeg + 1) (k + 1) (by omega) (by omega)
          omega
      · skip
        refine ⟨?_, ?_⟩
        · rw [lei, tt1, tot, i3.2] at c34
          rw [inb_iff, i3.2, fr1.2, A0.1.1]; omega
        refine ⟨fun c35 => ?_, fun c35 => ?_⟩
        · skip
          refine hj83 _ _ _ _ _ _ _ W45 ?_ ?_
          · exact T45_0  -- t26
          · rw [fr1.1, i3.1, lti] at c35
            exact ⟨rfl, rfl, rfl, ⟨rfl, rfl, rfl⟩, m3, ⟨m4, c35⟩, l4'.1.1, by omega⟩
        · skip
          intro x36 hx36
          rw [lei, tt1, tot, i3.2] at c34
          rw [fr1.1, i3.1, lti] at c35
          refine ⟨_, ?_, rfl, ?_⟩
          · rw [hn45, hx36, i3.2]; omega  -- d28
          · exact ⟨rfl, rfl, rfl, ⟨rfl, rfl, rfl⟩, ⟨by rw [hx36, i3.2]; omega, by rw [hx36, i3.2]; omega⟩, by rw [hx36, i3.1]; omega⟩  -- i29

end
section
set_option maxHeartbeats 1600000
/-! the class: Odds' edges -/
theorem vsI9_g {C : zC} {n0 a n P ca : Nat} {ρ : Nat → Nat} {R : Nat → Prop} {κ τ : zS} (W : zW C n0 κ) (Ta : zT κ a = 12) (N : nmI ρ κ) (Z : zF (soF ρ R ca) κ τ) (hn : n ≤ 1000) (hR : ∀ r, 100 ≤ r → r < 1000000 → ¬ R r) (V : vsI9 ρ κ a n P) : vsI9 ρ τ a n P := fun k hk => by
  obtain ⟨h1, h2, h3⟩ := V k hk
  have e2 : zR τ soAtlas a = zR κ soAtlas a := Z.r (frS9_n W soF_fr Ta (by decide))
  obtain ⟨e3, e4⟩ := vU9_f W Ta Z
  have d := dvA_f9 W soF_fr Z (ty_soAtlas W Ta) k
  rw [e3, e4]
  refine ⟨h1, h2, ?_⟩
  unfold dvN9
  rw [e2, d]
  exact vsK9_f W N Z h2 (vs_r9 (by omega)) ⟨hR _ (by omega) (by omega), hR _ (by omega) (by omega), hR _ (by omega) (by omega)⟩ h3
/-- numbers that the tables' comparison works with, in order -/
def agI9 (ρ : Nat → Nat) (κ : zS) (a n P : Nat) : Prop := (nmI ρ κ ∧ soI ρ κ (zR κ odSolver a)) ∧ odX9 ρ κ a n P ∧ (tbL9 κ a ∧ (zI κ atNexts (zR κ odAtlas a)).toInt ≤ (zN κ (zR κ odLinks a)) ∧ lkB9 κ κ a n 0) ∧ (dz9 (nuN κ (zR κ soWhole (zR κ odSolver a))) P ∧ nuN κ (zR κ soLess (zR κ odSolver a)) < pB9 4000) ∧ (∀ j u, j < 31 → zQ κ (zR κ odEdges a) j = some u → ρ u = 2000000 + j) ∧ (zR κ atStates (zR κ odAtlas a) ≠ zR κ odGroups a ∧ zR κ atEndings (zR κ odAtlas a) ≠ zR κ odGroups a)
/-- the same, whatever the whole is -/
def agD9 (ρ : Nat → Nat) (κ : zS) (a n P : Nat) : Prop := (nmI ρ κ ∧ soI ρ κ (zR κ odSolver a)) ∧ odX9 ρ κ a n P ∧ (tbL9 κ a ∧ (zI κ atNexts (zR κ odAtlas a)).toInt ≤ (zN κ (zR κ odLinks a)) ∧ lkB9 κ κ a n 0) ∧ (True ∧ nuN κ (zR κ soLess (zR κ odSolver a)) < pB9 4000) ∧ (∀ j u, j < 31 → zQ κ (zR κ odEdges a) j = some u → ρ u = 2000000 + j) ∧ (zR κ atStates (zR κ odAtlas a) ≠ zR κ odGroups a ∧ zR κ atEndings (zR κ odAtlas a) ≠ zR κ odGroups a)
theorem ag_d9 {ρ : Nat → Nat} {κ : zS} {a n P : Nat} (A : agI9 ρ κ a n P) : agD9 ρ κ a n P := ⟨A.1, A.2.1, A.2.2.1, ⟨trivial, A.2.2.2.1.2⟩, A.2.2.2.2⟩
def edG9 (κ : zS) (a m : Nat) : Prop := ∀ j, j < m → ∃ u, zQ κ (zR κ odEdges a) j = some u ∧ nuN κ u < pB9 1502
theorem ag_so9 {C : zC} {n0 a n P : Nat} {ρ : Nat → Nat} {R : Nat → Prop} {κ τ : zS} (W : zW C n0 κ) (Ta : zT κ a = 9) (hR : ∀ r, 100 ≤ r → r < 1000000 → ¬ R r) (A : agD9 ρ κ a n P) (Z : zF (soF ρ R (zR κ odCalc a)) κ τ) (N : nmI ρ τ ∧ soI ρ τ (zR κ odSolver a)) (D : dz9 (nuN τ (zR κ soWhole (zR κ odSolver a))) P) (L : nuN τ (zR κ soLess (zR κ odSolver a)) < pB9 4000) : agI9 ρ τ a n P ∧ (∀ f, f / 100 = 9 ∨ f / 100 = 12 → ∀ b, zR τ f b = zR κ f b) ∧ zQ τ (zR κ odEdges a) = zQ κ (zR κ odEdges a) := by
  have e : ∀ f, f / 100 = 9 ∨ f / 100 = 12 ∨ f / 100 = 3 → ∀ b, zR τ f b = zR κ f b := fun f hf b => (soF_r9 Z ⟨fun y => by rw [y] at hf; revert hf; decide, fun y => by rw [y] at hf; revert hf; decide, fun y => by rw [y] at hf; revert hf; decide, fun y => by rw [y] at hf; revert hf; decide, fun y => by rw [y] at hf; revert hf; decide, fun y => by rw [y] at hf; revert hf; decide, fun y => by rw [y] at hf; revert hf; decide⟩).1
  have ts := ty_odSolver W Ta
  have tA := ty_odAtlas W Ta
  have tc := ty_atCode W tA
  have te := ty_atEndings W tA
  obtain ⟨⟨N0, S0⟩, X, ⟨l1, l2, l3⟩, _, E, hg⟩ := A
  have X9 := X
  obtain ⟨⟨x1, x2⟩, x3, ⟨x4, x5⟩, x6, ⟨x7, x9⟩, x8⟩ := X9
  have en0 : zR κ atEndings (zR κ odAtlas a) ≠ 0 := by
    have l := (W.2.1 _ (show zT κ (zR κ atEndings (zR κ odAtlas a)) ≠ 0 by rw [te]; decide)).1.1
    have p := W.1.1.1
    omega
  have nv := frS9_w (f := soVisits) W soF_fr Z (t := 25) (by decide +kernel) (by decide) ts (by decide) (by decide)
  have eA := e odAtlas (by decide) a
  have eS := e odSolver (by decide) a
  have ga := fun f hf => at_f9 W soF_fr Z tA (f := f) hf
  have X1 : odX9 ρ τ a n P := by
    refine ⟨⟨?_, ?_⟩, ?_, ⟨?_, ?_⟩, ?_, ⟨?_, fun hn => ?_⟩, ?_⟩
    · rw [eS, eA, e soAtlas (by decide)]; exact x1
    · rw [eS, e soCalc (by decide), e odCalc (by decide)]; exact x2
    · rw [e odHeld (by decide)]; exact x3
    · rw [eA]; exact atW_f9 W soF_fr Z tA x4
    · rw [eS, nv.2.2]; exact x5
    · rw [eS]; exact vsI9_g W ts N0 Z x4.2.2.1 hR x6
    · rw [eA, e atCode (by decide)]
      exact co_o9 (g := 0) W soF_o9 Z tc x7
    · rw [eA]
      exact enZ_o9 (g := 0) W soF_o9 Z tA en0 (x9 hn)
    · rw [eA, e atEndings (by decide)]
      exact (ho_o9 (g := 0) W soF_o9 Z te en0).1 x8
  have row : ∀ f t, zr f = some t → 20 ≤ t → f / 100 = 9 → zA τ (zR κ f a) = zA κ (zR κ f a) ∧ zQ τ (zR κ f a) = zQ κ (zR κ f a) ∧ zN τ (zR κ f a) = zN κ (zR κ f a) := fun f t h1 h2 h3 => by
    have T9 : zT κ a = f / 100 := Ta.trans h3.symm
    have r := e f (Or.inl h3) a
    have w := Z.row W h1 h2 T9 (soF_n9 h3)
    rw [r] at w
    have ty := W.r h1 T9
    obtain ⟨c, hc⟩ : ∃ c, t = c + 1 := ⟨t - 1, by omega⟩
    exact ⟨w.1, w.2.2, Z.l (c := c) (ty.trans hc)⟩
  have sg : ∀ k, k < n → zI τ raSign (vU9 τ (zR κ odSolver a) k) = zI κ raSign (vU9 κ (zR κ odSolver a) k) := fun k hk => by
    have v2 := (x6 k hk).2.1
    have hn := x4.2.2.1
    rw [(vU9_f W ts Z).2 k]
    exact Z.i (soF_sg (by rw [v2]; exact hR _ (by omega) (by omega)))
  have ce : ∀ k i, k < n → (cE9 τ a k i ↔ cE9 κ a k i) := fun k i hk => by
    unfold cE9
    rw [eA, eS, sg k hk, (ga atSorts (by decide)).2.1, (ga atChooses (by decide)).2.1, (ga atFirsts (by decide)).2.1, (ga atPlan (by decide)).2.1]
  have ff : zA τ (zR τ atFirsts (zR τ odAtlas a)) = zA κ (zR κ atFirsts (zR κ odAtlas a)) := by rw [eA]; exact (ga atFirsts (by decide)).2.1
  have rh := row odHeads 20 (by decide +kernel) (by decide) (by decide)
  have rl := row odLinks 20 (by decide +kernel) (by decide) (by decide)
  have re := row odEdges 24 (by decide +kernel) (by decide) (by decide)
  have r1 := row odLefts 20 (by decide +kernel) (by decide) (by decide)
  have r2 := row odRights 20 (by decide +kernel) (by decide) (by decide)
  have r3 := row odBases 20 (by decide +kernel) (by decide) (by decide)
  have r4 := row odRanks 20 (by decide +kernel) (by decide) (by decide)
  have r5 := row odCellOf 20 (by decide +kernel) (by decide) (by decide)
  refine ⟨⟨⟨N.1, by rw [eS]; exact N.2⟩, X1, ⟨?_, ?_, fun c hc => ?_, fun x hx hb => ?_⟩, ⟨by rw [eS, e soWhole (by decide)]; exact D, by rw [eS, e soLess (by decide)]; exact L⟩, fun j u hj hu => ?_, ?_⟩, fun f hf b => e f (by omega) b, re.2.1⟩
  · unfold tbL9
    rw [e odLefts (by decide), e odRights (by decide), e odBases (by decide), e odRanks (by decide), e odCellOf (by decide), e odHeads (by decide), e odEdges (by decide), r1.2.2, r2.2.2, r3.2.2, r4.2.2, r5.2.2, rh.2.2, re.2.2]
    exact l1
  · rw [eA, (soF_r9 Z (f := atNexts) (by decide)).2, e odLinks (by decide), rl.2.2]
    exact l2
  · rw [e odHeads (by decide), rh.1]
    rcases l3.1 c hc with y | y
    · exact Or.inl y
    · exact Or.inr ⟨(lkN_e9 ff ce).mpr y.1, y.2⟩
  · rw [e odLinks (by decide), rl.1]
    rcases l3.2 x ((lkN_e9 ff ce).mp hx) hb with y | y
    · exact Or.inl y
    · exact Or.inr ⟨(lkN_e9 ff ce).mpr y.1, y.2⟩
  · rw [e odEdges (by decide), re.2.1] at hu
    exact E j u hj hu
  · rw [eA, e atStates (by decide), e atEndings (by decide), e odGroups (by decide)]
    exact hg
theorem nm_y9 {C : zC} {n0 : Nat} {ρ ρ' : Nat → Nat} {F : Nat → Nat → Prop} {κ τ : zS} (W : zW C n0 κ) (N : nmI ρ κ) (Z : zF F κ τ) (hF : ∀ f b, F f b → zn κ ≤ b ∨ f / 100 = 9) (hr : ∀ b, b < zn κ → ρ' b = ρ b) (h1 : ∀ w, zn κ ≤ w → nmR (ρ' w) → zT τ w = 8 ∧ nuC τ w (capR (ρ' w)) ∧ (ρ' w ≠ 10 → nuI τ w (capR (ρ' w)))) (h2 : ∀ v, zn κ ≤ v → raR (ρ' v) → zT τ v = 11 ∧ ρ' (zR τ raTop v) = ρ' v + 1 ∧ ρ' (zR τ raBottom v) = ρ' v + 2) : nmI ρ' τ := by
  have lt : ∀ x, zT κ x ≠ 0 → x < zn κ := fun x h => (W.2.1 x h).2
  have nf : ∀ f b, b < zn κ → f / 100 ≠ 9 → ¬ F f b := fun f b hb hf z => by
    rcases hF f b z with q | q
    · omega
    · exact hf q
  refine ⟨fun w h => ?_, fun v h => ?_⟩
  · by_cases l : w < zn κ
    · rw [hr w l] at h ⊢
      obtain ⟨t, c, i⟩ := N.1 w h
      have u := nu_z W t Z (nf _ _ l (by decide)) (nf _ _ l (by decide))
      refine ⟨Z.t t (by decide), ?_, fun y => (nuB_z (c := capR (ρ w)) W t Z (nf _ _ l (by decide)) (nf _ _ l (by decide))).2.1 (i y)⟩
      unfold nuC
      rw [u.2.1, u.2.2.2]
      exact c
    · exact h1 w (by omega) h
  · by_cases l : v < zn κ
    · rw [hr v l] at h ⊢
      obtain ⟨t, p, q⟩ := N.2 v h
      have a1 := ty_raTop W t
      have a2 := ty_raBottom W t
      refine ⟨Z.t t (by decide), ?_, ?_⟩
      · rw [Z.r (nf _ _ l (by decide)), hr _ (lt _ (by rw [a1]; decide))]; exact p
      · rw [Z.r (nf _ _ l (by decide)), hr _ (lt _ (by rw [a2]; decide))]; exact q
    · exact h2 v (by omega) h
theorem so_y9 {C : zC} {n0 a : Nat} {ρ ρ' : Nat → Nat} {F : Nat → Nat → Prop} {κ τ : zS} (W : zW C n0 κ) (Ta : zT κ a = 12) (I : soI ρ κ a) (Z : zF F κ τ) (hF : ∀ f b, F f b → zn κ ≤ b ∨ f / 100 = 9) (hr : ∀ b, b < zn κ → ρ' b = ρ b) : soI ρ' τ a := by
  have lt : ∀ x, zT κ x ≠ 0 → x < zn κ := fun x h => (W.2.1 x h).2
  have l0 := lt a (by rw [Ta]; decide)
  have tc := ty_soCalc W Ta
  have lc := lt _ (show zT κ (zR κ soCalc a) ≠ 0 by rw [tc]; decide)
  have nf : ∀ f b, b < zn κ → f / 100 ≠ 9 → ¬ F f b := fun f b hb hf z => by
    rcases hF f b z with q | q
    · omega
    · exact hf q
  have e : ∀ f, f / 100 = 12 → zR τ f a = zR κ f a := fun f hf => Z.r (nf f a l0 (by omega))
  have ec : ∀ f, f / 100 = 4 → zR τ f (zR κ soCalc a) = zR κ f (zR κ soCalc a) := fun f hf => Z.r (nf f _ lc (by omega))
  have tf := ty_caFactors W tc
  have nq := Z.l tf
  obtain ⟨⟨i1, i2, i3, i4, i5, i6, i7⟩, ⟨i8, i9⟩, i10, i11⟩ := I
  have r8 : ∀ x, zT κ x = 8 → ρ' x = ρ x := fun x h => hr x (lt x (by rw [h]; decide))
  have r11 : ∀ x, zT κ x = 11 → ρ' x = ρ x := fun x h => hr x (lt x (by rw [h]; decide))
  unfold soI caN caS
  rw [e soWhole (by decide), e soFactor (by decide), e soScaled (by decide), e soTerm (by decide), e soSum (by decide), e soLess (by decide), e soPart (by decide), e soCalc (by decide), ec caQuotient (by decide), ec caRest (by decide), ec caDivisor (by decide), ec caX (by decide), ec caY (by decide), ec caFactors (by decide), ec caSpare (by decide), nq, r8 _ (ty_soWhole W Ta), r8 _ (ty_soFactor W Ta), r8 _ (ty_soScaled W Ta), r8 _ (ty_soTerm W Ta), r8 _ (ty_soSum W Ta), r8 _ (ty_soLess W Ta), r11 _ (ty_soPart W Ta), r8 _ (ty_caSpare W tc)]
  refine ⟨⟨i1, i2, i3, i4, i5, i6, i7⟩, ⟨i8, i9⟩, fun b hb => ?_, i11⟩
  have q := i10 b hb
  have tb : zT κ b = 8 := by
    rcases hb with h | h | h | h | h <;> rw [h]
    · exact ty_caQuotient W tc
    · exact ty_caRest W tc
    · exact ty_caDivisor W tc
    · exact ty_caX W tc
    · exact ty_caY W tc
  rw [r8 b tb]
  exact q
/-- numbers that are made go into empty places of Odds' edges -/
def zE9 (κ τ : zS) (o : Nat) : Prop := nT9 8 τ + nn9 κ (zR κ odEdges o) ≤ nT9 8 κ + nn9 τ (zR τ odEdges o) ∧ nT9 11 τ ≤ nT9 11 κ
theorem zE9.rf {κ : zS} {o : Nat} : zE9 κ κ o := ⟨Nat.le_refl _, Nat.le_refl _⟩
theorem zE9.tr {κ τ σ : zS} {o : Nat} (h : zE9 κ τ o) (g : zE9 τ σ o) : zE9 κ σ o := by
  obtain ⟨a, b⟩ := h
  obtain ⟨c, d⟩ := g
  exact ⟨by omega, by omega⟩
theorem zE_z9 {C : zC} {n0 o : Nat} {F : Nat → Nat → Prop} {κ τ : zS} (W : zW C n0 κ) (Ta : zT κ o = 9) (Z : zF F κ τ) (h : ∀ b, zn κ ≤ b → ¬ F 0 b) (he : ¬ F odEdges o) : zE9 κ τ o := by
  have n8 := nT_z9 W Z h (t := 8) (by decide)
  have n11 := nT_z9 W Z h (t := 11) (by decide)
  have e := nE_z9 W Ta Z he
  exact ⟨by omega, n11⟩
theorem zE_so9 {C : zC} {n0 o ca : Nat} {ρ : Nat → Nat} {R : Nat → Prop} {κ τ : zS} (W : zW C n0 κ) (Ta : zT κ o = 9) (Z : zF (soF ρ R ca) κ τ) : zE9 κ τ o := zE_z9 W Ta Z (fun b _ => soF_no9 (by decide)) (soF_no9 (by decide))
/-- an edge is made -/
def edF9 (m a : Nat) : Nat → Nat → Prop := fun f b => (f = odEdges ∧ b = a) ∨ m ≤ b
theorem edF9_t {m a g : Nat} : frT9 m a g (edF9 m a) := fun f b z => by
  rcases z with z | z
  · exact Or.inr (Or.inl ⟨z.2, by rw [z.1]; decide⟩)
  · exact Or.inl z
theorem ag_e9 {C : zC} {n0 a n P : Nat} {ρ ρ' : Nat → Nat} {κ τ : zS} (W : zW C n0 κ) (Ta : zT κ a = 9) (A : agI9 ρ κ a n P) (Z : zF (edF9 (zn κ) a) κ τ) (er : zR τ odEdges a = zR κ odEdges a) (hr : ∀ b, b < zn κ → ρ' b = ρ b) (N : nmI ρ' τ) (E' : ∀ j u, j < 31 → zQ τ (zR κ odEdges a) j = some u → ρ' u = 2000000 + j) : agI9 ρ' τ a n P ∧ (∀ f b c, zT κ b = c + 1 → f ≠ odEdges → zR τ f b = zR κ f b) ∧ ∀ w, zT κ w = 8 → nuN τ w = nuN κ w := by
  have Tg := ty_odGroups W Ta
  have ts := ty_odSolver W Ta
  have lt : ∀ x c, zT κ x = c + 1 → x < zn κ := fun x c h => (W.2.1 x (by omega)).2
  have nf : ∀ f b c, zT κ b = c + 1 → f ≠ odEdges → ¬ edF9 (zn κ) a f b := fun f b c hb hf z => by
    have l := lt b c hb
    rcases z with y | y
    · exact hf y.1
    · omega
  have e : ∀ f b c, zT κ b = c + 1 → f ≠ odEdges → zR τ f b = zR κ f b := fun f b c hb hf => Z.r (nf f b c hb hf)
  obtain ⟨⟨N0, S0⟩, X, ⟨l1, l2, l3⟩, ⟨D, L⟩, E, hg⟩ := A
  obtain ⟨X1, ce, e1, g1, s1, s2⟩ := od_t9 W Ta Tg edF9_t Z hg.1 hg.2 X
  have eA := e odAtlas a 8 Ta (by decide)
  have eS := e odSolver a 8 Ta (by decide)
  have nu : ∀ w, zT κ w = 8 → nuN τ w = nuN κ w := fun w tw => (nuB_z (c := 0) W tw Z (nf _ w 7 tw (by decide)) (nf _ w 7 tw (by decide))).2.2.1
  have X2 : odX9 ρ' τ a n P := by
    obtain ⟨x1, x3, x4, x6, x7⟩ := X1
    refine ⟨x1, ?_, x4, fun k hk => ?_, x7⟩
    · have q := e odHeld a 8 Ta (by decide)
      rw [q] at x3 ⊢
      rw [hr _ (lt _ 7 (ty_odHeld W Ta))]
      exact x3
    · obtain ⟨v1, v2, v3⟩ := x6 k hk
      refine ⟨v1, ?_, v3⟩
      have vk := (X.2.2.2.1 k hk).1
      have tu := W.2.2.2.2.1 _ _ _ (ty_soVisits W ts) vk
      have rv := Z.row W (f := soVisits) (t := 25) (by decide +kernel) (by decide) ts (nf soVisits _ 11 ts (by decide))
      have vu : vU9 τ (zR τ odSolver a) k = vU9 κ (zR κ odSolver a) k := by
        rw [eS]
        unfold vU9
        rw [rv.2.2]
      rw [vu] at v2 ⊢
      rw [hr _ (lt _ 10 tu)]
      exact v2
  have row : ∀ f, zr f = some 20 → f / 100 = 9 → zA τ (zR κ f a) = zA κ (zR κ f a) ∧ zN τ (zR κ f a) = zN κ (zR κ f a) := fun f h1 h3 => by
    have hne : f ≠ odEdges := fun y => by rw [y] at h1; exact absurd h1 (by decide +kernel)
    have T9 : zT κ a = f / 100 := Ta.trans h3.symm
    have w := Z.row W h1 (by decide) T9 (nf f a 8 Ta hne)
    rw [e f a 8 Ta hne] at w
    exact ⟨w.1, Z.l (W.r h1 T9)⟩
  have rh := row odHeads (by decide +kernel) (by decide)
  have rl := row odLinks (by decide +kernel) (by decide)
  have r1 := row odLefts (by decide +kernel) (by decide)
  have r2 := row odRights (by decide +kernel) (by decide)
  have r3 := row odBases (by decide +kernel) (by decide)
  have r4 := row odRanks (by decide +kernel) (by decide)
  have r5 := row odCellOf (by decide +kernel) (by decide)
  have ff := (g1 atFirsts (by decide)).1
  have tA := ty_odAtlas W Ta
  refine ⟨⟨⟨N, ?_⟩, X2, ⟨?_, ?_, fun c hc => ?_, fun x hx hb => ?_⟩, ⟨?_, ?_⟩, fun j u hj hu => ?_, ?_⟩, e, nu⟩
  · rw [eS]
    refine so_y9 W ts S0 Z (fun f b z => ?_) hr
    rcases z with y | y
    · exact Or.inr (by rw [y.1]; decide)
    · exact Or.inl y
  · unfold tbL9
    rw [e odLefts a 8 Ta (by decide), e odRights a 8 Ta (by decide), e odBases a 8 Ta (by decide), e odRanks a 8 Ta (by decide), e odCellOf a 8 Ta (by decide), e odHeads a 8 Ta (by decide), er, r1.2, r2.2, r3.2, r4.2, r5.2, rh.2, Z.l (ty_odEdges W Ta)]
    exact l1
  · rw [eA, Z.i (nf atNexts _ 2 tA (by decide)), e odLinks a 8 Ta (by decide), rl.2]
    exact l2
  · rw [e odHeads a 8 Ta (by decide), rh.1]
    rcases l3.1 c hc with y | y
    · exact Or.inl y
    · exact Or.inr ⟨(lkN_e9 ff ce).mpr y.1, y.2⟩
  · rw [e odLinks a 8 Ta (by decide), rl.1]
    rcases l3.2 x ((lkN_e9 ff ce).mp hx) hb with y | y
    · exact Or.inl y
    · exact Or.inr ⟨(lkN_e9 ff ce).mpr y.1, y.2⟩
  · rw [eS, e soWhole _ 11 ts (by decide), nu _ (ty_soWhole W ts)]
    exact D
  · rw [eS, e soLess _ 11 ts (by decide), nu _ (ty_soLess W ts)]
    exact L
  · rw [er] at hu
    exact E' j u hj hu
  · rw [eA, s1, s2, e odGroups a 8 Ta (by decide)]
    exact hg
theorem Od_edge_c {C : zC} {n0 : Nat} {a0 : Nat} {a1 : Int32} {κ : zS} {Q : Nat → zS → Prop} (W : zW C n0 κ) (Ta0 : zT κ a0 = 9) (ρ : Nat → Nat) (n9 P9 : Nat) (hp : agI9 ρ κ a0 n9 P9 ∧ (0 ≤ a1.toInt ∧ a1.toInt < 31)) (h : ∀ (v : Nat) (κ' : zS), ((zF (edF9 (zn κ) a0) κ κ' ∧ zE9 κ κ' a0) ∧ (∃ ρ' : Nat → Nat, (∀ b, b < zn κ → ρ' b = ρ b) ∧ agI9 ρ' κ' a0 n9 P9 ∧ ρ' v = 2000000 + a1.toNatClampNeg) ∧ zQ κ' (zR κ odEdges a0) a1.toNatClampNeg = some v ∧ (zR κ' odEdges a0 = zR κ odEdges a0 ∧ ∀ j u, zQ κ (zR κ odEdges a0) j = some u → zQ κ' (zR κ odEdges a0) j = some u) ∧ (∀ f b c, zT κ b = c + 1 → f ≠ odEdges → zR κ' f b = zR κ f b) ∧ ∀ w, zT κ w = 8 → nuN κ' w = nuN κ w) → Q v κ') : zRun C 2 mOd_edge [.ref a0, .int a1] κ (oR 8 Q noX) := by
  refine Od_edge_run W Ta0 ?_
  replace W := W.lo (Nat.le_trans W.1.2.1 W.1.2.2) (Nat.le_refl (zn κ))
  unfold w_Od_edge_0
  obtain ⟨A0, p0, p1⟩ := hp
  have k1 := cnk p0
  have le0 : zN κ (zR κ odEdges a0) = 31 := A0.2.2.1.1.2.2.2.2.2.2
  have tr := ty_odEdges W Ta0
  have orr := W.o (show zr odEdges = some 24 by decide +kernel) (by decide) Ta0
  have lr := (W.2.1 _ (show zT κ (zR κ odEdges a0) ≠ 0 by rw [tr]; decide)).2
  have l0 := (W.2.1 a0 (by rw [Ta0]; decide)).2
  have hj23 : ∀ (l0 : Nat) (l1 : Int32) (τ : zS), zW C (zn κ) τ → zT τ l0 = 9 → (a0 = l0 ∧ a1 = l1 ∧ (zF (edF9 (zn κ) a0) κ τ ∧ zE9 κ τ a0) ∧ (∃ ρ' : Nat → Nat, (∀ b, b < zn κ → ρ' b = ρ b) ∧ agI9 ρ' τ a0 n9 P9) ∧ (∃ u, zQ τ (zR κ odEdges a0) a1.toNatClampNeg = some u) ∧ (zR τ odEdges a0 = zR κ odEdges a0 ∧ ∀ j u, zQ κ (zR κ odEdges a0) j = some u → zQ τ (zR κ odEdges a0) j = some u) ∧ (∀ f b c, zT κ b = c + 1 → f ≠ odEdges → zR τ f b = zR κ f b) ∧ ∀ w, zT κ w = 8 → nuN τ w = nuN κ w) → w_Od_edge_23 C (zn κ) Q  l0 l1 τ := by
    rintro _ _ τ23 W23 T23_0 ⟨rfl, rfl, j23⟩
    unfold w_Od_edge_23
    obtain ⟨⟨Zj, Kj⟩, ⟨ρ1, h1, A1⟩, ⟨u9, Uj⟩, ⟨ej, Oj⟩, rj, nj⟩ := j23
    refine ⟨?_, ?_⟩
    · rw [inb_iff, ej, Zj.l (c := 23) tr, le0]; omega  -- b1
    refine ex_some ?_ (fun u1 hu1 => ?_)
    · exact ⟨u9, by rw [ej]; exact Uj⟩  -- e2
    refine h _ _ ?_
    · rw [ej] at hu1
      exact ⟨⟨Zj, Kj⟩, ⟨ρ1, h1, A1, A1.2.2.2.2.1 a1.toNatClampNeg u1 (by omega) (by rw [ej]; exact hu1)⟩, hu1, ⟨ej, Oj⟩, rj, nj⟩
  refine ⟨?_, ?_⟩
  · rw [inb_iff, le0]; omega  -- b4
  refine ⟨fun uc2 c2 => ?_, fun c2 => ?_⟩
  · skip
    refine hj23 _ _ _ W ?_ ?_
    · exact Ta0  -- t5
    · exact ⟨rfl, rfl, ⟨zF.rf, zE9.rf⟩, ⟨ρ, fun _ _ => rfl, A0⟩, ⟨uc2, c2⟩, ⟨rfl, fun _ _ z => z⟩, fun _ _ _ _ _ => rfl, fun _ _ => rfl⟩  -- k6
  · skip
    intro κ_3 hκ_3
    intro W4
    intro T5
    refine Nu_init_c W4 T5  ?_ (fun κ_6 q7 => ?_)
    · decide  -- p7
    intro W8
    intro M9
    have n4 : (if (4 : Int32) < (2 : Int32) then (2 : Int32) else 4).toNatClampNeg = 4 := by decide
    rw [n4] at q7
    have A := mk_Nu9 (κ6 := nff κ_6 (zn κ)) W hκ_3 q7 rfl
    have r6 : zR κ_6 nuLimbs (zn κ) = zn κ_3 := by rw [q7]; exact if_pos ⟨rfl, rfl⟩
    refine ⟨?_, ?_⟩
    · refine zOk_8 ?_ ?_
      · rw [r6, q7]
        exact if_pos rfl
      · rw [r6, q7]
        exact if_pos rfl
    intro κ_10 hκ_10
    intro W11
    rw [← hκ_10] at A
    obtain ⟨A1, ⟨A2, A3, A4, A5, A6, A7, A8⟩, A9⟩ := A
    have e10 : zR κ_10 odEdges a0 = zR κ odEdges a0 := A1.r (show ¬ zn κ ≤ a0 by omega)
    refine ⟨?_, ?_⟩
    · rw [inb_iff, A1.l (c := 23) tr, le0]; omega  -- b9
    intro κ_12 hκ_12
    intro W13
    have o10 : zO κ_10 (zR κ odEdges a0) = (odEdges, a0) := by
      have q := (A1.2.2.1 (zR κ odEdges a0) (by rw [tr]; decide) (by rw [orr]; exact fun z => absurd (show odEdges = 0 from congrArg Prod.fst z) (by decide)))
      rw [q]
      exact orr
    have q10 : zQ κ_10 (zR κ odEdges a0) = zQ κ (zR κ odEdges a0) := (A1.2.1 (zR κ odEdges a0) (by rw [tr]; decide) (by rw [orr]; show ¬ zn κ ≤ a0; omega)).2.2.1
    have Zq : zF (edF9 (zn κ) a0) κ κ_12 := (A1.mono (fun _ _ z => Or.inr z)).tr (by rw [hκ_12]; exact zF_uq (by rw [o10]; exact Or.inl ⟨rfl, rfl⟩))
    have e12 : zR κ_12 = zR κ_10 := by rw [hκ_12]; rfl
    have ec12 : zR κ_12 odEdges a0 = zR κ odEdges a0 := by rw [e12]; exact e10
    have q12 : zQ κ_12 (zR κ odEdges a0) = va_up (zQ κ (zR κ odEdges a0)) a1.toNatClampNeg (some (zn κ)) := by
      rw [hκ_12, ← q10]
      exact if_pos rfl
    have N12 : nmI (fun b => if b = zn κ then 2000000 + a1.toNatClampNeg else ρ b) κ_12 := by
      refine nm_y9 W A0.1.1 Zq (fun f b z => ?_) (fun b hb => if_neg (by omega)) (fun w hw hr => ?_) (fun v hv hr => ?_)
      · rcases z with z | z
        · rw [z.1]; exact Or.inr (by decide)
        · exact Or.inl z
      · by_cases e : w = zn κ
        · rw [if_pos e] at hr ⊢
          have nw := nu_new9 (κ := κ_12) (w := w) (n := 4) (by rw [e, e12, A3, hκ_12]; exact A4) (by rw [e, hκ_12]; exact A5) (by decide)
          have cp : 4 ≤ capR (2000000 + a1.toNatClampNeg) := by
            unfold capR
            rw [if_neg (by omega), if_neg (by omega), if_neg (by omega)]
            decide
          have nm := nuI_mono cp nw.1
          exact ⟨by rw [e, hκ_12]; exact A2, nm.1.2.1, fun _ => nm⟩
        · rw [if_neg e] at hr
          exact absurd hr (nm_no9 W A0.1.1 hw).1
      · by_cases e : v = zn κ
        · rw [if_pos e] at hr
          rcases hr with z | z | z <;> omega
        · rw [if_neg e] at hr
          exact absurd hr (nm_no9 W A0.1.1 hv).2
    have G := ag_e9 W Ta0 A0 Zq ec12 (ρ' := fun b => if b = zn κ then 2000000 + a1.toNatClampNeg else ρ b) (fun b hb => if_neg (by omega)) N12 (fun j u hj hu => by
      rw [q12] at hu
      unfold va_up at hu
      show (if u = zn κ then 2000000 + a1.toNatClampNeg else ρ u) = 2000000 + j
      by_cases e : j = a1.toNatClampNeg
      · rw [if_pos e] at hu
        rw [if_pos (Option.some.inj hu).symm, e]
      · rw [if_neg e] at hu
        have tu := W.2.2.2.1 _ _ _ tr hu
        have lu := (W.2.1 u (by rw [tu]; decide)).2
        rw [if_neg (by omega)]
        exact A0.2.2.2.2.1 j u hj hu)
    have Kz : zE9 κ κ_12 a0 := by
      have c10 : ∀ t, nT9 t κ_10 = nT9 t κ + (if 8 = t then 1 else 0) + (if 20 = t then 1 else 0) := fun t => by
        have q := nT_29 (t := t) (κ := κ) (τ := κ_10) A6 A9
        rw [A2, A7] at q
        exact q
      have c12 : ∀ t, nT9 t κ_12 = nT9 t κ_10 := fun t => nT_09 (by rw [hκ_12]; rfl) (fun b _ => by rw [hκ_12]; rfl)
      have cn := nn_u9 (κ := κ) (τ := κ_12) (x := zR κ odEdges a0) (y := zR κ_12 odEdges a0) (i := a1.toNatClampNeg) (u := zn κ) (by rw [ec12]; exact Zq.l (c := 23) tr) (by rw [le0]; omega) c2 (by rw [ec12]; exact q12)
      have d8 := c12 8
      have d11 := c12 11
      rw [c10] at d8 d11
      simp at d8 d11
      unfold zE9
      rw [cn]
      exact ⟨by omega, by omega⟩
    refine hj23 _ _ _ W13 ?_ ?_
    · exact Zq.t Ta0 (by decide)  -- t10
    · refine ⟨rfl, rfl, ⟨Zq, Kz⟩, ⟨_, fun b hb => if_neg (by omega), G.1⟩, ⟨zn κ, ?_⟩, ⟨ec12, fun j u hu => ?_⟩, G.2.1, G.2.2⟩
      · rw [q12]
        exact if_pos rfl
      · rw [q12]
        unfold va_up
        by_cases e : j = a1.toNatClampNeg
        · rw [← e, hu] at c2
          cases c2
        · rw [if_neg e]
          exact hu

theorem Od_edge_c2 {C : zC} {n0 : Nat} {a0 : Nat} {a1 : Int32} {κ : zS} {Q : Nat → zS → Prop} (W : zW C n0 κ) (Ta0 : zT κ a0 = 9) (u9 : Nat) (hp : (zN κ (zR κ odEdges a0)) = 31 ∧ (0 ≤ a1.toInt ∧ a1.toInt < 31) ∧ zQ κ (zR κ odEdges a0) a1.toNatClampNeg = some u9) (h : ∀ (v : Nat) (κ' : zS), (κ = κ' ∧ v = u9) → Q v κ') : zRun C 2 mOd_edge [.ref a0, .int a1] κ (oR 8 Q noX) := by
  refine Od_edge_run W Ta0 ?_
  replace W := W.lo (Nat.le_trans W.1.2.1 W.1.2.2) (Nat.le_refl (zn κ))
  unfold w_Od_edge_0
  obtain ⟨e0, ⟨p0, p1⟩, hu⟩ := hp
  have e1 : zN κ (zR κ odEdges a0) = 31 := e0
  refine ⟨?_, ?_⟩
  · rw [inb_iff, e1]; omega  -- b1
  refine ⟨fun uc1 c1 => ?_, fun c1 => ?_⟩
  · skip
    unfold w_Od_edge_23
    refine ⟨?_, ?_⟩
    · rw [inb_iff, e1]; omega  -- b2
    refine ex_some ?_ (fun u2 hu2 => ?_)
    · exact ⟨_, hu⟩  -- e3
    refine h _ _ ?_
    · exact ⟨rfl, Option.some.inj (hu2.symm.trans hu)⟩  -- q4
  · skip
    intro κ_3 hκ_3
    intro W4
    intro T5
    refine Nu_init_c W4 T5  ?_ (fun κ_6 q7 => ?_)
    · rw [hu] at c1
      cases c1
    intro W8
    intro M9
    refine ⟨?_, ?_⟩
    · rw [hu] at c1
      cases c1
    intro κ_10 hκ_10
    intro W11
    refine ⟨?_, ?_⟩
    · rw [hu] at c1
      cases c1
    intro κ_12 hκ_12
    intro W13
    unfold w_Od_edge_23
    refine ⟨?_, ?_⟩
    · rw [hu] at c1
      cases c1
    refine ex_some ?_ (fun u14 hu14 => ?_)
    · rw [hu] at c1
      cases c1
    refine h _ _ ?_
    · rw [hu] at c1
      cases c1

end
