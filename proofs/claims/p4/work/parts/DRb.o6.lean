set_option maxHeartbeats 1600000
/-! the class: Odds' linkCells -/
/-- a next by which a run comes to an ending -/
def lkN9 (κ : zS) (a n : Nat) (x : Int32) : Prop := ∃ k, k < n ∧ (zA κ (zR κ atFirsts (zR κ odAtlas a)) k).toInt ≤ x.toInt ∧ x.toInt < (zA κ (zR κ atFirsts (zR κ odAtlas a)) (k + 1)).toInt ∧ cE9 κ a k x
/-- cells' nexts are linked, from a place on -/
def lkB9 (κ τ : zS) (a n : Nat) (b : Int) : Prop := (∀ c, c < 1000 → zA τ (zR κ odHeads a) c = -1 ∨ (lkN9 κ a n (zA τ (zR κ odHeads a) c) ∧ b ≤ (zA τ (zR κ odHeads a) c).toInt)) ∧ ∀ x, lkN9 κ a n x → b ≤ x.toInt → zA τ (zR κ odLinks a) x.toNatClampNeg = -1 ∨ (lkN9 κ a n (zA τ (zR κ odLinks a) x.toNatClampNeg) ∧ x.toInt < (zA τ (zR κ odLinks a) x.toNatClampNeg).toInt)
def hlF9 (a : Nat) : Nat → Nat → Prop := fun f b => b = a ∧ (f = odHeads ∨ f = odLinks)
theorem hlF9_t {m a g : Nat} : frT9 m a g (hlF9 a) := fun f b z => Or.inr (Or.inl ⟨z.1, by rcases z.2 with y | y <;> rw [y] <;> decide⟩)
theorem dm1_9 {x : Int32} (h : 0 ≤ x.toInt) : (x + -1).toInt = x.toInt - 1 := by
  have e : (-1 : Int32).toInt = -1 := rfl
  have u := ihi x
  rw [add_i (by rw [e]; omega) (by rw [e]; omega), e]
  omega
theorem Od_linkCells_c {C : zC} {n0 : Nat} {a0 : Nat} {a1 : Int32} {κ : zS} {Q : Int32 → zS → Prop} (W : zW C n0 κ) (Ta0 : zT κ a0 = 9) (ρ : Nat → Nat) (n9 P9 : Nat) (hp : (odX9 ρ κ a0 n9 P9 ∧ tbL9 κ a0 ∧ (zR κ atStates (zR κ odAtlas a0) ≠ zR κ odGroups a0 ∧ zR κ atEndings (zR κ odAtlas a0) ≠ zR κ odGroups a0)) ∧ ((zI κ atNexts (zR κ odAtlas a0)).toInt ≤ (zN κ (zR κ odLinks a0)) ∧ a1.toInt ≤ 1000) ∧ ∀ k i, k < n9 → (zA κ (zR κ atFirsts (zR κ odAtlas a0)) k).toInt ≤ i.toInt → i.toInt < (zA κ (zR κ atFirsts (zR κ odAtlas a0)) (k + 1)).toInt → cE9 κ a0 k i → 0 ≤ (zA κ (zR κ odCellOf a0) (zA κ (zR κ atNumbers (zR κ odAtlas a0)) i.toNatClampNeg).toNatClampNeg).toInt ∧ (zA κ (zR κ odCellOf a0) (zA κ (zR κ atNumbers (zR κ odAtlas a0)) i.toNatClampNeg).toNatClampNeg).toInt < a1.toInt) (h : ∀ (v : Int32) (κ' : zS), (nb v ∧ (zF (hlF9 a0) κ κ' ∧ rwE9 κ κ') ∧ lkB9 κ κ' a0 n9 0) → Q v κ') : zRun C 2 mOd_linkCells [.ref a0, .int a1] κ (oI Q noX) := by
  refine Od_linkCells_run W Ta0 ?_
  replace W := W.lo (Nat.le_trans W.1.2.1 W.1.2.2) (Nat.le_refl (zn κ))
  unfold w_Od_linkCells_0
  obtain ⟨⟨X0, L0, hg⟩, ⟨nl, c10⟩, cc⟩ := hp
  have A0 := X0.2.2.1.1
  have hn := A0.2.2.1
  have l20k := A0.2.1.2.2
  have nx5 := A0.2.2.2.2.1
  have tot := A0.2.2.2.1
  have Tg := ty_odGroups W Ta0
  have eh := X0.2.2.2.2.2
  have lh : zN κ (zR κ odHeads a0) = 1000 := L0.2.2.2.2.2.1
  have nhl := od_ow9 W Ta0 (f := odHeads) (g := odLinks) (by decide +kernel) (by decide +kernel) (by decide) (by decide) (by decide)
  intro T1
  refine Ar_fill_c W T1  (fun κ_2 q3 => ?_)
  have x2 : zA κ_2 (zR κ odHeads a0) = fun k => if 0 ≤ k ∧ k < 1000 then -1 else zA κ (zR κ odHeads a0) k := by
    rw [q3, ← lh]
    exact if_pos rfl
  have Z2 : zF (hlF9 a0) κ κ_2 := by
    rw [q3]
    exact zF_uf (by rw [W.o (show zr odHeads = some 20 by decide +kernel) (by decide) Ta0]; exact ⟨rfl, Or.inl rfl⟩)
  have R2 : zR κ_2 = zR κ := by rw [q3]; rfl
  have N2 : zN κ_2 = zN κ := by rw [q3]; rfl
  have I2 : zI κ_2 = zI κ := by rw [q3]; rfl
  intro W4
  intro M5
  intro x6 hx6
  unfold w_Od_linkCells_21
  refine ⟨fun n l0 l1 l2 τ => n = (l2.toInt + 1).toNat ∧ (a0 = l0 ∧ a1 = l1 ∧ (zF (hlF9 a0) κ τ ∧ rwE9 κ τ) ∧ (-1 ≤ l2.toInt ∧ l2.toInt < n9) ∧ lkB9 κ τ a0 n9 ((zA κ (zR κ atFirsts (zR κ odAtlas a0)) (l2.toInt + 1).toNat).toInt)), ⟨_, rfl, ?_⟩, ?_⟩
  · rw [R2, I2] at hx6
    have ex : x6.toInt = (n9 : Int) - 1 := by
      rw [hx6, sub_i (by rw [tot, t1i]; omega) (by rw [tot, t1i]; omega), tot, t1i]
    refine ⟨rfl, rfl, ⟨Z2, R2, N2, I2⟩, ⟨by omega, by omega⟩, fun c hc => Or.inl ?_, fun x hx hb => ?_⟩
    · rw [x2]
      exact if_pos ⟨Nat.zero_le _, hc⟩
    · obtain ⟨k, h1, h2, h3, _⟩ := hx
      rw [ex, show ((n9 : Int) - 1 + 1).toNat = n9 by omega] at hb
      have q := fm_9 A0 n9 (k + 1) (by omega) (Nat.le_refl _)
      omega
  rintro n21 _ _ x21_2 κ21 W21 T21_0 ⟨hn21, rfl, rfl, i21⟩
  obtain ⟨⟨Z1, R1, N1, I1⟩, l2, D1⟩ := i21
  obtain ⟨X1, _, _, g1, _⟩ := od_t9 W Ta0 Tg hlF9_t Z1 hg.1 hg.2 X0
  refine ⟨fun c7 => ?_, fun c7 => ?_⟩
  · skip
    unfold w_Od_linkCells_112
    refine ⟨fun n l0 l1 l2 τ => n = (l1.toInt - l2.toInt).toNat ∧ (a0 = l0 ∧ a1 = l1 ∧ (zF (hlF9 a0) κ τ ∧ rwE9 κ τ) ∧ 0 ≤ l2.toInt ∧ lkB9 κ τ a0 n9 0), ⟨_, rfl, ?_⟩, ?_⟩
    · rw [lti, t0i] at c7
      rw [show (x21_2.toInt + 1).toNat = 0 by omega] at D1
      refine ⟨rfl, rfl, ⟨Z1, R1, N1, I1⟩, by decide, fun c hc => ?_, fun x hx _ => ?_⟩
      · rcases D1.1 c hc with y | y
        · exact Or.inl y
        · obtain ⟨k, h1, h2, _⟩ := y.1
          have f0 := (A0.2.2.2.2.2 k h1).1.1
          exact Or.inr ⟨y.1, by omega⟩
      · have hx' := hx
        obtain ⟨k, h1, h2, _⟩ := hx'
        have q := fm_9 A0 k 0 (by omega) (by omega)
        exact D1.2 x hx (by omega)
    rintro n112 _ _ x112_2 κ112 W112 T112_0 ⟨hn112, rfl, rfl, i112⟩
    obtain ⟨⟨Z2, R2, N2, I2⟩, l20, D2⟩ := i112
    refine ⟨fun c8 => ?_, fun c8 => ?_⟩
    · skip
      refine h _ _ ?_
      · exact ⟨nb_1, ⟨Z2, R2, N2, I2⟩, D2⟩  -- q3
    · skip
      rw [lei] at c8
      have ix := cn1 (x := x112_2) l20 (by omega)
      refine ⟨?_, ?_⟩
      · rw [inb_iff, R2, N2, lh]; omega  -- b4
      refine ⟨fun c9 => ?_, fun c9 => ?_⟩
      · skip
        intro x10 hx10
        refine ⟨_, ?_, rfl, ?_⟩
        · rw [hn112, hx10, ix.2]; omega  -- d5
        · exact ⟨rfl, rfl, ⟨Z2, R2, N2, I2⟩, by rw [hx10, ix.2]; omega, D2⟩  -- i6
      · skip
        refine h _ _ ?_
        · exact ⟨nb_0, ⟨Z2, R2, N2, I2⟩, D2⟩  -- q7
  · skip
    rw [lti, t0i] at c7
    have k2 := cnk (x := x21_2) (by omega)
    have i1 := cn1 (x := x21_2) (by omega) (by omega)
    have f1 := g1 atFirsts (by decide)
    have hk9 : x21_2.toNatClampNeg < n9 := by omega
    obtain ⟨⟨f0, f01, f02⟩, nx, -⟩ := A0.2.2.2.2.2 x21_2.toNatClampNeg hk9
    rw [show (x21_2.toInt + 1).toNat = x21_2.toNatClampNeg + 1 by omega] at D1
    refine ⟨?_, ?_⟩
    · rw [inb_iff, i1.2, f1.2, A0.1.1]; omega  -- b8
    intro x11 hx11
    unfold w_Od_linkCells_39
    refine ⟨fun n l0 l1 l2 l3 τ => n = (l3.toInt + 1).toNat ∧ (a0 = l0 ∧ a1 = l1 ∧ (zF (hlF9 a0) κ τ ∧ rwE9 κ τ) ∧ (x21_2 = l2 ∧ (zA κ (zR κ atFirsts (zR κ odAtlas a0)) x21_2.toNatClampNeg).toInt - 1 ≤ l3.toInt ∧ l3.toInt < (zA κ (zR κ atFirsts (zR κ odAtlas a0)) (x21_2.toNatClampNeg + 1)).toInt) ∧ lkB9 κ τ a0 n9 (l3.toInt + 1)), ⟨_, rfl, ?_⟩, ?_⟩
    · rw [f1.1, i1.1] at hx11
      have ex : x11.toInt = (zA κ (zR κ atFirsts (zR κ odAtlas a0)) (x21_2.toNatClampNeg + 1)).toInt - 1 := by
        rw [hx11, sub_i (by rw [t1i]; omega) (by rw [t1i]; omega), t1i]
      refine ⟨rfl, rfl, ⟨Z1, R1, N1, I1⟩, ⟨rfl, by omega, by omega⟩, ?_⟩
      rw [ex, show (zA κ (zR κ atFirsts (zR κ odAtlas a0)) (x21_2.toNatClampNeg + 1)).toInt - 1 + 1 = (zA κ (zR κ atFirsts (zR κ odAtlas a0)) (x21_2.toNatClampNeg + 1)).toInt by omega]
      exact D1
    rintro n39 _ _ x39_2 x39_3 κ39 W39 T39_0 ⟨hn39, rfl, rfl, i39⟩
    obtain ⟨⟨Z3, R3, N3, I3⟩, ⟨rfl, l31, l32⟩, D3⟩ := i39
    obtain ⟨X3, ce3, _, g3, _⟩ := od_t9 W Ta0 Tg hlF9_t Z3 hg.1 hg.2 X0
    have f3 := g3 atFirsts (by decide)
    have n3 := g3 atNumbers (by decide)
    refine ⟨?_, ?_⟩
    · rw [inb_iff, f3.2, A0.1.1]; omega  -- b10
    refine ⟨fun c12 => ?_, fun c12 => ?_⟩
    · skip
      intro x13 hx13
      refine ⟨_, ?_, rfl, ?_⟩
      · have e13 : x13.toInt = x21_2.toInt - 1 := by rw [hx13]; exact dm1_9 (Int.not_lt.mp c7)
        rw [hn21]; omega
      · rw [f3.1, lti] at c12
        have e13 : x13.toInt = x21_2.toInt - 1 := by rw [hx13]; exact dm1_9 (Int.not_lt.mp c7)
        refine ⟨rfl, rfl, ⟨Z3, R3, N3, I3⟩, ⟨by omega, by omega⟩, ?_⟩
        rw [show (x13.toInt + 1).toNat = x21_2.toNatClampNeg by omega]
        rw [show x39_3.toInt + 1 = (zA κ (zR κ atFirsts (zR κ odAtlas a0)) x21_2.toNatClampNeg).toInt by omega] at D3
        exact D3
    · skip
      intro T14
      rw [f3.1, lti] at c12
      have k3 := cnk (x := x39_3) (by omega)
      have p39 : 0 ≤ x39_3.toInt := by omega
      refine Od_comesToEnd_c W39 T14 ρ n9 P9 ?_ (fun r15 q17 => ?_)
      · exact ⟨X3, ⟨by omega, by omega⟩, by omega, by rw [n3.2]; omega⟩  -- p13
      intro W18
      intro M19
      have ce9 := ce3 x21_2.toNatClampNeg x39_3 hk9
      have q14 := Iff.trans q17.2 ce9
      refine ⟨fun c20 => ?_, fun c20 => ?_⟩
      · skip
        intro x21 hx21
        refine ⟨_, ?_, rfl, ?_⟩
        · have e21 : x21.toInt = x39_3.toInt - 1 := by rw [hx21]; exact dm1_9 p39
          rw [hn39]; omega
        · have e21 : x21.toInt = x39_3.toInt - 1 := by rw [hx21]; exact dm1_9 p39
          refine ⟨rfl, rfl, ⟨Z3, R3, N3, I3⟩, ⟨rfl, by omega, by omega⟩, fun c hc => ?_, fun x hx hb => ?_⟩
          · rcases D3.1 c hc with y | y
            · exact Or.inl y
            · exact Or.inr ⟨y.1, by omega⟩
          · by_cases z : x.toInt = x39_3.toInt
            · exfalso
              have ex := Int32.toInt_inj.mp z
              obtain ⟨k, h1, h2, h3, h4⟩ := hx
              have ek := fu_9 A0 h1 hk9 h2 h3 (by omega) (by omega)
              rw [ek, ex] at h4
              exact absurd c20 (q14.mpr h4)
            · exact D3.2 x hx (by omega)
      · skip
        have ce := q14.mp c20
        have s1 : zA κ (zR κ atSorts (zR κ odAtlas a0)) x39_3.toNatClampNeg = 1 := ce.1
        have nb3 := (nx x39_3.toNatClampNeg (by omega) (by omega)).2.1 s1
        have ke := cnk nb3.1
        have eM := eh.2.1.2
        have ec : zR κ39 odCellOf a0 = zR κ odCellOf a0 := by rw [R3]
        have eh9 : zR κ39 odHeads a0 = zR κ odHeads a0 := by rw [R3]
        have el9 : zR κ39 odLinks a0 = zR κ odLinks a0 := by rw [R3]
        have wc := Z3.row W (f := odCellOf) (t := 20) (by decide +kernel) (by decide) Ta0 (fun z => absurd z.2 (by decide))
        rw [R3] at wc
        have cl := cc x21_2.toNatClampNeg x39_3 hk9 (by omega) (by omega) ce
        have kc := cnk cl.1
        have lkn : lkN9 κ a0 n9 x39_3 := ⟨x21_2.toNatClampNeg, hk9, by omega, by omega, ce⟩
        refine ⟨?_, ?_⟩
        · rw [inb_iff, n3.2]; omega  -- b16
        refine ⟨?_, ?_⟩
        · rw [n3.1, inb_iff, ec, N3, L0.2.2.2.2.1]; omega  -- b17
        intro x22 hx22
        rw [n3.1, ec, wc.1] at hx22
        rw [← hx22] at cl kc
        refine ⟨?_, ?_⟩
        · rw [inb_iff, eh9, N3, lh]; omega  -- b18
        refine ⟨?_, ?_⟩
        · rw [inb_iff, el9, N3]; omega  -- b19
        intro κ_23 hκ_23
        intro W24
        rw [el9, eh9] at hκ_23
        have r23 : zR κ_23 = zR κ := by rw [hκ_23]; exact R3
        have n23 : zN κ_23 = zN κ := by rw [hκ_23]; exact N3
        refine ⟨?_, ?_⟩
        · rw [inb_iff, r23, n23, lh]; omega  -- b20
        intro κ_25 hκ_25
        intro W26
        intro x27 hx27
        rw [r23] at hκ_25
        have xh : zA κ_25 (zR κ odHeads a0) = upd (zA κ39 (zR κ odHeads a0)) x22.toNatClampNeg x39_3 := by
          rw [hκ_25]
          refine (if_pos rfl).trans ?_
          have q : zA κ_23 (zR κ odHeads a0) = zA κ39 (zR κ odHeads a0) := by
            rw [hκ_23]
            exact if_neg nhl
          show upd (zA κ_23 (zR κ odHeads a0)) _ _ = _
          rw [q]
        have xl : zA κ_25 (zR κ odLinks a0) = upd (zA κ39 (zR κ odLinks a0)) x39_3.toNatClampNeg (zA κ39 (zR κ odHeads a0) x22.toNatClampNeg) := by
          rw [hκ_25]
          refine (if_neg (Ne.symm nhl)).trans ?_
          rw [hκ_23]
          exact if_pos rfl
        have oh := W39.o (show zr odHeads = some 20 by decide +kernel) (by decide) T39_0
        have ol := W39.o (show zr odLinks = some 20 by decide +kernel) (by decide) T39_0
        rw [eh9] at oh
        rw [el9] at ol
        have Z23 : zF (hlF9 a0) κ κ_23 := Z3.tr (by rw [hκ_23]; exact zF_ua (by rw [ol]; exact ⟨rfl, Or.inr rfl⟩))
        have o23 : zO κ_23 = zO κ39 := by rw [hκ_23]; rfl
        have Z25 : zF (hlF9 a0) κ κ_25 := Z23.tr (by rw [hκ_25]; exact zF_ua (by rw [o23, oh]; exact ⟨rfl, Or.inl rfl⟩))
        refine ⟨_, ?_, rfl, ?_⟩
        · have e27 : x27.toInt = x39_3.toInt - 1 := by rw [hx27]; exact dm1_9 p39
          rw [hn39]; omega
        · have e27 : x27.toInt = x39_3.toInt - 1 := by rw [hx27]; exact dm1_9 p39
          refine ⟨rfl, rfl, ⟨Z25, by rw [hκ_25]; exact r23, by rw [hκ_25]; exact n23, by rw [hκ_25, hκ_23]; exact I3⟩, ⟨rfl, by omega, by omega⟩, fun c hc => ?_, fun x hx hb => ?_⟩
          · rw [xh]
            unfold upd
            by_cases z : c = x22.toNatClampNeg
            · rw [if_pos z]
              exact Or.inr ⟨lkn, by omega⟩
            · rw [if_neg z]
              rcases D3.1 c hc with y | y
              · exact Or.inl y
              · exact Or.inr ⟨y.1, by omega⟩
          · have x0 : 0 ≤ x.toInt := by
              obtain ⟨k, h1, h2, _⟩ := id hx
              have f9 := (A0.2.2.2.2.2 k h1).1.1
              omega
            have kx := cnk x0
            rw [xl]
            unfold upd
            by_cases z : x.toInt = x39_3.toInt
            · have ex := Int32.toInt_inj.mp z
              rw [ex, if_pos rfl]
              rcases D3.1 x22.toNatClampNeg (by omega) with y | y
              · exact Or.inl y
              · exact Or.inr ⟨y.1, by omega⟩
            · rw [if_neg (by omega)]
              exact D3.2 x hx (by omega)
