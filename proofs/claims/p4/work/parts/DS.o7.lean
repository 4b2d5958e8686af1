set_option maxHeartbeats 1600000
/-! the class: Odds' makeRows -/
def odU9 (κ : zS) (a : Nat) : Prop := (zN κ (zR κ odLefts a)) = 0 ∧ (zN κ (zR κ odRights a)) ≤ 1 ∧ (zN κ (zR κ odBases a)) ≤ 1 ∧ (zN κ (zR κ odRanks a)) ≤ 1 ∧ (zN κ (zR κ odCellOf a)) ≤ 1 ∧ (zN κ (zR κ odHeads a)) ≤ 1 ∧ (zN κ (zR κ odEdges a)) = 0
theorem nE_z9 {C : zC} {n0 o : Nat} {F : Nat → Nat → Prop} {κ τ : zS} (W : zW C n0 κ) (Ta : zT κ o = 9) (Z : zF F κ τ) (he : ¬ F odEdges o) : nn9 τ (zR τ odEdges o) = nn9 κ (zR κ odEdges o) :=
  nn_s9 (τ := τ) (κ := κ) (y := zR τ odEdges o) (x := zR κ odEdges o) (by rw [Z.r he]; exact Z.l (c := 23) (ty_odEdges W Ta)) (Z.row W (f := odEdges) (t := 24) (by decide +kernel) (by decide) Ta he).2.2
/-- edges are kept, or made where none were -/
def eO9 (κ τ : zS) (a : Nat) : Prop := (∀ j u, zQ τ (zR τ odEdges a) j = some u → zQ κ (zR κ odEdges a) j = some u) ∧ nn9 κ (zR κ odEdges a) ≤ nn9 τ (zR τ odEdges a)
theorem eO_z9 {C : zC} {n0 a : Nat} {F : Nat → Nat → Prop} {κ τ σ : zS} (W : zW C n0 τ) (T : zT τ a = 9) (Z : zF F τ σ) (n : ¬ F odEdges a) (h : eO9 κ τ a) : eO9 κ σ a := by
  have q := (Z.row W (f := odEdges) (t := 24) (by decide +kernel) (by decide) T n).2.2
  exact ⟨fun j u z => h.1 j u (by rw [← q]; exact z), by rw [nE_z9 W T Z n]; exact h.2⟩
def mrF9 (a : Nat) : Nat → Nat → Prop := fun f b => b = a ∧ 906 ≤ f ∧ f < 914
theorem wS_ln9 {n o : Nat} (h0 : o < 20000) (h : n = 20000 ∨ 2 * o + 2 ≤ n) : n + wS 912 o ≤ wS 912 n ∧ 4 + wC 912 o ≤ wC 912 n := by
  have c : cap9 912 = 20000 := by decide
  have w1 : ∀ m, wS 912 m = 2 * m + (if m = 20000 then m else 0) := fun m => by
    unfold wS
    rw [if_neg (show ¬ (912 : Nat) = 0 by decide), if_neg (show ¬ (912 : Nat) = 605 by decide), if_neg (show ¬ (912 : Nat) = 800 by decide), c]
  have w2 : ∀ m, wC 912 m = 2 * m + (if m = 20000 then 8 else 0) := fun m => by
    unfold wC
    rw [if_neg (show ¬ (912 : Nat) = 0 by decide), if_neg (show ¬ (912 : Nat) = 605 by decide), if_neg (show ¬ (912 : Nat) = 800 by decide), c]
  rw [w1, w1, w2, w2, if_neg (show ¬ o = 20000 by omega), if_neg (show ¬ o = 20000 by omega)]
  by_cases z : n = 20000
  · rw [if_pos z, if_pos z]; omega
  · rw [if_neg z, if_neg z]; omega
theorem Od_makeRows_c {C : zC} {n0 : Nat} {a0 : Nat} {κ : zS} {Q : zS → Prop} (W : zW C n0 κ) (Ta0 : zT κ a0 = 9)  (hp : (odU9 κ a0 ∨ tbL9 κ a0) ∧ (zN κ (zR κ odLinks a0)) ≤ 20000 ∧ (0 ≤ (zI κ atNexts (zR κ odAtlas a0)).toInt ∧ (zI κ atNexts (zR κ odAtlas a0)).toInt ≤ 20000)) (h : ∀ (κ' : zS), (zF (mrF9 a0) κ κ' ∧ tbL9 κ' a0 ∧ ((zI κ atNexts (zR κ odAtlas a0)).toInt ≤ (zN κ' (zR κ' odLinks a0)) ∧ (zN κ' (zR κ' odLinks a0)) ≤ 20000) ∧ eO9 κ κ' a0) → Q κ') : zRun C 1 mOd_makeRows [.ref a0] κ (oV Q noX) := by
  refine Od_makeRows_run W Ta0 ?_
  replace W := W.lo (Nat.le_trans W.1.2.1 W.1.2.2) (Nat.le_refl (zn κ))
  unfold w_Od_makeRows_0
  obtain ⟨U0, l20, n0', n20⟩ := hp
  have tl := ty_odLinks W Ta0
  have tA := ty_odAtlas W Ta0
  have hj71 : ∀ (l0 : Nat) (τ : zS), zW C (zn κ) τ → zT τ l0 = 9 → (a0 = l0 ∧ zF (mrF9 a0) κ τ ∧ tbL9 τ a0 ∧ (zR τ odLinks a0 = zR κ odLinks a0 ∧ zR τ odAtlas a0 = (zR κ odAtlas a0) ∧ zI τ = zI κ) ∧ eO9 κ τ a0) → w_Od_makeRows_71 C (zn κ) Q  l0 τ := by
    rintro _ τ71 W71 T71_0 ⟨rfl, j71⟩
    unfold w_Od_makeRows_71
    obtain ⟨Z1, L1, ⟨e1, e2, e3⟩, E1⟩ := j71
    have nl : zN τ71 (zR τ71 odLinks a0) = zN κ (zR κ odLinks a0) := by rw [e1]; exact Z1.l tl
    refine ⟨fun c1 => ?_, fun c1 => ?_⟩
    · skip
      refine h _ ?_
      · rw [lei, e2, e3, nl, ofn_i (by omega)] at c1
        exact ⟨Z1, L1, ⟨by rw [nl]; exact c1, by rw [nl]; exact l20⟩, E1⟩
    · skip
      rw [lei, e2, e3, nl, ofn_i (by omega)] at c1
      obtain ⟨nn, hnn⟩ : ∃ nn, nn = (if (20000 : Int32) < 2 * zI τ71 atNexts (zR τ71 odAtlas a0) then (20000 : Int32) else 2 * zI τ71 atNexts (zR τ71 odAtlas a0)) := ⟨_, rfl⟩
      rw [← hnn]
      rw [e2, e3] at hnn
      have t20 : (20000 : Int32).toInt = 20000 := rfl
      have em : ((2 : Int32) * zI κ atNexts (zR κ odAtlas a0)).toInt = 2 * (zI κ atNexts (zR κ odAtlas a0)).toInt := by
        rw [mul_i (by rw [t2i]; omega) (by rw [t2i]; omega), t2i]
      have nt : (zI κ atNexts (zR κ odAtlas a0)).toInt ≤ nn.toInt ∧ nn.toInt ≤ 20000 ∧ (nn.toInt = 20000 ∨ nn.toInt = 2 * (zI κ atNexts (zR κ odAtlas a0)).toInt) := by
        rw [hnn]
        by_cases z : (20000 : Int32) < 2 * zI κ atNexts (zR κ odAtlas a0)
        · rw [if_pos z, t20]; exact ⟨n20, Int.le_refl _, Or.inl rfl⟩
        · rw [if_neg z, em]
          rw [lti, t20, em] at z
          exact ⟨by omega, by omega, Or.inr rfl⟩
      have kn := cnk (x := nn) (by omega)
      refine ⟨?_, ?_⟩
      · exact ⟨by rw [lei, t0i]; omega, by omega⟩  -- b2
      intro κ_2 hκ_2
      intro W3
      refine ⟨?_, ?_⟩
      · rw [hκ_2]; exact if_pos rfl  -- b3
      intro κ_4 hκ_4
      intro W5
      refine h _ ?_
      · have w := wS_ln9 (n := nn.toNatClampNeg) (o := zN κ (zR κ odLinks a0)) (by omega) (by omega)
        have G := we_gr (f := odLinks) (c := a0) W71 (show zr odLinks = some 20 by decide +kernel) (by decide) T71_0 hκ_2 hκ_4 (by rw [nl]; exact w.1) (by rw [nl]; exact w.2)
        obtain ⟨Zg, Ig, Rg, rg, ng, og⟩ := G
        have rr : ∀ f, f ≠ odLinks → zR κ_4 f a0 = zR τ71 f a0 := fun f hf => Rg f a0 (fun z => hf z.1)
        have ll : zN κ_4 (zR κ_4 odLinks a0) = nn.toNatClampNeg := by rw [rg]; exact ng
        refine ⟨Z1.tr (Zg.mono (fun f b z => ⟨z.2, by rw [z.1]; decide⟩)), ?_, ⟨by rw [ll]; omega, by rw [ll]; omega⟩, eO_z9 W71 T71_0 Zg (fun z => absurd z.1 (by decide)) E1⟩
        unfold tbL9
        rw [rr odLefts (by decide), rr odRights (by decide), rr odBases (by decide), rr odRanks (by decide), rr odCellOf (by decide), rr odHeads (by decide), rr odEdges (by decide)]
        rw [Zg.l (ty_odLefts W71 T71_0), Zg.l (ty_odRights W71 T71_0), Zg.l (ty_odBases W71 T71_0), Zg.l (ty_odRanks W71 T71_0), Zg.l (ty_odCellOf W71 T71_0), Zg.l (ty_odHeads W71 T71_0), Zg.l (ty_odEdges W71 T71_0)]
        exact L1
  refine ⟨fun c6 => ?_, fun c6 => ?_⟩
  · skip
    refine hj71 _ _ W ?_ ?_
    · exact Ta0  -- t5
    · refine ⟨rfl, zF.rf, ?_, ⟨rfl, rfl, rfl⟩, fun _ _ h => h, Nat.le_refl _⟩
      rcases U0 with y | y
      · exact absurd (by rw [y.1]; rfl) c6
      · exact y
  · skip
    have U : odU9 κ a0 := by
      rcases U0 with y | y
      · exact y
      · rw [y.1] at c6
        exact absurd c6 (by decide)
    obtain ⟨L0, L1, L2, L3, L4, L5, L6⟩ := U
    replace L0 : zN κ (zR κ odLefts a0) ≤ 1 := by omega
    have L7 : zN κ (zR κ odEdges a0) = 0 := L6
    replace L6 : zN κ (zR κ odEdges a0) ≤ 1 := by omega
    refine ⟨?_, ?_⟩
    · exact ⟨by decide, by decide⟩  -- b7
    intro κ_7 hκ_7
    intro W8
    refine ⟨?_, ?_⟩
    · rw [hκ_7]; exact if_pos rfl  -- b8
    intro κ_9 hκ_9
    intro W10
    have J0 := mkJ_s (f := odLefts) (t := 20) (n := 3000) W W Ta0 (mkJ.rf) (show zr odLefts = some 20 by decide +kernel) (by decide) rfl (by decide) (by decide) L0 (by decide) hκ_7 hκ_9 W10
    refine ⟨?_, ?_⟩
    · exact ⟨by decide, by decide⟩  -- b9
    intro κ_11 hκ_11
    intro W12
    refine ⟨?_, ?_⟩
    · rw [hκ_11]; exact if_pos rfl  -- b10
    intro κ_13 hκ_13
    intro W14
    have J1 := mkJ_s (f := odRights) (t := 20) (n := 3000) W W10 Ta0 (J0) (show zr odRights = some 20 by decide +kernel) (by decide) rfl (by decide) (by decide) L1 (by decide) hκ_11 hκ_13 W14
    refine ⟨?_, ?_⟩
    · exact ⟨by decide, by decide⟩  -- b11
    intro κ_15 hκ_15
    intro W16
    refine ⟨?_, ?_⟩
    · rw [hκ_15]; exact if_pos rfl  -- b12
    intro κ_17 hκ_17
    intro W18
    have J2 := mkJ_s (f := odBases) (t := 20) (n := 3000) W W14 Ta0 (J1) (show zr odBases = some 20 by decide +kernel) (by decide) rfl (by decide) (by decide) L2 (by decide) hκ_15 hκ_17 W18
    refine ⟨?_, ?_⟩
    · exact ⟨by decide, by decide⟩  -- b13
    intro κ_19 hκ_19
    intro W20
    refine ⟨?_, ?_⟩
    · rw [hκ_19]; exact if_pos rfl  -- b14
    intro κ_21 hκ_21
    intro W22
    have J3 := mkJ_s (f := odRanks) (t := 20) (n := 3000) W W18 Ta0 (J2) (show zr odRanks = some 20 by decide +kernel) (by decide) rfl (by decide) (by decide) L3 (by decide) hκ_19 hκ_21 W22
    refine ⟨?_, ?_⟩
    · exact ⟨by decide, by decide⟩  -- b15
    intro κ_23 hκ_23
    intro W24
    refine ⟨?_, ?_⟩
    · rw [hκ_23]; exact if_pos rfl  -- b16
    intro κ_25 hκ_25
    intro W26
    have J4 := mkJ_s (f := odCellOf) (t := 20) (n := 1000) W W22 Ta0 (J3) (show zr odCellOf = some 20 by decide +kernel) (by decide) rfl (by decide) (by decide) L4 (by decide) hκ_23 hκ_25 W26
    refine ⟨?_, ?_⟩
    · exact ⟨by decide, by decide⟩  -- b17
    intro κ_27 hκ_27
    intro W28
    refine ⟨?_, ?_⟩
    · rw [hκ_27]; exact if_pos rfl  -- b18
    intro κ_29 hκ_29
    intro W30
    have J5 := mkJ_s (f := odHeads) (t := 20) (n := 1000) W W26 Ta0 (J4) (show zr odHeads = some 20 by decide +kernel) (by decide) rfl (by decide) (by decide) L5 (by decide) hκ_27 hκ_29 W30
    refine ⟨?_, ?_⟩
    · exact ⟨by decide, by decide⟩  -- b19
    intro κ_31 hκ_31
    intro W32
    refine ⟨?_, ?_⟩
    · rw [hκ_31]; exact if_pos rfl  -- b20
    intro κ_33 hκ_33
    intro W34
    have J6 := mkJ_s (f := odEdges) (t := 24) (n := 31) W W30 Ta0 (J5) (show zr odEdges = some 24 by decide +kernel) (by decide) rfl (by decide) (by decide) L6 (by decide) hκ_31 hκ_33 W34
    refine hj71 _ _ W34 ?_ ?_
    · exact J6.1.t Ta0 (by decide)  -- t21
    · have q := J6.2.2.2.2
      have re : zR κ_33 odEdges a0 = zn κ_29 := by rw [hκ_33]; exact if_pos ⟨rfl, rfl⟩
      have rq : zQ κ_33 (zn κ_29) = fun _ => none := by
        rw [hκ_33]
        show zQ κ_31 (zn κ_29) = _
        rw [hκ_31]
        exact if_pos rfl
      refine ⟨rfl, J6.1.mono (fun f b z => ⟨z.1, ?_⟩), ⟨(q (odLefts, 3000) (by decide)).1, (q (odRights, 3000) (by decide)).1, (q (odBases, 3000) (by decide)).1, (q (odRanks, 3000) (by decide)).1, (q (odCellOf, 1000) (by decide)).1, (q (odHeads, 1000) (by decide)).1, (q (odEdges, 31) (by decide)).1⟩, ⟨J6.2.2.1 odLinks a0 (fun z => absurd z.2 (by decide)), J6.2.2.1 odAtlas a0 (fun z => absurd z.2 (by decide)), J6.2.1⟩, fun j u h => ?_, by unfold nn9; rw [L7]; exact Nat.zero_le _⟩
      · have y := z.2
        have m : ∀ g, g ∈ [odEdges, odHeads, odCellOf, odRanks, odBases, odRights, odLefts] → 906 ≤ g ∧ g < 914 := by decide
        exact m f y
      · rw [re, rq] at h
        cases h
