set_option maxHeartbeats 1600000
/-! the class: Atlas's survey, discover -/
abbrev hpF (a : Nat) : Nat → Nat → Prop := fun f x => x = a ∧ (f = atHopeless ∨ f = atRings ∨ f = atGreatest)
theorem atW_hp {C : zC} {n0 a n : Nat} {κ τ : zS} (W : zW C n0 κ) (T : zT κ a = 3) (Z : zF (hpF a) κ τ) (R : zR τ = zR κ) (N : zN τ = zN κ) (A : atW κ a n) : atW τ a n := by
  have ne := (at_ne W T).1
  obtain ⟨A1, A2, A3, A4, A5, A6⟩ := A
  have iS : zI τ hoTotal (zR κ atStates a) = zI κ hoTotal (zR κ atStates a) := Z.i (fun z => ne.2.1 z.1)
  have iE : zI τ hoTotal (zR κ atEndings a) = zI κ hoTotal (zR κ atEndings a) := Z.i (fun z => ne.2.2 z.1)
  have iN : zI τ atNexts a = zI κ atNexts a := Z.i (fun z => absurd z.2 (by decide))
  have rw9 : ∀ f, f ∈ atRf → f ≠ atHopeless → zA τ (zR κ f a) = zA κ (zR κ f a) := fun f hf hn => by
    obtain ⟨⟨t, h1, h2⟩, h3⟩ := atRf_r f hf
    have nf : ¬ hpF a f a := fun z => by
      rcases z.2 with y | y | y
      · exact hn y
      · rw [y] at hf; exact absurd hf (by decide)
      · rw [y] at hf; exact absurd hf (by decide)
    have q := (Z.row W h1 h2 (T.trans h3.symm) nf).1
    rw [R] at q
    exact q
  refine ⟨by unfold atM; rw [R, N]; exact A1, by unfold atL; rw [R, N]; exact A2, A3, by rw [R, iS]; exact A4, by rw [iN, R, N]; exact A5, fun k hk => ?_⟩
  unfold exK
  rw [R, iS, iE, iN, rw9 atFirsts (by decide) (by decide), rw9 atTotals (by decide) (by decide), rw9 atChooses (by decide) (by decide), rw9 atSorts (by decide) (by decide), rw9 atNumbers (by decide) (by decide), rw9 atWeights (by decide) (by decide)]
  exact A6 k hk
/-- a web with its knots -/
def weS (κ : zS) (w n : Nat) : Prop := weM κ w ∧ weKn κ w n ∧ wfO n ((zN κ (zR κ weTargets w))) (zA κ (zR κ weFirsts w)) (zA κ (zR κ weTargets w)) ∧ (zN κ (zR κ weTargets w)) ≤ 20000
theorem we_z {C : zC} {n0 w f : Nat} {F : Nat → Nat → Prop} {κ τ : zS} (W : zW C n0 κ) (T : zT κ w = 14) (Z : zF F κ τ) (hF : ∀ g, ¬ F g w) (hf : f ∈ weRf) : zR τ f w = zR κ f w ∧ zA τ (zR κ f w) = zA κ (zR κ f w) ∧ zN τ (zR κ f w) = zN κ (zR κ f w) := by
  obtain ⟨⟨t, h1, h2⟩, h3⟩ := weRf_r f hf
  have T9 := T.trans h3.symm
  have ty := W.r h1 T9
  have t1 : zT κ (zR κ f w) = (t - 1) + 1 := by omega
  have q := (Z.row W h1 h2 T9 (hF f)).1
  rw [Z.r (hF f)] at q
  exact ⟨Z.r (hF f), q, Z.l t1⟩
theorem weM_z {C : zC} {n0 w : Nat} {F : Nat → Nat → Prop} {κ τ : zS} (W : zW C n0 κ) (T : zT κ w = 14) (Z : zF F κ τ) (hF : ∀ g, ¬ F g w) : (weM κ w → weM τ w) ∧ (weU κ w → weU τ w) ∧ (weL κ w → weL τ w) := by
  have g := fun f hf => we_z W T Z hF (f := f) hf
  have h : ∀ f, f ∈ weRf → zN τ (zR τ f w) = zN κ (zR κ f w) := fun f hf => by rw [(g f hf).1]; exact (g f hf).2.2
  refine ⟨fun M => ?_, fun M => ?_, fun M => ?_⟩
  · unfold weM
    rw [h weFirsts (by decide), h weBackFirsts (by decide), h weOpen (by decide), h weKnotFirsts (by decide), h weKnotOf (by decide), h weOrder (by decide), h weSeen (by decide), h weLow (by decide), h weCursor (by decide), h wePath (by decide), h weHeap (by decide)]
    exact M
  · unfold weU
    rw [h weFirsts (by decide), h weBackFirsts (by decide), h weOpen (by decide), h weKnotFirsts (by decide), h weKnotOf (by decide), h weOrder (by decide), h weSeen (by decide), h weLow (by decide), h weCursor (by decide), h wePath (by decide), h weHeap (by decide)]
    exact M
  · unfold weL
    rw [h weTargets (by decide), h weSources (by decide), h weEdges (by decide)]
    exact M
theorem weS_z {C : zC} {n0 w n : Nat} {F : Nat → Nat → Prop} {κ τ : zS} (W : zW C n0 κ) (T : zT κ w = 14) (Z : zF F κ τ) (hF : ∀ g, ¬ F g w) (S : weS κ w n) : weS τ w n := by
  obtain ⟨S1, S2, S3, S4⟩ := S
  have g := fun f hf => we_z W T Z hF (f := f) hf
  refine ⟨(weM_z W T Z hF).1 S1, ?_, ?_, ?_⟩
  · unfold weKn
    rw [(g weKnotFirsts (by decide)).1, (g weKnotFirsts (by decide)).2.1, (g weKnotOf (by decide)).1, (g weKnotOf (by decide)).2.1, (g weOrder (by decide)).1, (g weOrder (by decide)).2.1, Z.i (hF weKnots)]
    exact S2
  · rw [(g weTargets (by decide)).1, (g weTargets (by decide)).2.1, (g weTargets (by decide)).2.2, (g weFirsts (by decide)).1, (g weFirsts (by decide)).2.1]
    exact S3
  · rw [(g weTargets (by decide)).1, (g weTargets (by decide)).2.2]
    exact S4
abbrev svF (κ : zS) (a : Nat) : Nat → Nat → Prop := fun f x => hpF a f x ∨ x = zR κ atWeb a
theorem At_survey_c {C : zC} {n0 : Nat} {a0 : Nat} {κ : zS} {Q : zS → Prop} (W : zW C n0 κ) (Ta0 : zT κ a0 = 3) (m9 : Nat) (hp : ((weU κ (zR κ atWeb a0) ∨ weM κ (zR κ atWeb a0)) ∧ weL κ (zR κ atWeb a0)) ∧ atW κ a0 m9) (h : ∀ (κ' : zS), (zF (svF κ a0) κ κ' ∧ (weM κ' (zR κ atWeb a0) ∧ weL κ' (zR κ atWeb a0)) ∧ atW κ' a0 m9 ∧ zR κ' atCode a0 = zR κ atCode a0) → Q κ') : zRun C 3 mAt_survey [.ref a0] κ (oV Q noX) := by
  refine At_survey_run W Ta0 ?_
  replace W := W.lo (Nat.le_trans W.1.2.1 W.1.2.2) (Nat.le_refl (zn κ))
  unfold w_At_survey_0
  have nw : zR κ atWeb a0 ≠ a0 := fun z => by
    have t := ty_atWeb W Ta0
    rw [z, Ta0] at t
    exact absurd t (by decide)
  intro T1
  intro T2
  refine We_weave_c W T1 T2 m9 ?_ (fun κ_3 q4 => ?_)
  · exact ⟨hp.1.1, hp.1.2, hp.2⟩  -- p1
  have rw3 : zR κ_3 atWeb a0 = zR κ atWeb a0 := q4.1.r (fun z => nw z.symm)
  have T3 : zT κ_3 a0 = 3 := q4.1.t Ta0 (by decide)
  have Tw3 : zT κ_3 (zR κ atWeb a0) = 14 := q4.1.t (ty_atWeb W Ta0) (by decide)
  obtain ⟨G1, G2, G3, G4, G5⟩ := q4.2.1
  intro W5
  intro M6
  intro T7
  refine We_knot_c W5 T7 m9 ?_ (fun κ_8 q9 => ?_)
  · rw [rw3]
    exact ⟨G1.1, G2, G3, G1.2.2.2⟩
  rw [rw3] at q9
  have E8 := q9.1
  have T8 : zT κ_8 a0 = 3 := E8.1.t T3 (by decide)
  have Tw8 : zT κ_8 (zR κ atWeb a0) = 14 := E8.1.t Tw3 (by decide)
  have w8 : zR κ_8 atWeb a0 = zR κ atWeb a0 := by rw [E8.2.1]; exact rw3
  have S8 : weS κ_8 (zR κ atWeb a0) m9 := ⟨weM_K E8 G1.1, q9.2, by rw [E8.2.1, E8.2.2, kn_r W5 Tw3 E8 (f := weFirsts) (by decide) (by decide), kn_r W5 Tw3 E8 (f := weTargets) (by decide) (by decide)]; exact G3, by rw [E8.2.1, E8.2.2]; exact G1.2.2.2⟩
  have L8 : weL κ_8 (zR κ atWeb a0) := by unfold weL; rw [E8.2.1, E8.2.2]; exact G1.2
  have A8 : atW κ_8 a0 m9 := atW_E W5 Tw3 T3 (E8.1.mono (fun f x z => z.1)) q4.2.2
  have M8 := A8.1
  have nS := A8.2.2.2.1
  have n1 := A8.2.2.1
  intro W10
  intro M11
  unfold w_At_survey_18
  refine ⟨fun n l0 l1 τ => n = (1000 - l1.toInt).toNat ∧ (a0 = l0 ∧ zF (hpF a0) κ_8 τ ∧ zR τ = zR κ_8 ∧ zN τ = zN κ_8 ∧ 0 ≤ l1.toInt), ⟨_, rfl, ?_⟩, ?_⟩
  · exact ⟨rfl, zF.rf, rfl, rfl, by decide⟩  -- j3
  rintro n18 _ x18_1 κ18 W18 T18_0 ⟨hn18, rfl, i18⟩
  obtain ⟨Z18, R18, N18, k18⟩ := i18
  have kn18 := cnk k18
  have tS : zI κ18 hoTotal (zR κ18 atStates a0) = zI κ_8 hoTotal (zR κ_8 atStates a0) := by rw [R18]; exact Z18.i (fun z => (at_ne W10 T8).1.2.1 z.1)
  have hj51 : ∀ (l0 : Nat) (l1 : Int32) (s0 : Nat) (s1 : Int32) (s2 : Int32) (τ : zS), zW C (zn κ) τ → zT τ l0 = 3 → zT τ s0 = 23 → (a0 = l0 ∧ κ18 = τ ∧ s0 = zR κ_8 atHopeless a0 ∧ x18_1 = l1 ∧ x18_1 = s1 ∧ x18_1.toInt < 1000) → w_At_survey_51 C (zn κ) Q (fun (l0' : Nat) (l1' : Int32) (τ : zS) => ∃ k < n18, (fun (n : Nat) (l0 : Nat) (l1 : Int32) (τ : zS) => n = (1000 - l1.toInt).toNat ∧ (a0 = l0 ∧ zF (hpF a0) κ_8 τ ∧ zR τ = zR κ_8 ∧ zN τ = zN κ_8 ∧ 0 ≤ l1.toInt)) k l0' l1' τ) l0 l1 s0 s1 s2 τ := by
    rintro _ y51_1 y51_s0 y51_s1 y51_s2 τ51 W51 T51_0 T51_1 ⟨rfl, j51⟩
    unfold w_At_survey_51
    obtain ⟨rfl, rfl, rfl, rfl, lt⟩ := j51
    refine ⟨?_, ?_⟩
    · have l := M8.2.2.2.2.2
      rw [N18, inb_iff]; omega
    intro κ_12 hκ_12
    intro W13
    intro x14 hx14
    refine ⟨_, ?_, rfl, ?_⟩
    · have e := cn1 k18 (by omega)
      rw [hn18, hx14, e.2]; omega
    · have e := cn1 k18 (by omega)
      have o := atRf_o W18 T18_0 (f := atHopeless) (by decide)
      rw [R18] at o
      refine ⟨rfl, Z18.tr (by rw [hκ_12]; exact zF_ua (by rw [o]; exact ⟨rfl, Or.inl rfl⟩)), by rw [hκ_12]; exact R18, by rw [hκ_12]; exact N18, by rw [hx14, e.2]; omega⟩
  refine ⟨fun c15 => ?_, fun c15 => ?_⟩
  · skip
    unfold w_At_survey_60
    refine ⟨fun n l0 l1 τ => n = (1000 - l1.toInt).toNat ∧ (a0 = l0 ∧ zF (hpF a0) κ_8 τ ∧ zR τ = zR κ_8 ∧ zN τ = zN κ_8 ∧ 0 ≤ l1.toInt), ⟨_, rfl, ?_⟩, ?_⟩
    · exact ⟨rfl, Z18, R18, N18, by decide⟩  -- j7
    rintro n60 _ x60_1 κ60 W60 T60_0 ⟨hn60, rfl, i60⟩
    obtain ⟨Z60, R60, N60, k60⟩ := i60
    have kn60 := cnk k60
    have w60 : zR κ60 atWeb a0 = zR κ atWeb a0 := by rw [R60]; exact w8
    have S60 := weS_z W10 Tw8 Z60 (fun g z => nw z.1) S8
    refine ⟨fun c16 => ?_, fun c16 => ?_⟩
    · skip
      refine h _ ?_
      · have A9 := atW_hp W10 T8 Z60 R60 N60 A8
        refine ⟨((q4.1.mono (fun f x z => Or.inr z)).tr (E8.1.mono (fun f x z => Or.inr z.1))).tr (Z60.mono (fun f x z => Or.inl z)), ⟨S60.1, ?_⟩, A9, ?_⟩
        · exact (weM_z W10 Tw8 Z60 (fun g z => nw z.1)).2.2 L8
        · rw [R60, E8.2.1]; exact q4.1.r (fun z => nw z.symm)
    · skip
      intro T17
      rw [lei, w60] at c16
      have kb := S60.2.1.1
      have e := cn1 k60 (by omega)
      refine We_isRing_c W60 T17 m9 ?_ (fun r18 q20 => ?_)
      · rw [w60]
        exact ⟨S60.1, n1, S60.2.1, by omega, S60.2.2.1, S60.2.2.2⟩
      intro W21
      intro M22
      refine ⟨fun c23 => ?_, fun c23 => ?_⟩
      · skip
        intro x24 hx24
        refine ⟨_, ?_, rfl, ?_⟩
        · rw [hn60, hx24, e.2]; omega  -- d10
        · exact ⟨rfl, Z60, R60, N60, by rw [hx24, e.2]; omega⟩  -- i11
      · skip
        intro κ_25 hκ_25
        intro W26
        intro T27
        have Z25 : zF (hpF a0) κ_8 κ_25 := Z60.tr (by rw [hκ_25]; exact zF_ui ⟨rfl, Or.inr (Or.inl rfl)⟩)
        have R25 : zR κ_25 = zR κ_8 := by rw [hκ_25]; exact R60
        have N25 : zN κ_25 = zN κ_8 := by rw [hκ_25]; exact N60
        have w25 : zR κ_25 atWeb a0 = zR κ atWeb a0 := by rw [R25]; exact w8
        have S25 := weS_z W10 Tw8 Z25 (fun g z => nw z.1) S8
        have k25 : zI κ_25 weKnots (zR κ atWeb a0) = zI κ60 weKnots (zR κ atWeb a0) := by rw [hκ_25]; rfl
        refine We_sizeOf_c W26 T27 m9 ?_ (fun r28 q30 => ?_)
        · rw [w25, k25]
          exact ⟨S25.1, n1, S25.2.1, by omega⟩
        intro W31
        intro M32
        intro κ_33 hκ_33
        intro W34
        intro x35 hx35
        refine ⟨_, ?_, rfl, ?_⟩
        · rw [hn60, hx35, e.2]; omega  -- d13
        · exact ⟨rfl, Z25.tr (by rw [hκ_33]; exact zF_ui ⟨rfl, Or.inr (Or.inr rfl)⟩), by rw [hκ_33]; exact R25, by rw [hκ_33]; exact N25, by rw [hx35, e.2]; omega⟩  -- i14
  · skip
    rw [lei, tS] at c15
    refine ⟨?_, ?_⟩
    · have l := (weS_z W10 Tw8 Z18 (fun g z => nw z.1) S8).1.2.2.1
      have w18 : zR κ18 atWeb a0 = zR κ atWeb a0 := by rw [R18]; exact w8
      rw [w18, inb_iff]; omega
    refine ⟨fun c36 => ?_, fun c36 => ?_⟩
    · skip
      refine hj51 _ _ _ _ _ _ W18 ?_ ?_ ?_
      · exact T18_0  -- t16
      · exact ty_atHopeless W18 T18_0  -- t17
      · exact ⟨rfl, rfl, by rw [R18], rfl, rfl, by omega⟩  -- k18
    · skip
      refine hj51 _ _ _ _ _ _ W18 ?_ ?_ ?_
      · exact T18_0  -- t19
      · exact ty_atHopeless W18 T18_0  -- t20
      · exact ⟨rfl, rfl, by rw [R18], rfl, rfl, by omega⟩  -- k21

abbrev ds0 (κ : zS) (a : Nat) : Nat → Nat → Prop := fun f x => (x = a ∧ 304 ≤ f) ∨ x = zR κ atMachine a ∨ x = zR κ atStates a ∨ x = zR κ atEndings a
abbrev dsF (κ : zS) (a : Nat) : Nat → Nat → Prop := fun f x => ds0 κ a f x ∨ x = zR κ atWeb a
/-- the atlas at rest -/
def atI (κ : zS) (a : Nat) : Prop := ((atU κ a ∨ atM κ a) ∧ atL κ a ∧ atH κ a ∧ zR κ atStates a ≠ zR κ atEndings a) ∧ maL κ (zR κ atMachine a) ∧ ((weU κ (zR κ atWeb a) ∨ weM κ (zR κ atWeb a)) ∧ weL κ (zR κ atWeb a)) ∧ nb (zI κ atExplored a) ∧ (zI κ atExplored a ≠ 0 → ∃ n, atW κ a n)
def dsI (κ τ : zS) (a c : Nat) (m k : Int32) : Prop := zF (ds0 κ a) κ τ ∧ ldA τ a ∧ exU9 τ a k.toNatClampNeg ∧ (0 < k.toNatClampNeg → (zA τ (zR τ atFirsts a) k.toNatClampNeg).toInt = (zI τ atNexts a).toInt) ∧ 0 ≤ k.toInt ∧ (zI τ hoTotal (zR τ atStates a)).toInt ≤ m.toInt ∧ zI τ atExplored a = 0 ∧ zR τ atCode a = c
theorem ldA_0 {C : zC} {n0 a : Nat} {κ τ : zS} (W : zW C n0 κ) (T : zT κ a = 3) (A : ldA κ a) (Z : zF (fun _ x => x = zR κ atMachine a ∨ x = zR κ atStates a ∨ x = zR κ atEndings a) κ τ) (H1 : hoI τ (zR κ atStates a) 1000 142 2048) (H2 : hoI τ (zR κ atEndings a) 1000 35 2048) (R : atR τ (zR κ atMachine a)) : ldA τ a := by
  have n := at_ne W T
  have nf : ∀ f, ¬ (fun _ x => x = zR κ atMachine a ∨ x = zR κ atStates a ∨ x = zR κ atEndings a : Nat → Nat → Prop) f a := fun f z => by
    rcases z with z | z | z
    · exact n.1.1 z.symm
    · exact n.1.2.1 z.symm
    · exact n.1.2.2 z.symm
  have r : ∀ f, zR τ f a = zR κ f a := fun f => Z.r (nf f)
  have i : ∀ f, zI τ f a = zI κ f a := fun f => Z.i (nf f)
  have rw9 : ∀ f, f ∈ atRf → zN τ (zR κ f a) = zN κ (zR κ f a) := fun f hf => by
    obtain ⟨⟨t, h1, h2⟩, h3⟩ := atRf_r f hf
    have ty := W.r h1 (T.trans h3.symm)
    have t1 : zT κ (zR κ f a) = (t - 1) + 1 := by omega
    exact Z.l t1
  obtain ⟨A1, A2, A3, A4, A5, A6⟩ := A
  refine ⟨?_, ?_, ⟨?_, ?_⟩, ?_, ?_, ?_⟩
  · unfold atM
    rw [r, r, r, r, r, r, rw9 atFirsts (by decide), rw9 atTotals (by decide), rw9 atGains (by decide), rw9 atPlan (by decide), rw9 atChooses (by decide), rw9 atHopeless (by decide)]
    exact A1
  · unfold atL
    rw [r, r, r, rw9 atSorts (by decide), rw9 atNumbers (by decide), rw9 atWeights (by decide)]
    exact A2
  · rw [r]; exact H1
  · rw [r]; exact H2
  · rw [r]; exact R
  · rw [i, r, rw9 atNumbers (by decide)]; exact A5
  · rw [r, r]; exact A6
theorem maL_zF {C : zC} {n0 m : Nat} {F : Nat → Nat → Prop} {κ τ : zS} (Z : zF F κ τ) (W : zW C n0 κ) (T : zT κ m = 7) (hF : ∀ f, ¬ F f m) (H : maL κ m) : maL τ m := by
  unfold maL
  rw [Z.r (hF maMemory), Z.r (hF maStack), Z.r (hF maWorked), Z.r (hF maValues), Z.r (hF maWeights), Z.l (ty_maMemory W T), Z.l (ty_maStack W T), Z.l (ty_maWorked W T), Z.l (ty_maValues W T), Z.l (ty_maWeights W T)]
  exact H
/-- a store was entered -/
theorem ldA_h {C : zC} {n0 a h : Nat} {κ τ : zS} (W : zW C n0 κ) (T : zT κ a = 3) (A : ldA κ a) (hh : h = zR κ atStates a ∨ h = zR κ atEndings a) (Z : zF (hoF h) κ τ) (H1 : hoI τ (zR κ atStates a) 1000 142 2048) (H2 : hoI τ (zR κ atEndings a) 1000 35 2048) : ldA τ a := by
  have n := at_ne W T
  have Tm := ty_atMachine W T
  have Tc := ty_maCode W Tm
  have Th : zT κ h = 6 := by
    rcases hh with rfl | rfl
    · exact ty_atStates W T
    · exact ty_atEndings W T
  have nm : ∀ f, ¬ hoF h f (zR κ atMachine a) := fun f e => by
    have e := e.1
    rw [e, Th] at Tm
    exact absurd Tm (by decide)
  have nc : ∀ f, ¬ hoF h f (zR κ maCode (zR κ atMachine a)) := fun f e => by
    have e := e.1
    rw [e, Th] at Tc
    exact absurd Tc (by decide)
  refine ldA_0 W T A (Z.mono (fun f x q => ?_)) H1 H2 (atR_zF Z W Tm nm nc A.2.2.2.1)
  rcases hh with rfl | rfl
  · exact Or.inr (Or.inl q.1)
  · exact Or.inr (Or.inr q.1)
theorem At_discover_c {C : zC} {n0 : Nat} {a0 : Nat} {a1 : Nat} {a2 : Int32} {κ : zS} {Q : Int32 → zS → Prop} (W : zW C n0 κ) (Ta0 : zT κ a0 = 3) (Ta1 : zT κ a1 = 5)  (hp : atI κ a0 ∧ coI κ a1 ∧ (1 ≤ a2.toInt ∧ a2.toInt ≤ 1000)) (h : ∀ (v : Int32) (κ' : zS), (zF (dsF κ a0) κ κ' ∧ atI κ' a0 ∧ zR κ' atCode a0 = a1) → Q v κ') : zRun C 6 mAt_discover [.ref a0, .ref a1, .int a2] κ (oI Q noX) := by
  refine At_discover_run W Ta0 Ta1 ?_
  replace W := W.lo (Nat.le_trans W.1.2.1 W.1.2.2) (Nat.le_refl (zn κ))
  unfold w_At_discover_0
  have nw : zR κ atWeb a0 ≠ a0 := fun z => by
    have t := ty_atWeb W Ta0
    rw [z, Ta0] at t
    exact absurd t (by decide)
  have Tw := ty_atWeb W Ta0
  have Tm := ty_atMachine W Ta0
  have Ts := ty_atStates W Ta0
  have Te := ty_atEndings W Ta0
  have w1 : zR κ atWeb a0 ≠ zR κ atMachine a0 := fun z => by rw [z, Tm] at Tw; exact absurd Tw (by decide)
  have w2 : zR κ atWeb a0 ≠ zR κ atStates a0 := fun z => by rw [z, Ts] at Tw; exact absurd Tw (by decide)
  have w3 : zR κ atWeb a0 ≠ zR κ atEndings a0 := fun z => by rw [z, Te] at Tw; exact absurd Tw (by decide)
  have wd : ∀ g, ¬ ds0 κ a0 g (zR κ atWeb a0) := fun g z => by
    rcases z with z | z | z | z
    · exact nw z.1
    · exact w1 z
    · exact w2 z
    · exact w3 z
  have ne := at_ne W Ta0
  have ad : ∀ g, g < 304 → ¬ ds0 κ a0 g a0 := fun g hg z => by
    rcases z with z | z | z | z
    · have := z.2
      omega
    · exact ne.1.1 z.symm
    · exact ne.1.2.1 z.symm
    · exact ne.1.2.2 z.symm
  obtain ⟨⟨I1, I2, I3, I4⟩, I5, I6, I7, I8⟩ := hp.1
  have hj137 : ∀ (l0 : Nat) (τ : zS), zW C (zn κ) τ → zT τ l0 = 3 → (a0 = l0 ∧ ∃ m9 : Nat, zF (ds0 κ a0) κ τ ∧ ldA τ a0 ∧ atW τ a0 m9 ∧ zI τ atExplored a0 = 0 ∧ zR τ atCode a0 = a1) → w_At_discover_137 C (zn κ) Q  l0 τ := by
    rintro _ τ137 W137 T137_0 ⟨rfl, j137⟩
    unfold w_At_discover_137
    intro T1
    obtain ⟨m9, Z137, A137, W9a, x137, c137⟩ := j137
    have wt : zR τ137 atWeb a0 = zR κ atWeb a0 := Z137.r (ad atWeb (by decide))
    have V := weM_z W Tw Z137 wd
    refine At_survey_c W137 T1 m9 ?_ (fun κ_2 q3 => ?_)
    · rw [wt]
      exact ⟨⟨I6.1.elim (fun z => Or.inl (V.2.1 z)) (fun z => Or.inr (V.1 z)), V.2.2 I6.2⟩, W9a⟩
    intro W4
    intro M5
    intro κ_6 hκ_6
    intro W7
    refine h _ _ ?_
    · have n9 := at_ne W137 T137_0
      have Tw9 := ty_atWeb W137 T137_0
      have Tm9 := ty_atMachine W137 T137_0
      have Tc9 := ty_maCode W137 Tm9
      have Ts9 := ty_atStates W137 T137_0
      have Te9 := ty_atEndings W137 T137_0
      have sv : ∀ x c, zT τ137 x = c → c ≠ 3 → c ≠ 14 → ∀ f, ¬ svF τ137 a0 f x := fun x c hx h3 h14 f z => by
        rcases z with z | z
        · rw [z.1, T137_0] at hx
          exact h3 hx.symm
        · rw [z, Tw9] at hx
          exact h14 hx.symm
      have nwa : a0 ≠ zR τ137 atWeb a0 := fun z => by rw [← z, T137_0] at Tw9; exact absurd Tw9 (by decide)
      have ra : ∀ f, zR κ_2 f a0 = zR τ137 f a0 ∨ hpF a0 f a0 := fun f => by
        by_cases z : hpF a0 f a0
        · exact Or.inr z
        · exact Or.inl (q3.1.r (fun y => y.elim z (fun y => nwa y)))
      have rS : zR κ_2 atStates a0 = zR τ137 atStates a0 := (ra atStates).resolve_right (fun z => absurd z.2 (by decide))
      have rE : zR κ_2 atEndings a0 = zR τ137 atEndings a0 := (ra atEndings).resolve_right (fun z => absurd z.2 (by decide))
      have rM : zR κ_2 atMachine a0 = zR τ137 atMachine a0 := (ra atMachine).resolve_right (fun z => absurd z.2 (by decide))
      have rW : zR κ_2 atWeb a0 = zR τ137 atWeb a0 := (ra atWeb).resolve_right (fun z => absurd z.2 (by decide))
      have H1 := hoI_zF q3.1 W137 Ts9 (sv _ _ Ts9 (by decide) (by decide)) A137.2.2.1.1
      have H2 := hoI_zF q3.1 W137 Te9 (sv _ _ Te9 (by decide) (by decide)) A137.2.2.1.2
      have Lm := maL_zF q3.1 W137 Tm9 (sv _ _ Tm9 (by decide) (by decide)) A137.2.2.2.1.1.1
      have x6 : zI κ_6 atExplored a0 = 1 := by rw [hκ_6]; exact if_pos ⟨rfl, rfl⟩
      have Z6 : zF (dsF κ a0) κ_2 κ_6 := by rw [hκ_6]; exact zF_ui (Or.inl (Or.inl ⟨rfl, by decide⟩))
      have R6 : zR κ_6 = zR κ_2 := by rw [hκ_6]; rfl
      have A6 : atW κ_6 a0 m9 := by rw [hκ_6]; exact q3.2.2.1
      refine ⟨((Z137.mono (fun f x z => Or.inl z)).tr (q3.1.mono (fun f x z => ?_))).tr Z6, ⟨⟨Or.inr A6.1, A6.2.1, ⟨?_, ?_⟩, ?_⟩, ?_, ⟨Or.inr ?_, ?_⟩, by rw [x6]; exact nb_1, fun _ => ⟨m9, A6⟩⟩, ?_⟩
      · rcases z with z | z
        · refine Or.inl (Or.inl ⟨z.1, ?_⟩)
          rcases z.2 with y | y | y <;> rw [y] <;> decide
        · exact Or.inr (z.trans wt)
      · rw [R6, rS, hκ_6]; exact H1
      · rw [R6, rE, hκ_6]; exact H2
      · rw [R6, rS, rE]; exact A137.2.2.2.2.2
      · rw [R6, rM, hκ_6]; exact Lm
      · rw [R6, rW, hκ_6]; exact q3.2.1.1
      · rw [R6, rW, hκ_6]; exact q3.2.1.2
      · rw [R6, q3.2.2.2]; exact c137
  have hh104 : ∀ (l0 : Nat) (l2 : Int32) (l3 : Int32) (τ : zS), zW C (zn κ) τ → zT τ l0 = 3 → (a0 = l0 ∧ a2 = l2 ∧ dsI κ τ a0 a1 a2 l3) → w_At_discover_104 C (zn κ) Q  l0 l2 l3 τ := by
    intro z0 z2 z3 τi Wi _ hinit
    unfold w_At_discover_104
    refine ⟨fun n l0 l2 l3 τ => n = (1000 - l3.toInt).toNat ∧ (a0 = l0 ∧ a2 = l2 ∧ dsI κ τ a0 a1 a2 l3), ⟨_, rfl, hinit⟩, ?_⟩
    clear hinit
    rintro n104 _ _ x104_3 κ104 W104 T104_0 ⟨hn104, rfl, rfl, i104⟩
    obtain ⟨Z104, A104, E104, F104, k104, m104, x104, c104⟩ := i104
    have kn := cnk k104
    have t0 := A104.2.2.1.1.2.1.1
    refine ⟨fun c8 => ?_, fun c8 => ?_⟩
    · skip
      refine hj137 _ _ W104 ?_ ?_
      · exact T104_0  -- t3
      · rw [lei] at c8
        exact ⟨rfl, (zI κ104 hoTotal (zR κ104 atStates a0)).toInt.toNat, Z104, A104, ⟨A104.1, A104.2.1, by omega, by omega, A104.2.2.2.2.1.2, fun j hj => (E104 j (by omega)).1⟩, x104, c104⟩
    · skip
      refine ⟨fun c9 => ?_, fun c9 => ?_⟩
      · skip
        refine hj137 _ _ W104 ?_ ?_
        · exact T104_0  -- t5
        · rw [lei] at c8 c9
          exact ⟨rfl, (zI κ104 hoTotal (zR κ104 atStates a0)).toInt.toNat, Z104, A104, ⟨A104.1, A104.2.1, by omega, by omega, A104.2.2.2.2.1.2, fun j hj => (E104 j (by omega)).1⟩, x104, c104⟩
      · skip
        intro T10
        refine At_expand_c W104 T10  ?_ (fun r11 κ_12 q13 => ?_)
        · rw [lei] at c8 c9
          exact ⟨A104, by omega, E104, F104⟩
        rw [lei] at c8 c9
        have e := cn1 k104 (by omega)
        have n4 := at_ne W104 T104_0
        have rm : zR κ104 atMachine a0 = zR κ atMachine a0 := Z104.r (ad atMachine (by decide))
        have rs : zR κ104 atStates a0 = zR κ atStates a0 := Z104.r (ad atStates (by decide))
        have re : zR κ104 atEndings a0 = zR κ atEndings a0 := Z104.r (ad atEndings (by decide))
        have Z12 : zF (ds0 κ a0) κ κ_12 := Z104.tr (q13.2.1.mono (fun f x z => by
          rcases z with ⟨z, y⟩ | z | z | z
          · refine Or.inl ⟨z, ?_⟩
            rcases y with y | y | y | y | y | y | y | y <;> rw [y] <;> decide
          · exact Or.inr (Or.inl (z.trans rm))
          · exact Or.inr (Or.inr (Or.inl (z.trans rs)))
          · exact Or.inr (Or.inr (Or.inr (z.trans re)))))
        have nx : ∀ f, f < 306 → ¬ exF κ104 a0 f a0 := fun f hf z => by
          rcases z with ⟨z, y⟩ | z | z | z
          · rcases y with y | y | y | y | y | y | y | y <;> rw [y] at hf <;> exact absurd hf (by decide)
          · exact n4.1.1 z.symm
          · exact n4.1.2.1 z.symm
          · exact n4.1.2.2 z.symm
        have x12 : zI κ_12 atExplored a0 = 0 := (q13.2.1.i (nx atExplored (by decide))).trans x104
        have c12 : zR κ_12 atCode a0 = a1 := (q13.2.1.r (nx atCode (by decide))).trans c104
        intro W14
        intro M15
        refine ⟨fun c16 => ?_, fun c16 => ?_⟩
        · skip
          intro x17 hx17
          refine ⟨_, ?_, rfl, ?_⟩
          · rw [hn104, hx17, e.2]; omega  -- d8
          · have q := q13.2.2.2.1 c16
            rw [hx17]
            refine ⟨rfl, rfl, Z12, q13.1, by rw [e.1]; exact q.1, fun _ => by rw [e.1]; exact q.2, by rw [e.2]; omega, q13.2.2.2.2 m104, x12, c12⟩
        · skip
          refine h _ _ ?_
          · have V := weM_z W Tw Z12 wd
            have wt : zR κ_12 atWeb a0 = zR κ atWeb a0 := Z12.r (ad atWeb (by decide))
            refine ⟨Z12.mono (fun f x z => Or.inl z), ⟨⟨Or.inr q13.1.1, q13.1.2.1, q13.1.2.2.1, q13.1.2.2.2.2.2⟩, q13.1.2.2.2.1.1.1, ?_, by rw [x12]; exact nb_0, fun z => absurd x12 z⟩, c12⟩
            rw [wt]
            exact ⟨I6.1.elim (fun z => Or.inl (V.2.1 z)) (fun z => Or.inr (V.1 z)), V.2.2 I6.2⟩
  intro κ_18 hκ_18
  intro W19
  intro κ_20 hκ_20
  intro W21
  intro T22
  have Z20 : zF (fun f x => (x = a0 ∧ 304 ≤ f) ∨ x = zR κ atStates a0 ∨ x = zR κ atEndings a0) κ κ_20 := by
    rw [hκ_20, hκ_18]
    exact (zF_ui (Or.inl ⟨rfl, by decide⟩)).tr (zF_ur (Or.inl ⟨rfl, by decide⟩) (show zr atCode = some 5 by decide +kernel) (by decide))
  have r20 : ∀ f, f ≠ atCode → zR κ_20 f a0 = zR κ f a0 := fun f hf => by rw [hκ_20, hκ_18]; exact if_neg (fun z => hf z.1)
  refine At_clear_c W21 T22  ?_ (fun κ_23 q24 => ?_)
  · rw [hκ_20, hκ_18]
    exact ⟨I1, I2, I3, I4⟩
  have Zm : zF (fun f x => (x = a0 ∧ 304 ≤ f) ∨ x = zR κ atStates a0 ∨ x = zR κ atEndings a0) κ κ_23 := Z20.tr (q24.1.mono (fun f x z => by
    rcases z with ⟨z, y⟩ | z | z
    · exact Or.inl ⟨z, Nat.le_trans (by decide) y⟩
    · exact Or.inr (Or.inl (z.trans (r20 atStates (by decide))))
    · exact Or.inr (Or.inr (z.trans (r20 atEndings (by decide))))))
  have nm : ∀ x c, zT κ x = c → c ≠ 3 → c ≠ 6 → ∀ f, ¬ (fun f x => (x = a0 ∧ 304 ≤ f) ∨ x = zR κ atStates a0 ∨ x = zR κ atEndings a0 : Nat → Nat → Prop) f x := fun x c hx h3 h6 f z => by
    rcases z with z | z | z
    · rw [z.1, Ta0] at hx; exact h3 hx.symm
    · rw [z, Ts] at hx; exact h6 hx.symm
    · rw [z, Te] at hx; exact h6 hx.symm
  have na : ∀ f, f < 304 → ¬ (fun f x => (x = a0 ∧ 304 ≤ f) ∨ x = zR κ atStates a0 ∨ x = zR κ atEndings a0 : Nat → Nat → Prop) f a0 := fun f hf z => by
    rcases z with z | z | z
    · have := z.2
      omega
    · exact ne.1.2.1 z.symm
    · exact ne.1.2.2 z.symm
  have rM : zR κ_23 atMachine a0 = zR κ atMachine a0 := Zm.r (na atMachine (by decide))
  have rS : zR κ_23 atStates a0 = zR κ atStates a0 := Zm.r (na atStates (by decide))
  have rE : zR κ_23 atEndings a0 = zR κ atEndings a0 := Zm.r (na atEndings (by decide))
  have T23 : zT κ_23 a0 = 3 := Zm.t Ta0 (by decide)
  have L23 : maL κ_23 (zR κ_23 atMachine a0) := by rw [rM]; exact maL_zF Zm W Tm (nm _ _ Tm (by decide) (by decide)) I5
  have C23 : coI κ_23 a1 := coI_zF Zm W Ta1 (nm _ _ Ta1 (by decide) (by decide)) hp.2.1
  have cl : ∀ f, f < 306 → ¬ clF κ_20 a0 f a0 := fun f hf z => by
    rcases z with z | z | z
    · have z2 := z.2
      have e6 : (atFirsts : Nat) = 306 := rfl
      omega
    · rw [r20 atStates (by decide)] at z
      exact ne.1.2.1 z.symm
    · rw [r20 atEndings (by decide)] at z
      exact ne.1.2.2 z.symm
  have x23 : zI κ_23 atExplored a0 = 0 := by
    rw [q24.1.i (cl atExplored (by decide)), hκ_20, hκ_18]
    exact if_pos ⟨rfl, rfl⟩
  have c23 : zR κ_23 atCode a0 = a1 := by
    rw [q24.1.r (cl atCode (by decide)), hκ_20]
    exact if_pos ⟨rfl, rfl⟩
  have ne23 : zR κ_23 atStates a0 ≠ zR κ_23 atEndings a0 := by rw [rS, rE]; exact I4
  intro W25
  intro M26
  intro T27
  intro T28
  have n3 := at_ne W25 T23
  refine Ma_begin_c W25 T27 T28  ?_ (fun κ_29 q30 => ?_)
  · exact ⟨L23, C23⟩  -- p12
  have r29 : ∀ f, zR κ_29 f a0 = zR κ_23 f a0 := fun f => q30.1.r (fun z => n3.1.1 z.symm)
  have i29 : ∀ f, zI κ_29 f a0 = zI κ_23 f a0 := fun f => q30.1.i (fun z => n3.1.1 z.symm)
  have T29 : zT κ_29 a0 = 3 := q30.1.t T23 (by decide)
  have tq : zI κ_29 hoTotal (zR κ_29 atStates a0) = 0 := by rw [r29, q30.1.i (fun z => n3.2.1 z.symm)]; exact q24.2.2.2.2.1.1
  have ln : ∀ f, f ∈ atRf → zN κ_29 (zR κ_29 f a0) = zN κ_23 (zR κ_23 f a0) := fun f hf => by
    obtain ⟨⟨t, h1, h2⟩, h3⟩ := atRf_r f hf
    have ty := W25.r h1 (T23.trans h3.symm)
    have t1 : zT κ_23 (zR κ_23 f a0) = (t - 1) + 1 := by omega
    rw [r29]
    exact q30.1.l t1
  have A29 : ldA κ_29 a0 := by
    refine ⟨?_, ?_, ⟨?_, ?_⟩, ?_, ?_, ?_⟩
    · unfold atM
      rw [ln atFirsts (by decide), ln atTotals (by decide), ln atGains (by decide), ln atPlan (by decide), ln atChooses (by decide), ln atHopeless (by decide)]
      exact q24.2.1
    · unfold atL
      rw [ln atSorts (by decide), ln atNumbers (by decide), ln atWeights (by decide)]
      exact q24.2.2.1
    · rw [r29]; exact hoI_zF q30.1 W25 (ty_atStates W25 T23) (fun f z => n3.2.1 z.symm) q24.2.2.2.1.1
    · rw [r29]; exact hoI_zF q30.1 W25 (ty_atEndings W25 T23) (fun f z => n3.2.2 z.symm) q24.2.2.2.1.2
    · rw [r29]; exact ⟨q30.2.2.1, q30.2.2.2.1, q30.2.2.2.2.1⟩
    · rw [i29, q24.2.2.2.2.2.1, t0i]; omega
    · rw [r29, r29]; exact ne23
  have Z29 : zF (ds0 κ a0) κ κ_29 := (Zm.mono (fun f x z => by
    rcases z with z | z | z
    · exact Or.inl z
    · exact Or.inr (Or.inr (Or.inl z))
    · exact Or.inr (Or.inr (Or.inr z)))).tr (q30.1.mono (fun f x z => Or.inr (Or.inl (z.trans rM))))
  have sS : zR κ_29 atStates a0 = zR κ atStates a0 := (r29 atStates).trans rS
  have sE : zR κ_29 atEndings a0 = zR κ atEndings a0 := (r29 atEndings).trans rE
  intro W31
  intro M32
  have n29 := at_ne W31 T29
  refine ⟨fun c33 => ?_, fun c33 => ?_⟩
  · skip
    intro T34
    refine Ma_length_c W31 T34  (fun r35 q37 => ?_)
    intro W38
    intro M39
    intro T40
    intro T41
    refine Ho_enter_c W38 T40 T41 1000 142 2048 ?_ (fun r42 κ_43 q44 => ?_)
    · have O := A29.2.2.2.1.2.2.resolve_right c33
      refine ⟨A29.2.2.1.1, hP1, ?_⟩
      rw [q37]
      exact mO_l O
    have T43 : zT κ_43 a0 = 3 := q44.1.t T29 (by decide)
    intro W45
    intro M46
    refine hh104 _ _ _ _ W45 (by assumption) ?_
    · have a9 : ∀ f, ¬ hoF (zR κ_29 atStates a0) f a0 := fun f z => n29.1.2.1 z.1.symm
      have r43 : ∀ f, zR κ_43 f a0 = zR κ_29 f a0 := fun f => q44.1.r (a9 f)
      have i43 : ∀ f, zI κ_43 f a0 = zI κ_29 f a0 := fun f => q44.1.i (a9 f)
      have A43 : ldA κ_43 a0 := ldA_h W31 T29 A29 (Or.inl rfl) q44.1 q44.2.1 (hoI_zF q44.1 W31 (ty_atEndings W31 T29) (fun f z => A29.2.2.2.2.2 z.1.symm) A29.2.2.1.2)
      refine ⟨rfl, rfl, Z29.tr (q44.1.mono (fun f x z => Or.inr (Or.inr (Or.inl (z.1.trans sS))))), A43, fun j hj => absurd hj (Nat.not_lt_zero _), fun hj => absurd hj (Nat.not_lt_zero _), by decide, ?_, by rw [i43, i29]; exact x23, by rw [r43, r29]; exact c23⟩
      rw [r43]
      rcases q44.2.2.2.2 with y | y
      · rw [y, tq, t0i]; omega
      · have y1 := y.1
        rw [tq, t0i] at y1
        omega
  · skip
    refine ⟨?_, ?_⟩
    · have Lm := A29.2.2.2.1.1.1.1
      have sb := A29.2.2.2.1.2.1
      rw [inb_iff]; omega
    intro κ_47 hκ_47
    intro W48
    intro T49
    intro T50
    have f47 := mF_ua W31 (ty_atMachine W31 T29) (show zr maMemory = some 20 by decide +kernel) (by decide) hκ_47
    have R47 := f47.1.2.1
    have T47 : zT κ_47 a0 = 3 := f47.1.1.t T29 (by decide)
    have A47 : ldA κ_47 a0 := by
      refine ldA_0 W31 T29 A29 (f47.1.1.mono (fun f x q => Or.inl q)) (hoI_zF f47.1.1 W31 (ty_atStates W31 T29) (fun f e => n29.2.1 e.symm) A29.2.2.1.1) (hoI_zF f47.1.1 W31 (ty_atEndings W31 T29) (fun f e => n29.2.2 e.symm) A29.2.2.1.2) ⟨(mkI_f f47.1 W31 (ty_atMachine W31 T29) A29.2.2.2.1.1).1, by rw [f47.2.2]; exact A29.2.2.2.1.2.1, ?_⟩
      unfold mO
      rw [f47.2.2]
      exact A29.2.2.2.1.2.2
    have e1 : (zI κ_47 maShared (zR κ_47 atMachine a0) + 1).toInt = (zI κ_29 maShared (zR κ_29 atMachine a0)).toInt + 1 := by
      have sb := A29.2.2.2.1.2.1
      rw [f47.2.2, R47]
      exact (cn1 sb.1 (by omega)).2
    refine Ho_enter_c W48 T49 T50 1000 35 2048 ?_ (fun r51 κ_52 q53 => ?_)
    · refine ⟨A47.2.2.1.2, hP2, ?_⟩
      have sb := A29.2.2.2.1.2.1
      rw [e1]; omega
    have T52 : zT κ_52 a0 = 3 := q53.1.t T47 (by decide)
    intro W54
    intro M55
    refine hh104 _ _ _ _ W54 (by assumption) ?_
    · have n47 := at_ne W48 T47
      have a9 : ∀ f, ¬ hoF (zR κ_47 atEndings a0) f a0 := fun f z => n47.1.2.2 z.1.symm
      have r52 : ∀ f, zR κ_52 f a0 = zR κ_29 f a0 := fun f => (q53.1.r (a9 f)).trans (by rw [R47])
      have i52 : ∀ f, zI κ_52 f a0 = zI κ_29 f a0 := fun f => (q53.1.i (a9 f)).trans (by rw [f47.2.2])
      have A52 : ldA κ_52 a0 := ldA_h W48 T47 A47 (Or.inr rfl) q53.1 (hoI_zF q53.1 W48 (ty_atStates W48 T47) (fun f z => A47.2.2.2.2.2 z.1) A47.2.2.1.1) q53.2.1
      refine ⟨rfl, rfl, (Z29.tr (f47.1.1.mono (fun f x z => Or.inr (Or.inl (z.trans ((r29 atMachine).trans rM)))))).tr (q53.1.mono (fun f x z => Or.inr (Or.inr (Or.inr (z.1.trans (by rw [R47]; exact sE)))))), A52, fun j hj => absurd hj (Nat.not_lt_zero _), fun hj => absurd hj (Nat.not_lt_zero _), by decide, ?_, by rw [i52, i29]; exact x23, by rw [r52, r29]; exact c23⟩
      have ns9 : zR κ_29 atStates a0 ≠ zR κ_47 atEndings a0 := by rw [R47]; exact A29.2.2.2.2.2
      rw [r52, q53.1.i (fun z => ns9 z.1), f47.2.2, tq, t0i]
      omega
