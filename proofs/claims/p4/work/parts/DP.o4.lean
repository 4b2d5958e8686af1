set_option maxHeartbeats 1600000
/-! the class: Odds' tableOf, rankOf -/
theorem gr_w9 {C : zC} {n0 a g f : Nat} {κ τ : zS} (W : zW C n0 κ) (Ta : zT κ a = 9) (Z : zF (fun f b => (f = odKey ∧ b = a) ∨ hoF g f b) κ τ) (hg : a ≠ g) (hf : zr f = some 20) (h9 : f / 100 = 9) (hk : f ≠ odKey) : zR τ f a = zR κ f a ∧ zA τ (zR κ f a) = zA κ (zR κ f a) ∧ zN τ (zR κ f a) = zN κ (zR κ f a) := by
  have n : ¬ ((f = odKey ∧ a = a) ∨ hoF g f a) := fun z => by
    rcases z with z | z
    · exact hk z.1
    · exact hg z.1
  have r := Z.r n
  have w := (Z.row W hf (by decide) (Ta.trans h9.symm) n).1
  rw [r] at w
  exact ⟨r, w, Z.l (W.r hf (Ta.trans h9.symm))⟩
/-- a step among the tables' rows -/
theorem tb_u9 {C : zC} {n0 a : Nat} {κ τ τ' : zS} (Wt : zW C n0 τ) (Tt : zT τ a = 9) (S : tbS9 κ τ a) (Z : zF (fun f b => b = a ∧ (f = odLefts ∨ f = odRights ∨ f = odRanks)) τ τ') (eR : zR τ' = zR τ) (eN : zN τ' = zN τ) : tbS9 κ τ' a ∧ (∀ K L x, hkS9 τ' (zR κ odGroups a) 8192 K L x ↔ hkS9 τ (zR κ odGroups a) 8192 K L x) ∧ pV9 τ' (zR κ odGroups a) = pV9 τ (zR κ odGroups a) ∧ zI τ' hoTotal (zR κ odGroups a) = zI τ hoTotal (zR κ odGroups a) := by
  obtain ⟨s1, s2, s3, s4, s5, s6⟩ := S
  have tg : zT τ (zR κ odGroups a) = 6 := by
    rw [← s2 odGroups (by decide)]
    exact ty_odGroups Wt Tt
  obtain ⟨V1, V2, V3, V4, V5⟩ := ho_t9 Wt tg Z (fun f b z => by rcases z.2 with y | y | y <;> rw [y] <;> decide)
  refine ⟨⟨s1.tr (Z.mono (fun f b z => Or.inl ⟨z.1, Or.inr z.2⟩)), fun f hf => by rw [eR]; exact s2 f hf, ?_, by rw [V4]; exact s4, fun K L x H => (V1 _ _ _ _).mpr (s5 K L x H), fun x i hx => by rw [V3]; exact s6 x i hx⟩, fun K L x => V1 _ _ _ _, V3, V4⟩
  obtain ⟨⟨g1, g2, g3⟩, g4⟩ := s3
  unfold grI9
  rw [eR, eN]
  rw [s2 odGroups (by decide)] at g1 g2 g3 ⊢
  have I := V5 _ _ _ g1
  refine ⟨⟨I, hoI_A I (Or.inr ?_), (V2 _).mpr g3⟩, g4⟩
  rw [eR, eN, g2.1]
  decide
/-- the key of an ending's table -/
def tK9 (κ : zS) (a : Nat) (e t : Int32) : Nat → Int32 := k39 0 (if t = -1 then 0 else pV9 κ (zR κ atEndings (zR κ odAtlas a)) e t) 0
theorem tb_l9 {C : zC} {n0 a : Nat} {κ τ : zS} (W : zW C n0 κ) (Ta : zT κ a = 9) (S : tbS9 κ τ a) (L : tbL9 κ a) : tbL9 τ a := by
  obtain ⟨s1, s2, _⟩ := S
  obtain ⟨l1, l2, l3, l4, l5, l6, l7⟩ := L
  unfold tbL9
  rw [s2 odLefts (by decide), s2 odRights (by decide), s2 odBases (by decide), s2 odRanks (by decide), s2 odCellOf (by decide), s2 odHeads (by decide), s2 odEdges (by decide)]
  rw [s1.l (ty_odLefts W Ta), s1.l (ty_odRights W Ta), s1.l (ty_odBases W Ta), s1.l (ty_odRanks W Ta), s1.l (ty_odCellOf W Ta), s1.l (ty_odHeads W Ta), s1.l (ty_odEdges W Ta)]
  exact ⟨l1, l2, l3, l4, l5, l6, l7⟩
theorem Od_tableOf_c {C : zC} {n0 : Nat} {a0 : Nat} {a1 : Int32} {a2 : Int32} {κ : zS} {Q : Int32 → zS → Prop} (W : zW C n0 κ) (Ta0 : zT κ a0 = 9) (ml mr : Int) (hp : (grI9 κ a0 ∧ tbL9 κ a0 ∧ gI9 κ a0 ml mr) ∧ (0 ≤ ml ∧ 0 ≤ mr) ∧ hoI κ (zR κ atEndings (zR κ odAtlas a0)) 1000 35 2048 ∧ ((zI κ hoTotal (zR κ odGroups a0)).toInt < 3000 ∨ ∃ x, hkS9 κ (zR κ odGroups a0) 8192 (tK9 κ a0 a1 a2) 3 x)) (h : ∀ (v : Int32) (κ' : zS), (tbS9 κ κ' a0 ∧ gI9 κ' a0 ml mr ∧ (0 ≤ v.toInt ∧ v.toInt < (zI κ' hoTotal (zR κ odGroups a0)).toInt) ∧ hkS9 κ' (zR κ odGroups a0) 8192 (tK9 κ a0 a1 a2) 3 v.toNatClampNeg ∧ ∀ x : Nat, hkS9 κ (zR κ odGroups a0) 8192 (tK9 κ a0 a1 a2) 3 x → tbN9 κ κ' a0 ∧ v.toInt = (x : Int)) → Q v κ') : zRun C 4 mOd_tableOf [.ref a0, .int a1, .int a2] κ (oI Q noX) := by
  refine Od_tableOf_run W Ta0 ?_
  replace W := W.lo (Nat.le_trans W.1.2.1 W.1.2.2) (Nat.le_refl (zn κ))
  unfold w_Od_tableOf_0
  obtain ⟨⟨G0, L0, I0⟩, ⟨m1, m2⟩, E0, H5⟩ := hp
  have tg := ty_odGroups W Ta0
  have ag : a0 ≠ zR κ odGroups a0 := fun z => by rw [← z, Ta0] at tg; exact absurd tg (by decide)
  have tM := G0.1.1.2.1
  have hj31 : ∀ (l0 : Nat) (l3 : Int32) (s0 : Nat) (s1 : Int32) (s2 : Int32) (τ : zS), zW C (zn κ) τ → zT τ l0 = 9 → zT τ s0 = 9 → (κ = τ ∧ a0 = l0 ∧ l3 = zI κ hoTotal (zR κ odGroups a0) ∧ s0 = a0 ∧ s1 = 0 ∧ k39 s1 s2 0 = tK9 κ a0 a1 a2) → w_Od_tableOf_31 C (zn κ) Q  l0 l3 s0 s1 s2 τ := by
    rintro _ y31_3 y31_s0 y31_s1 y31_s2 _ W31 T31_0 T31_1 ⟨rfl, rfl, j31⟩
    unfold w_Od_tableOf_31
    intro T1
    obtain ⟨jt, rfl, j0, jk⟩ := j31
    refine Od_group_c W31 T1  ?_ (fun r2 κ_3 q4 => ?_)
    · rw [jk]
      exact ⟨G0, H5⟩
    intro W5
    intro M6
    rw [jk] at q4
    obtain ⟨S3, Z3, ⟨v0, v1⟩, hs, tt, dd⟩ := q4
    have wl := gr_w9 W Ta0 Z3 ag (f := odLefts) (by decide +kernel) (by decide) (by decide)
    have wr := gr_w9 W Ta0 Z3 ag (f := odRights) (by decide +kernel) (by decide) (by decide)
    have wk := gr_w9 W Ta0 Z3 ag (f := odRanks) (by decide +kernel) (by decide) (by decide)
    have eg := S3.2.1 odGroups (by decide)
    have T3 : zT κ_3 y31_s0 = 9 := Z3.t Ta0 (by decide)
    have tM3 := S3.2.2.1.1.1.2.1.2
    rw [eg] at tM3
    refine ⟨fun c7 => ?_, fun c7 => ?_⟩
    · skip
      refine h _ _ ?_
      · have te : (zI κ_3 hoTotal (zR κ odGroups y31_s0)).toInt = (zI κ hoTotal (zR κ odGroups y31_s0)).toInt := by
          rcases tt with z | z
          · exact z
          · exact absurd (Int32.toInt_inj.mp (by rw [jt]; exact z.2)) c7
        refine ⟨S3, ?_, ⟨v0, v1⟩, hs, fun x H => ⟨⟨te, wl.2.1, wr.2.1, wk.2.1⟩, (dd x H).2⟩⟩
        unfold gI9
        rw [eg, te, wl.1, wr.1, wk.1, wl.2.1, wr.2.1, wk.2.1]
        exact gp_e9 I0 (fun x hx => S3.2.2.2.2.2 x 0 hx) (fun x hx => S3.2.2.2.2.2 x 1 hx)
    · skip
      refine ⟨?_, ?_⟩
      · rw [inb_iff, wl.1, wl.2.2, L0.1]; omega  -- b3
      intro κ_8 hκ_8
      intro W9
      have r8 : zR κ_8 = zR κ_3 := by rw [hκ_8]; rfl
      have n8 : zN κ_8 = zN κ_3 := by rw [hκ_8]; rfl
      have o8 : zO κ_8 = zO κ_3 := by rw [hκ_8]; rfl
      refine ⟨?_, ?_⟩
      · rw [inb_iff, r8, n8, wr.1, wr.2.2, L0.2.1]; omega  -- b4
      intro κ_10 hκ_10
      intro W11
      refine h _ _ ?_
      · have r10 : zR κ_10 = zR κ_3 := by rw [hκ_10]; exact r8
        have n10 : zN κ_10 = zN κ_3 := by rw [hκ_10]; exact n8
        have rv : r2.toInt = (zI κ hoTotal (zR κ odGroups y31_s0)).toInt := by rw [c7, jt]
        have te : (zI κ_3 hoTotal (zR κ odGroups y31_s0)).toInt = (zI κ hoTotal (zR κ odGroups y31_s0)).toInt + 1 := by
          rcases tt with z | z
          · omega
          · exact z.1
        have ol := W5.o (show zr odLefts = some 20 by decide +kernel) (by decide) T3
        have or := W5.o (show zr odRights = some 20 by decide +kernel) (by decide) T3
        have Z10 : zF (fun f b => b = y31_s0 ∧ (f = odLefts ∨ f = odRights ∨ f = odRanks)) κ_3 κ_10 := by
          have a1 : zF (fun f b => b = y31_s0 ∧ (f = odLefts ∨ f = odRights ∨ f = odRanks)) κ_3 κ_8 := by rw [hκ_8]; exact zF_ua (by rw [ol]; exact ⟨rfl, Or.inl rfl⟩)
          have a2 : zF (fun f b => b = y31_s0 ∧ (f = odLefts ∨ f = odRights ∨ f = odRanks)) κ_8 κ_10 := by rw [hκ_10]; exact zF_ua (by rw [r8, o8, or]; exact ⟨rfl, Or.inr (Or.inl rfl)⟩)
          exact a1.tr a2
        have U := tb_u9 W5 T3 S3 Z10 r10 n10
        have nlr := od_ow9 W5 T3 (f := odLefts) (g := odRights) (by decide +kernel) (by decide +kernel) (by decide) (by decide) (by decide)
        have nkl := od_ow9 W5 T3 (f := odRanks) (g := odLefts) (by decide +kernel) (by decide +kernel) (by decide) (by decide) (by decide)
        have nkr := od_ow9 W5 T3 (f := odRanks) (g := odRights) (by decide +kernel) (by decide +kernel) (by decide) (by decide) (by decide)
        have xl : zA κ_10 (zR κ_3 odLefts y31_s0) = upd (zA κ (zR κ odLefts y31_s0)) r2.toNatClampNeg 0 := by
          rw [hκ_10, r8]
          refine (if_neg nlr).trans ?_
          rw [hκ_8]
          refine (if_pos rfl).trans ?_
          rw [wl.1]
          show upd (zA κ_3 (zR κ odLefts y31_s0)) _ _ = _
          rw [wl.2.1]
        have xr : zA κ_10 (zR κ_3 odRights y31_s0) = upd (zA κ (zR κ odRights y31_s0)) r2.toNatClampNeg 0 := by
          rw [hκ_10, r8]
          refine (if_pos rfl).trans ?_
          rw [hκ_8]
          show upd ((ua κ_3 (zR κ_3 odLefts y31_s0) r2.toNatClampNeg 0).2.2.2.2.1 (zR κ_3 odRights y31_s0)) _ _ = _
          have q : (ua κ_3 (zR κ_3 odLefts y31_s0) r2.toNatClampNeg 0).2.2.2.2.1 (zR κ_3 odRights y31_s0) = zA κ_3 (zR κ_3 odRights y31_s0) := if_neg (Ne.symm nlr)
          rw [q, wr.1, wr.2.1]
        have xk : zA κ_10 (zR κ_3 odRanks y31_s0) = zA κ (zR κ odRanks y31_s0) := by
          rw [hκ_10, r8]
          refine (if_neg nkr).trans ?_
          rw [hκ_8]
          refine (if_neg nkl).trans ?_
          show zA κ_3 (zR κ_3 odRanks y31_s0) = _
          rw [wk.1, wk.2.1]
        refine ⟨U.1, ?_, ⟨v0, by rw [U.2.2.2]; exact v1⟩, (U.2.1 _ _ _).mpr hs, fun x H => ?_⟩
        · unfold gI9
          rw [r10, xl, xr, xk, eg, U.2.2.2, U.2.2.1, te]
          refine gp_t9 I0 rv tM.1 (fun x hx => S3.2.2.2.2.2 x 0 hx) (fun x hx => S3.2.2.2.2.2 x 1 hx) ?_ m1 m2
          exact pV9_k (K := tK9 κ y31_s0 a1 a2) v0 hs.1 (by decide) (by decide)
        · have y := (dd x H).1
          omega
  intro x12 hx12
  refine ⟨fun c13 => ?_, fun c13 => ?_⟩
  · skip
    intro T14
    refine Ho_part_c2 W T14 1000 35 2048 ?_ (fun r15 q17 => ?_)
    · exact ⟨E0, Or.inr (Or.inl ⟨rfl, rfl, rfl⟩)⟩  -- p6
    intro W18
    intro M19
    refine hj31 _ _ _ _ _ _ W18 ?_ ?_ ?_
    · exact Ta0  -- t7
    · exact Ta0  -- t8
    · refine ⟨rfl, rfl, hx12, rfl, rfl, ?_⟩
      unfold tK9
      rw [if_neg c13, q17]
  · skip
    refine hj31 _ _ _ _ _ _ W ?_ ?_ ?_
    · exact Ta0  -- t10
    · exact Ta0  -- t11
    · refine ⟨rfl, rfl, hx12, rfl, rfl, ?_⟩
      unfold tK9
      rw [if_pos c13]

theorem Od_rankOf_c1 {C : zC} {n0 : Nat} {a0 : Nat} {a1 : Int32} {a2 : Int32} {a3 : Int32} {a4 : Nat} {κ : zS} {Q : Int32 → zS → Prop} (W : zW C n0 κ) (Ta0 : zT κ a0 = 9) (Ta4 : zT κ a4 = 20) (ml mr : Int) (hp : (grI9 κ a0 ∧ tbL9 κ a0 ∧ gI9 κ a0 ml mr) ∧ (ml < 100000 ∧ mr < 100000) ∧ (a1 = 1 ∧ a4 = zR κ odLefts a0) ∧ (0 ≤ a2.toInt ∧ a2.toInt < (zI κ hoTotal (zR κ odGroups a0)).toInt ∧ pV9 κ (zR κ odGroups a0) a2 0 = 0) ∧ ((zI κ hoTotal (zR κ odGroups a0)).toInt < 3000 ∨ ∃ x, hkS9 κ (zR κ odGroups a0) 8192 (k39 1 a2 a3) 3 x)) (h : ∀ (v : Int32) (κ' : zS), (∃ x : Int32, (tbS9 κ κ' a0 ∧ gI9 κ' a0 (ml + 1) mr ∧ (0 ≤ x.toInt ∧ x.toInt < (zI κ' hoTotal (zR κ odGroups a0)).toInt) ∧ hkS9 κ' (zR κ odGroups a0) 8192 (k39 1 a2 a3) 3 x.toNatClampNeg ∧ ∀ y : Nat, hkS9 κ (zR κ odGroups a0) 8192 (k39 1 a2 a3) 3 y → tbN9 κ κ' a0 ∧ x.toInt = (y : Int)) ∧ v = zA κ' (zR κ' odRanks a0) x.toNatClampNeg) → Q v κ') : zRun C 4 mOd_rankOf [.ref a0, .int a1, .int a2, .int a3, .ref a4] κ (oI Q noX) := by
  refine Od_rankOf_run W Ta0 Ta4 ?_
  replace W := W.lo (Nat.le_trans W.1.2.1 W.1.2.2) (Nat.le_refl (zn κ))
  unfold w_Od_rankOf_0
  obtain ⟨⟨G0, L0, I0⟩, ⟨m1, m2⟩, ⟨ea1, ea4⟩, ⟨t0, t1, tg0⟩, H5⟩ := hp
  subst ea1
  have tg := ty_odGroups W Ta0
  have ag : a0 ≠ zR κ odGroups a0 := fun z => by rw [← z, Ta0] at tg; exact absurd tg (by decide)
  have tM := G0.1.1.2.1
  have k2 := cnk t0
  have hj44 : ∀ (l0 : Nat) (l6 : Int32) (τ : zS), zW C (zn κ) τ → zT τ l0 = 9 → (a0 = l0 ∧ tbS9 κ τ a0 ∧ gI9 τ a0 (ml + 1) mr ∧ (0 ≤ l6.toInt ∧ l6.toInt < (zI τ hoTotal (zR κ odGroups a0)).toInt) ∧ hkS9 τ (zR κ odGroups a0) 8192 (k39 1 a2 a3) 3 l6.toNatClampNeg ∧ ∀ y : Nat, hkS9 κ (zR κ odGroups a0) 8192 (k39 1 a2 a3) 3 y → tbN9 κ τ a0 ∧ l6.toInt = (y : Int)) → w_Od_rankOf_44 C (zn κ) Q  l0 l6 τ := by
    rintro _ y44_6 τ44 W44 T44_0 ⟨rfl, j44⟩
    unfold w_Od_rankOf_44
    refine ⟨?_, ?_⟩
    · have q := j44.1.2.2.1.1.1.2.1.2
      rw [j44.1.2.1 odGroups (by decide)] at q
      rw [inb_iff, (tb_l9 W Ta0 j44.1 L0).2.2.2.1]
      exact ⟨j44.2.2.1.1, Int.lt_of_lt_of_le j44.2.2.1.2 q⟩
    refine h _ _ ?_
    · exact ⟨y44_6, j44, rfl⟩  -- q2
  intro x1 hx1
  intro T2
  refine Od_group_c W T2  ?_ (fun r3 κ_4 q5 => ?_)
  · exact ⟨G0, H5⟩  -- p3
  intro W6
  intro M7
  obtain ⟨S3, Z3, ⟨v0, v1⟩, hs, tt, dd⟩ := q5
  have wl := gr_w9 W Ta0 Z3 ag (f := odLefts) (by decide +kernel) (by decide) (by decide)
  have wr := gr_w9 W Ta0 Z3 ag (f := odRights) (by decide +kernel) (by decide) (by decide)
  have wk := gr_w9 W Ta0 Z3 ag (f := odRanks) (by decide +kernel) (by decide) (by decide)
  have eg := S3.2.1 odGroups (by decide)
  have T3 : zT κ_4 a0 = 9 := Z3.t Ta0 (by decide)
  have tM3 := S3.2.2.1.1.1.2.1.2
  rw [eg] at tM3
  refine ⟨fun c8 => ?_, fun c8 => ?_⟩
  · skip
    refine hj44 _ _ _ W6 ?_ ?_
    · exact T3  -- t4
    · have te : (zI κ_4 hoTotal (zR κ odGroups a0)).toInt = (zI κ hoTotal (zR κ odGroups a0)).toInt := by
        rcases tt with z | z
        · exact z
        · exact absurd (Int32.toInt_inj.mp (by rw [hx1]; exact z.2)) c8
      refine ⟨rfl, S3, ?_, ⟨v0, v1⟩, hs, fun x H => ⟨⟨te, wl.2.1, wr.2.1, wk.2.1⟩, (dd x H).2⟩⟩
      unfold gI9
      rw [eg, te, wl.1, wr.1, wk.1, wl.2.1, wr.2.1, wk.2.1]
      exact gp_m9 (gp_e9 I0 (fun x hx => S3.2.2.2.2.2 x 0 hx) (fun x hx => S3.2.2.2.2.2 x 1 hx)) (by omega) (Int.le_refl _)
  · skip
    refine ⟨?_, ?_⟩
    · rw [inb_iff, ea4, wl.2.2, L0.1]; omega  -- b6
    refine ⟨?_, ?_⟩
    · rw [inb_iff, wk.1, wk.2.2, L0.2.2.2.1]; omega  -- b7
    intro κ_9 hκ_9
    intro W10
    have r8 : zR κ_9 = zR κ_4 := by rw [hκ_9]; rfl
    have n8 : zN κ_9 = zN κ_4 := by rw [hκ_9]; rfl
    have o8 : zO κ_9 = zO κ_4 := by rw [hκ_9]; rfl
    refine ⟨?_, ?_⟩
    · rw [inb_iff, n8, ea4, wl.2.2, L0.1]; omega  -- b8
    refine ⟨?_, ?_⟩
    · rw [inb_iff, n8, ea4, wl.2.2, L0.1]; omega  -- b9
    intro κ_11 hκ_11
    intro W12
    have r10 : zR κ_11 = zR κ_4 := by rw [hκ_11]; exact r8
    have n10 : zN κ_11 = zN κ_4 := by rw [hκ_11]; exact n8
    have rv : r3.toInt = (zI κ hoTotal (zR κ odGroups a0)).toInt := by rw [c8, hx1]
    have te : (zI κ_4 hoTotal (zR κ odGroups a0)).toInt = (zI κ hoTotal (zR κ odGroups a0)).toInt + 1 := by
      rcases tt with z | z
      · omega
      · exact z.1
    have ol := W6.o (show zr odLefts = some 20 by decide +kernel) (by decide) T3
    have ok := W6.o (show zr odRanks = some 20 by decide +kernel) (by decide) T3
    rw [wl.1] at ol
    rw [ea4] at hκ_11 hκ_9
    have Z10 : zF (fun f b => b = a0 ∧ (f = odLefts ∨ f = odRights ∨ f = odRanks)) κ_4 κ_11 := by
      have a1 : zF (fun f b => b = a0 ∧ (f = odLefts ∨ f = odRights ∨ f = odRanks)) κ_4 κ_9 := by rw [hκ_9]; exact zF_ua (by rw [ok]; exact ⟨rfl, Or.inr (Or.inr rfl)⟩)
      have a2 : zF (fun f b => b = a0 ∧ (f = odLefts ∨ f = odRights ∨ f = odRanks)) κ_9 κ_11 := by rw [hκ_11]; exact zF_ua (by rw [o8, ol]; exact ⟨rfl, Or.inl rfl⟩)
      exact a1.tr a2
    have U := tb_u9 W6 T3 S3 Z10 r10 n10
    have nrl := od_ow9 W6 T3 (f := odRights) (g := odLefts) (by decide +kernel) (by decide +kernel) (by decide) (by decide) (by decide)
    have nkl := od_ow9 W6 T3 (f := odRanks) (g := odLefts) (by decide +kernel) (by decide +kernel) (by decide) (by decide) (by decide)
    have nkr := od_ow9 W6 T3 (f := odRanks) (g := odRights) (by decide +kernel) (by decide +kernel) (by decide) (by decide) (by decide)
    rw [wr.1, wl.1] at nrl
    rw [wk.1, wl.1] at nkl
    rw [wk.1, wr.1] at nkr
    rw [wk.1] at hκ_9
    have x9 : zA κ_9 (zR κ odLefts a0) = zA κ (zR κ odLefts a0) := by
      rw [hκ_9]
      exact (if_neg (Ne.symm nkl)).trans wl.2.1
    have xl : zA κ_11 (zR κ odLefts a0) = upd (zA κ (zR κ odLefts a0)) a2.toNatClampNeg (zA κ (zR κ odLefts a0) a2.toNatClampNeg + 1) := by
      rw [hκ_11]
      refine (if_pos rfl).trans ?_
      show upd (zA κ_9 (zR κ odLefts a0)) _ (zA κ_9 (zR κ odLefts a0) _ + 1) = _
      rw [x9]
    have xr : zA κ_11 (zR κ odRights a0) = zA κ (zR κ odRights a0) := by
      rw [hκ_11]
      refine (if_neg nrl).trans ?_
      rw [hκ_9]
      exact (if_neg (Ne.symm nkr)).trans wr.2.1
    have xk : zA κ_11 (zR κ odRanks a0) = upd (zA κ (zR κ odRanks a0)) r3.toNatClampNeg (zA κ (zR κ odLefts a0) a2.toNatClampNeg) := by
      rw [hκ_11]
      refine (if_neg nkl).trans ?_
      rw [hκ_9]
      refine (if_pos rfl).trans ?_
      show upd (zA κ_4 (zR κ odRanks a0)) _ (zA κ_4 (zR κ odLefts a0) _) = _
      rw [wk.2.1, wl.2.1]
    refine hj44 _ _ _ W12 ?_ ?_
    · exact Z10.t T3 (by decide)  -- t10
    · refine ⟨rfl, U.1, ?_, ⟨v0, by rw [U.2.2.2]; exact v1⟩, (U.2.1 _ _ _).mpr hs, fun x H => ?_⟩
      · unfold gI9
        rw [r10, wl.1, wr.1, wk.1, xl, xr, xk, eg, U.2.2.2, U.2.2.1, te]
        refine gp_l9 I0 rv tM.1 (fun x hx => S3.2.2.2.2.2 x 0 hx) (fun x hx => S3.2.2.2.2.2 x 1 hx) ?_ ?_ t0 t1 tg0 m1
        · exact pV9_k (K := k39 1 a2 a3) v0 hs.1 (by decide) (by decide)
        · exact pV9_k (K := k39 1 a2 a3) v0 hs.1 (by decide) (by decide)
      · have y := (dd x H).1
        omega

theorem Od_rankOf_c2 {C : zC} {n0 : Nat} {a0 : Nat} {a1 : Int32} {a2 : Int32} {a3 : Int32} {a4 : Nat} {κ : zS} {Q : Int32 → zS → Prop} (W : zW C n0 κ) (Ta0 : zT κ a0 = 9) (Ta4 : zT κ a4 = 20) (ml mr : Int) (hp : (grI9 κ a0 ∧ tbL9 κ a0 ∧ gI9 κ a0 ml mr) ∧ (ml < 100000 ∧ mr < 100000) ∧ (a1 = 2 ∧ a4 = zR κ odRights a0) ∧ (0 ≤ a2.toInt ∧ a2.toInt < (zI κ hoTotal (zR κ odGroups a0)).toInt ∧ pV9 κ (zR κ odGroups a0) a2 0 = 0) ∧ ((zI κ hoTotal (zR κ odGroups a0)).toInt < 3000 ∨ ∃ x, hkS9 κ (zR κ odGroups a0) 8192 (k39 2 a2 a3) 3 x)) (h : ∀ (v : Int32) (κ' : zS), (∃ x : Int32, (tbS9 κ κ' a0 ∧ gI9 κ' a0 ml (mr + 1) ∧ (0 ≤ x.toInt ∧ x.toInt < (zI κ' hoTotal (zR κ odGroups a0)).toInt) ∧ hkS9 κ' (zR κ odGroups a0) 8192 (k39 2 a2 a3) 3 x.toNatClampNeg ∧ ∀ y : Nat, hkS9 κ (zR κ odGroups a0) 8192 (k39 2 a2 a3) 3 y → tbN9 κ κ' a0 ∧ x.toInt = (y : Int)) ∧ v = zA κ' (zR κ' odRanks a0) x.toNatClampNeg) → Q v κ') : zRun C 4 mOd_rankOf [.ref a0, .int a1, .int a2, .int a3, .ref a4] κ (oI Q noX) := by
  refine Od_rankOf_run W Ta0 Ta4 ?_
  replace W := W.lo (Nat.le_trans W.1.2.1 W.1.2.2) (Nat.le_refl (zn κ))
  unfold w_Od_rankOf_0
  obtain ⟨⟨G0, L0, I0⟩, ⟨m1, m2⟩, ⟨ea1, ea4⟩, ⟨t0, t1, tg0⟩, H5⟩ := hp
  subst ea1
  have tg := ty_odGroups W Ta0
  have ag : a0 ≠ zR κ odGroups a0 := fun z => by rw [← z, Ta0] at tg; exact absurd tg (by decide)
  have tM := G0.1.1.2.1
  have k2 := cnk t0
  have hj44 : ∀ (l0 : Nat) (l6 : Int32) (τ : zS), zW C (zn κ) τ → zT τ l0 = 9 → (a0 = l0 ∧ tbS9 κ τ a0 ∧ gI9 τ a0 ml (mr + 1) ∧ (0 ≤ l6.toInt ∧ l6.toInt < (zI τ hoTotal (zR κ odGroups a0)).toInt) ∧ hkS9 τ (zR κ odGroups a0) 8192 (k39 2 a2 a3) 3 l6.toNatClampNeg ∧ ∀ y : Nat, hkS9 κ (zR κ odGroups a0) 8192 (k39 2 a2 a3) 3 y → tbN9 κ τ a0 ∧ l6.toInt = (y : Int)) → w_Od_rankOf_44 C (zn κ) Q  l0 l6 τ := by
    rintro _ y44_6 τ44 W44 T44_0 ⟨rfl, j44⟩
    unfold w_Od_rankOf_44
    refine ⟨?_, ?_⟩
    · have q := j44.1.2.2.1.1.1.2.1.2
      rw [j44.1.2.1 odGroups (by decide)] at q
      rw [inb_iff, (tb_l9 W Ta0 j44.1 L0).2.2.2.1]
      exact ⟨j44.2.2.1.1, Int.lt_of_lt_of_le j44.2.2.1.2 q⟩
    refine h _ _ ?_
    · exact ⟨y44_6, j44, rfl⟩  -- q2
  intro x1 hx1
  intro T2
  refine Od_group_c W T2  ?_ (fun r3 κ_4 q5 => ?_)
  · exact ⟨G0, H5⟩  -- p3
  intro W6
  intro M7
  obtain ⟨S3, Z3, ⟨v0, v1⟩, hs, tt, dd⟩ := q5
  have wl := gr_w9 W Ta0 Z3 ag (f := odLefts) (by decide +kernel) (by decide) (by decide)
  have wr := gr_w9 W Ta0 Z3 ag (f := odRights) (by decide +kernel) (by decide) (by decide)
  have wk := gr_w9 W Ta0 Z3 ag (f := odRanks) (by decide +kernel) (by decide) (by decide)
  have eg := S3.2.1 odGroups (by decide)
  have T3 : zT κ_4 a0 = 9 := Z3.t Ta0 (by decide)
  have tM3 := S3.2.2.1.1.1.2.1.2
  rw [eg] at tM3
  refine ⟨fun c8 => ?_, fun c8 => ?_⟩
  · skip
    refine hj44 _ _ _ W6 ?_ ?_
    · exact T3  -- t4
    · have te : (zI κ_4 hoTotal (zR κ odGroups a0)).toInt = (zI κ hoTotal (zR κ odGroups a0)).toInt := by
        rcases tt with z | z
        · exact z
        · exact absurd (Int32.toInt_inj.mp (by rw [hx1]; exact z.2)) c8
      refine ⟨rfl, S3, ?_, ⟨v0, v1⟩, hs, fun x H => ⟨⟨te, wl.2.1, wr.2.1, wk.2.1⟩, (dd x H).2⟩⟩
      unfold gI9
      rw [eg, te, wl.1, wr.1, wk.1, wl.2.1, wr.2.1, wk.2.1]
      exact gp_m9 (gp_e9 I0 (fun x hx => S3.2.2.2.2.2 x 0 hx) (fun x hx => S3.2.2.2.2.2 x 1 hx)) (Int.le_refl _) (by omega)
  · skip
    refine ⟨?_, ?_⟩
    · rw [inb_iff, ea4, wr.2.2, L0.2.1]; omega  -- b6
    refine ⟨?_, ?_⟩
    · rw [inb_iff, wk.1, wk.2.2, L0.2.2.2.1]; omega  -- b7
    intro κ_9 hκ_9
    intro W10
    have r8 : zR κ_9 = zR κ_4 := by rw [hκ_9]; rfl
    have n8 : zN κ_9 = zN κ_4 := by rw [hκ_9]; rfl
    have o8 : zO κ_9 = zO κ_4 := by rw [hκ_9]; rfl
    refine ⟨?_, ?_⟩
    · rw [inb_iff, n8, ea4, wr.2.2, L0.2.1]; omega  -- b8
    refine ⟨?_, ?_⟩
    · rw [inb_iff, n8, ea4, wr.2.2, L0.2.1]; omega  -- b9
    intro κ_11 hκ_11
    intro W12
    have r10 : zR κ_11 = zR κ_4 := by rw [hκ_11]; exact r8
    have n10 : zN κ_11 = zN κ_4 := by rw [hκ_11]; exact n8
    have rv : r3.toInt = (zI κ hoTotal (zR κ odGroups a0)).toInt := by rw [c8, hx1]
    have te : (zI κ_4 hoTotal (zR κ odGroups a0)).toInt = (zI κ hoTotal (zR κ odGroups a0)).toInt + 1 := by
      rcases tt with z | z
      · omega
      · exact z.1
    have ol := W6.o (show zr odRights = some 20 by decide +kernel) (by decide) T3
    have ok := W6.o (show zr odRanks = some 20 by decide +kernel) (by decide) T3
    rw [wr.1] at ol
    rw [ea4] at hκ_11 hκ_9
    have Z10 : zF (fun f b => b = a0 ∧ (f = odLefts ∨ f = odRights ∨ f = odRanks)) κ_4 κ_11 := by
      have a1 : zF (fun f b => b = a0 ∧ (f = odLefts ∨ f = odRights ∨ f = odRanks)) κ_4 κ_9 := by rw [hκ_9]; exact zF_ua (by rw [ok]; exact ⟨rfl, Or.inr (Or.inr rfl)⟩)
      have a2 : zF (fun f b => b = a0 ∧ (f = odLefts ∨ f = odRights ∨ f = odRanks)) κ_9 κ_11 := by rw [hκ_11]; exact zF_ua (by rw [o8, ol]; exact ⟨rfl, Or.inr (Or.inl rfl)⟩)
      exact a1.tr a2
    have U := tb_u9 W6 T3 S3 Z10 r10 n10
    have nrl := od_ow9 W6 T3 (f := odRights) (g := odLefts) (by decide +kernel) (by decide +kernel) (by decide) (by decide) (by decide)
    have nkl := od_ow9 W6 T3 (f := odRanks) (g := odLefts) (by decide +kernel) (by decide +kernel) (by decide) (by decide) (by decide)
    have nkr := od_ow9 W6 T3 (f := odRanks) (g := odRights) (by decide +kernel) (by decide +kernel) (by decide) (by decide) (by decide)
    rw [wr.1, wl.1] at nrl
    rw [wk.1, wl.1] at nkl
    rw [wk.1, wr.1] at nkr
    rw [wk.1] at hκ_9
    have x9 : zA κ_9 (zR κ odRights a0) = zA κ (zR κ odRights a0) := by
      rw [hκ_9]
      exact (if_neg (Ne.symm nkr)).trans wr.2.1
    have xr : zA κ_11 (zR κ odRights a0) = upd (zA κ (zR κ odRights a0)) a2.toNatClampNeg (zA κ (zR κ odRights a0) a2.toNatClampNeg + 1) := by
      rw [hκ_11]
      refine (if_pos rfl).trans ?_
      show upd (zA κ_9 (zR κ odRights a0)) _ (zA κ_9 (zR κ odRights a0) _ + 1) = _
      rw [x9]
    have xl : zA κ_11 (zR κ odLefts a0) = zA κ (zR κ odLefts a0) := by
      rw [hκ_11]
      refine (if_neg (Ne.symm nrl)).trans ?_
      rw [hκ_9]
      exact (if_neg (Ne.symm nkl)).trans wl.2.1
    have xk : zA κ_11 (zR κ odRanks a0) = upd (zA κ (zR κ odRanks a0)) r3.toNatClampNeg (zA κ (zR κ odRights a0) a2.toNatClampNeg) := by
      rw [hκ_11]
      refine (if_neg nkr).trans ?_
      rw [hκ_9]
      refine (if_pos rfl).trans ?_
      show upd (zA κ_4 (zR κ odRanks a0)) _ (zA κ_4 (zR κ odRights a0) _) = _
      rw [wk.2.1, wr.2.1]
    refine hj44 _ _ _ W12 ?_ ?_
    · exact Z10.t T3 (by decide)  -- t10
    · refine ⟨rfl, U.1, ?_, ⟨v0, by rw [U.2.2.2]; exact v1⟩, (U.2.1 _ _ _).mpr hs, fun x H => ?_⟩
      · unfold gI9
        rw [r10, wl.1, wr.1, wk.1, xl, xr, xk, eg, U.2.2.2, U.2.2.1, te]
        refine gp_r9 I0 rv tM.1 (fun x hx => S3.2.2.2.2.2 x 0 hx) (fun x hx => S3.2.2.2.2.2 x 1 hx) ?_ ?_ t0 t1 tg0 m2
        · exact pV9_k (K := k39 2 a2 a3) v0 hs.1 (by decide) (by decide)
        · exact pV9_k (K := k39 2 a2 a3) v0 hs.1 (by decide) (by decide)
      · have y := (dd x H).1
        omega
