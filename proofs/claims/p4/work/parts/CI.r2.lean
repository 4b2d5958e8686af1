set_option maxHeartbeats 1600000
/-! the class: Ratio's addWhole -/
theorem jneg_i {x : Int64} (h : -9223372036854775808 < x.toInt) : (-x).toInt = -x.toInt := by
  have l := Int64.toInt_lt x
  rw [Int64.toInt_neg]
  exact Int.bmod_eq_of_le (by omega) (by omega)
theorem j_abs {x : Int32} : (if 0 < x.toInt64 then x.toInt64 else -x.toInt64).toInt = (x.toInt.natAbs : Int) := by
  have e : x.toInt64.toInt = x.toInt := Int32.toInt_toInt64 _
  have l := ilo x
  have u := ihi x
  have z64 : (0 : Int64).toInt = 0 := rfl
  by_cases z : 0 < x.toInt64
  · rw [if_pos z, e]
    rw [jlti, e, z64] at z
    omega
  · rw [if_neg z, jneg_i (by omega), e]
    rw [jlti, e, z64] at z
    omega
/-- what addWhole may touch, and what it leaves -/
def awO (κ κ' : zS) (a s c e w : Nat) : Prop := zF (fun f x => raF (zR κ raTop a) (zR κ raBottom a) a f x ∨ nuF s f x) κ κ' ∧ raJ κ' a c ∧ nuI κ' s e ∧ nuN κ' (zR κ raBottom a) = nuN κ (zR κ raBottom a) ∧ nuN κ' (zR κ raTop a) ≤ nuN κ (zR κ raTop a) + nuN κ (zR κ raBottom a) * w ∧ ((-1 ≤ (zI κ raSign a).toInt ∧ (zI κ raSign a).toInt ≤ 1) → -1 ≤ (zI κ' raSign a).toInt ∧ (zI κ' raSign a).toInt ≤ 1)
theorem Ra_addWhole_c {C : zC} {n0 : Nat} {a0 : Nat} {a1 : Int32} {a2 : Nat} {κ : zS} {Q : zS → Prop} (W : zW C n0 κ) (Ta0 : zT κ a0 = 11) (Ta2 : zT κ a2 = 8) (c9 s9 : Nat) (hp : raJ κ a0 c9 ∧ nuI κ a2 s9 ∧ (a2 ≠ (zR κ raTop a0) ∧ a2 ≠ (zR κ raBottom a0)) ∧ (nuK κ (zR κ raBottom a0) + 2 + (nuK κ (zR κ raBottom a0) + 2) / 2 + 1 ≤ s9 ∧ s9 ≤ 30000000) ∧ (nuK κ (zR κ raBottom a0) + 2 + (nuK κ (zR κ raBottom a0) + 2) / 2 + 1 ≤ c9 ∧ nuK κ (zR κ raTop a0) + 1 + (nuK κ (zR κ raTop a0) + 1) / 2 + 1 ≤ c9) ∧ c9 ≤ 30000000) (h : ∀ (κ' : zS), (awO κ κ' a0 a2 c9 s9 a1.toInt.natAbs) → Q κ') : zRun C 4 mRa_addWhole [.ref a0, .int a1, .ref a2] κ (oV Q noX) := by
  refine Ra_addWhole_run W Ta0 Ta2 ?_
  replace W := W.lo (Nat.le_trans W.1.2.1 W.1.2.2) (Nat.le_refl (zn κ))
  unfold w_Ra_addWhole_0
  obtain ⟨⟨It, Ib, ne⟩, cs, ⟨n1, n2⟩, ⟨p1, p2⟩, ⟨p3, p4⟩, p5⟩ := hp
  have Tt := ty_raTop W Ta0
  have Tb := ty_raBottom W Ta0
  have ab : a1.toInt.natAbs ≤ 2147483648 := by
    have l := ilo a1
    have u := ihi a1
    omega
  have hj31 : ∀ (l0 : Nat) (l2 : Nat) (s0 : Int32) (τ : zS), zW C (zn κ) τ → zT τ l0 = 11 → zT τ l2 = 8 → (a0 = l0 ∧ a2 = l2 ∧ zF (nuF a2) κ τ ∧ (nuI τ a2 s9 ∧ nuN τ a2 = nuN κ (zR κ raBottom a0) * a1.toInt.natAbs) ∧ (s0.toInt = 1 ∨ s0.toInt = -1)) → w_Ra_addWhole_31 C (zn κ) Q  l0 l2 s0 τ := by
    rintro _ _ y31_s0 τ31 W31 T31_0 T31_1 ⟨rfl, rfl, j31⟩
    unfold w_Ra_addWhole_31
    obtain ⟨Z1, ⟨I1, V1⟩, s1⟩ := j31
    have et1 : zR τ31 raTop a0 = (zR κ raTop a0) := nuF_r Z1 (by decide) (by decide)
    have eb1 : zR τ31 raBottom a0 = (zR κ raBottom a0) := nuF_r Z1 (by decide) (by decide)
    have bt := nuB_z (c := c9) W Tt Z1 (fun z => n1 z.1.symm) (fun z => n1 z.1.symm)
    have bb := nuB_z (c := c9) W Tb Z1 (fun z => n2 z.1.symm) (fun z => n2 z.1.symm)
    have Tt1 : zT τ31 (zR κ raTop a0) = 8 := Z1.t Tt (by decide)
    have Tb1 : zT τ31 (zR κ raBottom a0) = 8 := Z1.t Tb (by decide)
    have si1 : zI τ31 raSign a0 = zI κ raSign a0 := nuF_i Z1
    have ks : nuK τ31 a2 ≤ nuK κ (zR κ raBottom a0) + 1 := by
      refine nuK_lt I1 ?_
      have u := nuN_lt (κ := κ) (x := (zR κ raBottom a0))
      rw [V1, Nat.pow_succ]
      exact Nat.lt_of_le_of_lt (Nat.mul_le_mul_left _ ab) (Nat.mul_lt_mul_of_pos_right u (by decide))
    refine ⟨fun c1 => ?_, fun c1 => ?_⟩
    · skip
      intro T2
      intro T3
      refine Nu_plus_c W31 T2 T3 c9 30000000 ?_ (fun κ_4 q5 => ?_)
      · rw [et1, bt.2.2.2]
        exact ⟨bt.2.1 It, nuI_mono p2 I1, n1.symm, ⟨by omega, by omega⟩, p5⟩
      intro W6
      intro M7
      intro κ_8 hκ_8
      intro W9
      refine h _ ?_
      · rw [et1, bt.2.2.1, V1] at q5
        obtain ⟨F4, I4, V4⟩ := q5
        have u := ui_s (z := (zR κ raTop a0)) (c := c9) hκ_8
        have v := ui_s (z := (zR κ raBottom a0)) (c := c9) hκ_8
        have w := ui_s (z := a2) (c := s9) hκ_8
        have bb4 := nuB_z (c := c9) W31 Tb1 F4 (fun z => ne z.1.symm) (fun z => ne z.1.symm)
        have b24 := nuB_z (c := s9) W31 T31_1 F4 (fun z => n1 z.1) (fun z => n1 z.1)
        have Z : zF (fun f x => raF (zR κ raTop a0) (zR κ raBottom a0) a0 f x ∨ nuF a2 f x) κ κ_8 := ((Z1.mono (fun f x z => Or.inr z)).tr ((raF_1 F4).mono (fun f x z => Or.inl z))).tr ((raF_s hκ_8).mono (fun f x z => Or.inl z))
        have et : zR κ_8 raTop a0 = (zR κ raTop a0) := by rw [u.1]; exact (nuF_r F4 (by decide) (by decide)).trans et1
        have eb : zR κ_8 raBottom a0 = (zR κ raBottom a0) := by rw [u.1]; exact (nuF_r F4 (by decide) (by decide)).trans eb1
        refine ⟨Z, ?_, (w.2.2.2.2.1 (b24.2.1 I1)), ?_, ?_, fun _ => ?_⟩
        · unfold raJ
          rw [et, eb]
          exact ⟨u.2.2.2.2.1 I4, v.2.2.2.2.1 (bb4.2.1 (bb.2.1 Ib)), ne⟩
        · rw [v.2.2.2.2.2.1, bb4.2.2.1, bb.2.2.1]
        · rw [u.2.2.2.2.2.1, V4]
          exact Nat.le_refl _
        · rw [u.2.2.2.1]
          omega
    · skip
      intro T10
      intro T11
      refine Nu_compare_c W31 T10 T11 30000000 30000000 ?_ (fun r12 q14 => ?_)
      · rw [et1]
        exact ⟨nuI_mono p2 I1, nuI_mono p5 (bt.2.1 It)⟩
      intro W15
      intro M16
      rw [et1] at q14
      refine ⟨fun c17 => ?_, fun c17 => ?_⟩
      · skip
        intro T18
        intro T19
        refine Nu_minus_c W15 T18 T19 s9 30000000 ?_ (fun κ_20 q21 => ?_)
        · rw [lei, t0i] at c17
          rw [et1]
          exact ⟨I1, nuI_mono p5 (bt.2.1 It), n1, by omega⟩
        rw [et1, V1, bt.2.2.1] at q21
        obtain ⟨F20, I20, V20⟩ := q21
        have et20 : zR κ_20 raTop a0 = (zR κ raTop a0) := (nuF_r F20 (by decide) (by decide)).trans et1
        have eb20 : zR κ_20 raBottom a0 = (zR κ raBottom a0) := (nuF_r F20 (by decide) (by decide)).trans eb1
        have bt20 := nuB_z (c := c9) W31 Tt1 F20 (fun z => n1 z.1.symm) (fun z => n1 z.1.symm)
        have bb20 := nuB_z (c := c9) W31 Tb1 F20 (fun z => n2 z.1.symm) (fun z => n2 z.1.symm)
        have Tb20 : zT κ_20 (zR κ raBottom a0) = 8 := F20.t Tb1 (by decide)
        have T220 : zT κ_20 a2 = 8 := F20.t T31_1 (by decide)
        have ks20 : nuK κ_20 a2 ≤ nuK κ (zR κ raBottom a0) + 1 := Nat.le_trans (nuK_le (τ := τ31) (y := a2) (d := 0) I20 (by rw [V20, V1]; exact Nat.sub_le _ _)) ks
        intro W22
        intro M23
        intro T24
        intro T25
        refine Nu_copy_c W22 T24 T25 c9 30000000 ?_ (fun κ_26 q27 => ?_)
        · rw [et20]
          exact ⟨(bt20.2.1 (bt.2.1 It)).1.2.1, nuB_mono p2 I20.1, n1.symm, by omega, p5⟩
        rw [et20, V20] at q27
        obtain ⟨F26, B26, V26, K26, Y26⟩ := q27
        have et26 : zR κ_26 raTop a0 = (zR κ raTop a0) := (nuF_r F26 (by decide) (by decide)).trans et20
        have eb26 : zR κ_26 raBottom a0 = (zR κ raBottom a0) := (nuF_r F26 (by decide) (by decide)).trans eb20
        have bb26 := nuB_z (c := c9) W22 Tb20 F26 (fun z => ne z.1.symm) (fun z => ne z.1.symm)
        have b226 := nuB_z (c := s9) W22 T220 F26 (fun z => n1 z.1) (fun z => n1 z.1)
        have Z26 : zF (fun f x => raF (zR κ raTop a0) (zR κ raBottom a0) a0 f x ∨ nuF a2 f x) κ κ_26 := ((Z1.mono (fun f x z => Or.inr z)).tr (F20.mono (fun f x z => Or.inr z))).tr ((raF_1 F26).mono (fun f x z => Or.inl z))
        have fin : ∀ (ρ : zS) (v : Int32), ρ = ui κ_26 raSign a0 v → (-1 ≤ v.toInt ∧ v.toInt ≤ 1) → awO κ ρ a0 a2 c9 s9 a1.toInt.natAbs := fun ρ v9 e hv => by
          have u := ui_s (z := (zR κ raTop a0)) (c := c9) e
          have v := ui_s (z := (zR κ raBottom a0)) (c := c9) e
          have w := ui_s (z := a2) (c := s9) e
          have et : zR ρ raTop a0 = (zR κ raTop a0) := by rw [u.1]; exact et26
          have eb : zR ρ raBottom a0 = (zR κ raBottom a0) := by rw [u.1]; exact eb26
          refine ⟨Z26.tr ((raF_s e).mono (fun f x z => Or.inl z)), ?_, (w.2.2.2.2.1 (b226.2.1 I20)), ?_, ?_, fun _ => ?_⟩
          · unfold raJ
            rw [et, eb]
            exact ⟨u.2.2.2.2.1 ⟨B26, Y26 I20.2⟩, v.2.2.2.2.1 (bb26.2.1 (bb20.2.1 (bb.2.1 Ib))), ne⟩
          · rw [v.2.2.2.2.2.1, bb26.2.2.1, bb20.2.2.1, bb.2.2.1]
          · rw [u.2.2.2.2.2.1, V26]
            omega
          · rw [u.2.2.2.1]
            exact hv
        intro W28
        intro M29
        refine ⟨fun c30 => ?_, fun c30 => ?_⟩
        · skip
          intro κ_31 hκ_31
          intro W32
          refine h _ ?_
          · exact fin _ _ hκ_31 (by omega)  -- q6
        · skip
          intro κ_33 hκ_33
          intro W34
          refine h _ ?_
          · exact fin _ _ hκ_33 ⟨by decide, by decide⟩  -- q7
      · skip
        intro T35
        intro T36
        refine Nu_minus_c W15 T35 T36 c9 30000000 ?_ (fun κ_37 q38 => ?_)
        · rw [lei, t0i] at c17
          rw [et1]
          exact ⟨bt.2.1 It, nuI_mono p2 I1, n1.symm, by omega⟩
        intro W39
        intro M40
        refine h _ ?_
        · rw [et1, V1, bt.2.2.1] at q38
          obtain ⟨F37, I37, V37⟩ := q38
          have bb37 := nuB_z (c := c9) W31 Tb1 F37 (fun z => ne z.1.symm) (fun z => ne z.1.symm)
          have b237 := nuB_z (c := s9) W31 T31_1 F37 (fun z => n1 z.1) (fun z => n1 z.1)
          have et : zR κ_37 raTop a0 = (zR κ raTop a0) := (nuF_r F37 (by decide) (by decide)).trans et1
          have eb : zR κ_37 raBottom a0 = (zR κ raBottom a0) := (nuF_r F37 (by decide) (by decide)).trans eb1
          have si : zI κ_37 raSign a0 = zI κ raSign a0 := (nuF_i F37).trans si1
          refine ⟨(Z1.mono (fun f x z => Or.inr z)).tr ((raF_1 F37).mono (fun f x z => Or.inl z)), ?_, (b237.2.1 I1), ?_, ?_, fun z => ?_⟩
          · unfold raJ
            rw [et, eb]
            exact ⟨I37, bb37.2.1 (bb.2.1 Ib), ne⟩
          · rw [bb37.2.2.1, bb.2.2.1]
          · rw [V37]
            omega
          · rw [si]
            exact z
  refine ⟨fun c41 => ?_, fun c41 => ?_⟩
  · skip
    intro T42
    intro T43
    refine Nu_copy_c W T42 T43 s9 30000000 ?_ (fun κ_44 q45 => ?_)
    · exact ⟨cs.1.2.1, nuB_mono p5 Ib.1, n2, by omega, p2⟩  -- p10
    obtain ⟨F44, B44, V44, K44, Y44⟩ := q45
    have T44 : zT κ_44 a2 = 8 := F44.t Ta2 (by decide)
    intro W46
    intro M47
    intro T48
    refine Nu_times_c W46 T48 s9 ?_ (fun κ_49 q50 => ?_)
    · rw [K44, j_abs]
      exact ⟨⟨B44, Y44 Ib.2⟩, ⟨by omega, by omega⟩, by omega, p2⟩
    intro W51
    intro M52
    rw [j_abs, Int.toNat_natCast, V44] at q50
    obtain ⟨F49, I49, V49⟩ := q50
    refine ⟨fun c53 => ?_, fun c53 => ?_⟩
    · skip
      refine hj31 _ _ _ _ W51 ?_ ?_ ?_
      · exact (F44.tr F49).t Ta0 (by decide)  -- t12
      · exact (F44.tr F49).t Ta2 (by decide)  -- t13
      · exact ⟨rfl, rfl, F44.tr F49, ⟨I49, V49⟩, Or.inr rfl⟩  -- k14
    · skip
      refine hj31 _ _ _ _ W51 ?_ ?_ ?_
      · exact (F44.tr F49).t Ta0 (by decide)  -- t15
      · exact (F44.tr F49).t Ta2 (by decide)  -- t16
      · exact ⟨rfl, rfl, F44.tr F49, ⟨I49, V49⟩, Or.inl rfl⟩  -- k17
  · skip
    refine h _ ?_
    · refine ⟨zF.rf, ⟨It, Ib, ne⟩, cs, rfl, Nat.le_add_right _ _, fun z => z⟩  -- q18
