set_option maxHeartbeats 1600000
/-! the class: a program without a state has an ending with the number 0 (Atlas.discover once more) -/
theorem ho_A9 {C : zC} {n0 h M D S : Nat} {F : Nat → Nat → Prop} {κ τ : zS} (W : zW C n0 κ) (Z : zF F κ τ) (T : zT κ h = 6) (hF : ∀ f, ¬ F f h) (I : hoI τ h M D S) (A : hoA κ h M D S) (hS : S ≠ 0) : hoA τ h M D S := by
  refine hoI_A I (Or.inr ?_)
  rw [Z.r (hF hoTable), Z.l (ty_hoTable W T), A.1]
  exact hS
/-- an empty store -/
theorem ho_U9 {κ : zS} {h M D S : Nat} (A : hoA κ h M D S) (t : (zI κ hoTotal h).toInt = 0) : hoU9 κ h S := fun i j hi hj h1 _ => by
  have q := A.2.2.2.2.2 i hi
  rw [t] at q
  exact absurd (Int32.toInt_inj.mp (show (zA κ (zR κ hoTable h) i).toInt = (0 : Int32).toInt by rw [t0i]; omega)) h1
theorem mO_m9 {κ : zS} {m : Nat} (O : mO κ m) : (zI κ maShared m + zI κ maOpen m * 9).toInt = (zI κ maShared m).toInt + 9 * (zI κ maOpen m).toInt ∧ (zI κ maShared m).toInt + 9 * (zI κ maOpen m).toInt ≤ 142 ∧ 0 ≤ (zI κ maShared m).toInt + 9 * (zI κ maOpen m).toInt := by
  obtain ⟨s, o, _⟩ := O
  have e9 : (9 : Int32).toInt = 9 := rfl
  have e : (zI κ maOpen m * 9).toInt = (zI κ maOpen m).toInt * 9 := by rw [mul_i (by rw [e9]; omega) (by rw [e9]; omega), e9]
  refine ⟨?_, o.2, by omega⟩
  rw [add_i (by rw [e]; omega) (by rw [e]; omega), e]
  omega
def stG9 (κ τ : zS) (a : Nat) (m : Int32) : Prop := m.toInt ≤ (zI κ hoTotal (zR κ atStates a)).toInt → m.toInt ≤ (zI τ hoTotal (zR τ atStates a)).toInt
theorem ld_g9 {C : zC} {n0 a : Nat} {κ τ : zS} {lo : Int} {m : Int32} (W : zW C n0 κ) (T : zT κ a = 3) (P : ldP κ τ a lo) : stG9 κ τ a m := fun z => by
  rw [(ld_r W T P.1).1 atStates (by decide)]
  exact Int.le_trans z P.2.2.1.1
theorem enZ_z9 {C : zC} {n0 b : Nat} {F : Nat → Nat → Prop} {κ τ : zS} (W : zW C n0 κ) (Tb : zT κ b = 3) (Z : zF F κ τ) (he : ∀ f, ¬ F f (zR κ atEndings b)) (hc : ∀ f, ¬ F f (zR κ atCode b)) (r1 : zR τ atCode b = zR κ atCode b) (r2 : zR τ atEndings b = zR κ atEndings b) (E : enZ9 κ b) : enZ9 τ b := by
  have te := ty_atEndings W Tb
  have w : ∀ f, zr f = some 20 → f / 100 = 6 → zR τ f (zR κ atEndings b) = zR κ f (zR κ atEndings b) ∧ zA τ (zR κ f (zR κ atEndings b)) = zA κ (zR κ f (zR κ atEndings b)) := fun f h1 h2 => by
    have r := Z.r (he f)
    have q := (Z.row W h1 (by decide) (te.trans h2.symm) (he f)).1
    rw [r] at q
    exact ⟨r, q⟩
  have s := w hoStarts (by decide +kernel) (by decide)
  have p := w hoPool (by decide +kernel) (by decide)
  intro i hi
  rw [r1, Z.i (hc coVars), Z.i (hc coCells)] at hi
  have q := E i hi
  unfold pV9 at q ⊢
  rw [r2, Z.i (he hoTotal), s.1, p.1, s.2, p.2]
  exact q
theorem Ma_begin_c2 {C : zC} {n0 : Nat} {a0 : Nat} {a1 : Nat} {κ : zS} {Q : zS → Prop} (W : zW C n0 κ) (Ta0 : zT κ a0 = 7) (Ta1 : zT κ a1 = 5)  (hp : maL κ a0 ∧ coI κ a1) (h : ∀ (κ' : zS), (zF (objF a0) κ κ' ∧ zR κ' maCode a0 = a1 ∧ mkI κ' a0 ∧ (0 ≤ (zI κ' maShared a0).toInt ∧ (zI κ' maShared a0).toInt ≤ 34) ∧ (mO κ' a0 ∨ zI κ' maOutcome a0 = 1) ∧ zI κ' maWants a0 = -1 ∧ (zI κ' maShared a0).toInt = (zI κ coVars a1).toInt + (zI κ coCells a1).toInt) → Q κ') : zRun C 2 mMa_begin [.ref a0, .ref a1] κ (oV Q noX) := by
  refine Ma_begin_run W Ta0 Ta1 ?_
  replace W := W.lo (Nat.le_trans W.1.2.1 W.1.2.2) (Nat.le_refl (zn κ))
  unfold w_Ma_begin_0
  have nab : a1 ≠ a0 := fun e => by rw [e, Ta0] at Ta1; exact absurd Ta1 (by decide)
  obtain ⟨HL, HC⟩ := hp
  have hV := HC.1.1
  have hv := HC.2.1
  have ha := HC.2.2.1
  have hc := HC.2.2.2.1
  intro κ_1 hκ_1
  intro W2
  intro T3
  have Z1 : zF (objF a0) κ κ_1 := by rw [hκ_1]; exact zF_ur rfl (show zr maCode = some 5 by decide +kernel) (by decide)
  have C1 : coI κ_1 a1 := coI_zF Z1 W Ta1 (fun f e => nab e) HC
  have T1 : zT κ_1 a0 = 7 := Z1.t Ta0 (by decide)
  have R1 : zR κ_1 maCode a0 = a1 := by rw [hκ_1]; exact if_pos ⟨rfl, rfl⟩
  have K1 : mkI κ_1 a0 := ⟨by rw [hκ_1]; exact HL, by rw [R1]; exact C1⟩
  refine Co_shared_c W2 T3  ?_ (fun r4 q6 => ?_)
  · exact C1  -- p1
  intro W7
  intro M8
  intro κ_9 hκ_9
  intro W10
  intro T11
  refine Ar_fill_c W10 T11  (fun κ_12 q13 => ?_)
  have F9 := mF_ui hκ_9 (by decide)
  have F12 := mF_uf W10 (F9.1.t T1 (by decide)) (show zr maMemory = some 20 by decide +kernel) (by decide) q13
  have T12 : zT κ_12 a0 = 7 := F12.1.1.t (F9.1.t T1 (by decide)) (by decide)
  have FF := F9.tr F12.1
  have K12 := (mkI_f FF W2 T1 K1).1
  have Lm := K12.1.1
  have C12 := K12.2
  rw [FF.2.1, R1] at C12
  have lv := C12.1.1
  have vv := C12.2.1
  have e10 : (10 : Int32).toInt = 10 := rfl
  obtain ⟨w, hw⟩ : ∃ w, w = (if (10 : Int32) < zI κ_12 coVars a1 then (10 : Int32) else zI κ_12 coVars a1) := ⟨_, rfl⟩
  have wb : 0 ≤ w.toInt ∧ w.toInt ≤ 10 := by
    rw [hw]
    split
    · decide
    · exact vv
  rw [← hw]
  have kw := cnk wb.1
  intro W14
  intro M15
  refine ⟨?_, ?_⟩
  · exact ⟨by decide, by decide, by rw [lei, t0i]; exact wb.1, by show 0 + w.toNatClampNeg ≤ _; omega, by show 0 + w.toNatClampNeg ≤ _; omega⟩  -- b2
  intro κ_16 hκ_16
  intro W17
  intro κ_18 hκ_18
  intro W19
  intro κ_20 hκ_20
  intro W21
  intro κ_22 hκ_22
  intro W23
  intro κ_24 hκ_24
  intro W25
  intro κ_26 hκ_26
  intro W27
  intro κ_28 hκ_28
  intro W29
  intro T30
  have F16 := mF_uc W14 T12 (show zr maMemory = some 20 by decide +kernel) (by decide) hκ_16
  have G := (((((((FF.tr F16.1).tr (mF_ui hκ_18 (by decide))).tr (mF_ui hκ_20 (by decide))).tr (mF_ui hκ_22 (by decide))).tr (mF_ui hκ_24 (by decide))).tr (mF_ui hκ_26 (by decide))).tr (mF_ui hκ_28 (by decide)))
  refine Co_firstOf_c W29 T30  ?_ (fun r31 q33 => ?_)
  · have K28 := (mkI_f G W2 T1 K1).1.2
    rw [G.2.1, R1] at K28
    exact K28
  intro W34
  intro M35
  intro κ_36 hκ_36
  intro W37
  intro κ_38 hκ_38
  intro W39
  intro T40
  have G2 := (G.tr (mF_ui hκ_36 (by decide))).tr (mF_ui hκ_38 (by decide))
  have K38 := (mkI_f G2 W2 T1 K1).1
  have e34 : (34 : Int32).toInt = 34 := rfl
  have s9 : zI κ_9 maShared a0 = (if (34 : Int32) < r4 then (34 : Int32) else r4) := by rw [hκ_9]; exact if_pos ⟨rfl, rfl⟩
  have v1 : (zI κ_1 coVars a1).toInt = (zI κ coVars a1).toInt := by rw [hκ_1]; rfl
  have v2 : (zI κ_1 coCells a1).toInt = (zI κ coCells a1).toInt := by rw [hκ_1]; rfl
  have sb : 0 ≤ (zI κ_9 maShared a0).toInt ∧ (zI κ_9 maShared a0).toInt ≤ 34 := by
    rw [s9]
    split
    · decide
    · rename_i z
      rw [lti, e34] at z
      omega
  have se : (zI κ_9 maShared a0).toInt = (zI κ coVars a1).toInt + (zI κ coCells a1).toInt := by
    rw [s9]
    split
    · rename_i z
      rw [lti, e34] at z
      omega
    · omega
  have s12 : zI κ_12 maShared a0 = zI κ_9 maShared a0 := by rw [F12.2.2]
  have s16 : zI κ_16 maShared a0 = zI κ_9 maShared a0 := by rw [F16.2.2, s12]
  have s18 : zI κ_18 maShared a0 = zI κ_9 maShared a0 := by rw [hκ_18]; exact s16
  have s38 : zI κ_38 maShared a0 = zI κ_9 maShared a0 := by rw [hκ_38, hκ_36, hκ_28, hκ_26, hκ_24, hκ_22, hκ_20]; exact s18
  have o38 : zI κ_38 maOpen a0 = 1 := by
    rw [hκ_38, hκ_36, hκ_28, hκ_26, hκ_24, hκ_22, hκ_20, hκ_18]
    exact if_pos ⟨rfl, rfl⟩
  have f38 : zI κ_38 maFrame a0 = zI κ_9 maShared a0 := by
    rw [hκ_38, hκ_36, hκ_28, hκ_26, hκ_24, hκ_22]
    show zI κ_20 maFrame a0 = _
    rw [hκ_20]
    exact (if_pos ⟨rfl, rfl⟩).trans s18
  have w38 : zI κ_38 maWants a0 = -1 := by
    rw [hκ_38, hκ_36, hκ_28]
    show zI κ_26 maWants a0 = _
    rw [hκ_26]
    exact if_pos ⟨rfl, rfl⟩
  have O38 : mO κ_38 a0 := by
    unfold mO
    rw [s38, o38, f38, t1i]
    exact ⟨sb, by omega, by omega⟩
  refine Ma_proceed_c W39 T40  ?_ (fun κ_41 q42 => ?_)
  · exact ⟨K38, O38⟩  -- p4
  intro W43
  intro M44
  refine h _ ?_
  · have G3 := G2.tr q42.1
    refine ⟨Z1.tr G3.1, by rw [G3.2.1]; exact R1, (mkI_f G3 W2 T1 K1).1, by rw [q42.2.1, s38]; exact sb, q42.2.2.1, (q42.2.2.2 maWants (by decide)).1.trans w38, by rw [q42.2.1, s38]; exact se⟩

theorem At_clear_c2 {C : zC} {n0 : Nat} {a0 : Nat} {κ : zS} {Q : zS → Prop} (W : zW C n0 κ) (Ta0 : zT κ a0 = 3)  (hp : (atU κ a0 ∨ atM κ a0) ∧ atL κ a0 ∧ atH κ a0 ∧ zR κ atStates a0 ≠ zR κ atEndings a0) (h : ∀ (κ' : zS), (zF (clF κ a0) κ κ' ∧ atM κ' a0 ∧ atL κ' a0 ∧ atH κ' a0 ∧ (zI κ' hoTotal (zR κ' atStates a0) = 0 ∧ zI κ' hoTotal (zR κ' atEndings a0) = 0) ∧ zI κ' atNexts a0 = 0 ∧ zI κ' atRings a0 = 0 ∧ hoA κ' (zR κ' atStates a0) 1000 142 2048 ∧ hoA κ' (zR κ' atEndings a0) 1000 35 2048) → Q κ') : zRun C 2 mAt_clear [.ref a0] κ (oV Q noX) := by
  refine At_clear_run W Ta0 ?_
  replace W := W.lo (Nat.le_trans W.1.2.1 W.1.2.2) (Nat.le_refl (zn κ))
  unfold w_At_clear_0
  have hj62 : ∀ (l0 : Nat) (τ : zS), zW C (zn κ) τ → zT τ l0 = 3 → (a0 = l0 ∧ zF (fun g b => b = a0 ∧ atFirsts ≤ g) κ τ ∧ atM τ a0 ∧ atL τ a0) → w_At_clear_62 C (zn κ) Q  l0 τ := by
    rintro _ τ62 W62 T62_0 ⟨rfl, j62⟩
    unfold w_At_clear_62
    intro T1
    obtain ⟨Z0, M0, L0⟩ := j62
    have n0 := at_ne W Ta0
    have rS : zR τ62 atStates a0 = zR κ atStates a0 := Z0.r (fun z => absurd z.2 (by decide))
    have rE : zR τ62 atEndings a0 = zR κ atEndings a0 := Z0.r (fun z => absurd z.2 (by decide))
    have H1 : hoI τ62 (zR τ62 atStates a0) 1000 142 2048 := by rw [rS]; exact hoI_zF Z0 W (ty_atStates W Ta0) (fun f z => n0.1.2.1 z.1) hp.2.2.1.1
    have H2 : hoI τ62 (zR τ62 atEndings a0) 1000 35 2048 := by rw [rE]; exact hoI_zF Z0 W (ty_atEndings W Ta0) (fun f z => n0.1.2.2 z.1) hp.2.2.1.2
    have ne : zR τ62 atStates a0 ≠ zR τ62 atEndings a0 := by rw [rS, rE]; exact hp.2.2.2
    have n1 := at_ne W62 T62_0
    refine Ho_clear_c W62 T1 1000 142 2048 ?_ (fun κ_2 q3 => ?_)
    · exact ⟨H1, hP1⟩  -- p1
    have a1 : ∀ f, ¬ hoF (zR τ62 atStates a0) f a0 := fun f z => n1.1.2.1 z.1.symm
    have r2 : ∀ f, zR κ_2 f a0 = zR τ62 f a0 := fun f => q3.1.r (a1 f)
    have H2b : hoI κ_2 (zR κ_2 atEndings a0) 1000 35 2048 := by rw [r2]; exact hoI_zF q3.1 W62 (ty_atEndings W62 T62_0) (fun f z => ne z.1.symm) H2
    have T2 : zT κ_2 a0 = 3 := q3.1.t T62_0 (by decide)
    intro W4
    intro M5
    intro T6
    refine Ho_clear_c W4 T6 1000 35 2048 ?_ (fun κ_7 q8 => ?_)
    · exact ⟨H2b, hP2⟩  -- p2
    intro W9
    intro M10
    intro T11
    refine Ar_fill_c W9 T11  (fun κ_12 q13 => ?_)
    intro W14
    intro M15
    intro κ_16 hκ_16
    intro W17
    intro κ_18 hκ_18
    intro W19
    intro κ_20 hκ_20
    intro W21
    refine h _ ?_
    · have n2 := at_ne W4 T2
      have a2 : ∀ f, ¬ hoF (zR κ_2 atEndings a0) f a0 := fun f z => n2.1.2.2 z.1.symm
      have r7 : ∀ f, zR κ_7 f a0 = zR τ62 f a0 := fun f => (q8.1.r (a2 f)).trans (r2 f)
      have T7 : zT κ_7 a0 = 3 := q8.1.t T2 (by decide)
      have ow := atRf_o W9 T7 (f := atPlan) (by decide)
      have Z12 : zF (fun g b => b = a0 ∧ atFirsts ≤ g) κ_7 κ_12 := by rw [q13]; exact zF_uf (by rw [ow]; exact ⟨rfl, show (306 : Nat) ≤ 309 by decide⟩)
      have Z16 : zF (fun g b => b = a0 ∧ atFirsts ≤ g) κ_12 κ_16 := by rw [hκ_16]; exact zF_ui ⟨rfl, by decide⟩
      have Z18 : zF (fun g b => b = a0 ∧ atFirsts ≤ g) κ_16 κ_18 := by rw [hκ_18]; exact zF_ui ⟨rfl, by decide⟩
      have Z20 : zF (fun g b => b = a0 ∧ atFirsts ≤ g) κ_18 κ_20 := by rw [hκ_20]; exact zF_ui ⟨rfl, by decide⟩
      have ZZ := ((Z12.tr Z16).tr Z18).tr Z20
      have R20 : zR κ_20 = zR κ_7 := by rw [hκ_20, hκ_18, hκ_16, q13]; rfl
      have N20 : zN κ_20 = zN κ_7 := by rw [hκ_20, hκ_18, hκ_16, q13]; rfl
      have nS : zR κ_7 atStates a0 ≠ a0 := by rw [r7]; exact n1.1.2.1
      have nE : zR κ_7 atEndings a0 ≠ a0 := by rw [r7]; exact n1.1.2.2
      have ln : ∀ f, f ∈ atRf → zN κ_7 (zR κ_7 f a0) = zN τ62 (zR τ62 f a0) := fun f hf => by
        obtain ⟨⟨t, h1, h2⟩, h3⟩ := atRf_r f hf
        have ty := W62.r h1 (T62_0.trans h3.symm)
        have t1 : zT τ62 (zR τ62 f a0) = (t - 1) + 1 := by omega
        have ty2 := W4.r h1 (T2.trans h3.symm)
        have t2 : zT κ_2 (zR κ_2 f a0) = (t - 1) + 1 := by omega
        have b2 := q8.1.l t2
        rw [q8.1.r (a2 f), b2, r2]
        exact q3.1.l t1
      have H1c : hoI κ_7 (zR κ_7 atStates a0) 1000 142 2048 := by
        rw [r7]
        have q := q3.2.1
        exact hoI_zF q8.1 W4 (q3.1.t (ty_atStates W62 T62_0) (by decide)) (fun f z => ne (z.1.trans (r2 atEndings))) q
      have H2c : hoI κ_7 (zR κ_7 atEndings a0) 1000 35 2048 := by
        rw [q8.1.r (a2 atEndings)]
        exact q8.2.1
      have s0 : zI κ_7 hoTotal (zR κ_7 atStates a0) = 0 := by
        rw [r7, q8.1.i (fun z => ne (z.1.trans (r2 atEndings)))]
        exact Int32.toInt_inj.mp (q3.2.2.2.trans t0i.symm)
      have e0 : zI κ_7 hoTotal (zR κ_7 atEndings a0) = 0 := by
        rw [q8.1.r (a2 atEndings)]
        exact Int32.toInt_inj.mp (q8.2.2.2.trans t0i.symm)
      refine ⟨(((Z0.mono (fun f x z => Or.inl z)).tr (q3.1.mono (fun f x z => Or.inr (Or.inl (z.1.trans rS))))).tr (q8.1.mono (fun f x z => Or.inr (Or.inr (z.1.trans ((r2 atEndings).trans rE)))))).tr (ZZ.mono (fun f x z => Or.inl z)), ?_, ?_, ⟨?_, ?_⟩, ⟨?_, ?_⟩, ?_, ?_, ?_, ?_⟩
      · unfold atM
        rw [R20, N20, ln atFirsts (by decide), ln atTotals (by decide), ln atGains (by decide), ln atPlan (by decide), ln atChooses (by decide), ln atHopeless (by decide)]
        exact M0
      · unfold atL
        rw [R20, N20, ln atSorts (by decide), ln atNumbers (by decide), ln atWeights (by decide)]
        exact L0
      · rw [R20]; exact hoI_zF ZZ W9 (ty_atStates W9 T7) (fun f z => nS z.1) H1c
      · rw [R20]; exact hoI_zF ZZ W9 (ty_atEndings W9 T7) (fun f z => nE z.1) H2c
      · rw [R20, ZZ.i (fun z => nS z.1)]; exact s0
      · rw [R20, ZZ.i (fun z => nE z.1)]; exact e0
      · rw [hκ_20, hκ_18]
        show zI κ_16 atNexts a0 = 0
        rw [hκ_16]
        exact if_pos ⟨rfl, rfl⟩
      · rw [hκ_20]
        show zI κ_18 atRings a0 = 0
        rw [hκ_18]
        exact if_pos ⟨rfl, rfl⟩
      · rw [R20]
        have I9 := hoI_zF ZZ W9 (ty_atStates W9 T7) (fun f z => nS z.1) H1c
        have q9 : hoA κ_7 (zR κ_7 atStates a0) 1000 142 2048 := by
          rw [r7] at H1c ⊢
          exact ho_A9 W4 q8.1 (q3.1.t (ty_atStates W62 T62_0) (by decide)) (fun f z => ne (z.1.trans (r2 atEndings))) H1c q3.2.2.1 (by decide)
        exact ho_A9 W9 ZZ (ty_atStates W9 T7) (fun f z => nS z.1) I9 q9 (by decide)
      · rw [R20]
        have I9 := hoI_zF ZZ W9 (ty_atEndings W9 T7) (fun f z => nE z.1) H2c
        have q9 : hoA κ_7 (zR κ_7 atEndings a0) 1000 35 2048 := by
          rw [q8.1.r (a2 atEndings)]
          exact q8.2.2.1
        exact ho_A9 W9 ZZ (ty_atEndings W9 T7) (fun f z => nE z.1) I9 q9 (by decide)
  refine ⟨fun c22 => ?_, fun c22 => ?_⟩
  · skip
    refine hj62 _ _ W ?_ ?_
    · exact Ta0  -- t4
    · have c9 : (zN κ (zR κ atPlan a0)) ≠ 0 := fun z => c22 (by rw [z]; rfl)
      exact ⟨rfl, zF.rf, hp.1.resolve_left (fun z => c9 z.1), hp.2.1⟩
  · skip
    have U : atU κ a0 := by
      rcases hp.1 with z | z
      · exact z
      · have y := z.2.2.2.1
        rw [y] at c22
        exact absurd c22 (by decide)
    obtain ⟨L3, L0, L1, L2, L4, L5⟩ := U
    replace L3 : zN κ (zR κ atPlan a0) ≤ 1 := by omega
    refine ⟨?_, ?_⟩
    · exact ⟨by decide, by decide⟩  -- b6
    intro κ_23 hκ_23
    intro W24
    refine ⟨?_, ?_⟩
    · rw [hκ_23]; exact if_pos rfl  -- b7
    intro κ_25 hκ_25
    intro W26
    have J0 := mkJ_s (f := atFirsts) (t := 20) (n := 1001) W W Ta0 (mkJ.rf) (show zr atFirsts = some 20 by decide +kernel) (by decide) rfl (by decide) (by decide) L0 (by decide) hκ_23 hκ_25 W26
    refine ⟨?_, ?_⟩
    · exact ⟨by decide, by decide⟩  -- b8
    intro κ_27 hκ_27
    intro W28
    refine ⟨?_, ?_⟩
    · rw [hκ_27]; exact if_pos rfl  -- b9
    intro κ_29 hκ_29
    intro W30
    have J1 := mkJ_s (f := atTotals) (t := 20) (n := 1000) W W26 Ta0 (J0) (show zr atTotals = some 20 by decide +kernel) (by decide) rfl (by decide) (by decide) L1 (by decide) hκ_27 hκ_29 W30
    refine ⟨?_, ?_⟩
    · exact ⟨by decide, by decide⟩  -- b10
    intro κ_31 hκ_31
    intro W32
    refine ⟨?_, ?_⟩
    · rw [hκ_31]; exact if_pos rfl  -- b11
    intro κ_33 hκ_33
    intro W34
    have J2 := mkJ_s (f := atGains) (t := 20) (n := 1000) W W30 Ta0 (J1) (show zr atGains = some 20 by decide +kernel) (by decide) rfl (by decide) (by decide) L2 (by decide) hκ_31 hκ_33 W34
    refine ⟨?_, ?_⟩
    · exact ⟨by decide, by decide⟩  -- b12
    intro κ_35 hκ_35
    intro W36
    refine ⟨?_, ?_⟩
    · rw [hκ_35]; exact if_pos rfl  -- b13
    intro κ_37 hκ_37
    intro W38
    have J3 := mkJ_s (f := atPlan) (t := 20) (n := 1000) W W34 Ta0 (J2) (show zr atPlan = some 20 by decide +kernel) (by decide) rfl (by decide) (by decide) L3 (by decide) hκ_35 hκ_37 W38
    refine ⟨?_, ?_⟩
    · exact ⟨by decide, by decide⟩  -- b14
    intro κ_39 hκ_39
    intro W40
    refine ⟨?_, ?_⟩
    · rw [hκ_39]; exact if_pos rfl  -- b15
    intro κ_41 hκ_41
    intro W42
    have J4 := mkJ_s (f := atChooses) (t := 23) (n := 1000) W W38 Ta0 (J3) (show zr atChooses = some 23 by decide +kernel) (by decide) rfl (by decide) (by decide) L4 (by decide) hκ_39 hκ_41 W42
    refine ⟨?_, ?_⟩
    · exact ⟨by decide, by decide⟩  -- b16
    intro κ_43 hκ_43
    intro W44
    refine ⟨?_, ?_⟩
    · rw [hκ_43]; exact if_pos rfl  -- b17
    intro κ_45 hκ_45
    intro W46
    refine hj62 _ _ W46 ?_ ?_
    · have J5 := mkJ_s (f := atHopeless) (t := 23) (n := 1000) W W42 Ta0 (J4) (show zr atHopeless = some 23 by decide +kernel) (by decide) rfl (by decide) (by decide) L5 (by decide) hκ_43 hκ_45 W46
      exact J5.1.t Ta0 (by decide)
    · have J5 := mkJ_s (f := atHopeless) (t := 23) (n := 1000) W W42 Ta0 (J4) (show zr atHopeless = some 23 by decide +kernel) (by decide) rfl (by decide) (by decide) L5 (by decide) hκ_43 hκ_45 W46
      have p := J5.2.2.2.2
      have r := J5.2.2.1
      have o := J5.2.2.2.1
      refine ⟨rfl, J5.1.mono (fun g b z => ⟨z.1, ?_⟩), ⟨(p (atFirsts, 1001) (by decide)).1, (p (atTotals, 1000) (by decide)).1, (p (atGains, 1000) (by decide)).1, (p (atPlan, 1000) (by decide)).1, (p (atChooses, 1000) (by decide)).1, (p (atHopeless, 1000) (by decide)).1⟩, ?_⟩
      · have m := z.2
        simp only [List.map_cons, List.map_nil, List.mem_cons, List.not_mem_nil, or_false] at m
        have e1 : (atFirsts : Nat) = 306 := rfl
        have e2 : (atTotals : Nat) = 307 := rfl
        have e3 : (atGains : Nat) = 308 := rfl
        have e4 : (atPlan : Nat) = 309 := rfl
        have e5 : (atChooses : Nat) = 310 := rfl
        have e6 : (atHopeless : Nat) = 311 := rfl
        omega
      · unfold atL
        rw [r atSorts a0 (fun z => absurd z.2 (by decide)), r atNumbers a0 (fun z => absurd z.2 (by decide)), r atWeights a0 (fun z => absurd z.2 (by decide)), (o _ _ (ty_atSorts W Ta0)).1, (o _ _ (ty_atNumbers W Ta0)).1, (o _ _ (ty_atWeights W Ta0)).1]
        exact hp.2.1

theorem At_expand_c2 {C : zC} {n0 : Nat} {a0 : Nat} {a1 : Int32} {a2 : Int32} {κ : zS} {Q : Int32 → zS → Prop} (W : zW C n0 κ) (Ta0 : zT κ a0 = 3) (m9 : Int32) (hp : ldA κ a0 ∧ (0 ≤ a1.toInt ∧ a1.toInt < 1000) ∧ exU9 κ a0 a1.toNatClampNeg ∧ (0 < a1.toNatClampNeg → (zA κ (zR κ atFirsts a0) a1.toNatClampNeg).toInt = (zI κ atNexts a0).toInt)) (h : ∀ (v : Int32) (κ' : zS), (ldA κ' a0 ∧ zF (exF κ a0) κ κ' ∧ nb v ∧ (v ≠ 0 → exU9 κ' a0 (a1.toNatClampNeg + 1) ∧ (zA κ' (zR κ' atFirsts a0) (a1.toNatClampNeg + 1)).toInt = (zI κ' atNexts a0).toInt) ∧ (stB κ κ' a0 a2 ∧ stG9 κ κ' a0 m9)) → Q v κ') : zRun C 5 mAt_expand [.ref a0, .int a1, .int a2] κ (oI Q noX) := by
  refine At_expand_run W Ta0 ?_
  replace W := W.lo (Nat.le_trans W.1.2.1 W.1.2.2) (Nat.le_refl (zn κ))
  unfold w_At_expand_0
  obtain ⟨A0, k01, E0, F0⟩ := hp
  have kn := cnk k01.1
  have en := cn1 k01.1 (by omega)
  have hj231 : ∀ (l0 : Nat) (l1 : Int32) (l4 : Int32) (τ : zS), zW C (zn κ) τ → zT τ l0 = 3 → (a0 = l0 ∧ a1 = l1 ∧ (stB κ τ a0 a2 ∧ stG9 κ τ a0 m9) ∧ exZ κ τ a0 a1.toNatClampNeg l4) → w_At_expand_231 C (zn κ) Q  l0 l1 l4 τ := by
    rintro _ _ y231_4 τ231 W231 T231_0 ⟨rfl, rfl, j231⟩
    unfold w_At_expand_231
    obtain ⟨b231, j231⟩ := j231
    refine ⟨?_, ?_⟩
    · have L := j231.1.1.1
      rw [inb_iff, en.2]; omega
    intro κ_1 hκ_1
    intro W2
    refine ⟨?_, h _ _ ?_⟩
    · exact j231.2.2.1  -- b2
    · obtain ⟨A, Z, b, q⟩ := j231
      rw [en.1] at hκ_1
      have ow : zO τ231 (zR τ231 atFirsts a0) = (atFirsts, a0) := atRf_o W231 T231_0 (by decide)
      have R : zR κ_1 = zR τ231 := by rw [hκ_1]; rfl
      have I : zI κ_1 = zI τ231 := by rw [hκ_1]; rfl
      have N : zN κ_1 = zN τ231 := by rw [hκ_1]; rfl
      refine ⟨(ld_own W231 T231_0 A (by rw [hκ_1]; exact zF_ua (by rw [ow])) R N I).1, Z.tr (by rw [hκ_1]; exact zF_ua (by rw [ow]; exact Or.inl ⟨rfl, Or.inl rfl⟩)), b, fun hr => ?_, ⟨fun z => by rw [R, I]; exact b231.1 z, fun z => by rw [R, I]; exact b231.2 z⟩⟩
      obtain ⟨E, w, X, w1, wt⟩ := q hr
      exact ex_2 W231 T231_0 A E X w1 wt hκ_1
  have hh143 : ∀ (l0 : Nat) (l1 : Int32) (l2 : Int32) (l3 : Int32) (l4 : Int32) (l5 : Int32) (τ : zS), zW C (zn κ) τ → zT τ l0 = 3 → (a0 = l0 ∧ a1 = l1 ∧ a2 = l2 ∧ (stB κ τ a0 a2 ∧ stG9 κ τ a0 m9) ∧ exL κ τ a0 a1.toNatClampNeg l3 l4 l5) → w_At_expand_143 C (zn κ) Q  l0 l1 l2 l3 l4 l5 τ := by
    intro z0 z1 z2 z3 z4 z5 τi Wi _ hinit
    unfold w_At_expand_143
    refine ⟨fun n l0 l1 l2 l3 l4 l5 τ => n = (64 - l5.toInt).toNat ∧ (a0 = l0 ∧ a1 = l1 ∧ a2 = l2 ∧ (stB κ τ a0 a2 ∧ stG9 κ τ a0 m9) ∧ exL κ τ a0 a1.toNatClampNeg l3 l4 l5), ⟨_, rfl, hinit⟩, ?_⟩
    clear hinit
    rintro n143 _ _ _ x143_3 x143_4 x143_5 κ143 W143 T143_0 ⟨hn143, rfl, rfl, rfl, i143⟩
    obtain ⟨b143, i143⟩ := i143
    have hj156 : ∀ (l0 : Nat) (l1 : Int32) (l2 : Int32) (l3 : Int32) (l4 : Int32) (l5 : Int32) (τ : zS), zW C (zn κ) τ → zT τ l0 = 3 → (a0 = l0 ∧ a1 = l1 ∧ a2 = l2 ∧ κ143 = τ ∧ x143_3 = l3 ∧ x143_4 = l4 ∧ x143_5 = l5 ∧ (l4 ≠ 0 → zI τ maWants (zR τ atMachine a0) ≠ -1)) → w_At_expand_156 C (zn κ) Q (fun (l0' : Nat) (l1' : Int32) (l2' : Int32) (l3' : Int32) (l4' : Int32) (l5' : Int32) (τ : zS) => ∃ k < n143, (fun (n : Nat) (l0 : Nat) (l1 : Int32) (l2 : Int32) (l3 : Int32) (l4 : Int32) (l5 : Int32) (τ : zS) => n = (64 - l5.toInt).toNat ∧ (a0 = l0 ∧ a1 = l1 ∧ a2 = l2 ∧ (stB κ τ a0 a2 ∧ stG9 κ τ a0 m9) ∧ exL κ τ a0 a1.toNatClampNeg l3 l4 l5)) k l0' l1' l2' l3' l4' l5' τ) l0 l1 l2 l3 l4 l5 τ := by
      rintro _ _ _ y156_3 y156_4 y156_5 τ156 W156 T156_0 ⟨rfl, rfl, rfl, j156⟩
      unfold w_At_expand_156
      obtain ⟨rfl, rfl, rfl, rfl, jw⟩ := j156
      refine ⟨fun c3 => ?_, fun c3 => ?_⟩
      · skip
        refine hj231 _ _ _ _ W156 ?_ ?_
        · exact T143_0  -- t4
        · rw [lei] at c3
          exact ⟨rfl, rfl, b143, exZ_L i143 (fun hr hw => by
            have := (i143.2.2.2.2.2 hr).2.2.2 hw
            omega)⟩
      · skip
        refine ⟨fun c4 => ?_, fun c4 => ?_⟩
        · skip
          refine hj231 _ _ _ _ W156 ?_ ?_
          · exact T143_0  -- t6
          · exact ⟨rfl, rfl, b143, exZ_L i143 (fun hr => absurd c4 hr)⟩  -- k7
        · skip
          have jh := jw c4
          have e4 : x143_4 = 1 := i143.2.2.2.1.resolve_left c4
          have LL := i143
          rw [e4] at LL
          obtain ⟨A, Z, R, b, x0, L⟩ := i143
          obtain ⟨E, M, X, xw⟩ := L c4
          rw [lei] at c3
          have h1 : x143_5.toInt < (zI κ143 maWays (zR κ143 atMachine a0)).toInt := by omega
          have ww := ex_w M jh x0.1 h1
          have kx := cnk x0.1
          have e1 := cn1 x0.1 (by omega)
          refine ⟨?_, ?_⟩
          · have Lm := A.2.2.2.1.1.1.2.2.2.2
            rw [inb_iff]; omega
          refine ⟨fun c5 => ?_, fun c5 => ?_⟩
          · skip
            intro x6 hx6
            refine ⟨_, ?_, rfl, ?_⟩
            · rw [hn143, hx6, e1.2]; omega  -- d9
            · rw [lei, t0i] at c5
              have e : exW κ143 a0 x6 = exW κ143 a0 x143_5 := by rw [hx6, ww.2.1]; omega
              exact ⟨rfl, rfl, rfl, b143, A, Z, R, b, by rw [hx6, e1.2]; omega, fun hr => ⟨E, M, by rw [e]; exact X, fun _ => by rw [hx6, e1.2]; omega⟩⟩
          · skip
            intro T7
            intro T8
            refine Ma_load_c W156 T7 T8  ?_ (fun κ_9 q10 => ?_)
            · exact ⟨A.2.2.2.1.1, A.2.2.2.1.2.1, A.2.2.1.1⟩  -- p11
            obtain ⟨A1, P1, X1⟩ := ld_f (lo := (zA κ143 (zR κ143 atFirsts a0) a1.toNatClampNeg).toInt) W143 T143_0 A X q10.1 q10.2.1 q10.2.2.1 (Or.inl q10.2.2.2)
            have r1 := (ld_r W143 T143_0 P1.1).1
            have T1 := P1.1.t T143_0 (by decide)
            have rm1 := r1 atMachine (by decide)
            have M1 := exM_P W143 T143_0 P1 M
            intro W11
            intro M12
            intro T13
            refine Ma_settle_c W11 T13  ?_ (fun κ_14 q15 => ?_)
            · exact ⟨A1.2.2.2.1.1, by rw [rm1]; exact q10.2.2.2, by rw [M1.2.2.2.1]; exact ww.1⟩  -- p12
            obtain ⟨A2, P2, X2⟩ := ld_f (lo := (zA κ143 (zR κ143 atFirsts a0) a1.toNatClampNeg).toInt) W11 T1 A1 X1 q15.1 q15.2.2.2 q15.2.1 q15.2.2.1
            have P12 := ldP.tr W143 T143_0 P1 P2
            have M2 := exM_P W143 T143_0 P12 M
            have T2 := P2.1.t T1 (by decide)
            intro W16
            intro M17
            refine ⟨?_, ?_⟩
            · have L2 := A2.2.2.2.1.1.1.2.2.2.2
              rw [inb_iff]; omega
            intro T18
            refine At_lead_c W16 T18 (exW κ143 a0 x143_5) ?_ (fun r19 κ_20 q21 => ?_)
            · have qC := ((ld_r W143 T143_0 P12.1).2.2 atChooses (by decide) (by decide)).1
              have w2 := ww.2.1
              have w3 := ww.2.2.2.1
              refine ⟨A2, X2, k01, ⟨by rw [M2.2.2.2.2]; exact ww.2.2.1, by rw [M2.2.2.2.2]; omega⟩, fun z => ?_⟩
              rw [qC] at z
              rw [M2.2.2.2.2]
              exact ww.2.2.2.2 z
            intro W22
            intro M23
            intro x24 hx24
            refine ⟨_, ?_, rfl, ?_⟩
            · rw [hn143, hx24, e1.2]; omega  -- d15
            · have nS := (at_ne W143 T143_0).2.1
              have nS1 := (at_ne W11 T1).2.1
              have t1 : zI κ_14 hoTotal (zR κ_14 atStates a0) = zI κ143 hoTotal (zR κ143 atStates a0) := by
                rw [(ld_r W11 T1 P2.1).1 atStates (by decide), q15.1.1.i (fun y => nS1 y.symm), r1 atStates (by decide), q10.1.1.i (fun y => nS y.symm)]
              exact ⟨rfl, rfl, rfl, ⟨fun z => q21.2.2.2.2 (by rw [t1]; exact b143.1 z), fun z => ld_g9 W16 T2 q21.2.1 (by rw [t1]; exact b143.2 z)⟩, exL_s W143 T143_0 LL jh h1 P12 W16 T2 q21.1 q21.2.1 q21.2.2.1 q21.2.2.2.1 hx24⟩
    refine ⟨fun c25 => ?_, fun c25 => ?_⟩
    · skip
      refine hj156 _ _ _ _ _ _ _ W143 ?_ ?_
      · exact T143_0  -- t17
      · exact ⟨rfl, rfl, rfl, rfl, rfl, rfl, rfl, fun hr => by
          rw [(i143.2.2.2.2.2 hr).2.1.2.1.mp c25]; decide⟩
    · skip
      refine ⟨?_, ?_⟩
      · have L := i143.1.1.2.2.2.2.1
        rw [inb_iff]; omega
      refine ⟨fun c26 => ?_, fun c26 => ?_⟩
      · skip
        refine hj231 _ _ _ _ W143 ?_ ?_
        · exact T143_0  -- t20
        · exact ⟨rfl, rfl, b143, exZ_L i143 (fun hr hw => by
            have M := (i143.2.2.2.2.2 hr).2.1
            rcases M.1 with z | ⟨z, -⟩ | ⟨z, -⟩
            · exact absurd z hw
            · exact absurd c25 (M.2.1.mpr z)
            · exact absurd c26 (M.2.2.1.mpr z))⟩
      · skip
        refine hj156 _ _ _ _ _ _ _ W143 ?_ ?_
        · exact T143_0  -- t22
        · exact ⟨rfl, rfl, rfl, rfl, rfl, rfl, rfl, fun hr => by
            rw [(i143.2.2.2.2.2 hr).2.1.2.2.1.mp c26]; decide⟩
  have hj101 : ∀ (l0 : Nat) (l1 : Int32) (l2 : Int32) (l3 : Int32) (s0 : Nat) (s1 : Int32) (s2 : Int32) (τ : zS), zW C (zn κ) τ → zT τ l0 = 3 → zT τ s0 = 20 → (a0 = l0 ∧ a1 = l1 ∧ a2 = l2 ∧ exI κ τ a0 a1.toNatClampNeg ∧ mDw τ (zR κ atMachine a0) ∧ (l3 ≠ 0 ↔ zI τ maWants (zR κ atMachine a0) = 3) ∧ s0 = zR τ atTotals a0 ∧ a1 = s1 ∧ (zA τ (zR τ atChooses a0) a1.toNatClampNeg ≠ 0 ↔ zI τ maWants (zR κ atMachine a0) = 4) ∧ (zI τ maWants (zR κ atMachine a0) = 3 → s2 = zI τ maTotal (zR κ atMachine a0)) ∧ (zI τ maWants (zR κ atMachine a0) = -1 → s2 = 1)) → w_At_expand_101 C (zn κ) Q  l0 l1 l2 l3 s0 s1 s2 τ := by
    rintro _ _ _ y101_3 y101_s0 y101_s1 y101_s2 τ101 W101 T101_0 T101_1 ⟨rfl, rfl, rfl, j101⟩
    unfold w_At_expand_101
    obtain ⟨H, D, d3, rfl, rfl, cC, t3, t1⟩ := j101
    refine ⟨?_, ?_⟩
    · have L := H.1.1.2.1
      rw [inb_iff]; omega
    intro κ_27 hκ_27
    intro W28
    have U1 := ex_u W101 T101_0 H (Or.inr (Or.inl rfl)) hκ_27
    have T27 : zT κ_27 a0 = 3 := by rw [hκ_27]; exact T101_0
    refine ⟨?_, ?_⟩
    · have L := U1.1.1.1.2.2.1
      rw [inb_iff]; omega
    intro κ_29 hκ_29
    intro W30
    have U2 := ex_u W28 T27 U1.1 (Or.inr (Or.inr rfl)) hκ_29
    have T29 : zT κ_29 a0 = 3 := by rw [hκ_29]; exact T27
    have G := U1.2.1.tr U2.2.1
    have rm : zR κ_29 atMachine a0 = zR κ atMachine a0 := U2.1.2.2.2.2.1
    have gw := (G maWants (by decide)).1
    have gt := (G maTotal (by decide)).1
    have cr : zA κ_29 (zR κ_29 atChooses a0) = zA τ101 (zR τ101 atChooses a0) := by
      rw [U2.2.2.1, U2.2.2.2.2.1 atChooses (by decide) (by decide), U1.2.2.1, U1.2.2.2.2.1 atChooses (by decide) (by decide)]
    have tr9 : zA κ_29 (zR κ_29 atTotals a0) a1.toNatClampNeg = y101_s2 := by
      rw [U2.2.2.1, U2.2.2.2.2.1 atTotals (by decide) (by decide), U1.2.2.1, U1.2.2.2.2.2]
      exact if_pos rfl
    have sb29 : stB κ κ_29 a0 a2 := fun z => by
      rw [U2.1.2.2.2.2.2.1, U2.1.2.2.2.2.2.2.2]
      exact z
    have sg29 : stG9 κ κ_29 a0 m9 := fun z => by
      rw [U2.1.2.2.2.2.2.1, U2.1.2.2.2.2.2.2.2]
      exact z
    have M9 : exM κ_29 a0 a1.toNatClampNeg y101_3 := by
      unfold exM
      rw [rm, cr, tr9, gw, gt]
      exact ⟨mDw_g G D, d3, cC, fun z => by rw [t3 z], fun z => by rw [t1 z]; rfl⟩
    refine ⟨fun c31 => ?_, fun c31 => ?_⟩
    · skip
      refine hh143 _ _ _ _ _ _ _ W30 (by assumption) ?_
      · exact ⟨rfl, rfl, rfl, ⟨sb29, sg29⟩, exL_0 U2.1 M9 (by rw [M9.2.1.mp c31]; decide)⟩  -- j26
    · skip
      refine ⟨?_, ?_⟩
      · have L := U2.1.1.1.2.2.2.2.1
        rw [inb_iff]; omega
      refine ⟨fun c32 => ?_, fun c32 => ?_⟩
      · skip
        refine hh143 _ _ _ _ _ _ _ W30 (by assumption) ?_
        · exact ⟨rfl, rfl, rfl, ⟨sb29, sg29⟩, exL_0 U2.1 M9 (by rw [M9.2.2.1.mp c32]; decide)⟩  -- j28
      · skip
        intro T33
        refine At_lead_c W30 T33 0 ?_ (fun r34 κ_35 q36 => ?_)
        · exact ⟨U2.1.1, ld_o3 U2.1.1 U2.1.2.2.1, k01, by decide, fun z => absurd c32 z⟩  -- p29
        have T35 := q36.2.1.1.t T29 (by decide)
        intro W37
        intro M38
        refine hh143 _ _ _ _ _ _ _ W37 (by assumption) ?_
        · have hw : zI κ_29 maWants (zR κ_29 atMachine a0) = -1 := by
            rcases M9.1 with z | ⟨z, -⟩ | ⟨z, -⟩
            · exact z
            · exact absurd c31 (M9.2.1.mpr z)
            · exact absurd c32 (M9.2.2.1.mpr z)
          exact ⟨rfl, rfl, rfl, ⟨fun z => q36.2.2.2.2 (sb29 z), fun z => ld_g9 W30 T29 q36.2.1 (sg29 z)⟩, exL_1 W30 T29 U2.1 M9 hw q36.1 q36.2.1 q36.2.2.1 q36.2.2.2.1⟩
  have hj67 : ∀ (l0 : Nat) (l1 : Int32) (l2 : Int32) (l3 : Int32) (s0 : Nat) (s1 : Int32) (s2 : Int32) (τ : zS), zW C (zn κ) τ → zT τ l0 = 3 → zT τ s0 = 23 → (a0 = l0 ∧ a1 = l1 ∧ a2 = l2 ∧ exI κ τ a0 a1.toNatClampNeg ∧ mDw τ (zR κ atMachine a0) ∧ (l3 ≠ 0 ↔ zI τ maWants (zR κ atMachine a0) = 3) ∧ s0 = zR τ atChooses a0 ∧ a1 = s1 ∧ (s2 = 0 ∨ s2 = 1) ∧ (s2 ≠ 0 ↔ zI τ maWants (zR κ atMachine a0) = 4)) → w_At_expand_67 C (zn κ) Q  l0 l1 l2 l3 s0 s1 s2 τ := by
    rintro _ _ _ y67_3 y67_s0 y67_s1 y67_s2 τ67 W67 T67_0 T67_1 ⟨rfl, rfl, rfl, j67⟩
    unfold w_At_expand_67
    obtain ⟨H, D, d3, rfl, rfl, s01, s4⟩ := j67
    refine ⟨?_, ?_⟩
    · have L := H.1.1.2.2.2.2.1
      rw [inb_iff]; omega
    intro κ_39 hκ_39
    intro W40
    have nv : vp_nar .boolean y67_s2 = y67_s2 := by
      rcases s01 with e | e
      · rw [e]; rfl
      · rw [e]; rfl
    rw [nv] at hκ_39
    have U := ex_u W67 T67_0 H (Or.inl rfl) hκ_39
    have T39 : zT κ_39 a0 = 3 := by rw [hκ_39]; exact T67_0
    have gw := (U.2.1 maWants (by decide)).1
    have cv : zA κ_39 (zR κ_39 atChooses a0) a1.toNatClampNeg = y67_s2 := by
      rw [U.2.2.1, U.2.2.2.2.2]; exact if_pos rfl
    have D9 := mDw_g U.2.1 D
    rw [← gw] at d3 s4
    have s5 := s4
    rw [← cv] at s5
    refine ⟨fun c41 => ?_, fun c41 => ?_⟩
    · skip
      refine ⟨?_, ?_⟩
      · have L := U.1.1.1.2.2.2.2.1
        rw [inb_iff]; omega
      refine ⟨fun c42 => ?_, fun c42 => ?_⟩
      · skip
        refine hj101 _ _ _ _ _ _ _ _ W40 ?_ ?_ ?_
        · exact T39  -- t33
        · exact ty_atTotals W40 T39  -- t34
        · exact ⟨rfl, rfl, rfl, U.1, D9, d3, rfl, rfl, s5, fun z => absurd c41 (d3.mpr z), fun _ => rfl⟩  -- k35
      · skip
        refine hj101 _ _ _ _ _ _ _ _ W40 ?_ ?_ ?_
        · exact T39  -- t36
        · exact ty_atTotals W40 T39  -- t37
        · exact ⟨rfl, rfl, rfl, U.1, D9, d3, rfl, rfl, s5, fun z => absurd c41 (d3.mpr z), fun z => by
            have y := s5.mp c42
            rw [z] at y
            exact absurd y (by decide)⟩
    · skip
      refine hj101 _ _ _ _ _ _ _ _ W40 ?_ ?_ ?_
      · exact T39  -- t39
      · exact ty_atTotals W40 T39  -- t40
      · have rm : zR κ_39 atMachine a0 = zR κ atMachine a0 := U.1.2.2.2.2.1
        exact ⟨rfl, rfl, rfl, U.1, D9, d3, rfl, rfl, s5, fun _ => by rw [rm], fun z => by
          have y := d3.mp c41
          rw [z] at y
          exact absurd y (by decide)⟩
  have hj45 : ∀ (l0 : Nat) (l1 : Int32) (l2 : Int32) (s0 : Int32) (τ : zS), zW C (zn κ) τ → zT τ l0 = 3 → (a0 = l0 ∧ a1 = l1 ∧ a2 = l2 ∧ exI κ τ a0 a1.toNatClampNeg ∧ mDw τ (zR κ atMachine a0) ∧ (s0 ≠ 0 ↔ zI τ maWants (zR κ atMachine a0) = 3)) → w_At_expand_45 C (zn κ) Q  l0 l1 l2 s0 τ := by
    rintro _ _ _ y45_s0 τ45 W45 T45_0 ⟨rfl, rfl, rfl, j45⟩
    unfold w_At_expand_45
    have rm : zR τ45 atMachine a0 = zR κ atMachine a0 := j45.1.2.2.2.2.1
    refine ⟨fun c43 => ?_, fun c43 => ?_⟩
    · skip
      refine hj67 _ _ _ _ _ _ _ _ W45 ?_ ?_ ?_
      · exact T45_0  -- t42
      · exact ty_atChooses W45 T45_0  -- t43
      · rw [rm] at c43
        exact ⟨rfl, rfl, rfl, j45.1, j45.2.1, j45.2.2, rfl, rfl, Or.inl rfl, fun z => absurd rfl z, fun z => absurd z c43⟩
    · skip
      refine hj67 _ _ _ _ _ _ _ _ W45 ?_ ?_ ?_
      · exact T45_0  -- t45
      · exact ty_atChooses W45 T45_0  -- t46
      · rw [rm] at c43
        exact ⟨rfl, rfl, rfl, j45.1, j45.2.1, j45.2.2, rfl, rfl, Or.inr rfl, fun _ => c43, fun _ => by decide⟩
  refine ⟨?_, ?_⟩
  · have L := A0.1.1
    rw [inb_iff]; omega
  intro κ_44 hκ_44
  intro W45
  intro T46
  intro T47
  have H1 := ex_1 W Ta0 A0 E0 F0 hκ_44
  have T44 : zT κ_44 a0 = 3 := by rw [hκ_44]; exact Ta0
  refine Ma_load_c W45 T46 T47  ?_ (fun κ_48 q49 => ?_)
  · exact ⟨H1.1.2.2.2.1.1, H1.1.2.2.2.1.2.1, H1.1.2.2.1.1⟩  -- p49
  have H2 := exI_a W45 T44 H1 q49.1 q49.2.2.1 (Or.inl q49.2.2.2)
  have T48 := q49.1.1.t T44 (by decide)
  intro W50
  intro M51
  intro T52
  refine Ma_act_c W50 T52  ?_ (fun κ_53 q54 => ?_)
  · exact ⟨H2.1.2.2.2.1.1, by rw [q49.1.2.1]; exact q49.2.2.2⟩  -- p50
  have H3 := exI_a W50 T48 H2 q54.1 q54.2.1 q54.2.2.1
  have T53 := q54.1.1.t T48 (by decide)
  have rm : zR κ_53 atMachine a0 = zR κ atMachine a0 := H3.2.2.2.2.1
  have rm2 : zR κ_48 atMachine a0 = zR κ atMachine a0 := H2.2.2.2.2.1
  have D : mDw κ_53 (zR κ atMachine a0) := by rw [← rm2]; exact q54.2.2.2
  intro W55
  intro M56
  refine ⟨fun c57 => ?_, fun c57 => ?_⟩
  · skip
    refine hj45 _ _ _ _ _ W55 ?_ ?_
    · exact T53  -- t51
    · rw [rm] at c57
      exact ⟨rfl, rfl, rfl, H3, D, fun z => absurd rfl z, fun z => absurd z c57⟩
  · skip
    refine hj45 _ _ _ _ _ W55 ?_ ?_
    · exact T53  -- t53
    · rw [rm] at c57
      exact ⟨rfl, rfl, rfl, H3, D, fun _ => c57, fun _ => by decide⟩

theorem At_discover_c2 {C : zC} {n0 : Nat} {a0 : Nat} {a1 : Nat} {a2 : Int32} {κ : zS} {Q : Int32 → zS → Prop} (W : zW C n0 κ) (Ta0 : zT κ a0 = 3) (Ta1 : zT κ a1 = 5)  (hp : atI κ a0 ∧ coI κ a1 ∧ (1 ≤ a2.toInt ∧ a2.toInt ≤ 1000)) (h : ∀ (v : Int32) (κ' : zS), (zF (dsF κ a0) κ κ' ∧ atI κ' a0 ∧ zR κ' atCode a0 = a1 ∧ (zI κ' atExplored a0 ≠ 0 → 0 ≤ (zI κ' atNexts a0).toInt ∧ ((zI κ' hoTotal (zR κ' atStates a0)).toInt = 0 → enZ9 κ' a0))) → Q v κ') : zRun C 6 mAt_discover [.ref a0, .ref a1, .int a2] κ (oI Q noX) := by
  refine At_discover_run W Ta0 Ta1 ?_
  replace W := W.lo (Nat.le_trans W.1.2.1 W.1.2.2) (Nat.le_refl (zn κ))
  unfold w_At_discover_0
  have nw : zR κ atWeb a0 ≠ a0 := fun z => by
    have t := ty_atWeb W Ta0
    rw [z, Ta0] at t
    exact absurd t (by decide)
  have Tw := ty_atWeb W Ta0
  have Tm := ty_atMachine W Ta0
  have Ts := ty_atStates W Ta0
  have Te := ty_atEndings W Ta0
  have w1 : zR κ atWeb a0 ≠ zR κ atMachine a0 := fun z => by rw [z, Tm] at Tw; exact absurd Tw (by decide)
  have w2 : zR κ atWeb a0 ≠ zR κ atStates a0 := fun z => by rw [z, Ts] at Tw; exact absurd Tw (by decide)
  have w3 : zR κ atWeb a0 ≠ zR κ atEndings a0 := fun z => by rw [z, Te] at Tw; exact absurd Tw (by decide)
  have wd : ∀ g, ¬ ds0 κ a0 g (zR κ atWeb a0) := fun g z => by
    rcases z with z | z | z | z
    · exact nw z.1
    · exact w1 z
    · exact w2 z
    · exact w3 z
  have ne := at_ne W Ta0
  have ad : ∀ g, g < 304 → ¬ ds0 κ a0 g a0 := fun g hg z => by
    rcases z with z | z | z | z
    · have := z.2
      omega
    · exact ne.1.1 z.symm
    · exact ne.1.2.1 z.symm
    · exact ne.1.2.2 z.symm
  obtain ⟨⟨I1, I2, I3, I4⟩, I5, I6, I7, I8⟩ := hp.1
  have hj137 : ∀ (l0 : Nat) (τ : zS), zW C (zn κ) τ → zT τ l0 = 3 → (a0 = l0 ∧ ∃ m9 : Nat, zF (ds0 κ a0) κ τ ∧ ldA τ a0 ∧ atW τ a0 m9 ∧ zI τ atExplored a0 = 0 ∧ zR τ atCode a0 = a1 ∧ ((zI τ hoTotal (zR τ atStates a0)).toInt = 0 → enZ9 τ a0)) → w_At_discover_137 C (zn κ) Q  l0 τ := by
    rintro _ τ137 W137 T137_0 ⟨rfl, j137⟩
    unfold w_At_discover_137
    intro T1
    obtain ⟨m9, Z137, A137, W9a, x137, c137, z137⟩ := j137
    have wt : zR τ137 atWeb a0 = zR κ atWeb a0 := Z137.r (ad atWeb (by decide))
    have V := weM_z W Tw Z137 wd
    refine At_survey_c W137 T1 m9 ?_ (fun κ_2 q3 => ?_)
    · rw [wt]
      exact ⟨⟨I6.1.elim (fun z => Or.inl (V.2.1 z)) (fun z => Or.inr (V.1 z)), V.2.2 I6.2⟩, W9a⟩
    intro W4
    intro M5
    intro κ_6 hκ_6
    intro W7
    refine h _ _ ?_
    · have n9 := at_ne W137 T137_0
      have Tw9 := ty_atWeb W137 T137_0
      have Tm9 := ty_atMachine W137 T137_0
      have Tc9 := ty_maCode W137 Tm9
      have Ts9 := ty_atStates W137 T137_0
      have Te9 := ty_atEndings W137 T137_0
      have sv : ∀ x c, zT τ137 x = c → c ≠ 3 → c ≠ 14 → ∀ f, ¬ svF τ137 a0 f x := fun x c hx h3 h14 f z => by
        rcases z with z | z
        · rw [z.1, T137_0] at hx
          exact h3 hx.symm
        · rw [z, Tw9] at hx
          exact h14 hx.symm
      have nwa : a0 ≠ zR τ137 atWeb a0 := fun z => by rw [← z, T137_0] at Tw9; exact absurd Tw9 (by decide)
      have ra : ∀ f, zR κ_2 f a0 = zR τ137 f a0 ∨ hpF a0 f a0 := fun f => by
        by_cases z : hpF a0 f a0
        · exact Or.inr z
        · exact Or.inl (q3.1.r (fun y => y.elim z (fun y => nwa y)))
      have rS : zR κ_2 atStates a0 = zR τ137 atStates a0 := (ra atStates).resolve_right (fun z => absurd z.2 (by decide))
      have rE : zR κ_2 atEndings a0 = zR τ137 atEndings a0 := (ra atEndings).resolve_right (fun z => absurd z.2 (by decide))
      have rM : zR κ_2 atMachine a0 = zR τ137 atMachine a0 := (ra atMachine).resolve_right (fun z => absurd z.2 (by decide))
      have rW : zR κ_2 atWeb a0 = zR τ137 atWeb a0 := (ra atWeb).resolve_right (fun z => absurd z.2 (by decide))
      have H1 := hoI_zF q3.1 W137 Ts9 (sv _ _ Ts9 (by decide) (by decide)) A137.2.2.1.1
      have H2 := hoI_zF q3.1 W137 Te9 (sv _ _ Te9 (by decide) (by decide)) A137.2.2.1.2
      have Lm := maL_zF q3.1 W137 Tm9 (sv _ _ Tm9 (by decide) (by decide)) A137.2.2.2.1.1.1
      have x6 : zI κ_6 atExplored a0 = 1 := by rw [hκ_6]; exact if_pos ⟨rfl, rfl⟩
      have Z6 : zF (dsF κ a0) κ_2 κ_6 := by rw [hκ_6]; exact zF_ui (Or.inl (Or.inl ⟨rfl, by decide⟩))
      have R6 : zR κ_6 = zR κ_2 := by rw [hκ_6]; rfl
      have A6 : atW κ_6 a0 m9 := by rw [hκ_6]; exact q3.2.2.1
      refine ⟨((Z137.mono (fun f x z => Or.inl z)).tr (q3.1.mono (fun f x z => ?_))).tr Z6, ⟨⟨Or.inr A6.1, A6.2.1, ⟨?_, ?_⟩, ?_⟩, ?_, ⟨Or.inr ?_, ?_⟩, by rw [x6]; exact nb_1, fun _ => ⟨m9, A6⟩⟩, ?_, fun _ => ⟨?_, fun hz => ?_⟩⟩
      · rcases z with z | z
        · refine Or.inl (Or.inl ⟨z.1, ?_⟩)
          rcases z.2 with y | y | y <;> rw [y] <;> decide
        · exact Or.inr (z.trans wt)
      · rw [R6, rS, hκ_6]; exact H1
      · rw [R6, rE, hκ_6]; exact H2
      · rw [R6, rS, rE]; exact A137.2.2.2.2.2
      · rw [R6, rM, hκ_6]; exact Lm
      · rw [R6, rW, hκ_6]; exact q3.2.1.1
      · rw [R6, rW, hκ_6]; exact q3.2.1.2
      · rw [R6, q3.2.2.2]; exact c137
      · have y9 : zI κ_6 atNexts a0 = zI τ137 atNexts a0 := by
          rw [hκ_6]
          exact q3.1.i (fun z => z.elim (fun y => absurd y.2 (by decide)) (fun y => nwa y))
        rw [y9]
        exact A137.2.2.2.2.1.1
      · have I6 : ∀ f b, f ≠ atExplored → zI κ_6 f b = zI κ_2 f b := fun f b hf => by rw [hκ_6]; exact if_neg (fun y => hf y.1)
        have hz2 : (zI τ137 hoTotal (zR τ137 atStates a0)).toInt = 0 := by
          rw [R6, rS, I6 hoTotal _ (by decide), q3.1.i (sv _ _ Ts9 (by decide) (by decide) _)] at hz
          exact hz
        have E7 := enZ_z9 W137 T137_0 q3.1 (sv _ _ Te9 (by decide) (by decide)) (sv _ _ (ty_atCode W137 T137_0) (by decide) (by decide)) ((ra atCode).resolve_right (fun z => absurd z.2 (by decide))) rE (z137 hz2)
        intro i hi
        have q := E7 i
        unfold pV9 at q ⊢
        rw [R6, I6 coVars _ (by decide), I6 coCells _ (by decide)] at hi
        have A6' : zA κ_6 = zA κ_2 := by rw [hκ_6]; rfl
        rw [R6, I6 hoTotal _ (by decide), A6']
        exact q hi
  have hh104 : ∀ (l0 : Nat) (l2 : Int32) (l3 : Int32) (τ : zS), zW C (zn κ) τ → zT τ l0 = 3 → (a0 = l0 ∧ a2 = l2 ∧ dsI κ τ a0 a1 a2 l3 ∧ ((zI τ hoTotal (zR τ atStates a0)).toInt = 0 → enZ9 τ a0)) → w_At_discover_104 C (zn κ) Q  l0 l2 l3 τ := by
    intro z0 z2 z3 τi Wi _ hinit
    unfold w_At_discover_104
    refine ⟨fun n l0 l2 l3 τ => n = (1000 - l3.toInt).toNat ∧ (a0 = l0 ∧ a2 = l2 ∧ dsI κ τ a0 a1 a2 l3 ∧ ((zI τ hoTotal (zR τ atStates a0)).toInt = 0 → enZ9 τ a0)), ⟨_, rfl, hinit⟩, ?_⟩
    clear hinit
    rintro n104 _ _ x104_3 κ104 W104 T104_0 ⟨hn104, rfl, rfl, i104⟩
    obtain ⟨⟨Z104, A104, E104, F104, k104, m104, x104, c104⟩, z104⟩ := i104
    have kn := cnk k104
    have t0 := A104.2.2.1.1.2.1.1
    refine ⟨fun c8 => ?_, fun c8 => ?_⟩
    · skip
      refine hj137 _ _ W104 ?_ ?_
      · exact T104_0  -- t3
      · rw [lei] at c8
        exact ⟨rfl, (zI κ104 hoTotal (zR κ104 atStates a0)).toInt.toNat, Z104, A104, ⟨A104.1, A104.2.1, by omega, by omega, A104.2.2.2.2.1.2, fun j hj => (E104 j (by omega)).1⟩, x104, c104, z104⟩
    · skip
      refine ⟨fun c9 => ?_, fun c9 => ?_⟩
      · skip
        refine hj137 _ _ W104 ?_ ?_
        · exact T104_0  -- t5
        · rw [lei] at c8 c9
          exact ⟨rfl, (zI κ104 hoTotal (zR κ104 atStates a0)).toInt.toNat, Z104, A104, ⟨A104.1, A104.2.1, by omega, by omega, A104.2.2.2.2.1.2, fun j hj => (E104 j (by omega)).1⟩, x104, c104, z104⟩
      · skip
        intro T10
        refine At_expand_c2 W104 T10 1 ?_ (fun r11 κ_12 q13 => ?_)
        · rw [lei] at c8 c9
          exact ⟨A104, by omega, E104, F104⟩
        rw [lei] at c8 c9
        have e := cn1 k104 (by omega)
        have n4 := at_ne W104 T104_0
        have rm : zR κ104 atMachine a0 = zR κ atMachine a0 := Z104.r (ad atMachine (by decide))
        have rs : zR κ104 atStates a0 = zR κ atStates a0 := Z104.r (ad atStates (by decide))
        have re : zR κ104 atEndings a0 = zR κ atEndings a0 := Z104.r (ad atEndings (by decide))
        have Z12 : zF (ds0 κ a0) κ κ_12 := Z104.tr (q13.2.1.mono (fun f x z => by
          rcases z with ⟨z, y⟩ | z | z | z
          · refine Or.inl ⟨z, ?_⟩
            rcases y with y | y | y | y | y | y | y | y <;> rw [y] <;> decide
          · exact Or.inr (Or.inl (z.trans rm))
          · exact Or.inr (Or.inr (Or.inl (z.trans rs)))
          · exact Or.inr (Or.inr (Or.inr (z.trans re)))))
        have nx : ∀ f, f < 306 → ¬ exF κ104 a0 f a0 := fun f hf z => by
          rcases z with ⟨z, y⟩ | z | z | z
          · rcases y with y | y | y | y | y | y | y | y <;> rw [y] at hf <;> exact absurd hf (by decide)
          · exact n4.1.1 z.symm
          · exact n4.1.2.1 z.symm
          · exact n4.1.2.2 z.symm
        have x12 : zI κ_12 atExplored a0 = 0 := (q13.2.1.i (nx atExplored (by decide))).trans x104
        have c12 : zR κ_12 atCode a0 = a1 := (q13.2.1.r (nx atCode (by decide))).trans c104
        intro W14
        intro M15
        refine ⟨fun c16 => ?_, fun c16 => ?_⟩
        · skip
          intro x17 hx17
          refine ⟨_, ?_, rfl, ?_⟩
          · rw [hn104, hx17, e.2]; omega  -- d8
          · have q := q13.2.2.2.1 c16
            rw [hx17]
            refine ⟨rfl, rfl, ⟨Z12, q13.1, by rw [e.1]; exact q.1, fun _ => by rw [e.1]; exact q.2, by rw [e.2]; omega, q13.2.2.2.2.1 m104, x12, c12⟩, fun y => ?_⟩
            have g := q13.2.2.2.2.2 (by rw [t1i]; omega)
            rw [t1i] at g
            omega
        · skip
          refine h _ _ ?_
          · have V := weM_z W Tw Z12 wd
            have wt : zR κ_12 atWeb a0 = zR κ atWeb a0 := Z12.r (ad atWeb (by decide))
            refine ⟨Z12.mono (fun f x z => Or.inl z), ⟨⟨Or.inr q13.1.1, q13.1.2.1, q13.1.2.2.1, q13.1.2.2.2.2.2⟩, q13.1.2.2.2.1.1.1, ?_, by rw [x12]; exact nb_0, fun z => absurd x12 z⟩, c12, fun z => absurd x12 z⟩
            rw [wt]
            exact ⟨I6.1.elim (fun z => Or.inl (V.2.1 z)) (fun z => Or.inr (V.1 z)), V.2.2 I6.2⟩
  intro κ_18 hκ_18
  intro W19
  intro κ_20 hκ_20
  intro W21
  intro T22
  have Z20 : zF (fun f x => (x = a0 ∧ 304 ≤ f) ∨ x = zR κ atStates a0 ∨ x = zR κ atEndings a0) κ κ_20 := by
    rw [hκ_20, hκ_18]
    exact (zF_ui (Or.inl ⟨rfl, by decide⟩)).tr (zF_ur (Or.inl ⟨rfl, by decide⟩) (show zr atCode = some 5 by decide +kernel) (by decide))
  have r20 : ∀ f, f ≠ atCode → zR κ_20 f a0 = zR κ f a0 := fun f hf => by rw [hκ_20, hκ_18]; exact if_neg (fun z => hf z.1)
  refine At_clear_c2 W21 T22  ?_ (fun κ_23 q24 => ?_)
  · rw [hκ_20, hκ_18]
    exact ⟨I1, I2, I3, I4⟩
  have Zm : zF (fun f x => (x = a0 ∧ 304 ≤ f) ∨ x = zR κ atStates a0 ∨ x = zR κ atEndings a0) κ κ_23 := Z20.tr (q24.1.mono (fun f x z => by
    rcases z with ⟨z, y⟩ | z | z
    · exact Or.inl ⟨z, Nat.le_trans (by decide) y⟩
    · exact Or.inr (Or.inl (z.trans (r20 atStates (by decide))))
    · exact Or.inr (Or.inr (z.trans (r20 atEndings (by decide))))))
  have nm : ∀ x c, zT κ x = c → c ≠ 3 → c ≠ 6 → ∀ f, ¬ (fun f x => (x = a0 ∧ 304 ≤ f) ∨ x = zR κ atStates a0 ∨ x = zR κ atEndings a0 : Nat → Nat → Prop) f x := fun x c hx h3 h6 f z => by
    rcases z with z | z | z
    · rw [z.1, Ta0] at hx; exact h3 hx.symm
    · rw [z, Ts] at hx; exact h6 hx.symm
    · rw [z, Te] at hx; exact h6 hx.symm
  have na : ∀ f, f < 304 → ¬ (fun f x => (x = a0 ∧ 304 ≤ f) ∨ x = zR κ atStates a0 ∨ x = zR κ atEndings a0 : Nat → Nat → Prop) f a0 := fun f hf z => by
    rcases z with z | z | z
    · have := z.2
      omega
    · exact ne.1.2.1 z.symm
    · exact ne.1.2.2 z.symm
  have rM : zR κ_23 atMachine a0 = zR κ atMachine a0 := Zm.r (na atMachine (by decide))
  have rS : zR κ_23 atStates a0 = zR κ atStates a0 := Zm.r (na atStates (by decide))
  have rE : zR κ_23 atEndings a0 = zR κ atEndings a0 := Zm.r (na atEndings (by decide))
  have T23 : zT κ_23 a0 = 3 := Zm.t Ta0 (by decide)
  have L23 : maL κ_23 (zR κ_23 atMachine a0) := by rw [rM]; exact maL_zF Zm W Tm (nm _ _ Tm (by decide) (by decide)) I5
  have C23 : coI κ_23 a1 := coI_zF Zm W Ta1 (nm _ _ Ta1 (by decide) (by decide)) hp.2.1
  have cl : ∀ f, f < 306 → ¬ clF κ_20 a0 f a0 := fun f hf z => by
    rcases z with z | z | z
    · have z2 := z.2
      have e6 : (atFirsts : Nat) = 306 := rfl
      omega
    · rw [r20 atStates (by decide)] at z
      exact ne.1.2.1 z.symm
    · rw [r20 atEndings (by decide)] at z
      exact ne.1.2.2 z.symm
  have x23 : zI κ_23 atExplored a0 = 0 := by
    rw [q24.1.i (cl atExplored (by decide)), hκ_20, hκ_18]
    exact if_pos ⟨rfl, rfl⟩
  have c23 : zR κ_23 atCode a0 = a1 := by
    rw [q24.1.r (cl atCode (by decide)), hκ_20]
    exact if_pos ⟨rfl, rfl⟩
  have ne23 : zR κ_23 atStates a0 ≠ zR κ_23 atEndings a0 := by rw [rS, rE]; exact I4
  intro W25
  intro M26
  intro T27
  intro T28
  have n3 := at_ne W25 T23
  refine Ma_begin_c2 W25 T27 T28  ?_ (fun κ_29 q30 => ?_)
  · exact ⟨L23, C23⟩  -- p12
  have r29 : ∀ f, zR κ_29 f a0 = zR κ_23 f a0 := fun f => q30.1.r (fun z => n3.1.1 z.symm)
  have i29 : ∀ f, zI κ_29 f a0 = zI κ_23 f a0 := fun f => q30.1.i (fun z => n3.1.1 z.symm)
  have T29 : zT κ_29 a0 = 3 := q30.1.t T23 (by decide)
  have tq : zI κ_29 hoTotal (zR κ_29 atStates a0) = 0 := by rw [r29, q30.1.i (fun z => n3.2.1 z.symm)]; exact q24.2.2.2.2.1.1
  have ln : ∀ f, f ∈ atRf → zN κ_29 (zR κ_29 f a0) = zN κ_23 (zR κ_23 f a0) := fun f hf => by
    obtain ⟨⟨t, h1, h2⟩, h3⟩ := atRf_r f hf
    have ty := W25.r h1 (T23.trans h3.symm)
    have t1 : zT κ_23 (zR κ_23 f a0) = (t - 1) + 1 := by omega
    rw [r29]
    exact q30.1.l t1
  have A29 : ldA κ_29 a0 := by
    refine ⟨?_, ?_, ⟨?_, ?_⟩, ?_, ?_, ?_⟩
    · unfold atM
      rw [ln atFirsts (by decide), ln atTotals (by decide), ln atGains (by decide), ln atPlan (by decide), ln atChooses (by decide), ln atHopeless (by decide)]
      exact q24.2.1
    · unfold atL
      rw [ln atSorts (by decide), ln atNumbers (by decide), ln atWeights (by decide)]
      exact q24.2.2.1
    · rw [r29]; exact hoI_zF q30.1 W25 (ty_atStates W25 T23) (fun f z => n3.2.1 z.symm) q24.2.2.2.1.1
    · rw [r29]; exact hoI_zF q30.1 W25 (ty_atEndings W25 T23) (fun f z => n3.2.2 z.symm) q24.2.2.2.1.2
    · rw [r29]; exact ⟨q30.2.2.1, q30.2.2.2.1, q30.2.2.2.2.1⟩
    · rw [i29, q24.2.2.2.2.2.1, t0i]; omega
    · rw [r29, r29]; exact ne23
  have Z29 : zF (ds0 κ a0) κ κ_29 := (Zm.mono (fun f x z => by
    rcases z with z | z | z
    · exact Or.inl z
    · exact Or.inr (Or.inr (Or.inl z))
    · exact Or.inr (Or.inr (Or.inr z)))).tr (q30.1.mono (fun f x z => Or.inr (Or.inl (z.trans rM))))
  have sS : zR κ_29 atStates a0 = zR κ atStates a0 := (r29 atStates).trans rS
  have sE : zR κ_29 atEndings a0 = zR κ atEndings a0 := (r29 atEndings).trans rE
  intro W31
  intro M32
  have n29 := at_ne W31 T29
  have AS29 : hoA κ_29 (zR κ_29 atStates a0) 1000 142 2048 := by
    have q := q24.2.2.2.2.2.2.2.1
    have I := A29.2.2.1.1
    rw [r29] at I ⊢
    exact ho_A9 W25 q30.1 (ty_atStates W25 T23) (fun f z => n3.2.1 z.symm) I q (by decide)
  have AE29 : hoA κ_29 (zR κ_29 atEndings a0) 1000 35 2048 := by
    have q := q24.2.2.2.2.2.2.2.2
    have I := A29.2.2.1.2
    rw [r29] at I ⊢
    exact ho_A9 W25 q30.1 (ty_atEndings W25 T23) (fun f z => n3.2.2 z.symm) I q (by decide)
  have te29 : zI κ_29 hoTotal (zR κ_29 atEndings a0) = 0 := by rw [r29, q30.1.i (fun z => n3.2.2 z.symm)]; exact q24.2.2.2.2.1.2
  refine ⟨fun c33 => ?_, fun c33 => ?_⟩
  · skip
    intro T34
    refine Ma_length_c W31 T34  (fun r35 q37 => ?_)
    intro W38
    intro M39
    intro T40
    intro T41
    refine Ho_enter_c2 W38 T40 T41 1000 142 2048 ?_ (fun r42 κ_43 q44 => ?_)
    · have O := A29.2.2.2.1.2.2.resolve_right c33
      refine ⟨A29.2.2.1.1, hP1, ?_, AS29, ho_U9 AS29 (by rw [tq]; rfl), ?_⟩
      · rw [q37]
        exact mO_l O
      · have y := mO_m9 O
        rw [q37, y.1, A29.2.2.2.1.1.1.1]
        omega
    obtain ⟨⟨e1, e2, -, e4, e5, e6⟩, E44⟩ := q44
    have q44 : zF (hoF (zR κ_29 atStates a0)) κ_29 κ_43 ∧ hoI κ_43 (zR κ_29 atStates a0) 1000 142 2048 ∧ -1 ≤ r42.toInt ∧ r42.toInt < (zI κ_43 hoTotal (zR κ_29 atStates a0)).toInt ∧ enS κ_29 κ_43 (zR κ_29 atStates a0) r35 a2 r42 := ⟨e1, e2, e4, e5, e6⟩
    have T43 : zT κ_43 a0 = 3 := q44.1.t T29 (by decide)
    intro W45
    intro M46
    refine hh104 _ _ _ _ W45 (by assumption) ?_
    · have a9 : ∀ f, ¬ hoF (zR κ_29 atStates a0) f a0 := fun f z => n29.1.2.1 z.1.symm
      have r43 : ∀ f, zR κ_43 f a0 = zR κ_29 f a0 := fun f => q44.1.r (a9 f)
      have i43 : ∀ f, zI κ_43 f a0 = zI κ_29 f a0 := fun f => q44.1.i (a9 f)
      have A43 : ldA κ_43 a0 := ldA_h W31 T29 A29 (Or.inl rfl) q44.1 q44.2.1 (hoI_zF q44.1 W31 (ty_atEndings W31 T29) (fun f z => A29.2.2.2.2.2 z.1.symm) A29.2.2.1.2)
      refine ⟨rfl, rfl, ⟨Z29.tr (q44.1.mono (fun f x z => Or.inr (Or.inr (Or.inl (z.1.trans sS))))), A43, fun j hj => absurd hj (Nat.not_lt_zero _), fun hj => absurd hj (Nat.not_lt_zero _), by decide, ?_, by rw [i43, i29]; exact x23, by rw [r43, r29]; exact c23⟩, fun y => ?_⟩
      rotate_left
      · exfalso
        rw [r43] at y
        have O := A29.2.2.2.1.2.2.resolve_right c33
        have yl := mO_m9 O
        have t0' : (zI κ_29 hoTotal (zR κ_29 atStates a0)).toInt = 0 := by rw [tq]; rfl
        have v0 : 0 ≤ r42.toInt := by
          by_cases w : 0 ≤ r42.toInt
          · exact w
          · have f := E44.2.2.2.2.1 (by omega)
            rw [t0', q37, yl.1] at f
            omega
        omega
      rw [r43]
      rcases q44.2.2.2.2 with y | y
      · rw [y, tq, t0i]; omega
      · have y1 := y.1
        rw [tq, t0i] at y1
        omega
  · skip
    refine ⟨?_, ?_⟩
    · have Lm := A29.2.2.2.1.1.1.1
      have sb := A29.2.2.2.1.2.1
      rw [inb_iff]; omega
    intro κ_47 hκ_47
    intro W48
    intro T49
    intro T50
    have f47 := mF_ua W31 (ty_atMachine W31 T29) (show zr maMemory = some 20 by decide +kernel) (by decide) hκ_47
    have R47 := f47.1.2.1
    have T47 : zT κ_47 a0 = 3 := f47.1.1.t T29 (by decide)
    have A47 : ldA κ_47 a0 := by
      refine ldA_0 W31 T29 A29 (f47.1.1.mono (fun f x q => Or.inl q)) (hoI_zF f47.1.1 W31 (ty_atStates W31 T29) (fun f e => n29.2.1 e.symm) A29.2.2.1.1) (hoI_zF f47.1.1 W31 (ty_atEndings W31 T29) (fun f e => n29.2.2 e.symm) A29.2.2.1.2) ⟨(mkI_f f47.1 W31 (ty_atMachine W31 T29) A29.2.2.2.1.1).1, by rw [f47.2.2]; exact A29.2.2.2.1.2.1, ?_⟩
      unfold mO
      rw [f47.2.2]
      exact A29.2.2.2.1.2.2
    have AE47 : hoA κ_47 (zR κ_47 atEndings a0) 1000 35 2048 := by
      have I := A47.2.2.1.2
      rw [R47] at I ⊢
      exact ho_A9 W31 f47.1.1 (ty_atEndings W31 T29) (fun f e => n29.2.2 e.symm) I AE29 (by decide)
    have te47 : zI κ_47 hoTotal (zR κ_47 atEndings a0) = 0 := by rw [R47, f47.2.2]; exact te29
    have e1 : (zI κ_47 maShared (zR κ_47 atMachine a0) + 1).toInt = (zI κ_29 maShared (zR κ_29 atMachine a0)).toInt + 1 := by
      have sb := A29.2.2.2.1.2.1
      rw [f47.2.2, R47]
      exact (cn1 sb.1 (by omega)).2
    refine Ho_enter_c2 W48 T49 T50 1000 35 2048 ?_ (fun r51 κ_52 q53 => ?_)
    · have sb := A29.2.2.2.1.2.1
      refine ⟨A47.2.2.1.2, hP2, by rw [e1]; omega, AE47, ho_U9 AE47 (by rw [te47]; rfl), ?_⟩
      rw [e1, R47, f47.1.2.2.1, A29.2.2.2.1.1.1.1]
      omega
    obtain ⟨⟨h1, h2, -, h4, h5, h6⟩, E53⟩ := q53
    have q53 : zF (hoF (zR κ_47 atEndings a0)) κ_47 κ_52 ∧ hoI κ_52 (zR κ_47 atEndings a0) 1000 35 2048 ∧ True := ⟨h1, h2, trivial⟩
    have T52 : zT κ_52 a0 = 3 := q53.1.t T47 (by decide)
    intro W54
    intro M55
    refine hh104 _ _ _ _ W54 (by assumption) ?_
    · have n47 := at_ne W48 T47
      have sb := A29.2.2.2.1.2.1
      have te0 : (zI κ_47 hoTotal (zR κ_47 atEndings a0)).toInt = 0 := by rw [te47]; rfl
      have v0 : 0 ≤ r51.toInt := by
        by_cases w : 0 ≤ r51.toInt
        · exact w
        · have f := E53.2.2.2.2.1 (by omega)
          rw [te0, e1, show (1000 : Int32).toInt = 1000 from rfl] at f
          omega
      have v1 : r51.toInt = 0 := by
        rcases h6 with y | y
        · rw [y, te47] at h5
          rw [t0i] at h5
          omega
        · have y2 := y.2.1
          omega
      have v2 : r51 = 0 := Int32.toInt_inj.mp (by rw [v1, t0i])
      have hk := (E53.2.2.1 v0).1
      have cS9 : zR κ_29 atCode a0 = a1 := by rw [r29]; exact c23
      have m47 : zA κ_47 (zR κ_47 maMemory (zR κ_47 atMachine a0)) (zI κ_29 maShared (zR κ_29 atMachine a0)).toNatClampNeg = 0 := by
        have mf : zA κ_47 (zR κ_29 maMemory (zR κ_29 atMachine a0)) = upd (zA κ_29 (zR κ_29 maMemory (zR κ_29 atMachine a0))) (zI κ_29 maShared (zR κ_29 atMachine a0)).toNatClampNeg 0 := by
          rw [hκ_47]
          exact if_pos rfl
        rw [R47, mf]
        exact if_pos rfl
      have EN52 : enZ9 κ_52 a0 := by
        have a9' : ∀ f, ¬ hoF (zR κ_47 atEndings a0) f a0 := fun f z => n47.1.2.2 z.1.symm
        have rc : zR κ_52 atCode a0 = a1 := by rw [q53.1.r (a9' atCode), R47]; exact cS9
        have re : zR κ_52 atEndings a0 = zR κ_47 atEndings a0 := q53.1.r (a9' atEndings)
        have Tc47 : zT κ_47 a1 = 5 := by
          have q := ty_atCode W48 T47
          rw [R47, cS9] at q
          exact q
        have hne : ∀ f, ¬ hoF (zR κ_47 atEndings a0) f a1 := fun f z => by
          have q := ty_atEndings W48 T47
          rw [← z.1, Tc47] at q
          exact absurd q (by decide)
        intro i hi
        rw [rc, q53.1.i (hne coVars), q53.1.i (hne coCells), f47.2.2] at hi
        have sh := q30.2.2.2.2.2.2
        rw [← r29 atMachine] at sh
        have nC : a1 ≠ zR κ_23 atMachine a0 := fun z => by
          have q := ty_atMachine W25 T23
          have q2 := Zm.t Ta1 (by decide)
          rw [← z, q2] at q
          exact absurd q (by decide)
        rw [q30.1.i (fun z => nC z), q30.1.i (fun z => nC z)] at hi
        have ei : i.toInt = (zI κ_29 maShared (zR κ_29 atMachine a0)).toInt := by rw [hi, sh]
        have kk : i.toNatClampNeg = (zI κ_29 maShared (zR κ_29 atMachine a0)).toNatClampNeg := by
          have z1 := cnk (x := i) (by omega)
          have z2 := cnk sb.1
          omega
        rw [re]
        rw [v2] at hk
        have q := pV9_k (g := 0) (i := i) (by decide) hk (by omega) (by rw [e1]; omega)
        rw [q, kk, m47]
        decide
      have a9 : ∀ f, ¬ hoF (zR κ_47 atEndings a0) f a0 := fun f z => n47.1.2.2 z.1.symm
      have r52 : ∀ f, zR κ_52 f a0 = zR κ_29 f a0 := fun f => (q53.1.r (a9 f)).trans (by rw [R47])
      have i52 : ∀ f, zI κ_52 f a0 = zI κ_29 f a0 := fun f => (q53.1.i (a9 f)).trans (by rw [f47.2.2])
      have A52 : ldA κ_52 a0 := ldA_h W48 T47 A47 (Or.inr rfl) q53.1 (hoI_zF q53.1 W48 (ty_atStates W48 T47) (fun f z => A47.2.2.2.2.2 z.1) A47.2.2.1.1) q53.2.1
      refine ⟨rfl, rfl, ⟨(Z29.tr (f47.1.1.mono (fun f x z => Or.inr (Or.inl (z.trans ((r29 atMachine).trans rM)))))).tr (q53.1.mono (fun f x z => Or.inr (Or.inr (Or.inr (z.1.trans (by rw [R47]; exact sE)))))), A52, fun j hj => absurd hj (Nat.not_lt_zero _), fun hj => absurd hj (Nat.not_lt_zero _), by decide, ?_, by rw [i52, i29]; exact x23, by rw [r52, r29]; exact c23⟩, fun _ => ?_⟩
      rotate_left
      · exact EN52
      have ns9 : zR κ_29 atStates a0 ≠ zR κ_47 atEndings a0 := by rw [R47]; exact A29.2.2.2.2.2
      rw [r52, q53.1.i (fun z => ns9 z.1), f47.2.2, tq, t0i]
      omega
