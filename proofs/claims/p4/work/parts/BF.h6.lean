set_option maxHeartbeats 1600000
/-! the class: Machine's load, begin -/
theorem div_i {x y : Int32} (h0 : 0 ≤ x.toInt) (hy : 0 < y.toInt) : (x / y).toInt = x.toInt / y.toInt := by
  have a1 : x.toInt / y.toInt ≤ x.toInt := Int.ediv_le_self _ h0
  have a2 : 0 ≤ x.toInt / y.toInt := Int.ediv_nonneg h0 (by omega)
  have a3 := ihi x
  rw [Int32.toInt_div, Int.tdiv_eq_ediv_of_nonneg h0]
  exact Int.bmod_eq_of_le (by omega) (by omega)
theorem div_n {x y : Int32} (h0 : x.toInt < 0) (hy : 0 < y.toInt) : -2147483648 ≤ (x / y).toInt ∧ (x / y).toInt ≤ 0 := by
  have e : x.toInt = -(-x.toInt) := by omega
  have h1 : 0 ≤ -x.toInt := by omega
  have a1 : (-x.toInt) / y.toInt ≤ -x.toInt := Int.ediv_le_self _ h1
  have a2 : 0 ≤ (-x.toInt) / y.toInt := Int.ediv_nonneg h1 (by omega)
  have a3 := ilo x
  have q : (x.toInt).tdiv y.toInt = -((-x.toInt) / y.toInt) := by rw [e, Int.neg_tdiv, Int.tdiv_eq_ediv_of_nonneg (by omega), ← e]
  have b : (x / y).toInt = -((-x.toInt) / y.toInt) := by
    rw [Int32.toInt_div, q]
    exact Int.bmod_eq_of_le (by omega) (by omega)
  omega
theorem ld_o {r s : Int32} (h0 : 0 ≤ r.toInt) (h1 : r.toInt ≤ 142) (s0 : 0 ≤ s.toInt) (s1 : s.toInt ≤ 34) : 1 ≤ (if (r - s) / 9 < 1 then (1 : Int32) else (r - s) / 9).toInt ∧ s.toInt + 9 * (if (r - s) / 9 < 1 then (1 : Int32) else (r - s) / 9).toInt ≤ 142 := by
  have es : (r - s).toInt = r.toInt - s.toInt := sub_i (by omega) (by omega)
  have e9 : (9 : Int32).toInt = 9 := rfl
  split
  · rw [t1i]; omega
  · rename_i z
    rw [lti, t1i] at z
    by_cases g : 0 ≤ (r - s).toInt
    · rw [div_i g (by decide), e9, es] at z ⊢
      omega
    · have := (div_n (x := r - s) (y := 9) (by omega) (by decide)).2
      omega
theorem mF_uc {C : zC} {n0 m f s i j n t : Nat} {κ τ : zS} (W : zW C n0 κ) (T : zT κ m = 7) (hr : zr f = some t) (ht : 20 ≤ t) (e : τ = uc κ s (zR κ f m) i j n) (hf : f / 100 = 7 := by decide) (hw : f ≠ maWeights := by decide) : mF κ τ m ∧ mS κ τ m ∧ zI τ = zI κ :=
  ⟨⟨by rw [e]; exact zF_uc (by rw [W.o hr ht (T.trans hf.symm)]), by rw [e]; rfl, by rw [e]; rfl, fun z => by rw [e]; exact z⟩, ⟨fun g _ => by rw [e]; rfl, fun g _ => ⟨by rw [e]; rfl, fun eg => by rw [eg, e]; exact ⟨rfl, if_neg (ne_w W T hf hr ht hw)⟩⟩⟩, by rw [e]; rfl⟩
theorem hoI_m {C : zC} {n0 m h i n M D S : Nat} {κ τ : zS} (W : zW C n0 κ) (T : zT κ m = 7) (Th : zT κ h = 6) (e : τ = uc κ (zR κ hoPool h) (zR κ maMemory m) i 0 n) (H : hoI κ h M D S) : hoI τ h M D S := by
  subst e
  refine hoI_f H (fun _ _ => rfl) (fun f hf => ⟨rfl, if_neg ?_, rfl⟩)
  rcases hf with rfl | rfl | rfl
  · exact ow_ne W (show zr hoStarts = some 20 by decide +kernel) (by decide) Th (show zr maMemory = some 20 by decide +kernel) (by decide) T (by decide)
  · exact ow_ne W (show zr hoTable = some 20 by decide +kernel) (by decide) Th (show zr maMemory = some 20 by decide +kernel) (by decide) T (by decide)
  · exact ow_ne W (show zr hoPool = some 20 by decide +kernel) (by decide) Th (show zr maMemory = some 20 by decide +kernel) (by decide) T (by decide)
theorem Ma_load_c {C : zC} {n0 : Nat} {a0 : Nat} {a1 : Nat} {a2 : Int32} {κ : zS} {Q : zS → Prop} (W : zW C n0 κ) (Ta0 : zT κ a0 = 7) (Ta1 : zT κ a1 = 6)  (hp : mkI κ a0 ∧ (0 ≤ (zI κ maShared a0).toInt ∧ (zI κ maShared a0).toInt ≤ 34) ∧ hoI κ a1 1000 142 2048) (h : ∀ (κ' : zS), (mF κ κ' a0 ∧ mG κ κ' a0 ∧ zI κ' maShared a0 = zI κ maShared a0 ∧ mO κ' a0) → Q κ') : zRun C 2 mMa_load [.ref a0, .ref a1, .int a2] κ (oV Q noX) := by
  refine Ma_load_run W Ta0 Ta1 ?_
  replace W := W.lo (Nat.le_trans W.1.2.1 W.1.2.2) (Nat.le_refl (zn κ))
  unfold w_Ma_load_0
  intro T1
  intro T2
  refine Ho_copyTo_c W T1 T2 1000 142 2048 ?_ (fun κ_3 q4 => ?_)
  · exact ⟨hp.2.2, Or.inl ⟨rfl, rfl, rfl⟩⟩  -- p1
  have U : (mF κ κ_3 a0 ∧ mS κ κ_3 a0 ∧ zI κ_3 = zI κ) ∧ hoI κ_3 a1 1000 142 2048 := by
    rcases q4 with e | ⟨i, n, e⟩
    · rw [e]; exact ⟨⟨mF.rf, mS.rf, rfl⟩, hp.2.2⟩
    · exact ⟨mF_uc W Ta0 (show zr maMemory = some 20 by decide +kernel) (by decide) e, hoI_m W Ta0 Ta1 e hp.2.2⟩
  obtain ⟨⟨F0, S0, I0⟩, H0⟩ := U
  intro W5
  intro M6
  intro T7
  refine Ho_lengthOf_c W5 T7 1000 142 2048 ?_ (fun r8 q10 => ?_)
  · exact ⟨H0, Or.inl ⟨rfl, rfl, rfl⟩⟩  -- p2
  intro W11
  intro M12
  refine ⟨?_, ?_⟩
  · decide  -- b3
  intro κ_13 hκ_13
  intro W14
  intro κ_15 hκ_15
  intro W16
  intro κ_17 hκ_17
  intro W18
  refine h _ ?_
  · have e9 : (9 : Int32).toInt = 9 := rfl
    have sh : zI κ_3 maShared a0 = zI κ maShared a0 := by rw [I0]
    obtain ⟨o, ho⟩ : ∃ o, o = (if (r8 - zI κ_3 maShared a0) / (9 : Int32) < (1 : Int32) then (1 : Int32) else (r8 - zI κ_3 maShared a0) / (9 : Int32)) := ⟨_, rfl⟩
    have ob := ld_o (r := r8) (s := zI κ_3 maShared a0) q10.1 q10.2.1 (by rw [sh]; exact hp.2.1.1) (by rw [sh]; exact hp.2.1.2)
    rw [← ho] at ob hκ_13
    have s13 : zI κ_13 maShared a0 = zI κ maShared a0 := by rw [hκ_13]; exact sh
    have o13 : zI κ_13 maOpen a0 = o := by rw [hκ_13]; exact if_pos ⟨rfl, rfl⟩
    have s17 : zI κ_17 maShared a0 = zI κ maShared a0 := by rw [hκ_17, hκ_15]; exact s13
    have o17 : zI κ_17 maOpen a0 = o := by rw [hκ_17, hκ_15]; exact o13
    have f17 : zI κ_17 maFrame a0 = zI κ maShared a0 + (o - 1) * 9 := by
      rw [hκ_17]
      show zI κ_15 maFrame a0 = _
      rw [hκ_15]
      refine (if_pos ⟨rfl, rfl⟩).trans ?_
      rw [s13, o13]
    have b := hp.2.1
    rw [sh] at ob
    have d1 : (o - 1).toInt = o.toInt - 1 := dec_i (by omega)
    have d2 : ((o - 1) * 9).toInt = (o.toInt - 1) * 9 := by rw [mul_i (by rw [d1, e9]; omega) (by rw [d1, e9]; omega), d1, e9]
    have d3 : (zI κ maShared a0 + (o - 1) * 9).toInt = (zI κ maShared a0).toInt + (o.toInt - 1) * 9 := by rw [add_i (by rw [d2]; omega) (by rw [d2]; omega), d2]
    refine ⟨((F0.tr (mF_ui hκ_13 (by decide))).tr (mF_ui hκ_15 (by decide))).tr (mF_ui hκ_17 (by decide)), ((S0.2.tr (mG_ui hκ_13 (by decide))).tr (mG_ui hκ_15 (by decide))).tr (mG_ui hκ_17 (by decide)), s17, ?_⟩
    unfold mO
    rw [s17, o17, f17, d3]
    exact ⟨b, ⟨by omega, by omega⟩, by omega⟩

theorem Ma_begin_c {C : zC} {n0 : Nat} {a0 : Nat} {a1 : Nat} {κ : zS} {Q : zS → Prop} (W : zW C n0 κ) (Ta0 : zT κ a0 = 7) (Ta1 : zT κ a1 = 5)  (hp : maL κ a0 ∧ coI κ a1) (h : ∀ (κ' : zS), (zF (objF a0) κ κ' ∧ zR κ' maCode a0 = a1 ∧ mkI κ' a0 ∧ (0 ≤ (zI κ' maShared a0).toInt ∧ (zI κ' maShared a0).toInt ≤ 34) ∧ (mO κ' a0 ∨ zI κ' maOutcome a0 = 1) ∧ zI κ' maWants a0 = -1) → Q κ') : zRun C 2 mMa_begin [.ref a0, .ref a1] κ (oV Q noX) := by
  refine Ma_begin_run W Ta0 Ta1 ?_
  replace W := W.lo (Nat.le_trans W.1.2.1 W.1.2.2) (Nat.le_refl (zn κ))
  unfold w_Ma_begin_0
  have nab : a1 ≠ a0 := fun e => by rw [e, Ta0] at Ta1; exact absurd Ta1 (by decide)
  obtain ⟨HL, HC⟩ := hp
  have hV := HC.1.1
  have hv := HC.2.1
  have ha := HC.2.2.1
  have hc := HC.2.2.2.1
  intro κ_1 hκ_1
  intro W2
  intro T3
  have Z1 : zF (objF a0) κ κ_1 := by rw [hκ_1]; exact zF_ur rfl (show zr maCode = some 5 by decide +kernel) (by decide)
  have C1 : coI κ_1 a1 := coI_zF Z1 W Ta1 (fun f e => nab e) HC
  have T1 : zT κ_1 a0 = 7 := Z1.t Ta0 (by decide)
  have R1 : zR κ_1 maCode a0 = a1 := by rw [hκ_1]; exact if_pos ⟨rfl, rfl⟩
  have K1 : mkI κ_1 a0 := ⟨by rw [hκ_1]; exact HL, by rw [R1]; exact C1⟩
  refine Co_shared_c W2 T3  ?_ (fun r4 q6 => ?_)
  · exact C1  -- p1
  intro W7
  intro M8
  intro κ_9 hκ_9
  intro W10
  intro T11
  refine Ar_fill_c W10 T11  (fun κ_12 q13 => ?_)
  have F9 := mF_ui hκ_9 (by decide)
  have F12 := mF_uf W10 (F9.1.t T1 (by decide)) (show zr maMemory = some 20 by decide +kernel) (by decide) q13
  have T12 : zT κ_12 a0 = 7 := F12.1.1.t (F9.1.t T1 (by decide)) (by decide)
  have FF := F9.tr F12.1
  have K12 := (mkI_f FF W2 T1 K1).1
  have Lm := K12.1.1
  have C12 := K12.2
  rw [FF.2.1, R1] at C12
  have lv := C12.1.1
  have vv := C12.2.1
  have e10 : (10 : Int32).toInt = 10 := rfl
  obtain ⟨w, hw⟩ : ∃ w, w = (if (10 : Int32) < zI κ_12 coVars a1 then (10 : Int32) else zI κ_12 coVars a1) := ⟨_, rfl⟩
  have wb : 0 ≤ w.toInt ∧ w.toInt ≤ 10 := by
    rw [hw]
    split
    · decide
    · exact vv
  rw [← hw]
  have kw := cnk wb.1
  intro W14
  intro M15
  refine ⟨?_, ?_⟩
  · exact ⟨by decide, by decide, by rw [lei, t0i]; exact wb.1, by show 0 + w.toNatClampNeg ≤ _; omega, by show 0 + w.toNatClampNeg ≤ _; omega⟩  -- b2
  intro κ_16 hκ_16
  intro W17
  intro κ_18 hκ_18
  intro W19
  intro κ_20 hκ_20
  intro W21
  intro κ_22 hκ_22
  intro W23
  intro κ_24 hκ_24
  intro W25
  intro κ_26 hκ_26
  intro W27
  intro κ_28 hκ_28
  intro W29
  intro T30
  have F16 := mF_uc W14 T12 (show zr maMemory = some 20 by decide +kernel) (by decide) hκ_16
  have G := (((((((FF.tr F16.1).tr (mF_ui hκ_18 (by decide))).tr (mF_ui hκ_20 (by decide))).tr (mF_ui hκ_22 (by decide))).tr (mF_ui hκ_24 (by decide))).tr (mF_ui hκ_26 (by decide))).tr (mF_ui hκ_28 (by decide)))
  refine Co_firstOf_c W29 T30  ?_ (fun r31 q33 => ?_)
  · have K28 := (mkI_f G W2 T1 K1).1.2
    rw [G.2.1, R1] at K28
    exact K28
  intro W34
  intro M35
  intro κ_36 hκ_36
  intro W37
  intro κ_38 hκ_38
  intro W39
  intro T40
  have G2 := (G.tr (mF_ui hκ_36 (by decide))).tr (mF_ui hκ_38 (by decide))
  have K38 := (mkI_f G2 W2 T1 K1).1
  have e34 : (34 : Int32).toInt = 34 := rfl
  have s9 : zI κ_9 maShared a0 = (if (34 : Int32) < r4 then (34 : Int32) else r4) := by rw [hκ_9]; exact if_pos ⟨rfl, rfl⟩
  have v1 : (zI κ_1 coVars a1).toInt = (zI κ coVars a1).toInt := by rw [hκ_1]; rfl
  have v2 : (zI κ_1 coCells a1).toInt = (zI κ coCells a1).toInt := by rw [hκ_1]; rfl
  have sb : 0 ≤ (zI κ_9 maShared a0).toInt ∧ (zI κ_9 maShared a0).toInt ≤ 34 := by
    rw [s9]
    split
    · decide
    · rename_i z
      rw [lti, e34] at z
      omega
  have s12 : zI κ_12 maShared a0 = zI κ_9 maShared a0 := by rw [F12.2.2]
  have s16 : zI κ_16 maShared a0 = zI κ_9 maShared a0 := by rw [F16.2.2, s12]
  have s18 : zI κ_18 maShared a0 = zI κ_9 maShared a0 := by rw [hκ_18]; exact s16
  have s38 : zI κ_38 maShared a0 = zI κ_9 maShared a0 := by rw [hκ_38, hκ_36, hκ_28, hκ_26, hκ_24, hκ_22, hκ_20]; exact s18
  have o38 : zI κ_38 maOpen a0 = 1 := by
    rw [hκ_38, hκ_36, hκ_28, hκ_26, hκ_24, hκ_22, hκ_20, hκ_18]
    exact if_pos ⟨rfl, rfl⟩
  have f38 : zI κ_38 maFrame a0 = zI κ_9 maShared a0 := by
    rw [hκ_38, hκ_36, hκ_28, hκ_26, hκ_24, hκ_22]
    show zI κ_20 maFrame a0 = _
    rw [hκ_20]
    exact (if_pos ⟨rfl, rfl⟩).trans s18
  have w38 : zI κ_38 maWants a0 = -1 := by
    rw [hκ_38, hκ_36, hκ_28]
    show zI κ_26 maWants a0 = _
    rw [hκ_26]
    exact if_pos ⟨rfl, rfl⟩
  have O38 : mO κ_38 a0 := by
    unfold mO
    rw [s38, o38, f38, t1i]
    exact ⟨sb, by omega, by omega⟩
  refine Ma_proceed_c W39 T40  ?_ (fun κ_41 q42 => ?_)
  · exact ⟨K38, O38⟩  -- p4
  intro W43
  intro M44
  refine h _ ?_
  · have G3 := G2.tr q42.1
    refine ⟨Z1.tr G3.1, by rw [G3.2.1]; exact R1, (mkI_f G3 W2 T1 K1).1, by rw [q42.2.1, s38]; exact sb, q42.2.2.1, (q42.2.2.2 maWants (by decide)).1.trans w38⟩
