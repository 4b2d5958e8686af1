set_option maxHeartbeats 1600000
/-! the class: Parser: items, blocks, new statements -/
/-- a parser in order between two tokens -/
def paA (κ : zS) (p : Nat) : Prop := paI κ p ∧ paK κ p ∧ 0 ≤ psi κ p
def paS (κ τ : zS) (p : Nat) : Prop := paF κ τ p ∧ paA τ p
theorem paS_0 {κ : zS} {p : Nat} (H : paA κ p) : paS κ κ p := ⟨paF.rf, H⟩
theorem paS_t {κ τ : zS} {p : Nat} (S : paS κ τ p) (T : zT κ p = 10) : zT τ p = 10 := S.1.1.t T (by decide)
theorem psi_T {C : zC} {n0 p : Nat} {κ τ : zS} (W : zW C n0 κ) (T : zT κ p = 10) (H : paI κ p) (h : paT κ τ p) : psi κ p + 2 ≤ psi τ p := (paT_N W T H h).1.2.2.2
theorem psi_N {κ τ : zS} {p : Nat} (h : paN κ τ p) : psi τ p = psi κ p := by
  unfold psi
  rw [h.2.2.1.1, h.2.2.2.1]
theorem paS_T {C : zC} {n0 p : Nat} {κ τ σ : zS} (T : zT κ p = 10) (S : paS κ τ p) (W : zW C n0 τ) (h : paT τ σ p) : paS κ σ p := by
  have M := (paT_N W (paS_t S T) S.2.1 h).1
  have s := S.2.2.2
  have m := M.2.2.2
  exact ⟨S.1.tr M.1, M.2.1, M.2.2.1, by omega⟩
theorem paS_N {κ τ σ : zS} {p : Nat} (S : paS κ τ p) (h : paN τ σ p) : paS κ σ p := ⟨S.1.tr h.1, h.2.1, paN_K h S.2.2.1, by rw [psi_N h]; exact S.2.2.2⟩
theorem paS_e {κ τ σ : zS} {p : Nat} {k : Int32} (S : paS κ τ p) (h : τ = σ ∧ zI τ paKind p = k) : paS κ σ p := by
  rw [← h.1]; exact S
theorem paN_k {C : zC} {n0 p : Nat} {κ τ : zS} (W : zW C n0 κ) (T : zT κ p = 10) (H : paI κ p) (q : zF (oneF coRows (zR κ paCode p)) κ τ ∧ coI τ (zR κ paCode p) ∧ zI τ = zI κ ∧ zR τ = zR κ) : paN κ τ p := (paN_c W T H (q.1.mono (fun _ _ z => z.2)) q.2.1 (by rw [q.2.2.1])).1
/-- a row of the parser's own -/
theorem paN_ua {C : zC} {n0 p f i t : Nat} {κ τ : zS} {x : Int32} (W : zW C n0 κ) (T : zT κ p = 10) (H : paI κ p) (hr : zr f = some t) (ht : 20 ≤ t) (e : τ = ua κ (zR κ f p) i x) (hf : f / 100 = 10 := by decide) : paN κ τ p := by
  obtain ⟨Z, r, n, i1, -⟩ := pa_ua W T hr ht e hf
  refine paN_p W T H Z r n (by rw [i1]) (by rw [i1]) ?_
  unfold paC
  rw [r, n, i1]
  exact H.2.2.2
/-- a row of the code's -/
theorem paN_cu {C : zC} {n0 p f i : Nat} {κ τ : zS} {x : Int32} (W : zW C n0 κ) (T : zT κ p = 10) (H : paI κ p) (e : τ = ua κ (zR κ f (zR κ paCode p)) i x) (hf : f ∈ coRf := by decide) (h1 : f ≠ coArrayBases := by decide) (h2 : f ≠ coArraySizes := by decide) : paN κ τ p := by
  have Tc := ty_paCode W T
  have Z : zF (objF (zR κ paCode p)) κ τ := by rw [e]; exact zF_ua (by rw [coRf_o W Tc hf])
  refine (paN_c W T H Z ?_ (by rw [e]; rfl)).1
  refine coI_g H.2.1 (fun g _ => by rw [e]; rfl) (fun g _ => by rw [e]; rfl) (fun g _ => by rw [e]; rfl) (fun g hg => ?_)
  rw [e]
  have m : g ∈ coRf ∧ g ≠ f := by
    rcases hg with rfl | rfl
    · exact ⟨by decide, fun z => h1 z.symm⟩
    · exact ⟨by decide, fun z => h2 z.symm⟩
  exact if_neg (coRf_n W Tc m.1 hf m.2)
/-- one variable, one function more -/
theorem coI_v {κ τ : zS} {c f : Nat} {x : Int32} (H : coI κ c) (e : τ = ui κ f c x) (hf : f = coVars ∨ f = coFunctions) (h0 : 0 ≤ x.toInt) (h1 : x.toInt ≤ 10) : coI τ c := by
  have o : ∀ g, g ≠ f → zI τ g c = zI κ g c := fun g hg => by rw [e]; exact if_neg (fun z => hg z.1)
  have s : zI τ f c = x := by rw [e]; exact if_pos ⟨rfl, rfl⟩
  have r : zR τ = zR κ := by rw [e]; rfl
  have n : zN τ = zN κ := by rw [e]; rfl
  have a : zA τ = zA κ := by rw [e]; rfl
  obtain ⟨k1, k2, k3, k4, k5, k6, k7, k8, k9⟩ := H
  unfold coI
  rcases hf with rfl | rfl
  · rw [r, n, a, s, o coArrays (by decide), o coCells (by decide), o coFunctions (by decide), o coStatements (by decide), o coLength (by decide)]
    exact ⟨k1, ⟨h0, h1⟩, k3, k4, k5, k6, k7, k8, k9⟩
  · rw [r, n, a, s, o coArrays (by decide), o coCells (by decide), o coVars (by decide), o coStatements (by decide), o coLength (by decide)]
    exact ⟨k1, k2, k3, k4, ⟨h0, h1⟩, k6, k7, k8, k9⟩
theorem paN_v {C : zC} {n0 p f : Nat} {κ τ : zS} {x : Int32} (W : zW C n0 κ) (T : zT κ p = 10) (H : paI κ p) (e : τ = ui κ f (zR κ paCode p) x) (hf : f = coVars ∨ f = coFunctions) (h0 : 0 ≤ x.toInt) (h1 : x.toInt ≤ 10) : paN κ τ p := by
  have Z : zF (objF (zR κ paCode p)) κ τ := by rw [e]; exact zF_ui rfl
  refine (paN_c W T H Z (coI_v H.2.1 e hf h0 h1) ?_).1
  rw [e]
  rcases hf with rfl | rfl <;> rfl
/-- one array more -/
theorem paN_a {C : zC} {n0 p : Nat} {κ κ1 κ2 κ3 κ4 : zS} {x : Int32} (W : zW C n0 κ) (T : zT κ p = 10) (H : paI κ p) (hl : (zI κ coArrays (zR κ paCode p)).toInt < 3) (x1 : 1 ≤ x.toInt) (x8 : x.toInt ≤ 8) (e1 : κ1 = ua κ (zR κ coArrayBases (zR κ paCode p)) (zI κ coArrays (zR κ paCode p)).toNatClampNeg (zI κ coCells (zR κ paCode p))) (e2 : κ2 = ua κ1 (zR κ1 coArraySizes (zR κ1 paCode p)) (zI κ1 coArrays (zR κ1 paCode p)).toNatClampNeg x) (e3 : κ3 = ui κ2 coArrays (zR κ2 paCode p) (zI κ2 coArrays (zR κ2 paCode p) + 1)) (e4 : κ4 = ui κ3 coCells (zR κ3 paCode p) (zI κ3 coCells (zR κ3 paCode p) + x)) : paN κ κ4 p := by
  have Tc := ty_paCode W T
  have hd : zR κ1 = zR κ := by rw [e1]; rfl
  have hd2 : zR κ2 = zR κ := by rw [e2]; exact hd
  have hd3 : zR κ3 = zR κ := by rw [e3]; exact hd2
  have hd4 : zR κ4 = zR κ := by rw [e4]; exact hd3
  have i1 : zI κ1 = zI κ := by rw [e1]; rfl
  have i2 : zI κ2 = zI κ := by rw [e2]; exact i1
  have n4 : zN κ4 = zN κ := by rw [e4, e3, e2, e1]; rfl
  rw [hd, i1] at e2
  rw [hd2, i2] at e3
  rw [hd3] at e4
  generalize hc : zR κ paCode p = c at *
  have Z1 : zF (objF c) κ κ1 := by rw [e1]; exact zF_ua (by rw [coRf_o W Tc (by decide)])
  have o1 : zO κ1 = zO κ := by rw [e1]; rfl
  have Z2 : zF (objF c) κ1 κ2 := by rw [e2]; exact zF_ua (by rw [o1, coRf_o W Tc (by decide)])
  have Z3 : zF (objF c) κ2 κ3 := by rw [e3]; exact zF_ui rfl
  have Z4 : zF (objF c) κ3 κ4 := by rw [e4]; exact zF_ui rfl
  have Z := ((Z1.tr Z2).tr Z3).tr Z4
  obtain ⟨k1, k2, k3, k4, k5, k6, k7, k8, k9⟩ := H.2.1
  rw [hc] at k1 k2 k3 k4 k5 k6 k7 k8 k9
  have c3 : zI κ3 coCells c = zI κ coCells c := by rw [e3]; exact (congrFun (congrFun i2 coCells) c)
  have a4 : zI κ4 coArrays c = zI κ coArrays c + 1 := by
    rw [e4]
    show zI κ3 coArrays c = _
    rw [e3]
    exact if_pos ⟨rfl, rfl⟩
  have c4 : zI κ4 coCells c = zI κ coCells c + x := by
    rw [e4]
    refine (if_pos ⟨rfl, rfl⟩).trans ?_
    rw [c3]
  have o4 : ∀ f, f ≠ coArrays → f ≠ coCells → zI κ4 f c = zI κ f c := fun f h1 h2 => by
    rw [e4]
    refine (if_neg (fun z => h2 z.1)).trans ?_
    show zI κ3 f c = _
    rw [e3]
    exact (if_neg (fun z => h1 z.1)).trans (congrFun (congrFun i2 f) c)
  have ea : (zI κ coArrays c + 1).toInt = (zI κ coArrays c).toInt + 1 := by rw [add_i (by rw [t1i]; omega) (by rw [t1i]; omega), t1i]
  have ec : (zI κ coCells c + x).toInt = (zI κ coCells c).toInt + x.toInt := add_i (by omega) (by omega)
  have kn := cnk (x := zI κ coArrays c) k3.1
  have nb1 : zR κ coArrayBases c ≠ zR κ coArraySizes c := coRf_n W Tc (by decide) (by decide) (by decide)
  have A4 : zA κ4 = zA κ2 := by rw [e4, e3]; rfl
  have b4 : zA κ4 (zR κ coArrayBases c) = upd (zA κ (zR κ coArrayBases c)) (zI κ coArrays c).toNatClampNeg (zI κ coCells c) := by
    rw [A4, e2]
    refine (if_neg nb1).trans ?_
    show zA κ1 _ = _
    rw [e1]
    exact if_pos rfl
  have s4 : zA κ4 (zR κ coArraySizes c) = upd (zA κ (zR κ coArraySizes c)) (zI κ coArrays c).toNatClampNeg x := by
    rw [A4, e2]
    refine (if_pos rfl).trans ?_
    have q : zA κ1 (zR κ coArraySizes c) = zA κ (zR κ coArraySizes c) := by rw [e1]; exact if_neg (fun z => nb1 z.symm)
    show upd (zA κ1 (zR κ coArraySizes c)) _ _ = _
    rw [q]
  have I4 : coI κ4 c := by
    unfold coI
    rw [hd4, n4, a4, c4, ea, ec, b4, s4, o4 coVars (by decide) (by decide), o4 coFunctions (by decide) (by decide), o4 coStatements (by decide) (by decide), o4 coLength (by decide) (by decide)]
    refine ⟨k1, k2, ⟨by omega, by omega⟩, ⟨by omega, by omega⟩, k5, k6, k7, k8, fun i hi => ?_⟩
    have g := k9 i hi
    show 0 ≤ Int32.toInt (if i = (zI κ coArrays c).toNatClampNeg then zI κ coCells c else zA κ (zR κ coArrayBases c) i) ∧ 0 ≤ Int32.toInt (if i = (zI κ coArrays c).toNatClampNeg then x else zA κ (zR κ coArraySizes c) i) ∧ Int32.toInt (if i = (zI κ coArrays c).toNatClampNeg then zI κ coCells c else zA κ (zR κ coArrayBases c) i) + Int32.toInt (if i = (zI κ coArrays c).toNatClampNeg then x else zA κ (zR κ coArraySizes c) i) ≤ 24
    by_cases z : i = (zI κ coArrays c).toNatClampNeg
    · rw [if_pos z, if_pos z]; omega
    · rw [if_neg z, if_neg z]; exact g
  subst hc
  exact (paN_c W T H Z I4 (o4 coLength (by decide) (by decide))).1
/-- counts of the parser's own -/
theorem paN_u {C : zC} {n0 p f : Nat} {κ τ : zS} {x : Int32} (W : zW C n0 κ) (T : zT κ p = 10) (H : paI κ p) (e : τ = ui κ f p x) (hf : (f = paOwns ∧ 0 ≤ x.toInt ∧ x.toInt ≤ 8) ∨ (f = paBlocks ∧ 0 ≤ x.toInt ∧ x.toInt ≤ 41) ∨ f = paInside) : paN κ τ p := by
  have Z : zF (objF p) κ τ := by rw [e]; exact zF_ui rfl
  have r : zR τ = zR κ := by rw [e]; rfl
  have n : zN τ = zN κ := by rw [e]; rfl
  have o : ∀ g, g ≠ f → zI τ g p = zI κ g p := fun g hg => by rw [e]; exact if_neg (fun z => hg z.1)
  have s : zI τ f p = x := by rw [e]; exact if_pos ⟨rfl, rfl⟩
  have D := H.2.2.2
  rcases hf with ⟨rfl, h⟩ | ⟨rfl, h⟩ | rfl
  · refine paN_p W T H Z r n (o _ (by decide)) (o _ (by decide)) ?_
    unfold paC
    rw [r, n, s, o paBlocks (by decide), o paWaits (by decide)]
    exact ⟨h, D.2⟩
  · refine paN_p W T H Z r n (o _ (by decide)) (o _ (by decide)) ?_
    unfold paC
    rw [r, n, s, o paOwns (by decide), o paWaits (by decide)]
    exact ⟨D.1, h, D.2.2⟩
  · refine paN_p W T H Z r n (o _ (by decide)) (o _ (by decide)) ?_
    unfold paC
    rw [r, n, o paOwns (by decide), o paBlocks (by decide), o paWaits (by decide)]
    exact D
theorem cb_f {C : zC} {n0 p r i : Nat} {κ τ σ ρ : zS} {x : Int32} (T : zT κ p = 10) (S : paS κ σ p) (W : zW C n0 σ) (e1 : σ = ua τ r i x) (e : ρ = ui σ coFunctions (zR σ paCode p) (zI σ coFunctions (zR σ paCode p) + 1)) (fb : 0 ≤ (zI τ coFunctions (zR τ paCode p)).toInt ∧ (zI τ coFunctions (zR τ paCode p)).toInt < 10) : paS κ ρ p := by
  have q : zI σ coFunctions (zR σ paCode p) = zI τ coFunctions (zR τ paCode p) := by rw [e1]; rfl
  have q1 : (zI τ coFunctions (zR τ paCode p) + 1).toInt = (zI τ coFunctions (zR τ paCode p)).toInt + 1 := by rw [add_i (by rw [t1i]; omega) (by rw [t1i]; omega), t1i]
  exact paS_N S (paN_v W (paS_t S T) S.2.1 e (Or.inr rfl) (by rw [q, q1]; omega) (by rw [q, q1]; omega))
theorem Pa_varItem_c {C : zC} {n0 : Nat} {a0 : Nat} {κ : zS} {Q : zS → Prop} {X : zXp} (W : zW C n0 κ) (Ta0 : zT κ a0 = 10)  (hp : paA κ a0) (h : ∀ (κ' : zS), (paS κ κ' a0) → Q κ') (hx : ∀ (cls : String) (κ' : zS), (paX κ cls κ' a0) → X cls κ') : zRun C 11 mPa_varItem [.ref a0] κ (oV Q X) := by
  refine Pa_varItem_run W Ta0 ?_
  replace W := W.lo (Nat.le_trans W.1.2.1 W.1.2.2) (Nat.le_refl (zn κ))
  unfold w_Pa_varItem_0
  have S0 := paS_0 hp
  have hj94 : ∀ (l0 : Nat) (l1 : Int32) (l2 : Int32) (τ : zS), zW C (zn κ) τ → zT τ l0 = 10 → (a0 = l0 ∧ paS κ τ a0) → w_Pa_varItem_94 C (zn κ) Q X  l0 l1 l2 τ := by
    rintro _ y94_1 y94_2 τ94 W94 T94_0 ⟨rfl, j94⟩
    unfold w_Pa_varItem_94
    intro T1
    refine Pa_pass_c W94 T1  ?_ (fun κ_2 q3 => ?_) (fun cls9 κ9 q9 => hx _ _ ?_)
    · exact ⟨j94.2.1, j94.2.2.1, by decide⟩  -- p1
    rotate_left
    · exact paX_tr j94.1 q9  -- x2
    have S4 := paS_T Ta0 j94 W94 q3
    intro W5
    intro M6
    refine ⟨fun c7 => ?_, fun c7 => ?_⟩
    · skip
      refine h _ ?_
      · exact S4  -- q3
    · skip
      have e10 : (10 : Int32).toInt = 10 := rfl
      rw [lei, e10] at c7
      have v := S4.2.1.2.1.2.1
      refine ⟨?_, ?_⟩
      · have L := S4.2.1.2.2.1.1
        rw [inb_iff]; omega
      intro κ_8 hκ_8
      have S9 := paS_N S4 (paN_ua W5 (paS_t S4 Ta0) S4.2.1 (show zr paVarNames = some 20 by decide +kernel) (by decide) hκ_8)
      intro W10
      refine ⟨?_, ?_⟩
      · have L := S9.2.1.2.1.1.1
        have e : zI κ_8 coVars (zR κ_8 paCode a0) = zI κ_2 coVars (zR κ_2 paCode a0) := by rw [hκ_8]; rfl
        rw [e, inb_iff]; omega
      intro κ_11 hκ_11
      have S12 := paS_N S9 (paN_cu W10 (paS_t S9 Ta0) S9.2.1 hκ_11)
      intro W13
      intro κ_14 hκ_14
      intro W15
      refine h _ ?_
      · have e : zI κ_11 coVars (zR κ_11 paCode a0) = zI κ_2 coVars (zR κ_2 paCode a0) := by rw [hκ_11, hκ_8]; rfl
        have e1 : (zI κ_2 coVars (zR κ_2 paCode a0) + 1).toInt = (zI κ_2 coVars (zR κ_2 paCode a0)).toInt + 1 := by rw [add_i (by rw [t1i]; omega) (by rw [t1i]; omega), t1i]
        exact paS_N S12 (paN_v W13 (paS_t S12 Ta0) S12.2.1 hκ_14 (Or.inl rfl) (by rw [e, e1]; omega) (by rw [e, e1]; omega))
  have hj89 : ∀ (l0 : Nat) (l1 : Int32) (s0 : Int32) (τ : zS), zW C (zn κ) τ → zT τ l0 = 10 → (a0 = l0 ∧ paS κ τ a0 ∧ zI τ paKind a0 = 141) → w_Pa_varItem_89 C (zn κ) Q X  l0 l1 s0 τ := by
    rintro _ y89_1 y89_s0 τ89 W89 T89_0 ⟨rfl, j89⟩
    unfold w_Pa_varItem_89
    intro T16
    refine Pa_take_c W89 T16  ?_ (fun κ_17 q18 => ?_)
    · exact ⟨j89.1.2.1, paK_t j89.1.2.2.1 j89.2 (by decide)⟩  -- p7
    have S19 := paS_T Ta0 j89.1 W89 q18
    intro W20
    intro M21
    refine hj94 _ _ _ _ W20 ?_ ?_
    · exact paS_t S19 Ta0  -- t8
    · exact ⟨rfl, S19⟩  -- k9
  have hj52 : ∀ (l0 : Nat) (l1 : Int32) (l3 : Int32) (τ : zS), zW C (zn κ) τ → zT τ l0 = 10 → (a0 = l0 ∧ paS κ τ a0) → w_Pa_varItem_52 C (zn κ) Q X  l0 l1 l3 τ := by
    rintro _ y52_1 y52_3 τ52 W52 T52_0 ⟨rfl, j52⟩
    unfold w_Pa_varItem_52
    intro T22
    refine Pa_expect_c W52 T22  ?_ (fun κ_23 q24 => ?_) (fun cls9 κ9 q9 => hx _ _ ?_)
    · exact j52.2.1  -- p10
    rotate_left
    · exact paX_tr j52.1 q9  -- x11
    have S25 := paS_e j52 q24
    intro W26
    intro M27
    refine ⟨fun c28 => ?_, fun c28 => ?_⟩
    · skip
      intro T29
      refine Ta_numberAt_c W26 T29  ?_ (fun r30 q32 => ?_)
      · exact S25.2.1.1.1  -- p12
      intro W33
      intro M34
      refine hj89 _ _ _ _ W33 ?_ ?_
      · exact paS_t S25 Ta0  -- t13
      · exact ⟨rfl, S25, by rw [← q24.1]; exact q24.2⟩  -- k14
    · skip
      intro T35
      refine Ta_numberAt_c W26 T35  ?_ (fun r36 q38 => ?_)
      · exact S25.2.1.1.1  -- p15
      intro W39
      intro M40
      refine hj89 _ _ _ _ W39 ?_ ?_
      · exact paS_t S25 Ta0  -- t16
      · exact ⟨rfl, S25, by rw [← q24.1]; exact q24.2⟩  -- k17
  have hj43 : ∀ (l0 : Nat) (l1 : Int32) (s0 : Int32) (τ : zS), zW C (zn κ) τ → zT τ l0 = 10 → (a0 = l0 ∧ paS κ τ a0 ∧ (s0 ≠ 0 → zI τ paKind a0 = 45)) → w_Pa_varItem_43 C (zn κ) Q X  l0 l1 s0 τ := by
    rintro _ y43_1 y43_s0 τ43 W43 T43_0 ⟨rfl, j43⟩
    unfold w_Pa_varItem_43
    refine ⟨fun c41 => ?_, fun c41 => ?_⟩
    · skip
      refine hj52 _ _ _ _ W43 ?_ ?_
      · exact paS_t j43.1 Ta0  -- t18
      · exact ⟨rfl, j43.1⟩  -- k19
    · skip
      intro T42
      refine Pa_take_c W43 T42  ?_ (fun κ_43 q44 => ?_)
      · exact ⟨j43.1.2.1, paK_t j43.1.2.2.1 (j43.2 c41) (by decide)⟩  -- p20
      have S45 := paS_T Ta0 j43.1 W43 q44
      intro W46
      intro M47
      refine hj52 _ _ _ _ W46 ?_ ?_
      · exact paS_t S45 Ta0  -- t21
      · exact ⟨rfl, S45⟩  -- k22
  intro T48
  refine Pa_newName_c W T48  ?_ (fun r49 κ_50 q51 => ?_) (fun cls9 κ9 q9 => hx _ _ ?_)
  · exact ⟨S0.2.1, S0.2.2.1⟩  -- p23
  rotate_left
  · exact paX_tr S0.1 q9  -- x24
  have S52 := paS_T Ta0 S0 W q51.1
  intro W53
  intro M54
  refine ⟨fun c55 => ?_, fun c55 => ?_⟩
  · skip
    refine hj94 _ _ _ _ W53 ?_ ?_
    · exact paS_t S52 Ta0  -- t25
    · exact ⟨rfl, S52⟩  -- k26
  · skip
    intro T56
    refine Pa_take_c W53 T56  ?_ (fun κ_57 q58 => ?_)
    · exact ⟨S52.2.1, paK_t S52.2.2.1 c55 (by decide)⟩  -- p27
    have S59 := paS_T Ta0 S52 W53 q58
    intro W60
    intro M61
    refine ⟨fun c62 => ?_, fun c62 => ?_⟩
    · skip
      refine hj43 _ _ _ _ W60 ?_ ?_
      · exact paS_t S59 Ta0  -- t28
      · exact ⟨rfl, S59, fun z => absurd rfl z⟩  -- k29
    · skip
      refine hj43 _ _ _ _ W60 ?_ ?_
      · exact paS_t S59 Ta0  -- t30
      · exact ⟨rfl, S59, fun _ => c62⟩  -- k31

theorem Pa_arrayItem_c {C : zC} {n0 : Nat} {a0 : Nat} {κ : zS} {Q : zS → Prop} {X : zXp} (W : zW C n0 κ) (Ta0 : zT κ a0 = 10)  (hp : paA κ a0) (h : ∀ (κ' : zS), (paS κ κ' a0) → Q κ') (hx : ∀ (cls : String) (κ' : zS), (paX κ cls κ' a0) → X cls κ') : zRun C 11 mPa_arrayItem [.ref a0] κ (oV Q X) := by
  refine Pa_arrayItem_run W Ta0 ?_
  replace W := W.lo (Nat.le_trans W.1.2.1 W.1.2.2) (Nat.le_refl (zn κ))
  unfold w_Pa_arrayItem_0
  have S0 := paS_0 hp
  have hj59 : ∀ (l0 : Nat) (l1 : Int32) (l2 : Int32) (τ : zS), zW C (zn κ) τ → zT τ l0 = 10 → (a0 = l0 ∧ paS κ τ a0 ∧ zI τ paKind a0 = 141 ∧ 1 ≤ l2.toInt ∧ l2.toInt ≤ 8) → w_Pa_arrayItem_59 C (zn κ) Q X  l0 l1 l2 τ := by
    rintro _ y59_1 y59_2 τ59 W59 T59_0 ⟨rfl, j59⟩
    unfold w_Pa_arrayItem_59
    intro T1
    refine Pa_take_c W59 T1  ?_ (fun κ_2 q3 => ?_)
    · exact ⟨j59.1.2.1, paK_t j59.1.2.2.1 j59.2.1 (by decide)⟩  -- p1
    have S4 := paS_T Ta0 j59.1 W59 q3
    intro W5
    intro M6
    intro T7
    refine Pa_closeSign_c W5 T7  ?_ (fun κ_8 q9 => ?_) (fun cls9 κ9 q9 => hx _ _ ?_)
    · exact ⟨S4.2.1, S4.2.2.1, by decide⟩  -- p2
    rotate_left
    · exact paX_tr S4.1 q9  -- x3
    have S10 := paS_T Ta0 S4 W5 q9
    intro W11
    intro M12
    intro T13
    refine Pa_pass_c W11 T13  ?_ (fun κ_14 q15 => ?_) (fun cls9 κ9 q9 => hx _ _ ?_)
    · exact ⟨S10.2.1, S10.2.2.1, by decide⟩  -- p4
    rotate_left
    · exact paX_tr S10.1 q9  -- x5
    have S16 := paS_T Ta0 S10 W11 q15
    intro W17
    intro M18
    refine ⟨fun c19 => ?_, fun c19 => ?_⟩
    · skip
      refine h _ ?_
      · exact S16  -- q6
    · skip
      have e3 : (3 : Int32).toInt = 3 := rfl
      rw [lei, e3] at c19
      have v := S16.2.1.2.1.2.2.1
      refine ⟨?_, ?_⟩
      · have L := S16.2.1.2.2.1.2.1
        rw [inb_iff]; omega
      intro κ_20 hκ_20
      have S21 := paS_N S16 (paN_ua W17 (paS_t S16 Ta0) S16.2.1 (show zr paArrayNames = some 20 by decide +kernel) (by decide) hκ_20)
      intro W22
      have e20 : zI κ_20 coArrays (zR κ_20 paCode a0) = zI κ_14 coArrays (zR κ_14 paCode a0) := by rw [hκ_20]; rfl
      refine ⟨?_, ?_⟩
      · have L := S21.2.1.2.1.1.2.1
        rw [e20, inb_iff]; omega
      intro κ_23 hκ_23
      intro W24
      refine ⟨?_, ?_⟩
      · have L := S21.2.1.2.1.1.2.2.1
        have e : zI κ_23 coArrays (zR κ_23 paCode a0) = zI κ_20 coArrays (zR κ_20 paCode a0) := by rw [hκ_23]; rfl
        have n : zN κ_23 (zR κ_23 coArraySizes (zR κ_23 paCode a0)) = zN κ_20 (zR κ_20 coArraySizes (zR κ_20 paCode a0)) := by rw [hκ_23]; rfl
        rw [e, n, e20, inb_iff]; omega
      intro κ_25 hκ_25
      intro W26
      intro κ_27 hκ_27
      intro W28
      intro κ_29 hκ_29
      intro W30
      refine h _ ?_
      · exact paS_N S21 (paN_a W22 (paS_t S21 Ta0) S21.2.1 (by rw [e20]; omega) j59.2.2.1 j59.2.2.2 hκ_23 hκ_25 hκ_27 hκ_29)  -- q10
  have hj49 : ∀ (l0 : Nat) (l1 : Int32) (l2 : Int32) (τ : zS), zW C (zn κ) τ → zT τ l0 = 10 → (a0 = l0 ∧ paS κ τ a0) → w_Pa_arrayItem_49 C (zn κ) Q X  l0 l1 l2 τ := by
    rintro _ y49_1 y49_2 τ49 W49 T49_0 ⟨rfl, j49⟩
    unfold w_Pa_arrayItem_49
    intro T31
    refine Pa_refuse_c W49 T31  ?_ (fun κ_32 q33 => False.elim q33) (fun cls9 κ9 q9 => hx _ _ ?_)
    · exact j49.2.1  -- p11
    · exact paX_tr j49.1 q9  -- x12
  intro T34
  refine Pa_newName_c W T34  ?_ (fun r35 κ_36 q37 => ?_) (fun cls9 κ9 q9 => hx _ _ ?_)
  · exact ⟨S0.2.1, S0.2.2.1⟩  -- p13
  rotate_left
  · exact paX_tr S0.1 q9  -- x14
  have S38 := paS_T Ta0 S0 W q37.1
  intro W39
  intro M40
  intro T41
  refine Pa_openSign_c W39 T41  ?_ (fun κ_42 q43 => ?_) (fun cls9 κ9 q9 => hx _ _ ?_)
  · exact ⟨S38.2.1, S38.2.2.1, by decide⟩  -- p15
  rotate_left
  · exact paX_tr S38.1 q9  -- x16
  have S44 := paS_T Ta0 S38 W39 q43
  intro W45
  intro M46
  intro T47
  refine Pa_expect_c W45 T47  ?_ (fun κ_48 q49 => ?_) (fun cls9 κ9 q9 => hx _ _ ?_)
  · exact S44.2.1  -- p17
  rotate_left
  · exact paX_tr S44.1 q9  -- x18
  have S50 := paS_e S44 q49
  intro W51
  intro M52
  intro T53
  refine Ta_numberAt_c W51 T53  ?_ (fun r54 q56 => ?_)
  · exact S50.2.1.1.1  -- p19
  intro W57
  intro M58
  refine ⟨fun c59 => ?_, fun c59 => ?_⟩
  · skip
    refine hj49 _ _ _ _ W57 ?_ ?_
    · exact paS_t S50 Ta0  -- t20
    · exact ⟨rfl, S50⟩  -- k21
  · skip
    refine ⟨fun c60 => ?_, fun c60 => ?_⟩
    · skip
      refine hj59 _ _ _ _ W57 ?_ ?_
      · exact paS_t S50 Ta0  -- t22
      · have e8 : (8 : Int32).toInt = 8 := rfl
        rw [lti, t1i] at c59
        rw [lei, e8] at c60
        exact ⟨rfl, S50, by rw [← q49.1]; exact q49.2, by omega, c60⟩
    · skip
      refine hj49 _ _ _ _ W57 ?_ ?_
      · exact paS_t S50 Ta0  -- t24
      · exact ⟨rfl, S50⟩  -- k25

theorem Pa_functionHead_c {C : zC} {n0 : Nat} {a0 : Nat} {κ : zS} {Q : zS → Prop} {X : zXp} (W : zW C n0 κ) (Ta0 : zT κ a0 = 10)  (hp : paA κ a0) (h : ∀ (κ' : zS), (paS κ κ' a0) → Q κ') (hx : ∀ (cls : String) (κ' : zS), (paX κ cls κ' a0) → X cls κ') : zRun C 11 mPa_functionHead [.ref a0] κ (oV Q X) := by
  refine Pa_functionHead_run W Ta0 ?_
  replace W := W.lo (Nat.le_trans W.1.2.1 W.1.2.2) (Nat.le_refl (zn κ))
  unfold w_Pa_functionHead_0
  have S0 := paS_0 hp
  have hj144 : ∀ (l0 : Nat) (τ : zS), zW C (zn κ) τ → zT τ l0 = 10 → (a0 = l0 ∧ paS κ τ a0) → w_Pa_functionHead_144 C (zn κ) Q X  l0 τ := by
    rintro _ τ144 W144 T144_0 ⟨rfl, j144⟩
    unfold w_Pa_functionHead_144
    intro κ_1 hκ_1
    have S2 := paS_N j144 (paN_u W144 (paS_t j144 Ta0) j144.2.1 hκ_1 (Or.inr (Or.inr rfl)))
    intro W3
    intro T4
    refine Pa_pushBlock_c W3 T4  ?_ (fun κ_5 q6 => ?_)
    · exact S2.2.1  -- p1
    have S7 := paS_N S2 q6
    intro W8
    intro M9
    refine h _ ?_
    · exact S7  -- q2
  have hj88 : ∀ (l0 : Nat) (l1 : Int32) (τ : zS), zW C (zn κ) τ → zT τ l0 = 10 → (a0 = l0 ∧ paS κ τ a0) → w_Pa_functionHead_88 C (zn κ) Q X  l0 l1 τ := by
    rintro _ y88_1 τ88 W88 T88_0 ⟨rfl, j88⟩
    unfold w_Pa_functionHead_88
    intro T10
    refine Pa_closeSign_c W88 T10  ?_ (fun κ_11 q12 => ?_) (fun cls9 κ9 q9 => hx _ _ ?_)
    · exact ⟨j88.2.1, j88.2.2.1, by decide⟩  -- p3
    rotate_left
    · exact paX_tr j88.1 q9  -- x4
    have S13 := paS_T Ta0 j88 W88 q12
    intro W14
    intro M15
    intro T16
    refine Pa_openSign_c W14 T16  ?_ (fun κ_17 q18 => ?_) (fun cls9 κ9 q9 => hx _ _ ?_)
    · exact ⟨S13.2.1, S13.2.2.1, by decide⟩  -- p5
    rotate_left
    · exact paX_tr S13.1 q9  -- x6
    have S19 := paS_T Ta0 S13 W14 q18
    intro W20
    intro M21
    refine ⟨fun c22 => ?_, fun c22 => ?_⟩
    · skip
      refine hj144 _ _ W20 ?_ ?_
      · exact paS_t S19 Ta0  -- t7
      · exact ⟨rfl, S19⟩  -- k8
    · skip
      have e10 : (10 : Int32).toInt = 10 := rfl
      rw [lei, e10] at c22
      have v := S19.2.1.2.1.2.2.2.2.1
      refine ⟨?_, ?_⟩
      · have L := S19.2.1.2.2.1.2.2.1
        rw [inb_iff]; omega
      intro κ_23 hκ_23
      have S24 := paS_N S19 (paN_ua W20 (paS_t S19 Ta0) S19.2.1 (show zr paFunctionNames = some 20 by decide +kernel) (by decide) hκ_23)
      intro W25
      refine ⟨?_, ?_⟩
      · have L := S24.2.1.2.1.1.2.2.2.2.1
        have e : zI κ_23 coFunctions (zR κ_23 paCode a0) = zI κ_17 coFunctions (zR κ_17 paCode a0) := by rw [hκ_23]; rfl
        rw [e, inb_iff]; omega
      intro κ_26 hκ_26
      have S27 := paS_N S24 (paN_cu W25 (paS_t S24 Ta0) S24.2.1 hκ_26)
      intro W28
      refine hj144 _ _ W28 ?_ ?_
      · exact paS_t S27 Ta0  -- t11
      · exact ⟨rfl, S27⟩  -- k12
  have hj34 : ∀ (l0 : Nat) (l1 : Int32) (s0 : Int32) (τ : zS), zW C (zn κ) τ → zT τ l0 = 10 → (a0 = l0 ∧ paS κ τ a0) → w_Pa_functionHead_34 C (zn κ) Q X  l0 l1 s0 τ := by
    rintro _ y34_1 y34_s0 τ34 W34 T34_0 ⟨rfl, j34⟩
    unfold w_Pa_functionHead_34
    unfold w_Pa_functionHead_37
    refine ⟨fun n l0 l1 l2 l3 τ => n = (5 - l3.toInt).toNat ∧ (a0 = l0 ∧ paS κ τ a0 ∧ 0 ≤ l3.toInt ∧ l3.toInt ≤ 5), ⟨_, rfl, ?_⟩, ?_⟩
    · exact ⟨rfl, j34, by decide, by decide⟩  -- j13
    rintro n37 _ x37_1 x37_2 x37_3 κ37 W37 T37_0 ⟨hn37, rfl, i37⟩
    have hj73 : ∀ (l0 : Nat) (l1 : Int32) (l3 : Int32) (s0 : Int32) (τ : zS), zW C (zn κ) τ → zT τ l0 = 10 → (a0 = l0 ∧ paS κ τ a0 ∧ l3 = x37_3 ∧ l3.toInt ≤ 4 ∧ (s0 ≠ 0 → zI τ paKind a0 = 44)) → w_Pa_functionHead_73 C (zn κ) Q X (fun (l0' : Nat) (l1' : Int32) (l2' : Int32) (l3' : Int32) (τ : zS) => ∃ k < n37, (fun (n : Nat) (l0 : Nat) (l1 : Int32) (l2 : Int32) (l3 : Int32) (τ : zS) => n = (5 - l3.toInt).toNat ∧ (a0 = l0 ∧ paS κ τ a0 ∧ 0 ≤ l3.toInt ∧ l3.toInt ≤ 5)) k l0' l1' l2' l3' τ) l0 l1 l3 s0 τ := by
      rintro _ y73_1 y73_3 y73_s0 τ73 W73 T73_0 ⟨rfl, j73⟩
      unfold w_Pa_functionHead_73
      obtain ⟨J, rfl, l4, jk⟩ := j73
      have l0 := i37.2.1
      have e1 : (y73_3 + 1).toInt = y73_3.toInt + 1 := by rw [add_i (by rw [t1i]; omega) (by rw [t1i]; omega), t1i]
      refine ⟨fun c29 => ?_, fun c29 => ?_⟩
      · skip
        intro x30 hx30
        refine ⟨_, ?_, rfl, ?_⟩
        · rw [hn37, hx30, e1]; omega  -- d14
        · exact ⟨rfl, J, by rw [hx30, e1]; omega, by rw [hx30, e1]; omega⟩  -- i15
      · skip
        intro T31
        refine Pa_take_c W73 T31  ?_ (fun κ_32 q33 => ?_)
        · exact ⟨J.2.1, paK_t J.2.2.1 (jk c29) (by decide)⟩  -- p16
        have S34 := paS_T Ta0 J W73 q33
        intro W35
        intro M36
        intro x37 hx37
        refine ⟨_, ?_, rfl, ?_⟩
        · rw [hn37, hx37, e1]; omega  -- d17
        · exact ⟨rfl, S34, by rw [hx37, e1]; omega, by rw [hx37, e1]; omega⟩  -- i18
    refine ⟨fun c38 => ?_, fun c38 => ?_⟩
    · skip
      refine hj88 _ _ _ W37 ?_ ?_
      · exact paS_t i37.1 Ta0  -- t19
      · exact ⟨rfl, i37.1⟩  -- k20
    · skip
      refine ⟨fun c39 => ?_, fun c39 => ?_⟩
      · skip
        refine hj88 _ _ _ W37 ?_ ?_
        · exact paS_t i37.1 Ta0  -- t21
        · exact ⟨rfl, i37.1⟩  -- k22
      · skip
        intro T40
        refine Pa_newName_c W37 T40  ?_ (fun r41 κ_42 q43 => ?_) (fun cls9 κ9 q9 => hx _ _ ?_)
        · exact ⟨i37.1.2.1, i37.1.2.2.1⟩  -- p23
        rotate_left
        · exact paX_tr i37.1.1 q9  -- x24
        have S44 := paS_T Ta0 i37.1 W37 q43.1
        intro W45
        intro M46
        intro T47
        refine Pa_addOwn_c W45 T47  ?_ (fun κ_48 q49 => ?_)
        · exact S44.2.1  -- p25
        have S50 := paS_N S44 q49
        intro W51
        intro M52
        refine ⟨fun c53 => ?_, fun c53 => ?_⟩
        · skip
          refine hj73 _ _ _ _ _ W51 ?_ ?_
          · exact paS_t S50 Ta0  -- t26
          · have e4 : (4 : Int32).toInt = 4 := rfl
            rw [lti, e4] at c39
            exact ⟨rfl, S50, rfl, by omega, fun z => absurd rfl z⟩
        · skip
          refine hj73 _ _ _ _ _ W51 ?_ ?_
          · exact paS_t S50 Ta0  -- t28
          · have e4 : (4 : Int32).toInt = 4 := rfl
            rw [lti, e4] at c39
            exact ⟨rfl, S50, rfl, by omega, fun _ => c53⟩
  intro T54
  refine Pa_newName_c W T54  ?_ (fun r55 κ_56 q57 => ?_) (fun cls9 κ9 q9 => hx _ _ ?_)
  · exact ⟨S0.2.1, S0.2.2.1⟩  -- p30
  rotate_left
  · exact paX_tr S0.1 q9  -- x31
  have S58 := paS_T Ta0 S0 W q57.1
  intro W59
  intro M60
  intro T61
  refine Pa_openSign_c W59 T61  ?_ (fun κ_62 q63 => ?_) (fun cls9 κ9 q9 => hx _ _ ?_)
  · exact ⟨S58.2.1, S58.2.2.1, by decide⟩  -- p32
  rotate_left
  · exact paX_tr S58.1 q9  -- x33
  have S64 := paS_T Ta0 S58 W59 q63
  intro W65
  intro M66
  refine ⟨fun c67 => ?_, fun c67 => ?_⟩
  · skip
    refine hj34 _ _ _ _ W65 ?_ ?_
    · exact paS_t S64 Ta0  -- t34
    · exact ⟨rfl, S64⟩  -- k35
  · skip
    refine hj34 _ _ _ _ W65 ?_ ?_
    · exact paS_t S64 Ta0  -- t36
    · exact ⟨rfl, S64⟩  -- k37

theorem Pa_item_c {C : zC} {n0 : Nat} {a0 : Nat} {κ : zS} {Q : zS → Prop} {X : zXp} (W : zW C n0 κ) (Ta0 : zT κ a0 = 10)  (hp : paA κ a0) (h : ∀ (κ' : zS), (paS κ κ' a0) → Q κ') (hx : ∀ (cls : String) (κ' : zS), (paX κ cls κ' a0) → X cls κ') : zRun C 12 mPa_item [.ref a0] κ (oV Q X) := by
  refine Pa_item_run W Ta0 ?_
  replace W := W.lo (Nat.le_trans W.1.2.1 W.1.2.2) (Nat.le_refl (zn κ))
  unfold w_Pa_item_0
  have S0 := paS_0 hp
  have hj35 : ∀ (l0 : Nat) (l1 : Int32) (τ : zS), zW C (zn κ) τ → zT τ l0 = 10 → (κ = τ ∧ a0 = l0 ∧ zI κ paKind a0 ≠ 142) → w_Pa_item_35 C (zn κ) Q X  l0 l1 τ := by
    rintro _ y35_1 _ W35 T35_0 ⟨rfl, rfl, j35⟩
    unfold w_Pa_item_35
    intro T1
    refine Pa_take_c W35 T1  ?_ (fun κ_2 q3 => ?_)
    · exact ⟨hp.1, paK_t hp.2.1 rfl j35⟩  -- p1
    have S4 := paS_T Ta0 S0 W35 q3
    intro W5
    intro M6
    refine ⟨fun c7 => ?_, fun c7 => ?_⟩
    · skip
      refine ⟨fun c8 => ?_, fun c8 => ?_⟩
      · skip
        intro T9
        refine Pa_functionHead_c W5 T9  ?_ (fun κ_10 q11 => ?_) (fun cls9 κ9 q9 => hx _ _ ?_)
        · exact S4.2  -- p2
        rotate_left
        · exact paX_tr S4.1 q9  -- x3
        intro W12
        intro M13
        refine h _ ?_
        · exact ⟨S4.1.tr q11.1, q11.2⟩  -- q4
      · skip
        intro T14
        refine Pa_arrayItem_c W5 T14  ?_ (fun κ_15 q16 => ?_) (fun cls9 κ9 q9 => hx _ _ ?_)
        · exact S4.2  -- p5
        rotate_left
        · exact paX_tr S4.1 q9  -- x6
        intro W17
        intro M18
        refine h _ ?_
        · exact ⟨S4.1.tr q16.1, q16.2⟩  -- q7
    · skip
      intro T19
      refine Pa_varItem_c W5 T19  ?_ (fun κ_20 q21 => ?_) (fun cls9 κ9 q9 => hx _ _ ?_)
      · exact S4.2  -- p8
      rotate_left
      · exact paX_tr S4.1 q9  -- x9
      intro W22
      intro M23
      refine h _ ?_
      · exact ⟨S4.1.tr q21.1, q21.2⟩  -- q10
  intro x24 hx24
  refine ⟨fun c25 => ?_, fun c25 => ?_⟩
  · skip
    refine hj35 _ _ _ W ?_ ?_
    · exact paS_t S0 Ta0  -- t11
    · exact ⟨rfl, rfl, by rw [← hx24, c25]; decide⟩  -- k12
  · skip
    refine ⟨fun c26 => ?_, fun c26 => ?_⟩
    · skip
      refine hj35 _ _ _ W ?_ ?_
      · exact paS_t S0 Ta0  -- t13
      · exact ⟨rfl, rfl, by rw [← hx24, c26]; decide⟩  -- k14
    · skip
      refine ⟨fun c27 => ?_, fun c27 => ?_⟩
      · skip
        refine hj35 _ _ _ W ?_ ?_
        · exact paS_t S0 Ta0  -- t15
        · exact ⟨rfl, rfl, by rw [← hx24, c27]; decide⟩  -- k16
      · skip
        intro T28
        refine Pa_refuse_c W T28  ?_ (fun κ_29 q30 => False.elim q30) (fun cls9 κ9 q9 => hx _ _ ?_)
        · exact S0.2.1  -- p17
        · exact paX_tr S0.1 q9  -- x18

theorem Pa_closeBlock_c {C : zC} {n0 : Nat} {a0 : Nat} {κ : zS} {Q : zS → Prop} {X : zXp} (W : zW C n0 κ) (Ta0 : zT κ a0 = 10)  (hp : paA κ a0) (h : ∀ (κ' : zS), (paS κ κ' a0) → Q κ') (hx : ∀ (cls : String) (κ' : zS), (paX κ cls κ' a0) → X cls κ') : zRun C 10 mPa_closeBlock [.ref a0] κ (oV Q X) := by
  refine Pa_closeBlock_run W Ta0 ?_
  replace W := W.lo (Nat.le_trans W.1.2.1 W.1.2.2) (Nat.le_refl (zn κ))
  unfold w_Pa_closeBlock_0
  have S0 := paS_0 hp
  have hj86 : ∀ (l0 : Nat) (τ : zS), zW C (zn κ) τ → zT τ l0 = 10 → (a0 = l0 ∧ paS κ τ a0) → w_Pa_closeBlock_86 C (zn κ) Q X  l0 τ := by
    rintro _ τ86 W86 T86_0 ⟨rfl, j86⟩
    unfold w_Pa_closeBlock_86
    intro κ_1 hκ_1
    have S2 := paS_N j86 (paN_u W86 (paS_t j86 Ta0) j86.2.1 hκ_1 (Or.inl ⟨rfl, by decide, by decide⟩))
    intro W3
    intro κ_4 hκ_4
    have S5 := paS_N S2 (paN_u W3 (paS_t S2 Ta0) S2.2.1 hκ_4 (Or.inr (Or.inr rfl)))
    intro W6
    refine h _ ?_
    · exact S5  -- q1
  have hj24 : ∀ (l0 : Nat) (s0 : Nat) (s1 : Int32) (τ : zS), zW C (zn κ) τ → zT τ l0 = 10 → zT τ s0 = 10 → (a0 = l0 ∧ paS κ τ a0 ∧ s0 = a0 ∧ 0 ≤ s1.toInt ∧ s1.toInt ≤ 40) → w_Pa_closeBlock_24 C (zn κ) Q X  l0 s0 s1 τ := by
    rintro _ y24_s0 y24_s1 τ24 W24 T24_0 T24_1 ⟨rfl, j24⟩
    unfold w_Pa_closeBlock_24
    intro κ_7 hκ_7
    have S8 := paS_N j24.1 (paN_u W24 (paS_t j24.1 Ta0) j24.1.2.1 (show κ_7 = ui τ24 paBlocks a0 y24_s1 by rw [hκ_7, j24.2.1]) (Or.inr (Or.inl ⟨rfl, j24.2.2.1, by have := j24.2.2.2; omega⟩)))
    intro W9
    have e7 : zI κ_7 paBlocks a0 = y24_s1 := by rw [hκ_7, j24.2.1]; exact if_pos ⟨rfl, rfl⟩
    have jb := j24.2.2
    refine ⟨?_, ?_⟩
    · have L := S8.2.1.2.2.1.2.2.2.2.1
      rw [e7, inb_iff]; omega
    intro x10 hx10
    refine ⟨fun c11 => ?_, fun c11 => ?_⟩
    · skip
      refine ⟨fun c12 => ?_, fun c12 => ?_⟩
      · skip
        refine h _ ?_
        · exact S8  -- q3
      · skip
        intro T13
        refine Co_column_c W9 T13  ?_ (fun r14 q16 => ?_)
        · exact ⟨S8.2.1.2.1, by decide, by decide⟩  -- p4
        intro W17
        intro M18
        refine ⟨fun c19 => ?_, fun c19 => ?_⟩
        · skip
          refine h _ ?_
          · exact S8  -- q5
        · skip
          refine ⟨?_, ?_⟩
          · have L := S8.2.1.2.2.1.2.2.2.2.2.2
            rw [e7, inb_iff]; omega
          refine ⟨fun c20 => ?_, fun c20 => ?_⟩
          · skip
            refine h _ ?_
            · exact S8  -- q7
          · skip
            intro T21
            refine Pa_take_c W17 T21  ?_ (fun κ_22 q23 => ?_)
            · exact ⟨S8.2.1, paK_t S8.2.2.1 c12 (by decide)⟩  -- p8
            have S24 := paS_T Ta0 S8 W17 q23
            intro W25
            intro M26
            intro T27
            refine Pa_openSign_c W25 T27  ?_ (fun κ_28 q29 => ?_) (fun cls9 κ9 q9 => hx _ _ ?_)
            · exact ⟨S24.2.1, S24.2.2.1, by decide⟩  -- p9
            rotate_left
            · exact paX_tr S24.1 q9  -- x10
            have S30 := paS_T Ta0 S24 W25 q29
            intro W31
            intro M32
            intro T33
            refine Pa_pushBlock_c W31 T33  ?_ (fun κ_34 q35 => ?_)
            · exact S30.2.1  -- p11
            have S36 := paS_N S30 q35
            intro W37
            intro M38
            refine h _ ?_
            · exact S36  -- q12
    · skip
      refine ⟨fun c39 => ?_, fun c39 => ?_⟩
      · skip
        refine hj86 _ _ W9 ?_ ?_
        · exact paS_t S8 Ta0  -- t13
        · exact ⟨rfl, S8⟩  -- k14
      · skip
        have e10 : (10 : Int32).toInt = 10 := rfl
        rw [lei, e10] at c39
        have fv := S8.2.1.2.1.2.2.2.2.1
        have fb : 0 ≤ (zI κ_7 coFunctions (zR κ_7 paCode a0)).toInt ∧ (zI κ_7 coFunctions (zR κ_7 paCode a0)).toInt < 10 := ⟨fv.1, by omega⟩
        refine ⟨?_, ?_⟩
        · have L := S8.2.1.2.1.1.2.2.2.2.2
          rw [inb_iff]; omega
        intro κ_40 hκ_40
        have S41 := paS_N S8 (paN_cu W9 (paS_t S8 Ta0) S8.2.1 hκ_40)
        intro W42
        intro κ_43 hκ_43
        have S44 := cb_f Ta0 S41 W42 hκ_40 hκ_43 fb
        intro W45
        refine hj86 _ _ W45 ?_ ?_
        · exact paS_t S44 Ta0  -- t16
        · exact ⟨rfl, S44⟩  -- k17
  intro T46
  refine Pa_closeSign_c W T46  ?_ (fun κ_47 q48 => ?_) (fun cls9 κ9 q9 => hx _ _ ?_)
  · exact ⟨S0.2.1, S0.2.2.1, by decide⟩  -- p18
  rotate_left
  · exact paX_tr S0.1 q9  -- x19
  have S49 := paS_T Ta0 S0 W q48
  intro W50
  intro M51
  refine ⟨fun c52 => ?_, fun c52 => ?_⟩
  · skip
    refine hj24 _ _ _ _ W50 ?_ ?_ ?_
    · exact paS_t S49 Ta0  -- t20
    · exact paS_t S49 Ta0  -- t21
    · exact ⟨rfl, S49, rfl, by decide, by decide⟩  -- k22
  · skip
    refine hj24 _ _ _ _ W50 ?_ ?_ ?_
    · exact paS_t S49 Ta0  -- t23
    · exact paS_t S49 Ta0  -- t24
    · have b := S49.2.1.2.2.2.2.1
      rw [lei, t0i] at c52
      have ed := dec_i (x := zI κ_47 paBlocks a0) (by omega)
      exact ⟨rfl, S49, rfl, by rw [ed]; omega, by rw [ed]; omega⟩

theorem Pa_addStatement_c {C : zC} {n0 : Nat} {a0 : Nat} {κ : zS} {Q : Int32 → zS → Prop} {X : zXp} (W : zW C n0 κ) (Ta0 : zT κ a0 = 10)  (hp : paA κ a0) (h : ∀ (v : Int32) (κ' : zS), (paS κ κ' a0 ∧ zI κ' paKind a0 = zI κ paKind a0 ∧ zI κ paKind a0 ≠ 142) → Q v κ') (hx : ∀ (cls : String) (κ' : zS), (paX κ cls κ' a0) → X cls κ') : zRun C 9 mPa_addStatement [.ref a0] κ (oI Q X) := by
  refine Pa_addStatement_run W Ta0 ?_
  replace W := W.lo (Nat.le_trans W.1.2.1 W.1.2.2) (Nat.le_refl (zn κ))
  unfold w_Pa_addStatement_0
  have S0 := paS_0 hp
  have hj205 : ∀ (l0 : Nat) (l1 : Int32) (l2 : Int32) (l3 : Int32) (τ : zS), zW C (zn κ) τ → zT τ l0 = 10 → (a0 = l0 ∧ paS κ τ a0 ∧ zI τ paKind a0 = zI κ paKind a0 ∧ zI κ paKind a0 ≠ 142 ∧ 0 ≤ l2.toInt ∧ l2.toInt ≤ 40) → w_Pa_addStatement_205 C (zn κ) Q X  l0 l1 l2 l3 τ := by
    rintro _ y205_1 y205_2 y205_3 τ205 W205 T205_0 ⟨rfl, j205⟩
    unfold w_Pa_addStatement_205
    refine ⟨?_, ?_⟩
    · have L := j205.1.2.1.2.2.1.2.2.2.2.2.1
      have b := j205.2.2.2
      rw [inb_iff]; omega
    intro κ_1 hκ_1
    have S2 := paS_N j205.1 (paN_ua W205 (paS_t j205.1 Ta0) j205.1.2.1 (show zr paLasts = some 20 by decide +kernel) (by decide) hκ_1)
    intro W3
    intro T4
    refine Co_setColumn_c W3 T4  ?_ (fun κ_5 q6 => ?_)
    · exact ⟨S2.2.1.2.1, by decide, by decide⟩  -- p2
    have S7 := paS_N S2 (paN_k W3 (paS_t S2 Ta0) S2.2.1 q6)
    intro W8
    intro M9
    intro T10
    refine Co_setColumn_c W8 T10  ?_ (fun κ_11 q12 => ?_)
    · exact ⟨S7.2.1.2.1, by decide, by decide⟩  -- p3
    have S13 := paS_N S7 (paN_k W8 (paS_t S7 Ta0) S7.2.1 q12)
    intro W14
    intro M15
    refine h _ _ ?_
    · have i1 : zI κ_1 = zI τ205 := by rw [hκ_1]; rfl
      exact ⟨S13, by rw [q12.2.2.1, q6.2.2.1, i1]; exact j205.2.1, j205.2.2.1⟩
  have hj170 : ∀ (l0 : Nat) (l1 : Int32) (l2 : Int32) (l3 : Int32) (s0 : Nat) (s1 : Int32) (s2 : Int32) (τ : zS), zW C (zn κ) τ → zT τ l0 = 10 → zT τ s0 = 5 → (a0 = l0 ∧ paS κ τ a0 ∧ zI τ paKind a0 = zI κ paKind a0 ∧ zI κ paKind a0 ≠ 142 ∧ (0 ≤ l2.toInt ∧ l2.toInt ≤ 40) ∧ s0 = zR τ paCode a0 ∧ (s2 = 6 ∨ s2 = 7)) → w_Pa_addStatement_170 C (zn κ) Q X  l0 l1 l2 l3 s0 s1 s2 τ := by
    rintro _ y170_1 y170_2 y170_3 y170_s0 y170_s1 y170_s2 τ170 W170 T170_0 T170_1 ⟨rfl, j170⟩
    unfold w_Pa_addStatement_170
    intro T16
    refine Co_setColumn_c W170 T16  ?_ (fun κ_17 q18 => ?_)
    · rw [j170.2.2.2.2.1]
      refine ⟨j170.1.2.1.2.1, ?_⟩
      rcases j170.2.2.2.2.2 with e | e <;> rw [e] <;> exact ⟨by decide, by decide⟩
    rw [j170.2.2.2.2.1] at q18
    have S19 := paS_N j170.1 (paN_k W170 (paS_t j170.1 Ta0) j170.1.2.1 q18)
    intro W20
    intro M21
    refine hj205 _ _ _ _ _ W20 ?_ ?_
    · exact paS_t S19 Ta0  -- t6
    · exact ⟨rfl, S19, by rw [q18.2.2.1]; exact j170.2.1, j170.2.2.1, j170.2.2.2.1⟩  -- k7
  have hj107 : ∀ (l0 : Nat) (l1 : Int32) (s0 : Int32) (τ : zS), zW C (zn κ) τ → zT τ l0 = 10 → (a0 = l0 ∧ paS κ τ a0 ∧ zI τ paKind a0 = zI κ paKind a0 ∧ zI κ paKind a0 ≠ 142 ∧ 0 ≤ s0.toInt ∧ s0.toInt ≤ 40) → w_Pa_addStatement_107 C (zn κ) Q X  l0 l1 s0 τ := by
    rintro _ y107_1 y107_s0 τ107 W107 T107_0 ⟨rfl, j107⟩
    unfold w_Pa_addStatement_107
    have L := j107.1.2.1.2.2.1.2.2.2.2
    have L1 := L.1
    have L2 := L.2.1
    have L3 := L.2.2
    have b := j107.2.2.2
    refine ⟨?_, ?_⟩
    · rw [inb_iff]; omega  -- b8
    intro x22 hx22
    refine ⟨?_, ?_⟩
    · rw [inb_iff]; omega  -- b9
    refine ⟨fun c23 => ?_, fun c23 => ?_⟩
    · skip
      refine ⟨fun c24 => ?_, fun c24 => ?_⟩
      · skip
        refine ⟨fun c25 => ?_, fun c25 => ?_⟩
        · skip
          refine hj205 _ _ _ _ _ W107 ?_ ?_
          · exact paS_t j107.1 Ta0  -- t10
          · exact ⟨rfl, j107.1, j107.2.1, j107.2.2.1, j107.2.2.2⟩  -- k11
        · skip
          refine ⟨?_, ?_⟩
          · have e10 : (10 : Int32).toInt = 10 := rfl
            rw [lei, e10] at c25
            have fv := j107.1.2.1.2.1.2.2.2.2.1
            have LF := j107.1.2.1.2.1.1.2.2.2.1
            rw [inb_iff]; omega
          intro κ_26 hκ_26
          have S27 := paS_N j107.1 (paN_cu W107 (paS_t j107.1 Ta0) j107.1.2.1 hκ_26)
          intro W28
          refine hj205 _ _ _ _ _ W28 ?_ ?_
          · exact paS_t S27 Ta0  -- t13
          · exact ⟨rfl, S27, by rw [hκ_26]; exact j107.2.1, j107.2.2.1, j107.2.2.2⟩  -- k14
      · skip
        refine ⟨?_, ?_⟩
        · rw [inb_iff]; omega  -- b15
        refine ⟨fun c29 => ?_, fun c29 => ?_⟩
        · skip
          refine hj170 _ _ _ _ _ _ _ _ W107 ?_ ?_ ?_
          · exact paS_t j107.1 Ta0  -- t16
          · exact ty_paCode W107 (paS_t j107.1 Ta0)  -- t17
          · exact ⟨rfl, j107.1, j107.2.1, j107.2.2.1, j107.2.2.2, rfl, Or.inl rfl⟩  -- k18
        · skip
          refine hj170 _ _ _ _ _ _ _ _ W107 ?_ ?_ ?_
          · exact paS_t j107.1 Ta0  -- t19
          · exact ty_paCode W107 (paS_t j107.1 Ta0)  -- t20
          · exact ⟨rfl, j107.1, j107.2.1, j107.2.2.1, j107.2.2.2, rfl, Or.inr rfl⟩  -- k21
    · skip
      refine ⟨?_, ?_⟩
      · rw [inb_iff]; omega  -- b22
      intro T30
      refine Co_setColumn_c W107 T30  ?_ (fun κ_31 q32 => ?_)
      · exact ⟨j107.1.2.1.2.1, by decide, by decide⟩  -- p23
      have S33 := paS_N j107.1 (paN_k W107 (paS_t j107.1 Ta0) j107.1.2.1 q32)
      intro W34
      intro M35
      refine hj205 _ _ _ _ _ W34 ?_ ?_
      · exact paS_t S33 Ta0  -- t24
      · exact ⟨rfl, S33, by rw [q32.2.2.1]; exact j107.2.1, j107.2.2.1, j107.2.2.2⟩  -- k25
  have hj82 : ∀ (l0 : Nat) (τ : zS), zW C (zn κ) τ → zT τ l0 = 10 → (κ = τ ∧ a0 = l0 ∧ zI κ paKind a0 ≠ 142 ∧ (zI κ coStatements (zR κ paCode a0)).toInt < 150) → w_Pa_addStatement_82 C (zn κ) Q X  l0 τ := by
    rintro _ _ W82 T82_0 ⟨rfl, rfl, j82⟩
    unfold w_Pa_addStatement_82
    intro T36
    refine Co_addStatement_c W82 T36  ?_ (fun r37 κ_38 q39 => ?_)
    · exact ⟨S0.2.1.2.1, j82.2⟩  -- p26
    have S40 := paS_N S0 (paN_c W82 (paS_t S0 Ta0) S0.2.1 q39.1 q39.2.1 (q39.2.2.2.2 coLength (by decide))).1
    intro W41
    intro M42
    have N := (paN_c W82 Ta0 hp.1 q39.1 q39.2.1 (q39.2.2.2.2 coLength (by decide))).1
    refine ⟨fun c43 => ?_, fun c43 => ?_⟩
    · skip
      refine hj107 _ _ _ _ W41 ?_ ?_
      · exact paS_t S40 Ta0  -- t27
      · exact ⟨rfl, S40, N.2.2.1.2, j82.1, by decide, by decide⟩  -- k28
    · skip
      refine hj107 _ _ _ _ W41 ?_ ?_
      · exact paS_t S40 Ta0  -- t29
      · have b := S40.2.1.2.2.2.2.1
        rw [lei, t0i] at c43
        have ed := dec_i (x := zI κ_38 paBlocks a0) (by omega)
        exact ⟨rfl, S40, N.2.2.1.2, j82.1, by rw [ed]; omega, by rw [ed]; omega⟩
  have hj59 : ∀ (l0 : Nat) (τ : zS), zW C (zn κ) τ → zT τ l0 = 10 → (κ = τ ∧ a0 = l0 ∧ zI κ paKind a0 ≠ 142) → w_Pa_addStatement_59 C (zn κ) Q X  l0 τ := by
    rintro _ _ W59 T59_0 ⟨rfl, rfl, j59⟩
    unfold w_Pa_addStatement_59
    refine ⟨fun c44 => ?_, fun c44 => ?_⟩
    · skip
      refine hj82 _ _ W59 ?_ ?_
      · exact paS_t S0 Ta0  -- t31
      · have e15 : (150 : Int32).toInt = 150 := rfl
        rw [lti, e15] at c44
        exact ⟨rfl, rfl, j59, c44⟩
    · skip
      intro T45
      refine Pa_refuse_c W59 T45  ?_ (fun κ_46 q47 => False.elim q47) (fun cls9 κ9 q9 => hx _ _ ?_)
      · exact S0.2.1  -- p33
      · exact paX_tr S0.1 q9  -- x34
  have hj50 : ∀ (l0 : Nat) (τ : zS), zW C (zn κ) τ → zT τ l0 = 10 → (κ = τ ∧ a0 = l0 ∧ True) → w_Pa_addStatement_50 C (zn κ) Q X  l0 τ := by
    rintro _ _ W50 T50_0 ⟨rfl, rfl, j50⟩
    unfold w_Pa_addStatement_50
    intro T48
    refine Pa_refuse_c W50 T48  ?_ (fun κ_49 q50 => False.elim q50) (fun cls9 κ9 q9 => hx _ _ ?_)
    · exact S0.2.1  -- p35
    · exact paX_tr S0.1 q9  -- x36
  refine ⟨fun c51 => ?_, fun c51 => ?_⟩
  · skip
    refine hj59 _ _ W ?_ ?_
    · exact paS_t S0 Ta0  -- t37
    · exact ⟨rfl, rfl, by rw [c51]; decide⟩  -- k38
  · skip
    refine ⟨fun c52 => ?_, fun c52 => ?_⟩
    · skip
      refine hj59 _ _ W ?_ ?_
      · exact paS_t S0 Ta0  -- t39
      · exact ⟨rfl, rfl, by rw [c52]; decide⟩  -- k40
    · skip
      refine ⟨fun c53 => ?_, fun c53 => ?_⟩
      · skip
        refine hj59 _ _ W ?_ ?_
        · exact paS_t S0 Ta0  -- t41
        · exact ⟨rfl, rfl, by rw [c53]; decide⟩  -- k42
      · skip
        refine ⟨fun c54 => ?_, fun c54 => ?_⟩
        · skip
          refine hj50 _ _ W ?_ ?_
          · exact paS_t S0 Ta0  -- t43
          · exact ⟨rfl, rfl, trivial⟩  -- k44
        · skip
          refine ⟨fun c55 => ?_, fun c55 => ?_⟩
          · skip
            refine hj59 _ _ W ?_ ?_
            · exact paS_t S0 Ta0  -- t45
            · exact ⟨rfl, rfl, fun e => c54 (by rw [e]; decide)⟩  -- k46
          · skip
            refine hj50 _ _ W ?_ ?_
            · exact paS_t S0 Ta0  -- t47
            · exact ⟨rfl, rfl, trivial⟩  -- k48
