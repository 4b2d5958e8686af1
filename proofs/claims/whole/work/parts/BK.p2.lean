section
set_option maxHeartbeats 1600000
/-! the class: Parser: items, blocks, new statements -/
/-- a parser in order between two tokens -/
def paA (κ : zS) (p : Nat) : Prop := paI κ p ∧ paK κ p ∧ 0 ≤ psi κ p
def paS (κ τ : zS) (p : Nat) : Prop := paF κ τ p ∧ paA τ p
theorem paS_0 {κ : zS} {p : Nat} (H : paA κ p) : paS κ κ p := ⟨paF.rf, H⟩
theorem paS_t {κ τ : zS} {p : Nat} (S : paS κ τ p) (T : zT κ p = 10) : zT τ p = 10 := S.1.1.t T (by decide)
theorem psi_T {C : zC} {n0 p : Nat} {κ τ : zS} (W : zW C n0 κ) (T : zT κ p = 10) (H : paI κ p) (h : paT κ τ p) : psi κ p + 2 ≤ psi τ p := (paT_N W T H h).1.2.2.2
theorem psi_N {κ τ : zS} {p : Nat} (h : paN κ τ p) : psi τ p = psi κ p := by
  unfold psi
  rw [h.2.2.1.1, h.2.2.2.1]
theorem paS_T {C : zC} {n0 p : Nat} {κ τ σ : zS} (T : zT κ p = 10) (S : paS κ τ p) (W : zW C n0 τ) (h : paT τ σ p) : paS κ σ p := by
  have M := (paT_N W (paS_t S T) S.2.1 h).1
  have s := S.2.2.2
  have m := M.2.2.2
  exact ⟨S.1.tr M.1, M.2.1, M.2.2.1, by omega⟩
theorem paS_N {κ τ σ : zS} {p : Nat} (S : paS κ τ p) (h : paN τ σ p) : paS κ σ p := ⟨S.1.tr h.1, h.2.1, paN_K h S.2.2.1, by rw [psi_N h]; exact S.2.2.2⟩
theorem paS_e {κ τ σ : zS} {p : Nat} {k : Int32} (S : paS κ τ p) (h : τ = σ ∧ zI τ paKind p = k) : paS κ σ p := by
  rw [← h.1]; exact S
theorem paN_k {C : zC} {n0 p : Nat} {κ τ : zS} (W : zW C n0 κ) (T : zT κ p = 10) (H : paI κ p) (q : zF (oneF coRows (zR κ paCode p)) κ τ ∧ coI τ (zR κ paCode p) ∧ zI τ = zI κ ∧ zR τ = zR κ) : paN κ τ p := (paN_c W T H (q.1.mono (fun _ _ z => z.2)) q.2.1 (by rw [q.2.2.1])).1
/-- a row of the parser's own -/
theorem paN_ua {C : zC} {n0 p f i t : Nat} {κ τ : zS} {x : Int32} (W : zW C n0 κ) (T : zT κ p = 10) (H : paI κ p) (hr : zr f = some t) (ht : 20 ≤ t) (e : τ = ua κ (zR κ f p) i x) (hf : f / 100 = 10 := by decide) : paN κ τ p := by
  obtain ⟨Z, r, n, i1, -⟩ := pa_ua W T hr ht e hf
  refine paN_p W T H Z r n (by rw [i1]) (by rw [i1]) ?_
  unfold paC
  rw [r, n, i1]
  exact H.2.2.2
/-- a row of the code's -/
theorem paN_cu {C : zC} {n0 p f i : Nat} {κ τ : zS} {x : Int32} (W : zW C n0 κ) (T : zT κ p = 10) (H : paI κ p) (e : τ = ua κ (zR κ f (zR κ paCode p)) i x) (hf : f ∈ coRf := by decide) (h1 : f ≠ coArrayBases := by decide) (h2 : f ≠ coArraySizes := by decide) : paN κ τ p := by
  have Tc := ty_paCode W T
  have Z : zF (objF (zR κ paCode p)) κ τ := by rw [e]; exact zF_ua (by rw [coRf_o W Tc hf])
  refine (paN_c W T H Z ?_ (by rw [e]; rfl)).1
  refine coI_g H.2.1 (fun g _ => by rw [e]; rfl) (fun g _ => by rw [e]; rfl) (fun g _ => by rw [e]; rfl) (fun g hg => ?_)
  rw [e]
  have m : g ∈ coRf ∧ g ≠ f := by
    rcases hg with rfl | rfl
    · exact ⟨by decide, fun z => h1 z.symm⟩
    · exact ⟨by decide, fun z => h2 z.symm⟩
  exact if_neg (coRf_n W Tc m.1 hf m.2)
/-- one variable, one function more -/
theorem coI_v {κ τ : zS} {c f : Nat} {x : Int32} (H : coI κ c) (e : τ = ui κ f c x) (hf : f = coVars ∨ f = coFunctions) (h0 : 0 ≤ x.toInt) (h1 : x.toInt ≤ 10) : coI τ c := by
  have o : ∀ g, g ≠ f → zI τ g c = zI κ g c := fun g hg => by rw [e]; exact if_neg (fun z => hg z.1)
  have s : zI τ f c = x := by rw [e]; exact if_pos ⟨rfl, rfl⟩
  have r : zR τ = zR κ := by rw [e]; rfl
  have n : zN τ = zN κ := by rw [e]; rfl
  have a : zA τ = zA κ := by rw [e]; rfl
  obtain ⟨k1, k2, k3, k4, k5, k6, k7, k8, k9⟩ := H
  unfold coI
  rcases hf with rfl | rfl
  · rw [r, n, a, s, o coArrays (by decide), o coCells (by decide), o coFunctions (by decide), o coStatements (by decide), o coLength (by decide)]
    exact ⟨k1, ⟨h0, h1⟩, k3, k4, k5, k6, k7, k8, k9⟩
  · rw [r, n, a, s, o coArrays (by decide), o coCells (by decide), o coVars (by decide), o coStatements (by decide), o coLength (by decide)]
    exact ⟨k1, k2, k3, k4, ⟨h0, h1⟩, k6, k7, k8, k9⟩
theorem paN_v {C : zC} {n0 p f : Nat} {κ τ : zS} {x : Int32} (W : zW C n0 κ) (T : zT κ p = 10) (H : paI κ p) (e : τ = ui κ f (zR κ paCode p) x) (hf : f = coVars ∨ f = coFunctions) (h0 : 0 ≤ x.toInt) (h1 : x.toInt ≤ 10) : paN κ τ p := by
  have Z : zF (objF (zR κ paCode p)) κ τ := by rw [e]; exact zF_ui rfl
  refine (paN_c W T H Z (coI_v H.2.1 e hf h0 h1) ?_).1
  rw [e]
  rcases hf with rfl | rfl <;> rfl
/-- one array more -/
theorem paN_a {C : zC} {n0 p : Nat} {κ κ1 κ2 κ3 κ4 : zS} {x : Int32} (W : zW C n0 κ) (T : zT κ p = 10) (H : paI κ p) (hl : (zI κ coArrays (zR κ paCode p)).toInt < 3) (x1 : 1 ≤ x.toInt) (x8 : x.toInt ≤ 8) (e1 : κ1 = ua κ (zR κ coArrayBases (zR κ paCode p)) (zI κ coArrays (zR κ paCode p)).toNatClampNeg (zI κ coCells (zR κ paCode p))) (e2 : κ2 = ua κ1 (zR κ1 coArraySizes (zR κ1 paCode p)) (zI κ1 coArrays (zR κ1 paCode p)).toNatClampNeg x) (e3 : κ3 = ui κ2 coArrays (zR κ2 paCode p) (zI κ2 coArrays (zR κ2 paCode p) + 1)) (e4 : κ4 = ui κ3 coCells (zR κ3 paCode p) (zI κ3 coCells (zR κ3 paCode p) + x)) : paN κ κ4 p := by
  have Tc := ty_paCode W T
  have hd : zR κ1 = zR κ := by rw [e1]; rfl
  have hd2 : zR κ2 = zR κ := by rw [e2]; exact hd
  have hd3 : zR κ3 = zR κ := by rw [e3]; exact hd2
  have hd4 : zR κ4 = zR κ := by rw [e4]; exact hd3
  have i1 : zI κ1 = zI κ := by rw [e1]; rfl
  have i2 : zI κ2 = zI κ := by rw [e2]; exact i1
  have n4 : zN κ4 = zN κ := by rw [e4, e3, e2, e1]; rfl
  rw [hd, i1] at e2
  rw [hd2, i2] at e3
  rw [hd3] at e4
  generalize hc : zR κ paCode p = c at *
  have Z1 : zF (objF c) κ κ1 := by rw [e1]; exact zF_ua (by rw [coRf_o W Tc (by decide)])
  have o1 : zO κ1 = zO κ := by rw [e1]; rfl
  have Z2 : zF (objF c) κ1 κ2 := by rw [e2]; exact zF_ua (by rw [o1, coRf_o W Tc (by decide)])
  have Z3 : zF (objF c) κ2 κ3 := by rw [e3]; exact zF_ui rfl
  have Z4 : zF (objF c) κ3 κ4 := by rw [e4]; exact zF_ui rfl
  have Z := ((Z1.tr Z2).tr Z3).tr Z4
  obtain ⟨k1, k2, k3, k4, k5, k6, k7, k8, k9⟩ := H.2.1
  rw [hc] at k1 k2 k3 k4 k5 k6 k7 k8 k9
  have c3 : zI κ3 coCells c = zI κ coCells c := by rw [e3]; exact (congrFun (congrFun i2 coCells) c)
  have a4 : zI κ4 coArrays c = zI κ coArrays c + 1 := by
    rw [e4]
    show zI κ3 coArrays c = _
    rw [e3]
    exact if_pos ⟨rfl, rfl⟩
  have c4 : zI κ4 coCells c = zI κ coCells c + x := by
    rw [e4]
    refine (if_pos ⟨rfl, rfl⟩).trans ?_
    rw [c3]
  have o4 : ∀ f, f ≠ coArrays → f ≠ coCells → zI κ4 f c = zI κ f c := fun f h1 h2 => by
    rw [e4]
    refine (if_neg (fun z => h2 z.1)).trans ?_
    show zI κ3 f c = _
    rw [e3]
    exact (if_neg (fun z => h1 z.1)).trans (congrFun (congrFun i2 f) c)
  have ea : (zI κ coArrays c + 1).toInt = (zI κ coArrays c).toInt + 1 := by rw [add_i (by rw [t1i]; omega) (by rw [t1i]; omega), t1i]
  have ec : (zI κ coCells c + x).toInt = (zI κ coCells c).toInt + x.toInt := add_i (by omega) (by omega)
  have kn := cnk (x := zI κ coArrays c) k3.1
  have nb1 : zR κ coArrayBases c ≠ zR κ coArraySizes c := coRf_n W Tc (by decide) (by decide) (by decide)
  have A4 : zA κ4 = zA κ2 := by rw [e4, e3]; rfl
  have b4 : zA κ4 (zR κ coArrayBases c) = upd (zA κ (zR κ coArrayBases c)) (zI κ coArrays c).toNatClampNeg (zI κ coCells c) := by
    rw [A4, e2]
    refine (if_neg nb1).trans ?_
    show zA κ1 _ = _
    rw [e1]
    exact if_pos rfl
  have s4 : zA κ4 (zR κ coArraySizes c) = upd (zA κ (zR κ coArraySizes c)) (zI κ coArrays c).toNatClampNeg x := by
    rw [A4, e2]
    refine (if_pos rfl).trans ?_
    have q : zA κ1 (zR κ coArraySizes c) = zA κ (zR κ coArraySizes c) := by rw [e1]; exact if_neg (fun z => nb1 z.symm)
    show upd (zA κ1 (zR κ coArraySizes c)) _ _ = _
    rw [q]
  have I4 : coI κ4 c := by
    unfold coI
    rw [hd4, n4, a4, c4, ea, ec, b4, s4, o4 coVars (by decide) (by decide), o4 coFunctions (by decide) (by decide), o4 coStatements (by decide) (by decide), o4 coLength (by decide) (by decide)]
    refine ⟨k1, k2, ⟨by omega, by omega⟩, ⟨by omega, by omega⟩, k5, k6, k7, k8, fun i hi => ?_⟩
    have g := k9 i hi
    show 0 ≤ Int32.toInt (if i = (zI κ coArrays c).toNatClampNeg then zI κ coCells c else zA κ (zR κ coArrayBases c) i) ∧ 0 ≤ Int32.toInt (if i = (zI κ coArrays c).toNatClampNeg then x else zA κ (zR κ coArraySizes c) i) ∧ Int32.toInt (if i = (zI κ coArrays c).toNatClampNeg then zI κ coCells c else zA κ (zR κ coArrayBases c) i) + Int32.toInt (if i = (zI κ coArrays c).toNatClampNeg then x else zA κ (zR κ coArraySizes c) i) ≤ 24
    by_cases z : i = (zI κ coArrays c).toNatClampNeg
    · rw [if_pos z, if_pos z]; omega
    · rw [if_neg z, if_neg z]; exact g
  subst hc
  exact (paN_c W T H Z I4 (o4 coLength (by decide) (by decide))).1
/-- counts of the parser's own -/
theorem paN_u {C : zC} {n0 p f : Nat} {κ τ : zS} {x : Int32} (W : zW C n0 κ) (T : zT κ p = 10) (H : paI κ p) (e : τ = ui κ f p x) (hf : (f = paOwns ∧ 0 ≤ x.toInt ∧ x.toInt ≤ 8) ∨ (f = paBlocks ∧ 0 ≤ x.toInt ∧ x.toInt ≤ 41) ∨ f = paInside) : paN κ τ p := by
  have Z : zF (objF p) κ τ := by rw [e]; exact zF_ui rfl
  have r : zR τ = zR κ := by rw [e]; rfl
  have n : zN τ = zN κ := by rw [e]; rfl
  have o : ∀ g, g ≠ f → zI τ g p = zI κ g p := fun g hg => by rw [e]; exact if_neg (fun z => hg z.1)
  have s : zI τ f p = x := by rw [e]; exact if_pos ⟨rfl, rfl⟩
  have D := H.2.2.2
  rcases hf with ⟨rfl, h⟩ | ⟨rfl, h⟩ | rfl
  · refine paN_p W T H Z r n (o _ (by decide)) (o _ (by decide)) ?_
    unfold paC
    rw [r, n, s, o paBlocks (by decide), o paWaits (by decide)]
    exact ⟨h, D.2⟩
  · refine paN_p W T H Z r n (o _ (by decide)) (o _ (by decide)) ?_
    unfold paC
    rw [r, n, s, o paOwns (by decide), o paWaits (by decide)]
    exact ⟨D.1, h, D.2.2⟩
  · refine paN_p W T H Z r n (o _ (by decide)) (o _ (by decide)) ?_
    unfold paC
    rw [r, n, o paOwns (by decide), o paBlocks (by decide), o paWaits (by decide)]
    exact D
theorem cb_f {C : zC} {n0 p r i : Nat} {κ τ σ ρ : zS} {x : Int32} (T : zT κ p = 10) (S : paS κ σ p) (W : zW C n0 σ) (e1 : σ = ua τ r i x) (e : ρ = ui σ coFunctions (zR σ paCode p) (zI σ coFunctions (zR σ paCode p) + 1)) (fb : 0 ≤ (zI τ coFunctions (zR τ paCode p)).toInt ∧ (zI τ coFunctions (zR τ paCode p)).toInt < 10) : paS κ ρ p := by
  have q : zI σ coFunctions (zR σ paCode p) = zI τ coFunctions (zR τ paCode p) := by rw [e1]; rfl
  have q1 : (zI τ coFunctions (zR τ paCode p) + 1).toInt = (zI τ coFunctions (zR τ paCode p)).toInt + 1 := by rw [add_i (by rw [t1i]; omega) (by rw [t1i]; omega), t1i]
  exact paS_N S (paN_v W (paS_t S T) S.2.1 e (Or.inr rfl) (by rw [q, q1]; omega) (by rw [q, q1]; omega))
theorem Pa_varItem_c {C : zC} {n0 : Nat} {a0 : Nat} {κ : zS} {Q : zS → Prop} {X : zXp} (W : zW C n0 κ) (Ta0 : zT κ a0 = 10)  (hp : paA κ a0) (h : ∀ (κ' : zS), (paS κ κ' a0) → Q κ') (hx : ∀ (cls : String) (κ' : zS), (paX κ cls κ' a0) → X cls κ') : zRun C 11 mPa_varItem [.ref a0] κ (oV Q X) := by
  refine Pa_varItem_run W Ta0 ?_
  replace W := W.lo (Nat.le_trans W.1.2.1 W.1.2.2) (Nat.le_refl (zn κ))
  unfold w_Pa_varItem_0
  have S0 := paS_0 hp
  have hj94 : ∀ (l0 : Nat) (l1 : Int32) (l2 : Int32) (τ : zS), zW C (zn κ) τ → zT τ l0 = 10 → (a0 = l0 ∧ paS κ τ a0) → w_Pa_varItem_94 C (zn κ) Q X  l0 l1 l2 τ := by
    rintro _ y94_1 y94_2 τ94 W94 T94_0 ⟨rfl, j94⟩
    unfold w_Pa_varItem_94
    intro T1
    refine Pa_pass_c W94 T1  ?_ (fun κ_2 q3 => ?_) (fun cls9 κ9 q9 => hx _ _ ?_)
    · exact ⟨j94.2.1, j94.2.2.1, by decide⟩  -- p1
    rotate_left
    · exact paX_tr j94.1 q9  -- x2
    have S4 := paS_T Ta0 j94 W94 q3
    intro W5
    intro M6
    refine ⟨fun c7 => ?_, fun c7 => ?_⟩
    · skip
      refine h _ ?_
      · exact S4  -- q3
    · skip
      have e10 : (10 : Int32).toInt = 10 := rfl
      rw [lei, e10] at c7
      have v := S4.2.1.2.1.2.1
      refine ⟨?_, ?_⟩
      · have L := S4.2.1.2.2.1.1
        rw [inb_iff]; omega
      intro κ_8 hκ_8
      have S9 := paS_N S4 (paN_ua W5 (paS_t S4 Ta0) S4.2.1 (show zr paVarNames = some 20 by decide +kernel) (by decide) hκ_8)
      intro W10
      refine ⟨?_, ?_⟩
      · have L := S9.2.1.2.1.1.1
        have e : zI κ_8 coVars (zR κ_8 paCode a0) = zI κ_2 coVars (zR κ_2 paCode a0) := by rw [hκ_8]; rfl
        rw [e, inb_iff]; omega
      intro κ_11 hκ_11
      have S12 := paS_N S9 (paN_cu W10 (paS_t S9 Ta0) S9.2.1 hκ_11)
      intro W13
      intro κ_14 hκ_14
      intro W15
      refine h _ ?_
      · have e : zI κ_11 coVars (zR κ_11 paCode a0) = zI κ_2 coVars (zR κ_2 paCode a0) := by rw [hκ_11, hκ_8]; rfl
        have e1 : (zI κ_2 coVars (zR κ_2 paCode a0) + 1).toInt = (zI κ_2 coVars (zR κ_2 paCode a0)).toInt + 1 := by rw [add_i (by rw [t1i]; omega) (by rw [t1i]; omega), t1i]
        exact paS_N S12 (paN_v W13 (paS_t S12 Ta0) S12.2.1 hκ_14 (Or.inl rfl) (by rw [e, e1]; omega) (by rw [e, e1]; omega))
  have hj89 : ∀ (l0 : Nat) (l1 : Int32) (s0 : Int32) (τ : zS), zW C (zn κ) τ → zT τ l0 = 10 → (a0 = l0 ∧ paS κ τ a0 ∧ zI τ paKind a0 = 141) → w_Pa_varItem_89 C (zn κ) Q X  l0 l1 s0 τ := by
    rintro _ y89_1 y89_s0 τ89 W89 T89_0 ⟨rfl, j89⟩
    unfold w_Pa_varItem_89
    intro T16
    refine Pa_take_c W89 T16  ?_ (fun κ_17 q18 => ?_)
    · exact ⟨j89.1.2.1, paK_t j89.1.2.2.1 j89.2 (by decide)⟩  -- p7
    have S19 := paS_T Ta0 j89.1 W89 q18
    intro W20
    intro M21
    refine hj94 _ _ _ _ W20 ?_ ?_
    · exact paS_t S19 Ta0  -- t8
    · exact ⟨rfl, S19⟩  -- k9
  have hj52 : ∀ (l0 : Nat) (l1 : Int32) (l3 : Int32) (τ : zS), zW C (zn κ) τ → zT τ l0 = 10 → (a0 = l0 ∧ paS κ τ a0) → w_Pa_varItem_52 C (zn κ) Q X  l0 l1 l3 τ := by
    rintro _ y52_1 y52_3 τ52 W52 T52_0 ⟨rfl, j52⟩
    unfold w_Pa_varItem_52
    intro T22
    refine Pa_expect_c W52 T22  ?_ (fun κ_23 q24 => ?_) (fun cls9 κ9 q9 => hx _ _ ?_)
    · exact j52.2.1  -- p10
    rotate_left
    · exact paX_tr j52.1 q9  -- x11
    have S25 := paS_e j52 q24
    intro W26
    intro M27
    refine ⟨fun c28 => ?_, fun c28 => ?_⟩
    · skip
      intro T29
      refine Ta_numberAt_c W26 T29  ?_ (fun r30 q32 => ?_)
      · exact S25.2.1.1.1  -- p12
      intro W33
      intro M34
      refine hj89 _ _ _ _ W33 ?_ ?_
      · exact paS_t S25 Ta0  -- t13
      · exact ⟨rfl, S25, by rw [← q24.1]; exact q24.2⟩  -- k14
    · skip
      intro T35
      refine Ta_numberAt_c W26 T35  ?_ (fun r36 q38 => ?_)
      · exact S25.2.1.1.1  -- p15
      intro W39
      intro M40
      refine hj89 _ _ _ _ W39 ?_ ?_
      · exact paS_t S25 Ta0  -- t16
      · exact ⟨rfl, S25, by rw [← q24.1]; exact q24.2⟩  -- k17
  have hj43 : ∀ (l0 : Nat) (l1 : Int32) (s0 : Int32) (τ : zS), zW C (zn κ) τ → zT τ l0 = 10 → (a0 = l0 ∧ paS κ τ a0 ∧ (s0 ≠ 0 → zI τ paKind a0 = 45)) → w_Pa_varItem_43 C (zn κ) Q X  l0 l1 s0 τ := by
    rintro _ y43_1 y43_s0 τ43 W43 T43_0 ⟨rfl, j43⟩
    unfold w_Pa_varItem_43
    refine ⟨fun c41 => ?_, fun c41 => ?_⟩
    · skip
      refine hj52 _ _ _ _ W43 ?_ ?_
      · exact paS_t j43.1 Ta0  -- t18
      · exact ⟨rfl, j43.1⟩  -- k19
    · skip
      intro T42
      refine Pa_take_c W43 T42  ?_ (fun κ_43 q44 => ?_)
      · exact ⟨j43.1.2.1, paK_t j43.1.2.2.1 (j43.2 c41) (by decide)⟩  -- p20
      have S45 := paS_T Ta0 j43.1 W43 q44
      intro W46
      intro M47
      refine hj52 _ _ _ _ W46 ?_ ?_
      · exact paS_t S45 Ta0  -- t21
      · exact ⟨rfl, S45⟩  -- k22
  intro T48
  refine Pa_newName_c W T48  ?_ (fun r49 κ_50 q51 => ?_) (fun cls9 κ9 q9 => hx _ _ ?_)
  · exact ⟨S0.2.1, S0.2.2.1⟩  -- p23
  rotate_left
  · exact paX_tr S0.1 q9  -- x24
  have S52 := paS_T Ta0 S0 W q51.1
  intro W53
  intro M54
  refine ⟨fun c55 => ?_, fun c55 => ?_⟩
  · skip
    refine hj94 _ _ _ _ W53 ?_ ?_
    · exact paS_t S52 Ta0  -- t25
    · exact ⟨rfl, S52⟩  -- k26
  · skip
    intro T56
    refine Pa_take_c W53 T56  ?_ (fun κ_57 q58 => ?_)
    · exact ⟨S52.2.1, paK_t S52.2.2.1 c55 (by decide)⟩  -- p27
    have S59 := paS_T Ta0 S52 W53 q58
    intro W60
    intro M61
    refine ⟨fun c62 => ?_, fun c62 => ?_⟩
    · skip
      refine hj43 _ _ _ _ W60 ?_ ?_
      · exact paS_t S59 Ta0  -- t28
      · exact ⟨rfl, S59, fun z => absurd rfl z⟩  -- k29
    · skip
      refine hj43 _ _ _ _ W60 ?_ ?_
      · exact paS_t S59 Ta0  -- t30
      · exact ⟨rfl, S59, fun _ => c62⟩  -- k31

theorem Pa_arrayItem_c {C : zC} {n0 : Nat} {a0 : Nat} {κ : zS} {Q : zS → Prop} {X : zXp} (W : zW C n0 κ) (Ta0 : zT κ a0 = 10)  (hp : paA κ a0) (h : ∀ (κ' : zS), (paS κ κ' a0) → Q κ') (hx : ∀ (cls : String) (κ' : zS), (paX κ cls κ' a0) → X cls κ') : zRun C 11 mPa_arrayItem [.ref a0] κ (oV Q X) := by
  refine Pa_arrayItem_run W Ta0 ?_
  replace W := W.lo (Nat.le_trans W.1.2.1 W.1.2.2) (Nat.le_refl (zn κ))
  unfold w_Pa_arrayItem_0
  have S0 := paS_0 hp
  have hj59 : ∀ (l0 : Nat) (l1 : Int32) (l2 : Int32) (τ : zS), zW C (zn κ) τ → zT τ l0 = 10 → (a0 = l0 ∧ paS κ τ a0 ∧ zI τ paKind a0 = 141 ∧ 1 ≤ l2.toInt ∧ l2.toInt ≤ 8) → w_Pa_arrayItem_59 C (zn κ) Q X  l0 l1 l2 τ := by
    rintro _ y59_1 y59_2 τ59 W59 T59_0 ⟨rfl, j59⟩
    unfold w_Pa_arrayItem_59
    intro T1
    refine Pa_take_c W59 T1  ?_ (fun κ_2 q3 => ?_)
    · exact ⟨j59.1.2.1, paK_t j59.1.2.2.1 j59.2.1 (by decide)⟩  -- p1
    have S4 := paS_T Ta0 j59.1 W59 q3
    intro W5
    intro M6
    intro T7
    refine Pa_closeSign_c W5 T7  ?_ (fun κ_8 q9 => ?_) (fun cls9 κ9 q9 => hx _ _ ?_)
    · exact ⟨S4.2.1, S4.2.2.1, by decide⟩  -- p2
    rotate_left
    · exact paX_tr S4.1 q9  -- x3
    have S10 := paS_T Ta0 S4 W5 q9
    intro W11
    intro M12
    intro T13
    refine Pa_pass_c W11 T13  ?_ (fun κ_14 q15 => ?_) (fun cls9 κ9 q9 => hx _ _ ?_)
    · exact ⟨S10.2.1, S10.2.2.1, by decide⟩  -- p4
    rotate_left
    · exact paX_tr S10.1 q9  -- x5
    have S16 := paS_T Ta0 S10 W11 q15
    intro W17
    intro M18
    refine ⟨fun c19 => ?_, fun c19 => ?_⟩
    · skip
      refine h _ ?_
      · exact S16  -- q6
    · skip
      have e3 : (3 : Int32).toInt = 3 := rfl
      rw [lei, e3] at c19
      have v := S16.2.1.2.1.2.2.1
      refine ⟨?_, ?_⟩
      · have L := S16.2.1.2.2.1.2.1
        rw [inb_iff]; omega
      intro κ_20 hκ_20
      have S21 := paS_N S16 (paN_ua W17 (paS_t S16 Ta0) S16.2.1 (show zr paArrayNames = some 20 by decide +kernel) (by decide) hκ_20)
      intro W22
      have e20 : zI κ_20 coArrays (zR κ_20 paCode a0) = zI κ_14 coArrays (zR κ_14 paCode a0) := by rw [hκ_20]; rfl
      refine ⟨?_, ?_⟩
      · have L := S21.2.1.2.1.1.2.1
        rw [e20, inb_iff]; omega
      intro κ_23 hκ_23
      intro W24
      refine ⟨?_, ?_⟩
      · have L := S21.2.1.2.1.1.2.2.1
        have e : zI κ_23 coArrays (zR κ_23 paCode a0) = zI κ_20 coArrays (zR κ_20 paCode a0) := by rw [hκ_23]; rfl
        have n : zN κ_23 (zR κ_23 coArraySizes (zR κ_23 paCode a0)) = zN κ_20 (zR κ_20 coArraySizes (zR κ_20 paCode a0)) := by rw [hκ_23]; rfl
        rw [e, n, e20, inb_iff]; omega
      intro κ_25 hκ_25
      intro W26
      intro κ_27 hκ_27
      intro W28
      intro κ_29 hκ_29
      intro W30
      refine h _ ?_
      · exact paS_N S21 (paN_a W22 (paS_t S21 Ta0) S21.2.1 (by rw [e20]; omega) j59.2.2.1 j59.2.2.2 hκ_23 hκ_25 hκ_27 hκ_29)  -- q10
  have hj49 : ∀ (l0 : Nat) (l1 : Int32) (l2 : Int32) (τ : zS), zW C (zn κ) τ → zT τ l0 = 10 → (a0 = l0 ∧ paS κ τ a0) → w_Pa_arrayItem_49 C (zn κ) Q X  l0 l1 l2 τ := by
    rintro _ y49_1 y49_2 τ49 W49 T49_0 ⟨rfl, j49⟩
    unfold w_Pa_arrayItem_49
    intro T31
    refine Pa_refuse_c W49 T31  ?_ (fun κ_32 q33 => False.elim q33) (fun cls9 κ9 q9 => hx _ _ ?_)
    · exact j49.2.1  -- p11
    · exact paX_tr j49.1 q9  -- x12
  intro T34
  refine Pa_newName_c W T34  ?_ (fun r35 κ_36 q37 => ?_) (fun cls9 κ9 q9 => hx _ _ ?_)
  · exact ⟨S0.2.1, S0.2.2.1⟩  -- p13
  rotate_left
  · exact paX_tr S0.1 q9  -- x14
  have S38 := paS_T Ta0 S0 W q37.1
  intro W39
  intro M40
  intro T41
  refine Pa_openSign_c W39 T41  ?_ (fun κ_42 q43 => ?_) (fun cls9 κ9 q9 => hx _ _ ?_)
  · exact ⟨S38.2.1, S38.2.2.1, by decide⟩  -- p15
  rotate_left
  · exact paX_tr S38.1 q9  -- x16
  have S44 := paS_T Ta0 S38 W39 q43
  intro W45
  intro M46
  intro T47
  refine Pa_expect_c W45 T47  ?_ (fun κ_48 q49 => ?_) (fun cls9 κ9 q9 => hx _ _ ?_)
  · exact S44.2.1  -- p17
  rotate_left
  · exact paX_tr S44.1 q9  -- x18
  have S50 := paS_e S44 q49
  intro W51
  intro M52
  intro T53
  refine Ta_numberAt_c W51 T53  ?_ (fun r54 q56 => ?_)
  · exact S50.2.1.1.1  -- p19
  intro W57
  intro M58
  refine ⟨fun c59 => ?_, fun c59 => ?_⟩
  · skip
    refine hj49 _ _ _ _ W57 ?_ ?_
    · exact paS_t S50 Ta0  -- t20
    · exact ⟨rfl, S50⟩  -- k21
  · skip
    refine ⟨fun c60 => ?_, fun c60 => ?_⟩
    · skip
      refine hj59 _ _ _ _ W57 ?_ ?_
      · exact paS_t S50 Ta0  -- t22
      · have e8 : (8 : Int32).toInt = 8 := rfl
        rw [lti, t1i] at c59
        rw [lei, e8] at c60
        exact ⟨rfl, S50, by rw [← q49.1]; exact q49.2, by omega, c60⟩
    · skip
      refine hj49 _ _ _ _ W57 ?_ ?_
      · exact paS_t S50 Ta0  -- t24
      · exact ⟨rfl, S50⟩  -- k25

theorem Pa_functionHead_c {C : zC} {n0 : Nat} {a0 : Nat} {κ : zS} {Q : zS → Prop} {X : zXp} (W : zW C n0 κ) (Ta0 : zT κ a0 = 10)  (hp : paA κ a0) (h : ∀ (κ' : zS), (paS κ κ' a0) → Q κ') (hx : ∀ (cls : String) (κ' : zS), (paX κ cls κ' a0) → X cls κ') : zRun C 11 mPa_functionHead [.ref a0] κ (oV Q X) := by
  refine Pa_functionHead_run W Ta0 ?_
  replace W := W.lo (Nat.le_trans W.1.2.1 W.1.2.2) (Nat.le_refl (zn κ))
  unfold w_Pa_functionHead_0
  have S0 := paS_0 hp
  have hj144 : ∀ (l0 : Nat) (τ : zS), zW C (zn κ) τ → zT τ l0 = 10 → (a0 = l0 ∧ paS κ τ a0) → w_Pa_functionHead_144 C (zn κ) Q X  l0 τ := by
    rintro _ τ144 W144 T144_0 ⟨rfl, j144⟩
    unfold w_Pa_functionHead_144
    intro κ_1 hκ_1
    have S2 := paS_N j144 (paN_u W144 (paS_t j144 Ta0) j144.2.1 hκ_1 (Or.inr (Or.inr rfl)))
    intro W3
    intro T4
    refine Pa_pushBlock_c W3 T4  ?_ (fun κ_5 q6 => ?_)
    · exact S2.2.1  -- p1
    have S7 := paS_N S2 q6
    intro W8
    intro M9
    refine h _ ?_
    · exact S7  -- q2
  have hj88 : ∀ (l0 : Nat) (l1 : Int32) (τ : zS), zW C (zn κ) τ → zT τ l0 = 10 → (a0 = l0 ∧ paS κ τ a0) → w_Pa_functionHead_88 C (zn κ) Q X  l0 l1 τ := by
    rintro _ y88_1 τ88 W88 T88_0 ⟨rfl, j88⟩
    unfold w_Pa_functionHead_88
    intro T10
    refine Pa_closeSign_c W88 T10  ?_ (fun κ_11 q12 => ?_) (fun cls9 κ9 q9 => hx _ _ ?_)
    · exact ⟨j88.2.1, j88.2.2.1, by decide⟩  -- p3
    rotate_left
    · exact paX_tr j88.1 q9  -- x4
    have S13 := paS_T Ta0 j88 W88 q12
    intro W14
    intro M15
    intro T16
    refine Pa_openSign_c W14 T16  ?_ (fun κ_17 q18 => ?_) (fun cls9 κ9 q9 => hx _ _ ?_)
    · exact ⟨S13.2.1, S13.2.2.1, by decide⟩  -- p5
    rotate_left
    · exact paX_tr S13.1 q9  -- x6
    have S19 := paS_T Ta0 S13 W14 q18
    intro W20
    intro M21
    refine ⟨fun c22 => ?_, fun c22 => ?_⟩
    · skip
      refine hj144 _ _ W20 ?_ ?_
      · exact paS_t S19 Ta0  -- t7
      · exact ⟨rfl, S19⟩  -- k8
    · skip
      have e10 : (10 : Int32).toInt = 10 := rfl
      rw [lei, e10] at c22
      have v := S19.2.1.2.1.2.2.2.2.1
      refine ⟨?_, ?_⟩
      · have L := S19.2.1.2.2.1.2.2.1
        rw [inb_iff]; omega
      intro κ_23 hκ_23
      have S24 := paS_N S19 (paN_ua W20 (paS_t S19 Ta0) S19.2.1 (show zr paFunctionNames = some 20 by decide +kernel) (by decide) hκ_23)
      intro W25
      refine ⟨?_, ?_⟩
      · have L := S24.2.1.2.1.1.2.2.2.2.1
        have e : zI κ_23 coFunctions (zR κ_23 paCode a0) = zI κ_17 coFunctions (zR κ_17 paCode a0) := by rw [hκ_23]; rfl
        rw [e, inb_iff]; omega
      intro κ_26 hκ_26
      have S27 := paS_N S24 (paN_cu W25 (paS_t S24 Ta0) S24.2.1 hκ_26)
      intro W28
      refine hj144 _ _ W28 ?_ ?_
      · exact paS_t S27 Ta0  -- t11
      · exact ⟨rfl, S27⟩  -- k12
  have hj34 : ∀ (l0 : Nat) (l1 : Int32) (s0 : Int32) (τ : zS), zW C (zn κ) τ → zT τ l0 = 10 → (a0 = l0 ∧ paS κ τ a0) → w_Pa_functionHead_34 C (zn κ) Q X  l0 l1 s0 τ := by
    rintro _ y34_1 y34_s0 τ34 W34 T34_0 ⟨rfl, j34⟩
    unfold w_Pa_functionHead_34
    unfold w_Pa_functionHead_37
    refine ⟨fun n l0 l1 l2 l3 τ => n = (5 - l3.toInt).toNat ∧ (a0 = l0 ∧ paS κ τ a0 ∧ 0 ≤ l3.toInt ∧ l3.toInt ≤ 5), ⟨_, rfl, ?_⟩, ?_⟩
    · exact ⟨rfl, j34, by decide, by decide⟩  -- j13
    rintro n37 _ x37_1 x37_2 x37_3 κ37 W37 T37_0 ⟨hn37, rfl, i37⟩
    have hj73 : ∀ (l0 : Nat) (l1 : Int32) (l3 : Int32) (s0 : Int32) (τ : zS), zW C (zn κ) τ → zT τ l0 = 10 → (a0 = l0 ∧ paS κ τ a0 ∧ l3 = x37_3 ∧ l3.toInt ≤ 4 ∧ (s0 ≠ 0 → zI τ paKind a0 = 44)) → w_Pa_functionHead_73 C (zn κ) Q X (fun (l0' : Nat) (l1' : Int32) (l2' : Int32) (l3' : Int32) (τ : zS) => ∃ k < n37, (fun (n : Nat) (l0 : Nat) (l1 : Int32) (l2 : Int32) (l3 : Int32) (τ : zS) => n = (5 - l3.toInt).toNat ∧ (a0 = l0 ∧ paS κ τ a0 ∧ 0 ≤ l3.toInt ∧ l3.toInt ≤ 5)) k l0' l1' l2' l3' τ) l0 l1 l3 s0 τ := by
      rintro _ y73_1 y73_3 y73_s0 τ73 W73 T73_0 ⟨rfl, j73⟩
      unfold w_Pa_functionHead_73
      obtain ⟨J, rfl, l4, jk⟩ := j73
      have l0 := i37.2.1
      have e1 : (y73_3 + 1).toInt = y73_3.toInt + 1 := by rw [add_i (by rw [t1i]; omega) (by rw [t1i]; omega), t1i]
      refine ⟨fun c29 => ?_, fun c29 => ?_⟩
      · skip
        intro x30 hx30
        refine ⟨_, ?_, rfl, ?_⟩
        · rw [hn37, hx30, e1]; omega  -- d14
        · exact ⟨rfl, J, by rw [hx30, e1]; omega, by rw [hx30, e1]; omega⟩  -- i15
      · skip
        intro T31
        refine Pa_take_c W73 T31  ?_ (fun κ_32 q33 => ?_)
        · exact ⟨J.2.1, paK_t J.2.2.1 (jk c29) (by decide)⟩  -- p16
        have S34 := paS_T Ta0 J W73 q33
        intro W35
        intro M36
        intro x37 hx37
        refine ⟨_, ?_, rfl, ?_⟩
        · rw [hn37, hx37, e1]; omega  -- d17
        · exact ⟨rfl, S34, by rw [hx37, e1]; omega, by rw [hx37, e1]; omega⟩  -- i18
    refine ⟨fun c38 => ?_, fun c38 => ?_⟩
    · skip
      refine hj88 _ _ _ W37 ?_ ?_
      · exact paS_t i37.1 Ta0  -- t19
      · exact ⟨rfl, i37.1⟩  -- k20
    · skip
      refine ⟨fun c39 => ?_, fun c39 => ?_⟩
      · skip
        refine hj88 _ _ _ W37 ?_ ?_
        · exact paS_t i37.1 Ta0  -- t21
        · exact ⟨rfl, i37.1⟩  -- k22
      · skip
        intro T40
        refine Pa_newName_c W37 T40  ?_ (fun r41 κ_42 q43 => ?_) (fun cls9 κ9 q9 => hx _ _ ?_)
        · exact ⟨i37.1.2.1, i37.1.2.2.1⟩  -- p23
        rotate_left
        · exact paX_tr i37.1.1 q9  -- x24
        have S44 := paS_T Ta0 i37.1 W37 q43.1
        intro W45
        intro M46
        intro T47
        refine Pa_addOwn_c W45 T47  ?_ (fun κ_48 q49 => ?_)
        · exact S44.2.1  -- p25
        have S50 := paS_N S44 q49
        intro W51
        intro M52
        refine ⟨fun c53 => ?_, fun c53 => ?_⟩
        · skip
          refine hj73 _ _ _ _ _ W51 ?_ ?_
          · exact paS_t S50 Ta0  -- t26
          · have e4 : (4 : Int32).toInt = 4 := rfl
            rw [lti, e4] at c39
            exact ⟨rfl, S50, rfl, by omega, fun z => absurd rfl z⟩
        · skip
          refine hj73 _ _ _ _ _ W51 ?_ ?_
          · exact paS_t S50 Ta0  -- t28
          · have e4 : (4 : Int32).toInt = 4 := rfl
            rw [lti, e4] at c39
            exact ⟨rfl, S50, rfl, by omega, fun _ => c53⟩
  intro T54
  refine Pa_newName_c W T54  ?_ (fun r55 κ_56 q57 => ?_) (fun cls9 κ9 q9 => hx _ _ ?_)
  · exact ⟨S0.2.1, S0.2.2.1⟩  -- p30
  rotate_left
  · exact paX_tr S0.1 q9  -- x31
  have S58 := paS_T Ta0 S0 W q57.1
  intro W59
  intro M60
  intro T61
  refine Pa_openSign_c W59 T61  ?_ (fun κ_62 q63 => ?_) (fun cls9 κ9 q9 => hx _ _ ?_)
  · exact ⟨S58.2.1, S58.2.2.1, by decide⟩  -- p32
  rotate_left
  · exact paX_tr S58.1 q9  -- x33
  have S64 := paS_T Ta0 S58 W59 q63
  intro W65
  intro M66
  refine ⟨fun c67 => ?_, fun c67 => ?_⟩
  · skip
    refine hj34 _ _ _ _ W65 ?_ ?_
    · exact paS_t S64 Ta0  -- t34
    · exact ⟨rfl, S64⟩  -- k35
  · skip
    refine hj34 _ _ _ _ W65 ?_ ?_
    · exact paS_t S64 Ta0  -- t36
    · exact ⟨rfl, S64⟩  -- k37

theorem Pa_item_c {C : zC} {n0 : Nat} {a0 : Nat} {κ : zS} {Q : zS → Prop} {X : zXp} (W : zW C n0 κ) (Ta0 : zT κ a0 = 10)  (hp : paA κ a0) (h : ∀ (κ' : zS), (paS κ κ' a0) → Q κ') (hx : ∀ (cls : String) (κ' : zS), (paX κ cls κ' a0) → X cls κ') : zRun C 12 mPa_item [.ref a0] κ (oV Q X) := by
  refine Pa_item_run W Ta0 ?_
  replace W := W.lo (Nat.le_trans W.1.2.1 W.1.2.2) (Nat.le_refl (zn κ))
  unfold w_Pa_item_0
  have S0 := paS_0 hp
  have hj35 : ∀ (l0 : Nat) (l1 : Int32) (τ : zS), zW C (zn κ) τ → zT τ l0 = 10 → (κ = τ ∧ a0 = l0 ∧ zI κ paKind a0 ≠ 142) → w_Pa_item_35 C (zn κ) Q X  l0 l1 τ := by
    rintro _ y35_1 _ W35 T35_0 ⟨rfl, rfl, j35⟩
    unfold w_Pa_item_35
    intro T1
    refine Pa_take_c W35 T1  ?_ (fun κ_2 q3 => ?_)
    · exact ⟨hp.1, paK_t hp.2.1 rfl j35⟩  -- p1
    have S4 := paS_T Ta0 S0 W35 q3
    intro W5
    intro M6
    refine ⟨fun c7 => ?_, fun c7 => ?_⟩
    · skip
      refine ⟨fun c8 => ?_, fun c8 => ?_⟩
      · skip
        intro T9
        refine Pa_functionHead_c W5 T9  ?_ (fun κ_10 q11 => ?_) (fun cls9 κ9 q9 => hx _ _ ?_)
        · exact S4.2  -- p2
        rotate_left
        · exact paX_tr S4.1 q9  -- x3
        intro W12
        intro M13
        refine h _ ?_
        · exact ⟨S4.1.tr q11.1, q11.2⟩  -- q4
      · skip
        intro T14
        refine Pa_arrayItem_c W5 T14  ?_ (fun κ_15 q16 => ?_) (fun cls9 κ9 q9 => hx _ _ ?_)
        · exact S4.2  -- p5
        rotate_left
        · exact paX_tr S4.1 q9  -- x6
        intro W17
        intro M18
        refine h _ ?_
        · exact ⟨S4.1.tr q16.1, q16.2⟩  -- q7
    · skip
      intro T19
      refine Pa_varItem_c W5 T19  ?_ (fun κ_20 q21 => ?_) (fun cls9 κ9 q9 => hx _ _ ?_)
      · exact S4.2  -- p8
      rotate_left
      · exact paX_tr S4.1 q9  -- x9
      intro W22
      intro M23
      refine h _ ?_
      · exact ⟨S4.1.tr q21.1, q21.2⟩  -- q10
  intro x24 hx24
  refine ⟨fun c25 => ?_, fun c25 => ?_⟩
  · skip
    refine hj35 _ _ _ W ?_ ?_
    · exact paS_t S0 Ta0  -- t11
    · exact ⟨rfl, rfl, by rw [← hx24, c25]; decide⟩  -- k12
  · skip
    refine ⟨fun c26 => ?_, fun c26 => ?_⟩
    · skip
      refine hj35 _ _ _ W ?_ ?_
      · exact paS_t S0 Ta0  -- t13
      · exact ⟨rfl, rfl, by rw [← hx24, c26]; decide⟩  -- k14
    · skip
      refine ⟨fun c27 => ?_, fun c27 => ?_⟩
      · skip
        refine hj35 _ _ _ W ?_ ?_
        · exact paS_t S0 Ta0  -- t15
        · exact ⟨rfl, rfl, by rw [← hx24, c27]; decide⟩  -- k16
      · skip
        intro T28
        refine Pa_refuse_c W T28  ?_ (fun κ_29 q30 => False.elim q30) (fun cls9 κ9 q9 => hx _ _ ?_)
        · exact S0.2.1  -- p17
        · exact paX_tr S0.1 q9  -- x18

theorem Pa_closeBlock_c {C : zC} {n0 : Nat} {a0 : Nat} {κ : zS} {Q : zS → Prop} {X : zXp} (W : zW C n0 κ) (Ta0 : zT κ a0 = 10)  (hp : paA κ a0) (h : ∀ (κ' : zS), (paS κ κ' a0) → Q κ') (hx : ∀ (cls : String) (κ' : zS), (paX κ cls κ' a0) → X cls κ') : zRun C 10 mPa_closeBlock [.ref a0] κ (oV Q X) := by
  refine Pa_closeBlock_run W Ta0 ?_
  replace W := W.lo (Nat.le_trans W.1.2.1 W.1.2.2) (Nat.le_refl (zn κ))
  unfold w_Pa_closeBlock_0
  have S0 := paS_0 hp
  have hj86 : ∀ (l0 : Nat) (τ : zS), zW C (zn κ) τ → zT τ l0 = 10 → (a0 = l0 ∧ paS κ τ a0) → w_Pa_closeBlock_86 C (zn κ) Q X  l0 τ := by
    rintro _ τ86 W86 T86_0 ⟨rfl, j86⟩
    unfold w_Pa_closeBlock_86
    intro κ_1 hκ_1
    have S2 := paS_N j86 (paN_u W86 (paS_t j86 Ta0) j86.2.1 hκ_1 (Or.inl ⟨rfl, by decide, by decide⟩))
    intro W3
    intro κ_4 hκ_4
    have S5 := paS_N S2 (paN_u W3 (paS_t S2 Ta0) S2.2.1 hκ_4 (Or.inr (Or.inr rfl)))
    intro W6
    refine h _ ?_
    · exact S5  -- q1
  have hj24 : ∀ (l0 : Nat) (s0 : Nat) (s1 : Int32) (τ : zS), zW C (zn κ) τ → zT τ l0 = 10 → zT τ s0 = 10 → (a0 = l0 ∧ paS κ τ a0 ∧ s0 = a0 ∧ 0 ≤ s1.toInt ∧ s1.toInt ≤ 40) → w_Pa_closeBlock_24 C (zn κ) Q X  l0 s0 s1 τ := by
    rintro _ y24_s0 y24_s1 τ24 W24 T24_0 T24_1 ⟨rfl, j24⟩
    unfold w_Pa_closeBlock_24
    intro κ_7 hκ_7
    have S8 := paS_N j24.1 (paN_u W24 (paS_t j24.1 Ta0) j24.1.2.1 (show κ_7 = ui τ24 paBlocks a0 y24_s1 by rw [hκ_7, j24.2.1]) (Or.inr (Or.inl ⟨rfl, j24.2.2.1, by have := j24.2.2.2; omega⟩)))
    intro W9
    have e7 : zI κ_7 paBlocks a0 = y24_s1 := by rw [hκ_7, j24.2.1]; exact if_pos ⟨rfl, rfl⟩
    have jb := j24.2.2
    refine ⟨?_, ?_⟩
    · have L := S8.2.1.2.2.1.2.2.2.2.1
      rw [e7, inb_iff]; omega
    intro x10 hx10
    refine ⟨fun c11 => ?_, fun c11 => ?_⟩
    · skip
      refine ⟨fun c12 => ?_, fun c12 => ?_⟩
      · skip
        refine h _ ?_
        · exact S8  -- q3
      · skip
        intro T13
        refine Co_column_c W9 T13  ?_ (fun r14 q16 => ?_)
        · exact ⟨S8.2.1.2.1, by decide, by decide⟩  -- p4
        intro W17
        intro M18
        refine ⟨fun c19 => ?_, fun c19 => ?_⟩
        · skip
          refine h _ ?_
          · exact S8  -- q5
        · skip
          refine ⟨?_, ?_⟩
          · have L := S8.2.1.2.2.1.2.2.2.2.2.2
            rw [e7, inb_iff]; omega
          refine ⟨fun c20 => ?_, fun c20 => ?_⟩
          · skip
            refine h _ ?_
            · exact S8  -- q7
          · skip
            intro T21
            refine Pa_take_c W17 T21  ?_ (fun κ_22 q23 => ?_)
            · exact ⟨S8.2.1, paK_t S8.2.2.1 c12 (by decide)⟩  -- p8
            have S24 := paS_T Ta0 S8 W17 q23
            intro W25
            intro M26
            intro T27
            refine Pa_openSign_c W25 T27  ?_ (fun κ_28 q29 => ?_) (fun cls9 κ9 q9 => hx _ _ ?_)
            · exact ⟨S24.2.1, S24.2.2.1, by decide⟩  -- p9
            rotate_left
            · exact paX_tr S24.1 q9  -- x10
            have S30 := paS_T Ta0 S24 W25 q29
            intro W31
            intro M32
            intro T33
            refine Pa_pushBlock_c W31 T33  ?_ (fun κ_34 q35 => ?_)
            · exact S30.2.1  -- p11
            have S36 := paS_N S30 q35
            intro W37
            intro M38
            refine h _ ?_
            · exact S36  -- q12
    · skip
      refine ⟨fun c39 => ?_, fun c39 => ?_⟩
      · skip
        refine hj86 _ _ W9 ?_ ?_
        · exact paS_t S8 Ta0  -- t13
        · exact ⟨rfl, S8⟩  -- k14
      · skip
        have e10 : (10 : Int32).toInt = 10 := rfl
        rw [lei, e10] at c39
        have fv := S8.2.1.2.1.2.2.2.2.1
        have fb : 0 ≤ (zI κ_7 coFunctions (zR κ_7 paCode a0)).toInt ∧ (zI κ_7 coFunctions (zR κ_7 paCode a0)).toInt < 10 := ⟨fv.1, by omega⟩
        refine ⟨?_, ?_⟩
        · have L := S8.2.1.2.1.1.2.2.2.2.2
          rw [inb_iff]; omega
        intro κ_40 hκ_40
        have S41 := paS_N S8 (paN_cu W9 (paS_t S8 Ta0) S8.2.1 hκ_40)
        intro W42
        intro κ_43 hκ_43
        have S44 := cb_f Ta0 S41 W42 hκ_40 hκ_43 fb
        intro W45
        refine hj86 _ _ W45 ?_ ?_
        · exact paS_t S44 Ta0  -- t16
        · exact ⟨rfl, S44⟩  -- k17
  intro T46
  refine Pa_closeSign_c W T46  ?_ (fun κ_47 q48 => ?_) (fun cls9 κ9 q9 => hx _ _ ?_)
  · exact ⟨S0.2.1, S0.2.2.1, by decide⟩  -- p18
  rotate_left
  · exact paX_tr S0.1 q9  -- x19
  have S49 := paS_T Ta0 S0 W q48
  intro W50
  intro M51
  refine ⟨fun c52 => ?_, fun c52 => ?_⟩
  · skip
    refine hj24 _ _ _ _ W50 ?_ ?_ ?_
    · exact paS_t S49 Ta0  -- t20
    · exact paS_t S49 Ta0  -- t21
    · exact ⟨rfl, S49, rfl, by decide, by decide⟩  -- k22
  · skip
    refine hj24 _ _ _ _ W50 ?_ ?_ ?_
    · exact paS_t S49 Ta0  -- t23
    · exact paS_t S49 Ta0  -- t24
    · have b := S49.2.1.2.2.2.2.1
      rw [lei, t0i] at c52
      have ed := dec_i (x := zI κ_47 paBlocks a0) (by omega)
      exact ⟨rfl, S49, rfl, by rw [ed]; omega, by rw [ed]; omega⟩

theorem Pa_addStatement_c {C : zC} {n0 : Nat} {a0 : Nat} {κ : zS} {Q : Int32 → zS → Prop} {X : zXp} (W : zW C n0 κ) (Ta0 : zT κ a0 = 10)  (hp : paA κ a0) (h : ∀ (v : Int32) (κ' : zS), (paS κ κ' a0 ∧ zI κ' paKind a0 = zI κ paKind a0 ∧ zI κ paKind a0 ≠ 142) → Q v κ') (hx : ∀ (cls : String) (κ' : zS), (paX κ cls κ' a0) → X cls κ') : zRun C 9 mPa_addStatement [.ref a0] κ (oI Q X) := by
  refine Pa_addStatement_run W Ta0 ?_
  replace W := W.lo (Nat.le_trans W.1.2.1 W.1.2.2) (Nat.le_refl (zn κ))
  unfold w_Pa_addStatement_0
  have S0 := paS_0 hp
  have hj205 : ∀ (l0 : Nat) (l1 : Int32) (l2 : Int32) (l3 : Int32) (τ : zS), zW C (zn κ) τ → zT τ l0 = 10 → (a0 = l0 ∧ paS κ τ a0 ∧ zI τ paKind a0 = zI κ paKind a0 ∧ zI κ paKind a0 ≠ 142 ∧ 0 ≤ l2.toInt ∧ l2.toInt ≤ 40) → w_Pa_addStatement_205 C (zn κ) Q X  l0 l1 l2 l3 τ := by
    rintro _ y205_1 y205_2 y205_3 τ205 W205 T205_0 ⟨rfl, j205⟩
    unfold w_Pa_addStatement_205
    refine ⟨?_, ?_⟩
    · have L := j205.1.2.1.2.2.1.2.2.2.2.2.1
      have b := j205.2.2.2
      rw [inb_iff]; omega
    intro κ_1 hκ_1
    have S2 := paS_N j205.1 (paN_ua W205 (paS_t j205.1 Ta0) j205.1.2.1 (show zr paLasts = some 20 by decide +kernel) (by decide) hκ_1)
    intro W3
    intro T4
    refine Co_setColumn_c W3 T4  ?_ (fun κ_5 q6 => ?_)
    · exact ⟨S2.2.1.2.1, by decide, by decide⟩  -- p2
    have S7 := paS_N S2 (paN_k W3 (paS_t S2 Ta0) S2.2.1 q6)
    intro W8
    intro M9
    intro T10
    refine Co_setColumn_c W8 T10  ?_ (fun κ_11 q12 => ?_)
    · exact ⟨S7.2.1.2.1, by decide, by decide⟩  -- p3
    have S13 := paS_N S7 (paN_k W8 (paS_t S7 Ta0) S7.2.1 q12)
    intro W14
    intro M15
    refine h _ _ ?_
    · have i1 : zI κ_1 = zI τ205 := by rw [hκ_1]; rfl
      exact ⟨S13, by rw [q12.2.2.1, q6.2.2.1, i1]; exact j205.2.1, j205.2.2.1⟩
  have hj170 : ∀ (l0 : Nat) (l1 : Int32) (l2 : Int32) (l3 : Int32) (s0 : Nat) (s1 : Int32) (s2 : Int32) (τ : zS), zW C (zn κ) τ → zT τ l0 = 10 → zT τ s0 = 5 → (a0 = l0 ∧ paS κ τ a0 ∧ zI τ paKind a0 = zI κ paKind a0 ∧ zI κ paKind a0 ≠ 142 ∧ (0 ≤ l2.toInt ∧ l2.toInt ≤ 40) ∧ s0 = zR τ paCode a0 ∧ (s2 = 6 ∨ s2 = 7)) → w_Pa_addStatement_170 C (zn κ) Q X  l0 l1 l2 l3 s0 s1 s2 τ := by
    rintro _ y170_1 y170_2 y170_3 y170_s0 y170_s1 y170_s2 τ170 W170 T170_0 T170_1 ⟨rfl, j170⟩
    unfold w_Pa_addStatement_170
    intro T16
    refine Co_setColumn_c W170 T16  ?_ (fun κ_17 q18 => ?_)
    · rw [j170.2.2.2.2.1]
      refine ⟨j170.1.2.1.2.1, ?_⟩
      rcases j170.2.2.2.2.2 with e | e <;> rw [e] <;> exact ⟨by decide, by decide⟩
    rw [j170.2.2.2.2.1] at q18
    have S19 := paS_N j170.1 (paN_k W170 (paS_t j170.1 Ta0) j170.1.2.1 q18)
    intro W20
    intro M21
    refine hj205 _ _ _ _ _ W20 ?_ ?_
    · exact paS_t S19 Ta0  -- t6
    · exact ⟨rfl, S19, by rw [q18.2.2.1]; exact j170.2.1, j170.2.2.1, j170.2.2.2.1⟩  -- k7
  have hj107 : ∀ (l0 : Nat) (l1 : Int32) (s0 : Int32) (τ : zS), zW C (zn κ) τ → zT τ l0 = 10 → (a0 = l0 ∧ paS κ τ a0 ∧ zI τ paKind a0 = zI κ paKind a0 ∧ zI κ paKind a0 ≠ 142 ∧ 0 ≤ s0.toInt ∧ s0.toInt ≤ 40) → w_Pa_addStatement_107 C (zn κ) Q X  l0 l1 s0 τ := by
    rintro _ y107_1 y107_s0 τ107 W107 T107_0 ⟨rfl, j107⟩
    unfold w_Pa_addStatement_107
    have L := j107.1.2.1.2.2.1.2.2.2.2
    have L1 := L.1
    have L2 := L.2.1
    have L3 := L.2.2
    have b := j107.2.2.2
    refine ⟨?_, ?_⟩
    · rw [inb_iff]; omega  -- b8
    intro x22 hx22
    refine ⟨?_, ?_⟩
    · rw [inb_iff]; omega  -- b9
    refine ⟨fun c23 => ?_, fun c23 => ?_⟩
    · skip
      refine ⟨fun c24 => ?_, fun c24 => ?_⟩
      · skip
        refine ⟨fun c25 => ?_, fun c25 => ?_⟩
        · skip
          refine hj205 _ _ _ _ _ W107 ?_ ?_
          · exact paS_t j107.1 Ta0  -- t10
          · exact ⟨rfl, j107.1, j107.2.1, j107.2.2.1, j107.2.2.2⟩  -- k11
        · skip
          refine ⟨?_, ?_⟩
          · have e10 : (10 : Int32).toInt = 10 := rfl
            rw [lei, e10] at c25
            have fv := j107.1.2.1.2.1.2.2.2.2.1
            have LF := j107.1.2.1.2.1.1.2.2.2.1
            rw [inb_iff]; omega
          intro κ_26 hκ_26
          have S27 := paS_N j107.1 (paN_cu W107 (paS_t j107.1 Ta0) j107.1.2.1 hκ_26)
          intro W28
          refine hj205 _ _ _ _ _ W28 ?_ ?_
          · exact paS_t S27 Ta0  -- t13
          · exact ⟨rfl, S27, by rw [hκ_26]; exact j107.2.1, j107.2.2.1, j107.2.2.2⟩  -- k14
      · skip
        refine ⟨?_, ?_⟩
        · rw [inb_iff]; omega  -- b15
        refine ⟨fun c29 => ?_, fun c29 => ?_⟩
        · skip
          refine hj170 _ _ _ _ _ _ _ _ W107 ?_ ?_ ?_
          · exact paS_t j107.1 Ta0  -- t16
          · exact ty_paCode W107 (paS_t j107.1 Ta0)  -- t17
          · exact ⟨rfl, j107.1, j107.2.1, j107.2.2.1, j107.2.2.2, rfl, Or.inl rfl⟩  -- k18
        · skip
          refine hj170 _ _ _ _ _ _ _ _ W107 ?_ ?_ ?_
          · exact paS_t j107.1 Ta0  -- t19
          · exact ty_paCode W107 (paS_t j107.1 Ta0)  -- t20
          · exact ⟨rfl, j107.1, j107.2.1, j107.2.2.1, j107.2.2.2, rfl, Or.inr rfl⟩  -- k21
    · skip
      refine ⟨?_, ?_⟩
      · rw [inb_iff]; omega  -- b22
      intro T30
      refine Co_setColumn_c W107 T30  ?_ (fun κ_31 q32 => ?_)
      · exact ⟨j107.1.2.1.2.1, by decide, by decide⟩  -- p23
      have S33 := paS_N j107.1 (paN_k W107 (paS_t j107.1 Ta0) j107.1.2.1 q32)
      intro W34
      intro M35
      refine hj205 _ _ _ _ _ W34 ?_ ?_
      · exact paS_t S33 Ta0  -- t24
      · exact ⟨rfl, S33, by rw [q32.2.2.1]; exact j107.2.1, j107.2.2.1, j107.2.2.2⟩  -- k25
  have hj82 : ∀ (l0 : Nat) (τ : zS), zW C (zn κ) τ → zT τ l0 = 10 → (κ = τ ∧ a0 = l0 ∧ zI κ paKind a0 ≠ 142 ∧ (zI κ coStatements (zR κ paCode a0)).toInt < 150) → w_Pa_addStatement_82 C (zn κ) Q X  l0 τ := by
    rintro _ _ W82 T82_0 ⟨rfl, rfl, j82⟩
    unfold w_Pa_addStatement_82
    intro T36
    refine Co_addStatement_c W82 T36  ?_ (fun r37 κ_38 q39 => ?_)
    · exact ⟨S0.2.1.2.1, j82.2⟩  -- p26
    have S40 := paS_N S0 (paN_c W82 (paS_t S0 Ta0) S0.2.1 q39.1 q39.2.1 (q39.2.2.2.2 coLength (by decide))).1
    intro W41
    intro M42
    have N := (paN_c W82 Ta0 hp.1 q39.1 q39.2.1 (q39.2.2.2.2 coLength (by decide))).1
    refine ⟨fun c43 => ?_, fun c43 => ?_⟩
    · skip
      refine hj107 _ _ _ _ W41 ?_ ?_
      · exact paS_t S40 Ta0  -- t27
      · exact ⟨rfl, S40, N.2.2.1.2, j82.1, by decide, by decide⟩  -- k28
    · skip
      refine hj107 _ _ _ _ W41 ?_ ?_
      · exact paS_t S40 Ta0  -- t29
      · have b := S40.2.1.2.2.2.2.1
        rw [lei, t0i] at c43
        have ed := dec_i (x := zI κ_38 paBlocks a0) (by omega)
        exact ⟨rfl, S40, N.2.2.1.2, j82.1, by rw [ed]; omega, by rw [ed]; omega⟩
  have hj59 : ∀ (l0 : Nat) (τ : zS), zW C (zn κ) τ → zT τ l0 = 10 → (κ = τ ∧ a0 = l0 ∧ zI κ paKind a0 ≠ 142) → w_Pa_addStatement_59 C (zn κ) Q X  l0 τ := by
    rintro _ _ W59 T59_0 ⟨rfl, rfl, j59⟩
    unfold w_Pa_addStatement_59
    refine ⟨fun c44 => ?_, fun c44 => ?_⟩
    · skip
      refine hj82 _ _ W59 ?_ ?_
      · exact paS_t S0 Ta0  -- t31
      · have e15 : (150 : Int32).toInt = 150 := rfl
        rw [lti, e15] at c44
        exact ⟨rfl, rfl, j59, c44⟩
    · skip
      intro T45
      refine Pa_refuse_c W59 T45  ?_ (fun κ_46 q47 => False.elim q47) (fun cls9 κ9 q9 => hx _ _ ?_)
      · exact S0.2.1  -- p33
      · exact paX_tr S0.1 q9  -- x34
  have hj50 : ∀ (l0 : Nat) (τ : zS), zW C (zn κ) τ → zT τ l0 = 10 → (κ = τ ∧ a0 = l0 ∧ True) → w_Pa_addStatement_50 C (zn κ) Q X  l0 τ := by
    rintro _ _ W50 T50_0 ⟨rfl, rfl, j50⟩
    unfold w_Pa_addStatement_50
    intro T48
    refine Pa_refuse_c W50 T48  ?_ (fun κ_49 q50 => False.elim q50) (fun cls9 κ9 q9 => hx _ _ ?_)
    · exact S0.2.1  -- p35
    · exact paX_tr S0.1 q9  -- x36
  refine ⟨fun c51 => ?_, fun c51 => ?_⟩
  · skip
    refine hj59 _ _ W ?_ ?_
    · exact paS_t S0 Ta0  -- t37
    · exact ⟨rfl, rfl, by rw [c51]; decide⟩  -- k38
  · skip
    refine ⟨fun c52 => ?_, fun c52 => ?_⟩
    · skip
      refine hj59 _ _ W ?_ ?_
      · exact paS_t S0 Ta0  -- t39
      · exact ⟨rfl, rfl, by rw [c52]; decide⟩  -- k40
    · skip
      refine ⟨fun c53 => ?_, fun c53 => ?_⟩
      · skip
        refine hj59 _ _ W ?_ ?_
        · exact paS_t S0 Ta0  -- t41
        · exact ⟨rfl, rfl, by rw [c53]; decide⟩  -- k42
      · skip
        refine ⟨fun c54 => ?_, fun c54 => ?_⟩
        · skip
          refine hj50 _ _ W ?_ ?_
          · exact paS_t S0 Ta0  -- t43
          · exact ⟨rfl, rfl, trivial⟩  -- k44
        · skip
          refine ⟨fun c55 => ?_, fun c55 => ?_⟩
          · skip
            refine hj59 _ _ W ?_ ?_
            · exact paS_t S0 Ta0  -- t45
            · exact ⟨rfl, rfl, fun e => c54 (by rw [e]; decide)⟩  -- k46
          · skip
            refine hj50 _ _ W ?_ ?_
            · exact paS_t S0 Ta0  -- t47
            · exact ⟨rfl, rfl, trivial⟩  -- k48

end
section
set_option maxHeartbeats 1600000
/-! the class: Parser: statements, the whole text -/
theorem psi2 {C : zC} {n0 p : Nat} {κ τ σ : zS} (T : zT κ p = 10) (S : paS κ τ p) (W : zW C n0 τ) (h : paT τ σ p) : 2 ≤ psi σ p := by
  have a := psi_T W (paS_t S T) S.2.1 h
  have b := S.2.2.2
  omega
theorem Pa_localStatement_c {C : zC} {n0 : Nat} {a0 : Nat} {a1 : Int32} {κ : zS} {Q : zS → Prop} {X : zXp} (W : zW C n0 κ) (Ta0 : zT κ a0 = 10)  (hp : paA κ a0 ∧ zI κ paKind a0 = 153) (h : ∀ (κ' : zS), (paS κ κ' a0) → Q κ') (hx : ∀ (cls : String) (κ' : zS), (paX κ cls κ' a0) → X cls κ') : zRun C 12 mPa_localStatement [.ref a0, .int a1] κ (oV Q X) := by
  refine Pa_localStatement_run W Ta0 ?_
  replace W := W.lo (Nat.le_trans W.1.2.1 W.1.2.2) (Nat.le_refl (zn κ))
  unfold w_Pa_localStatement_0
  have S0 := paS_0 hp.1
  intro T1
  refine Pa_take_c W T1  ?_ (fun κ_2 q3 => ?_)
  · exact ⟨hp.1.1, paK_t hp.1.2.1 hp.2 (by decide)⟩  -- p1
  have S4 := paS_T Ta0 S0 W q3
  intro W5
  intro M6
  intro T7
  refine Pa_newName_c W5 T7  ?_ (fun r8 κ_9 q10 => ?_) (fun cls9 κ9 q9 => hx _ _ ?_)
  · exact ⟨S4.2.1, S4.2.2.1⟩  -- p2
  rotate_left
  · exact paX_tr S4.1 q9  -- x3
  have S11 := paS_T Ta0 S4 W5 q10.1
  intro W12
  intro M13
  intro T14
  refine Pa_pass_c W12 T14  ?_ (fun κ_15 q16 => ?_) (fun cls9 κ9 q9 => hx _ _ ?_)
  · exact ⟨S11.2.1, S11.2.2.1, by decide⟩  -- p4
  rotate_left
  · exact paX_tr S11.1 q9  -- x5
  have S17 := paS_T Ta0 S11 W12 q16
  intro W18
  intro M19
  intro T20
  refine Pa_expression_c W18 T20  ?_ (fun κ_21 q22 => ?_) (fun cls9 κ9 q9 => hx _ _ ?_)
  · exact ⟨S17.2.1, S17.2.2.1, S17.2.2.2, Or.inl rfl⟩  -- p6
  rotate_left
  · exact paX_tr S17.1 q9  -- x7
  have S23 := (⟨S17.1.tr q22.1, q22.2⟩ : paS κ κ_21 a0)
  intro W24
  intro M25
  intro T26
  refine Pa_pass_c W24 T26  ?_ (fun κ_27 q28 => ?_) (fun cls9 κ9 q9 => hx _ _ ?_)
  · exact ⟨S23.2.1, S23.2.2.1, by decide⟩  -- p8
  rotate_left
  · exact paX_tr S23.1 q9  -- x9
  have S29 := paS_T Ta0 S23 W24 q28
  intro W30
  intro M31
  intro T32
  refine Pa_setPlace_c W30 T32  ?_ (fun κ_33 q34 => ?_)
  · exact S29.2.1  -- p10
  have S35 := paS_N S29 q34
  intro W36
  intro M37
  intro T38
  refine Co_setColumn_c W36 T38  ?_ (fun κ_39 q40 => ?_)
  · exact ⟨S35.2.1.2.1, by decide, by decide⟩  -- p11
  have S41 := paS_N S35 (paN_k W36 (paS_t S35 Ta0) S35.2.1 q40)
  intro W42
  intro M43
  intro T44
  refine Pa_addOwn_c W42 T44  ?_ (fun κ_45 q46 => ?_)
  · exact S41.2.1  -- p12
  have S47 := paS_N S41 q46
  intro W48
  intro M49
  refine h _ ?_
  · exact S47  -- q13

theorem Pa_wordStatement_c {C : zC} {n0 : Nat} {a0 : Nat} {a1 : Int32} {κ : zS} {Q : zS → Prop} {X : zXp} (W : zW C n0 κ) (Ta0 : zT κ a0 = 10)  (hp : paA κ a0 ∧ zI κ paKind a0 ≠ 142) (h : ∀ (κ' : zS), (paS κ κ' a0) → Q κ') (hx : ∀ (cls : String) (κ' : zS), (paX κ cls κ' a0) → X cls κ') : zRun C 12 mPa_wordStatement [.ref a0, .int a1] κ (oV Q X) := by
  refine Pa_wordStatement_run W Ta0 ?_
  replace W := W.lo (Nat.le_trans W.1.2.1 W.1.2.2) (Nat.le_refl (zn κ))
  unfold w_Pa_wordStatement_0
  have S0 := paS_0 hp.1
  have hj97 : ∀ (l0 : Nat) (s0 : Nat) (s1 : Int32) (s2 : Int32) (s3 : Int32) (τ : zS), zW C (zn κ) τ → zT τ l0 = 10 → zT τ s0 = 5 → (a0 = l0 ∧ paS κ τ a0 ∧ s0 = zR τ paCode a0 ∧ s2 = 0) → w_Pa_wordStatement_97 C (zn κ) Q X  l0 s0 s1 s2 s3 τ := by
    rintro _ y97_s0 y97_s1 y97_s2 y97_s3 τ97 W97 T97_0 T97_1 ⟨rfl, j97⟩
    unfold w_Pa_wordStatement_97
    intro T1
    refine Co_setColumn_c W97 T1  ?_ (fun κ_2 q3 => ?_)
    · rw [j97.2.1, j97.2.2]; exact ⟨j97.1.2.1.2.1, by decide, by decide⟩  -- p1
    rw [j97.2.1] at q3
    have S4 := paS_N j97.1 (paN_k W97 (paS_t j97.1 Ta0) j97.1.2.1 q3)
    intro W5
    intro M6
    intro T7
    refine Pa_pass_c W5 T7  ?_ (fun κ_8 q9 => ?_) (fun cls9 κ9 q9 => hx _ _ ?_)
    · exact ⟨S4.2.1, S4.2.2.1, by decide⟩  -- p2
    rotate_left
    · exact paX_tr S4.1 q9  -- x3
    have S10 := paS_T Ta0 S4 W5 q9
    intro W11
    intro M12
    refine h _ ?_
    · exact S10  -- q4
  have hj49 : ∀ (l0 : Nat) (l1 : Int32) (s0 : Nat) (s1 : Int32) (s2 : Int32) (s3 : Int32) (τ : zS), zW C (zn κ) τ → zT τ l0 = 10 → zT τ s0 = 5 → (a0 = l0 ∧ a1 = l1 ∧ paS κ τ a0 ∧ s0 = zR τ paCode a0 ∧ s2 = 0) → w_Pa_wordStatement_49 C (zn κ) Q X  l0 l1 s0 s1 s2 s3 τ := by
    rintro _ _ y49_s0 y49_s1 y49_s2 y49_s3 τ49 W49 T49_0 T49_1 ⟨rfl, rfl, j49⟩
    unfold w_Pa_wordStatement_49
    intro T13
    refine Co_setColumn_c W49 T13  ?_ (fun κ_14 q15 => ?_)
    · rw [j49.2.1, j49.2.2]; exact ⟨j49.1.2.1.2.1, by decide, by decide⟩  -- p5
    rw [j49.2.1] at q15
    have S16 := paS_N j49.1 (paN_k W49 (paS_t j49.1 Ta0) j49.1.2.1 q15)
    intro W17
    intro M18
    intro T19
    refine Pa_openSign_c W17 T19  ?_ (fun κ_20 q21 => ?_) (fun cls9 κ9 q9 => hx _ _ ?_)
    · exact ⟨S16.2.1, S16.2.2.1, by decide⟩  -- p6
    rotate_left
    · exact paX_tr S16.1 q9  -- x7
    have S22 := paS_T Ta0 S16 W17 q21
    intro W23
    intro M24
    intro T25
    refine Pa_pushBlock_c W23 T25  ?_ (fun κ_26 q27 => ?_)
    · exact S22.2.1  -- p8
    have S28 := paS_N S22 q27
    intro W29
    intro M30
    refine h _ ?_
    · exact S28  -- q9
  have hj29 : ∀ (l0 : Nat) (l1 : Int32) (l2 : Int32) (τ : zS), zW C (zn κ) τ → zT τ l0 = 10 → (a0 = l0 ∧ a1 = l1 ∧ paS κ τ a0) → w_Pa_wordStatement_29 C (zn κ) Q X  l0 l1 l2 τ := by
    rintro _ _ y29_2 τ29 W29 T29_0 ⟨rfl, rfl, j29⟩
    unfold w_Pa_wordStatement_29
    refine ⟨fun c31 => ?_, fun c31 => ?_⟩
    · skip
      refine hj49 _ _ _ _ _ _ _ W29 ?_ ?_ ?_
      · exact paS_t j29 Ta0  -- t10
      · exact ty_paCode W29 (paS_t j29 Ta0)  -- t11
      · exact ⟨rfl, rfl, j29, rfl, rfl⟩  -- k12
    · skip
      refine hj49 _ _ _ _ _ _ _ W29 ?_ ?_ ?_
      · exact paS_t j29 Ta0  -- t13
      · exact ty_paCode W29 (paS_t j29 Ta0)  -- t14
      · exact ⟨rfl, rfl, j29, rfl, rfl⟩  -- k15
  intro x32 hx32
  intro T33
  refine Pa_take_c W T33  ?_ (fun κ_34 q35 => ?_)
  · exact ⟨hp.1.1, paK_t hp.1.2.1 rfl hp.2⟩  -- p16
  have S36 := paS_T Ta0 S0 W q35
  intro W37
  intro M38
  intro T39
  refine Pa_expression_c W37 T39  ?_ (fun κ_40 q41 => ?_) (fun cls9 κ9 q9 => hx _ _ ?_)
  · exact ⟨S36.2.1, S36.2.2.1, S36.2.2.2, Or.inl rfl⟩  -- p17
  rotate_left
  · exact paX_tr S36.1 q9  -- x18
  have S42 := (⟨S36.1.tr q41.1, q41.2⟩ : paS κ κ_40 a0)
  intro W43
  intro M44
  refine ⟨fun c45 => ?_, fun c45 => ?_⟩
  · skip
    refine hj29 _ _ _ _ W43 ?_ ?_
    · exact paS_t S42 Ta0  -- t19
    · exact ⟨rfl, rfl, S42⟩  -- k20
  · skip
    refine ⟨fun c46 => ?_, fun c46 => ?_⟩
    · skip
      refine ⟨fun c47 => ?_, fun c47 => ?_⟩
      · skip
        refine ⟨fun c48 => ?_, fun c48 => ?_⟩
        · skip
          refine hj97 _ _ _ _ _ _ W43 ?_ ?_ ?_
          · exact paS_t S42 Ta0  -- t21
          · exact ty_paCode W43 (paS_t S42 Ta0)  -- t22
          · exact ⟨rfl, S42, rfl, rfl⟩  -- k23
        · skip
          refine hj97 _ _ _ _ _ _ W43 ?_ ?_ ?_
          · exact paS_t S42 Ta0  -- t24
          · exact ty_paCode W43 (paS_t S42 Ta0)  -- t25
          · exact ⟨rfl, S42, rfl, rfl⟩  -- k26
      · skip
        refine hj97 _ _ _ _ _ _ W43 ?_ ?_ ?_
        · exact paS_t S42 Ta0  -- t27
        · exact ty_paCode W43 (paS_t S42 Ta0)  -- t28
        · exact ⟨rfl, S42, rfl, rfl⟩  -- k29
    · skip
      refine hj29 _ _ _ _ W43 ?_ ?_
      · exact paS_t S42 Ta0  -- t30
      · exact ⟨rfl, rfl, S42⟩  -- k31

theorem bh_k {l k : Int32} (h : l = 0 ∨ l = 3 ∨ k ≠ 142) (h0 : l ≠ 0) (h3 : l ≠ 3) : k ≠ 142 := by
  rcases h with e | e | e
  · exact absurd e h0
  · exact absurd e h3
  · exact e
theorem Pa_behindPlace_c {C : zC} {n0 : Nat} {a0 : Nat} {a1 : Int32} {κ : zS} {Q : Int32 → zS → Prop} {X : zXp} (W : zW C n0 κ) (Ta0 : zT κ a0 = 10)  (hp : paA κ a0) (h : ∀ (v : Int32) (κ' : zS), (paS κ κ' a0 ∧ 2 ≤ psi κ' a0) → Q v κ') (hx : ∀ (cls : String) (κ' : zS), (paX κ cls κ' a0) → X cls κ') : zRun C 10 mPa_behindPlace [.ref a0, .int a1] κ (oI Q X) := by
  refine Pa_behindPlace_run W Ta0 ?_
  replace W := W.lo (Nat.le_trans W.1.2.1 W.1.2.2) (Nat.le_refl (zn κ))
  unfold w_Pa_behindPlace_0
  have S0 := paS_0 hp
  have hj159 : ∀ (l0 : Nat) (l4 : Int32) (τ : zS), zW C (zn κ) τ → zT τ l0 = 10 → (a0 = l0 ∧ paS κ τ a0 ∧ 2 ≤ psi τ a0) → w_Pa_behindPlace_159 C (zn κ) Q X  l0 l4 τ := by
    rintro _ y159_4 τ159 W159 T159_0 ⟨rfl, j159⟩
    unfold w_Pa_behindPlace_159
    refine ⟨fun c1 => ?_, fun c1 => ?_⟩
    · skip
      refine h _ _ ?_
      · exact j159  -- q1
    · skip
      refine h _ _ ?_
      · exact j159  -- q2
  have hj133 : ∀ (l0 : Nat) (l3 : Int32) (s0 : Int32) (τ : zS), zW C (zn κ) τ → zT τ l0 = 10 → (a0 = l0 ∧ paS κ τ a0 ∧ 2 ≤ psi τ a0 ∧ (l3 = 0 ∨ l3 = 3 ∨ zI τ paKind a0 ≠ 142) ∧ (s0 ≠ 0 → zI τ paKind a0 ≠ 142)) → w_Pa_behindPlace_133 C (zn κ) Q X  l0 l3 s0 τ := by
    rintro _ y133_3 y133_s0 τ133 W133 T133_0 ⟨rfl, j133⟩
    unfold w_Pa_behindPlace_133
    refine ⟨fun c2 => ?_, fun c2 => ?_⟩
    · skip
      intro T3
      refine Pa_take_c W133 T3  ?_ (fun κ_4 q5 => ?_)
      · exact ⟨j133.1.2.1, paK_t j133.1.2.2.1 rfl (j133.2.2.2 c2)⟩  -- p3
      have S6 := paS_T Ta0 j133.1 W133 q5
      intro W7
      intro M8
      refine hj159 _ _ _ W7 ?_ ?_
      · exact paS_t S6 Ta0  -- t4
      · exact ⟨rfl, S6, psi2 Ta0 j133.1 W133 q5⟩  -- k5
    · skip
      refine ⟨fun c9 => ?_, fun c9 => ?_⟩
      · skip
        intro T10
        refine Pa_take_c W133 T10  ?_ (fun κ_11 q12 => ?_)
        · exact ⟨j133.1.2.1, paK_t j133.1.2.2.1 rfl (bh_k j133.2.2.1 (by rw [c9]; decide) (by rw [c9]; decide))⟩  -- p6
        have S13 := paS_T Ta0 j133.1 W133 q12
        intro W14
        intro M15
        refine hj159 _ _ _ W14 ?_ ?_
        · exact paS_t S13 Ta0  -- t7
        · exact ⟨rfl, S13, psi2 Ta0 j133.1 W133 q12⟩  -- k8
      · skip
        refine ⟨fun c16 => ?_, fun c16 => ?_⟩
        · skip
          intro T17
          refine Pa_take_c W133 T17  ?_ (fun κ_18 q19 => ?_)
          · exact ⟨j133.1.2.1, paK_t j133.1.2.2.1 rfl (bh_k j133.2.2.1 (by rw [c16]; decide) (by rw [c16]; decide))⟩  -- p9
          have S20 := paS_T Ta0 j133.1 W133 q19
          intro W21
          intro M22
          refine hj159 _ _ _ W21 ?_ ?_
          · exact paS_t S20 Ta0  -- t10
          · exact ⟨rfl, S20, psi2 Ta0 j133.1 W133 q19⟩  -- k11
        · skip
          refine ⟨fun c23 => ?_, fun c23 => ?_⟩
          · skip
            refine hj159 _ _ _ W133 ?_ ?_
            · exact paS_t j133.1 Ta0  -- t12
            · exact ⟨rfl, j133.1, j133.2.1⟩  -- k13
          · skip
            intro T24
            refine Pa_take_c W133 T24  ?_ (fun κ_25 q26 => ?_)
            · exact ⟨j133.1.2.1, paK_t j133.1.2.2.1 rfl (bh_k j133.2.2.1 (by rw [c23]; decide) (by rw [c23]; decide))⟩  -- p14
            have S27 := paS_T Ta0 j133.1 W133 q26
            intro W28
            intro M29
            refine hj159 _ _ _ W28 ?_ ?_
            · exact paS_t S27 Ta0  -- t15
            · exact ⟨rfl, S27, psi2 Ta0 j133.1 W133 q26⟩  -- k16
  have hj91 : ∀ (l0 : Nat) (l1 : Int32) (l3 : Int32) (τ : zS), zW C (zn κ) τ → zT τ l0 = 10 → (a0 = l0 ∧ a1 = l1 ∧ paS κ τ a0 ∧ 2 ≤ psi τ a0 ∧ (l3 = 0 ∨ l3 = 3 ∨ zI τ paKind a0 ≠ 142)) → w_Pa_behindPlace_91 C (zn κ) Q X  l0 l1 l3 τ := by
    rintro _ _ y91_3 τ91 W91 T91_0 ⟨rfl, rfl, j91⟩
    unfold w_Pa_behindPlace_91
    intro T30
    refine Co_setColumn_c W91 T30  ?_ (fun κ_31 q32 => ?_)
    · exact ⟨j91.1.2.1.2.1, by decide, by decide⟩  -- p17
    have S33 := paS_N j91.1 (paN_k W91 (paS_t j91.1 Ta0) j91.1.2.1 q32)
    intro W34
    intro M35
    have P : psi κ_31 a0 = psi τ91 a0 := psi_N (paN_k W91 (paS_t j91.1 Ta0) j91.1.2.1 q32)
    refine ⟨fun c36 => ?_, fun c36 => ?_⟩
    · skip
      refine hj133 _ _ _ _ W34 ?_ ?_
      · exact paS_t S33 Ta0  -- t18
      · exact ⟨rfl, S33, by rw [P]; exact j91.2.1, by rw [q32.2.2.1]; exact j91.2.2, fun z => absurd rfl z⟩  -- k19
    · skip
      refine ⟨fun c37 => ?_, fun c37 => ?_⟩
      · skip
        refine hj133 _ _ _ _ W34 ?_ ?_
        · exact paS_t S33 Ta0  -- t20
        · exact ⟨rfl, S33, by rw [P]; exact j91.2.1, by rw [q32.2.2.1]; exact j91.2.2, fun z => absurd rfl z⟩  -- k21
      · skip
        intro T38
        refine Co_column_c W34 T38  ?_ (fun r39 q41 => ?_)
        · exact ⟨S33.2.1.2.1, by decide, by decide⟩  -- p22
        intro W42
        intro M43
        refine ⟨fun c44 => ?_, fun c44 => ?_⟩
        · skip
          refine hj133 _ _ _ _ W42 ?_ ?_
          · exact paS_t S33 Ta0  -- t23
          · exact ⟨rfl, S33, by rw [P]; exact j91.2.1, by rw [q32.2.2.1]; exact j91.2.2, fun z => absurd rfl z⟩  -- k24
        · skip
          refine hj133 _ _ _ _ W42 ?_ ?_
          · exact paS_t S33 Ta0  -- t25
          · exact ⟨rfl, S33, by rw [P]; exact j91.2.1, by rw [q32.2.2.1]; exact j91.2.2, fun _ => by rw [c37]; decide⟩  -- k26
  have hj63 : ∀ (l0 : Nat) (l1 : Int32) (s0 : Int32) (τ : zS), zW C (zn κ) τ → zT τ l0 = 10 → (a0 = l0 ∧ a1 = l1 ∧ paS κ τ a0 ∧ 2 ≤ psi τ a0 ∧ (s0 = 2 ∨ s0 = 3 ∨ (s0 = 1 ∧ zI τ paKind a0 ≠ 142))) → w_Pa_behindPlace_63 C (zn κ) Q X  l0 l1 s0 τ := by
    rintro _ _ y63_s0 τ63 W63 T63_0 ⟨rfl, rfl, j63⟩
    unfold w_Pa_behindPlace_63
    refine ⟨fun c45 => ?_, fun c45 => ?_⟩
    · skip
      refine hj91 _ _ _ _ W63 ?_ ?_
      · exact paS_t j63.1 Ta0  -- t27
      · refine ⟨rfl, rfl, j63.1, j63.2.1, ?_⟩
        rcases j63.2.2 with e | e | e
        · exact absurd e c45
        · exact Or.inr (Or.inl e)
        · exact Or.inr (Or.inr e.2)
    · skip
      intro T46
      refine Pa_expect_c W63 T46  ?_ (fun κ_47 q48 => ?_) (fun cls9 κ9 q9 => hx _ _ ?_)
      · exact j63.1.2.1  -- p29
      rotate_left
      · exact paX_tr j63.1.1 q9  -- x30
      have S49 := paS_e j63.1 q48
      intro W50
      intro M51
      refine hj91 _ _ _ _ W50 ?_ ?_
      · exact paS_t S49 Ta0  -- t31
      · exact ⟨rfl, rfl, S49, by rw [← q48.1]; exact j63.2.1, Or.inr (Or.inr (by rw [← q48.1, q48.2]; decide))⟩  -- k32
  have hj25 : ∀ (l0 : Nat) (l1 : Int32) (l2 : Int32) (τ : zS), zW C (zn κ) τ → zT τ l0 = 10 → (κ = τ ∧ a0 = l0 ∧ a1 = l1 ∧ zI κ paKind a0 ≠ 142) → w_Pa_behindPlace_25 C (zn κ) Q X  l0 l1 l2 τ := by
    rintro _ _ y25_2 _ W25 T25_0 ⟨rfl, rfl, rfl, j25⟩
    unfold w_Pa_behindPlace_25
    intro T52
    refine Pa_take_c W25 T52  ?_ (fun κ_53 q54 => ?_)
    · exact ⟨hp.1, paK_t hp.2.1 rfl j25⟩  -- p33
    have S55 := paS_T Ta0 S0 W25 q54
    intro W56
    intro M57
    refine ⟨fun c58 => ?_, fun c58 => ?_⟩
    · skip
      refine ⟨fun c59 => ?_, fun c59 => ?_⟩
      · skip
        refine hj91 _ _ _ _ W56 ?_ ?_
        · exact paS_t S55 Ta0  -- t34
        · exact ⟨rfl, rfl, S55, psi2 Ta0 S0 W25 q54, Or.inl rfl⟩  -- k35
      · skip
        refine hj91 _ _ _ _ W56 ?_ ?_
        · exact paS_t S55 Ta0  -- t36
        · exact ⟨rfl, rfl, S55, psi2 Ta0 S0 W25 q54, Or.inr (Or.inr (by rw [c59]; decide))⟩  -- k37
    · skip
      refine ⟨fun c60 => ?_, fun c60 => ?_⟩
      · skip
        refine ⟨fun c61 => ?_, fun c61 => ?_⟩
        · skip
          refine hj63 _ _ _ _ W56 ?_ ?_
          · exact paS_t S55 Ta0  -- t38
          · exact ⟨rfl, rfl, S55, psi2 Ta0 S0 W25 q54, Or.inl rfl⟩  -- k39
        · skip
          refine hj63 _ _ _ _ W56 ?_ ?_
          · exact paS_t S55 Ta0  -- t40
          · exact ⟨rfl, rfl, S55, psi2 Ta0 S0 W25 q54, Or.inr (Or.inr ⟨rfl, by rw [c61]; decide⟩)⟩  -- k41
      · skip
        refine hj63 _ _ _ _ W56 ?_ ?_
        · exact paS_t S55 Ta0  -- t42
        · exact ⟨rfl, rfl, S55, psi2 Ta0 S0 W25 q54, Or.inr (Or.inl rfl)⟩  -- k43
  have hj14 : ∀ (l0 : Nat) (l1 : Int32) (s0 : Int32) (τ : zS), zW C (zn κ) τ → zT τ l0 = 10 → (κ = τ ∧ a0 = l0 ∧ a1 = l1 ∧ (s0 ≠ 0 → zI κ paKind a0 = 126)) → w_Pa_behindPlace_14 C (zn κ) Q X  l0 l1 s0 τ := by
    rintro _ _ y14_s0 _ W14 T14_0 ⟨rfl, rfl, rfl, j14⟩
    unfold w_Pa_behindPlace_14
    refine ⟨fun c62 => ?_, fun c62 => ?_⟩
    · skip
      refine hj25 _ _ _ _ W14 ?_ ?_
      · exact paS_t S0 Ta0  -- t44
      · exact ⟨rfl, rfl, rfl, by rw [j14 c62]; decide⟩  -- k45
    · skip
      intro T63
      refine Pa_expect_c W14 T63  ?_ (fun κ_64 q65 => ?_) (fun cls9 κ9 q9 => hx _ _ ?_)
      · exact S0.2.1  -- p46
      rotate_left
      · exact paX_tr S0.1 q9  -- x47
      have S66 := paS_e S0 q65
      intro W67
      intro M68
      refine hj25 _ _ _ _ W67 ?_ ?_
      · exact paS_t S66 Ta0  -- t48
      · exact ⟨q65.1, rfl, rfl, by rw [q65.2]; decide⟩  -- k49
  refine ⟨fun c69 => ?_, fun c69 => ?_⟩
  · skip
    refine hj14 _ _ _ _ W ?_ ?_
    · exact paS_t S0 Ta0  -- t50
    · exact ⟨rfl, rfl, rfl, fun z => absurd rfl z⟩  -- k51
  · skip
    refine hj14 _ _ _ _ W ?_ ?_
    · exact paS_t S0 Ta0  -- t52
    · exact ⟨rfl, rfl, rfl, fun _ => c69⟩  -- k53

theorem Pa_finish_c {C : zC} {n0 : Nat} {a0 : Nat} {a1 : Int32} {a2 : Int32} {κ : zS} {Q : zS → Prop} {X : zXp} (W : zW C n0 κ) (Ta0 : zT κ a0 = 10)  (hp : paA κ a0 ∧ 2 ≤ psi κ a0) (h : ∀ (κ' : zS), (paS κ κ' a0) → Q κ') (hx : ∀ (cls : String) (κ' : zS), (paX κ cls κ' a0) → X cls κ') : zRun C 12 mPa_finish [.ref a0, .int a1, .int a2] κ (oV Q X) := by
  refine Pa_finish_run W Ta0 ?_
  replace W := W.lo (Nat.le_trans W.1.2.1 W.1.2.2) (Nat.le_refl (zn κ))
  unfold w_Pa_finish_0
  have S0 := paS_0 hp.1
  have hj44 : ∀ (l0 : Nat) (l1 : Int32) (l2 : Int32) (s0 : Int32) (τ : zS), zW C (zn κ) τ → zT τ l0 = 10 → (a0 = l0 ∧ a1 = l1 ∧ a2 = l2 ∧ paS κ τ a0) → w_Pa_finish_44 C (zn κ) Q X  l0 l1 l2 s0 τ := by
    rintro _ _ _ y44_s0 τ44 W44 T44_0 ⟨rfl, rfl, rfl, j44⟩
    unfold w_Pa_finish_44
    unfold w_Pa_finish_48
    refine ⟨fun n l0 l1 l2 l3 l4 τ => n = (10244 - l4.toInt).toNat ∧ (a0 = l0 ∧ a1 = l1 ∧ a2 = l2 ∧ paS κ τ a0 ∧ 0 ≤ l4.toInt ∧ l4.toInt ≤ 10244), ⟨_, rfl, ?_⟩, ?_⟩
    · exact ⟨rfl, rfl, rfl, j44, by decide, by decide⟩  -- j1
    rintro n48 _ _ _ x48_3 x48_4 κ48 W48 T48_0 ⟨hn48, rfl, rfl, rfl, i48⟩
    have hj107 : ∀ (l0 : Nat) (l1 : Int32) (l2 : Int32) (l4 : Int32) (s0 : Int32) (τ : zS), zW C (zn κ) τ → zT τ l0 = 10 → (a0 = l0 ∧ a1 = l1 ∧ a2 = l2 ∧ paS κ τ a0 ∧ l4 = x48_4 ∧ l4.toInt ≤ 10242) → w_Pa_finish_107 C (zn κ) Q X (fun (l0' : Nat) (l1' : Int32) (l2' : Int32) (l3' : Int32) (l4' : Int32) (τ : zS) => ∃ k < n48, (fun (n : Nat) (l0 : Nat) (l1 : Int32) (l2 : Int32) (l3 : Int32) (l4 : Int32) (τ : zS) => n = (10244 - l4.toInt).toNat ∧ (a0 = l0 ∧ a1 = l1 ∧ a2 = l2 ∧ paS κ τ a0 ∧ 0 ≤ l4.toInt ∧ l4.toInt ≤ 10244)) k l0' l1' l2' l3' l4' τ) l0 l1 l2 l4 s0 τ := by
      rintro _ _ _ y107_4 y107_s0 τ107 W107 T107_0 ⟨rfl, rfl, rfl, j107⟩
      unfold w_Pa_finish_107
      have e4 := j107.2.1
      have l4 := j107.2.2
      have l0 := i48.2.1
      have e1 : (y107_4 + 1).toInt = y107_4.toInt + 1 := by rw [add_i (by rw [t1i, e4]; omega) (by rw [t1i]; omega), t1i]
      refine ⟨fun c1 => ?_, fun c1 => ?_⟩
      · skip
        intro x2 hx2
        refine ⟨_, ?_, rfl, ?_⟩
        · rw [hn48, hx2, e1, e4]; rw [e4] at l4; omega  -- d2
        · exact ⟨rfl, rfl, rfl, j107.1, by rw [hx2, e1, e4]; omega, by rw [hx2, e1]; omega⟩  -- i3
      · skip
        intro T3
        refine Pa_pass_c W107 T3  ?_ (fun κ_4 q5 => ?_) (fun cls9 κ9 q9 => hx _ _ ?_)
        · exact ⟨j107.1.2.1, j107.1.2.2.1, by decide⟩  -- p4
        rotate_left
        · exact paX_tr j107.1.1 q9  -- x5
        have S6 := paS_T Ta0 j107.1 W107 q5
        intro W7
        intro M8
        intro x9 hx9
        refine ⟨_, ?_, rfl, ?_⟩
        · rw [hn48, hx9, e1, e4]; rw [e4] at l4; omega  -- d6
        · exact ⟨rfl, rfl, rfl, S6, by rw [hx9, e1, e4]; omega, by rw [hx9, e1]; omega⟩  -- i7
    refine ⟨fun c10 => ?_, fun c10 => ?_⟩
    · skip
      intro T11
      refine Pa_closeSign_c W48 T11  ?_ (fun κ_12 q13 => ?_) (fun cls9 κ9 q9 => hx _ _ ?_)
      · exact ⟨i48.1.2.1, i48.1.2.2.1, by decide⟩  -- p8
      rotate_left
      · exact paX_tr i48.1.1 q9  -- x9
      have S14 := paS_T Ta0 i48.1 W48 q13
      intro W15
      intro M16
      refine h _ ?_
      · exact S14  -- q10
    · skip
      refine ⟨fun c17 => ?_, fun c17 => ?_⟩
      · skip
        intro T18
        refine Pa_closeSign_c W48 T18  ?_ (fun κ_19 q20 => ?_) (fun cls9 κ9 q9 => hx _ _ ?_)
        · exact ⟨i48.1.2.1, i48.1.2.2.1, by decide⟩  -- p11
        rotate_left
        · exact paX_tr i48.1.1 q9  -- x12
        have S21 := paS_T Ta0 i48.1 W48 q20
        intro W22
        intro M23
        refine h _ ?_
        · exact S21  -- q13
      · skip
        intro T24
        refine Pa_expression_c W48 T24  ?_ (fun κ_25 q26 => ?_) (fun cls9 κ9 q9 => hx _ _ ?_)
        · exact ⟨i48.1.2.1, i48.1.2.2.1, i48.1.2.2.2, Or.inl rfl⟩  -- p14
        rotate_left
        · exact paX_tr i48.1.1 q9  -- x15
        have S27 := (⟨i48.1.1.tr q26.1, q26.2⟩ : paS κ κ_25 a0)
        intro W28
        intro M29
        have l2 : x48_4.toInt ≤ 10242 := by
          rw [lti] at c17
          have tb := i48.1.2.1.1.2.2
          omega
        refine ⟨fun c30 => ?_, fun c30 => ?_⟩
        · skip
          refine ⟨fun c31 => ?_, fun c31 => ?_⟩
          · skip
            refine hj107 _ _ _ _ _ _ W28 ?_ ?_
            · exact paS_t S27 Ta0  -- t16
            · exact ⟨rfl, rfl, rfl, S27, rfl, l2⟩  -- k17
          · skip
            refine ⟨fun c32 => ?_, fun c32 => ?_⟩
            · skip
              refine hj107 _ _ _ _ _ _ W28 ?_ ?_
              · exact paS_t S27 Ta0  -- t18
              · exact ⟨rfl, rfl, rfl, S27, rfl, l2⟩  -- k19
            · skip
              refine hj107 _ _ _ _ _ _ W28 ?_ ?_
              · exact paS_t S27 Ta0  -- t20
              · exact ⟨rfl, rfl, rfl, S27, rfl, l2⟩  -- k21
        · skip
          refine ⟨fun c33 => ?_, fun c33 => ?_⟩
          · skip
            refine hj107 _ _ _ _ _ _ W28 ?_ ?_
            · exact paS_t S27 Ta0  -- t22
            · exact ⟨rfl, rfl, rfl, S27, rfl, l2⟩  -- k23
          · skip
            refine hj107 _ _ _ _ _ _ W28 ?_ ?_
            · exact paS_t S27 Ta0  -- t24
            · exact ⟨rfl, rfl, rfl, S27, rfl, l2⟩  -- k25
  refine ⟨fun c34 => ?_, fun c34 => ?_⟩
  · skip
    intro T35
    refine Pa_openSign_c W T35  ?_ (fun κ_36 q37 => ?_) (fun cls9 κ9 q9 => hx _ _ ?_)
    · exact ⟨S0.2.1, S0.2.2.1, by decide⟩  -- p26
    rotate_left
    · exact paX_tr S0.1 q9  -- x27
    have S38 := paS_T Ta0 S0 W q37
    intro W39
    intro M40
    refine ⟨fun c41 => ?_, fun c41 => ?_⟩
    · skip
      refine hj44 _ _ _ _ _ W39 ?_ ?_
      · exact paS_t S38 Ta0  -- t28
      · exact ⟨rfl, rfl, rfl, S38⟩  -- k29
    · skip
      refine ⟨fun c42 => ?_, fun c42 => ?_⟩
      · skip
        refine hj44 _ _ _ _ _ W39 ?_ ?_
        · exact paS_t S38 Ta0  -- t30
        · exact ⟨rfl, rfl, rfl, S38⟩  -- k31
      · skip
        refine hj44 _ _ _ _ _ W39 ?_ ?_
        · exact paS_t S38 Ta0  -- t32
        · exact ⟨rfl, rfl, rfl, S38⟩  -- k33
  · skip
    intro T43
    refine Co_column_c W T43  ?_ (fun r44 q46 => ?_)
    · exact ⟨S0.2.1.2.1, by decide, by decide⟩  -- p34
    intro W47
    intro M48
    intro T49
    refine Pa_expression_c W47 T49  ?_ (fun κ_50 q51 => ?_) (fun cls9 κ9 q9 => hx _ _ ?_)
    · exact ⟨hp.1.1, hp.1.2.1, hp.1.2.2, Or.inr hp.2⟩  -- p35
    rotate_left
    · exact paX_tr S0.1 q9  -- x36
    have S52 := (⟨S0.1.tr q51.1, q51.2⟩ : paS κ κ_50 a0)
    intro W53
    intro M54
    refine h _ ?_
    · exact S52  -- q37

theorem Pa_spread_c {C : zC} {n0 : Nat} {a0 : Nat} {a1 : Int32} {κ : zS} {Q : zS → Prop} {X : zXp} (W : zW C n0 κ) (Ta0 : zT κ a0 = 10)  (hp : paA κ a0) (h : ∀ (κ' : zS), (paS κ κ' a0) → Q κ') (hx : ∀ (cls : String) (κ' : zS), (paX κ cls κ' a0) → X cls κ') : zRun C 12 mPa_spread [.ref a0, .int a1] κ (oV Q X) := by
  refine Pa_spread_run W Ta0 ?_
  replace W := W.lo (Nat.le_trans W.1.2.1 W.1.2.2) (Nat.le_refl (zn κ))
  unfold w_Pa_spread_0
  have S0 := paS_0 hp
  intro T1
  refine Pa_openSign_c W T1  ?_ (fun κ_2 q3 => ?_) (fun cls9 κ9 q9 => hx _ _ ?_)
  · exact ⟨S0.2.1, S0.2.2.1, by decide⟩  -- p1
  rotate_left
  · exact paX_tr S0.1 q9  -- x2
  have S4 := paS_T Ta0 S0 W q3
  intro W5
  intro M6
  unfold w_Pa_spread_10
  refine ⟨fun n l0 l1 l2 l3 τ => n = (9 - l3.toInt).toNat ∧ (a0 = l0 ∧ a1 = l1 ∧ paS κ τ a0 ∧ 0 ≤ l3.toInt ∧ l3.toInt ≤ 9), ⟨_, rfl, ?_⟩, ?_⟩
  · exact ⟨rfl, rfl, S4, by decide, by decide⟩  -- j3
  rintro n10 _ _ x10_2 x10_3 κ10 W10 T10_0 ⟨hn10, rfl, rfl, i10⟩
  have hj72 : ∀ (l0 : Nat) (l1 : Int32) (l3 : Int32) (s0 : Int32) (τ : zS), zW C (zn κ) τ → zT τ l0 = 10 → (a0 = l0 ∧ a1 = l1 ∧ paS κ τ a0 ∧ l3 = x10_3 ∧ l3.toInt ≤ 8 ∧ (s0 ≠ 0 → zI τ paKind a0 = 44)) → w_Pa_spread_72 C (zn κ) Q X (fun (l0' : Nat) (l1' : Int32) (l2' : Int32) (l3' : Int32) (τ : zS) => ∃ k < n10, (fun (n : Nat) (l0 : Nat) (l1 : Int32) (l2 : Int32) (l3 : Int32) (τ : zS) => n = (9 - l3.toInt).toNat ∧ (a0 = l0 ∧ a1 = l1 ∧ paS κ τ a0 ∧ 0 ≤ l3.toInt ∧ l3.toInt ≤ 9)) k l0' l1' l2' l3' τ) l0 l1 l3 s0 τ := by
    rintro _ _ y72_3 y72_s0 τ72 W72 T72_0 ⟨rfl, rfl, j72⟩
    unfold w_Pa_spread_72
    have e3 := j72.2.1
    have l3 := j72.2.2.1
    have l0 := i10.2.1
    have e1 : (y72_3 + 1).toInt = y72_3.toInt + 1 := by rw [add_i (by rw [t1i, e3]; omega) (by rw [t1i]; omega), t1i]
    refine ⟨fun c7 => ?_, fun c7 => ?_⟩
    · skip
      intro x8 hx8
      refine ⟨_, ?_, rfl, ?_⟩
      · rw [hn10, hx8, e1, e3]; rw [e3] at l3; omega  -- d4
      · exact ⟨rfl, rfl, j72.1, by rw [hx8, e1, e3]; omega, by rw [hx8, e1]; omega⟩  -- i5
    · skip
      intro T9
      refine Pa_take_c W72 T9  ?_ (fun κ_10 q11 => ?_)
      · exact ⟨j72.1.2.1, paK_t j72.1.2.2.1 (j72.2.2.2 c7) (by decide)⟩  -- p6
      have S12 := paS_T Ta0 j72.1 W72 q11
      intro W13
      intro M14
      intro x15 hx15
      refine ⟨_, ?_, rfl, ?_⟩
      · rw [hn10, hx15, e1, e3]; rw [e3] at l3; omega  -- d7
      · exact ⟨rfl, rfl, S12, by rw [hx15, e1, e3]; omega, by rw [hx15, e1]; omega⟩  -- i8
  have hj48 : ∀ (l0 : Nat) (l1 : Int32) (l3 : Int32) (τ : zS), zW C (zn κ) τ → zT τ l0 = 10 → (a0 = l0 ∧ a1 = l1 ∧ paS κ τ a0 ∧ l3 = x10_3 ∧ l3.toInt ≤ 8 ∧ zI τ paKind a0 = 58) → w_Pa_spread_48 C (zn κ) Q X (fun (l0' : Nat) (l1' : Int32) (l2' : Int32) (l3' : Int32) (τ : zS) => ∃ k < n10, (fun (n : Nat) (l0 : Nat) (l1 : Int32) (l2 : Int32) (l3 : Int32) (τ : zS) => n = (9 - l3.toInt).toNat ∧ (a0 = l0 ∧ a1 = l1 ∧ paS κ τ a0 ∧ 0 ≤ l3.toInt ∧ l3.toInt ≤ 9)) k l0' l1' l2' l3' τ) l0 l1 l3 τ := by
    rintro _ _ y48_3 τ48 W48 T48_0 ⟨rfl, rfl, j48⟩
    unfold w_Pa_spread_48
    intro T16
    refine Pa_take_c W48 T16  ?_ (fun κ_17 q18 => ?_)
    · exact ⟨j48.1.2.1, paK_t j48.1.2.2.1 j48.2.2.2 (by decide)⟩  -- p9
    have S19 := paS_T Ta0 j48.1 W48 q18
    intro W20
    intro M21
    intro T22
    refine Pa_expression_c W20 T22  ?_ (fun κ_23 q24 => ?_) (fun cls9 κ9 q9 => hx _ _ ?_)
    · exact ⟨S19.2.1, S19.2.2.1, S19.2.2.2, Or.inl rfl⟩  -- p10
    rotate_left
    · exact paX_tr S19.1 q9  -- x11
    have S25 := (⟨S19.1.tr q24.1, q24.2⟩ : paS κ κ_23 a0)
    intro W26
    intro M27
    refine ⟨fun c28 => ?_, fun c28 => ?_⟩
    · skip
      refine hj72 _ _ _ _ _ W26 ?_ ?_
      · exact paS_t S25 Ta0  -- t12
      · exact ⟨rfl, rfl, S25, j48.2.1, j48.2.2.1, fun z => absurd rfl z⟩  -- k13
    · skip
      refine hj72 _ _ _ _ _ W26 ?_ ?_
      · exact paS_t S25 Ta0  -- t14
      · exact ⟨rfl, rfl, S25, j48.2.1, j48.2.2.1, fun _ => c28⟩  -- k15
  refine ⟨fun c29 => ?_, fun c29 => ?_⟩
  · skip
    intro T30
    refine Pa_closeSign_c W10 T30  ?_ (fun κ_31 q32 => ?_) (fun cls9 κ9 q9 => hx _ _ ?_)
    · exact ⟨i10.1.2.1, i10.1.2.2.1, by decide⟩  -- p16
    rotate_left
    · exact paX_tr i10.1.1 q9  -- x17
    have S33 := paS_T Ta0 i10.1 W10 q32
    intro W34
    intro M35
    refine h _ ?_
    · exact S33  -- q18
  · skip
    refine ⟨fun c36 => ?_, fun c36 => ?_⟩
    · skip
      intro T37
      refine Pa_closeSign_c W10 T37  ?_ (fun κ_38 q39 => ?_) (fun cls9 κ9 q9 => hx _ _ ?_)
      · exact ⟨i10.1.2.1, i10.1.2.2.1, by decide⟩  -- p19
      rotate_left
      · exact paX_tr i10.1.1 q9  -- x20
      have S40 := paS_T Ta0 i10.1 W10 q39
      intro W41
      intro M42
      refine h _ ?_
      · exact S40  -- q21
    · skip
      intro T43
      refine Pa_expression_c W10 T43  ?_ (fun κ_44 q45 => ?_) (fun cls9 κ9 q9 => hx _ _ ?_)
      · exact ⟨i10.1.2.1, i10.1.2.2.1, i10.1.2.2.2, Or.inl rfl⟩  -- p22
      rotate_left
      · exact paX_tr i10.1.1 q9  -- x23
      have S46 := (⟨i10.1.1.tr q45.1, q45.2⟩ : paS κ κ_44 a0)
      intro W47
      intro M48
      intro T49
      refine Pa_expect_c W47 T49  ?_ (fun κ_50 q51 => ?_) (fun cls9 κ9 q9 => hx _ _ ?_)
      · exact S46.2.1  -- p24
      rotate_left
      · exact paX_tr S46.1 q9  -- x25
      have S52 := paS_e S46 q51
      intro W53
      intro M54
      refine ⟨fun c55 => ?_, fun c55 => ?_⟩
      · skip
        refine hj48 _ _ _ _ W53 ?_ ?_
        · exact paS_t S52 Ta0  -- t26
        · have e8 : (8 : Int32).toInt = 8 := rfl
          rw [lti, e8] at c36
          exact ⟨rfl, rfl, S52, rfl, by omega, by rw [← q51.1]; exact q51.2⟩
      · skip
        intro T56
        refine Pa_refuse_c W53 T56  ?_ (fun κ_57 q58 => False.elim q58) (fun cls9 κ9 q9 => hx _ _ ?_)
        · exact S52.2.1  -- p28
        · exact paX_tr S52.1 q9  -- x29

theorem Pa_statement_c {C : zC} {n0 : Nat} {a0 : Nat} {a1 : Int32} {κ : zS} {Q : zS → Prop} {X : zXp} (W : zW C n0 κ) (Ta0 : zT κ a0 = 10)  (hp : paA κ a0 ∧ zI κ paKind a0 ≠ 142) (h : ∀ (κ' : zS), (paS κ κ' a0) → Q κ') (hx : ∀ (cls : String) (κ' : zS), (paX κ cls κ' a0) → X cls κ') : zRun C 13 mPa_statement [.ref a0, .int a1] κ (oV Q X) := by
  refine Pa_statement_run W Ta0 ?_
  replace W := W.lo (Nat.le_trans W.1.2.1 W.1.2.2) (Nat.le_refl (zn κ))
  unfold w_Pa_statement_0
  have S0 := paS_0 hp.1
  have hj268 : ∀ (l0 : Nat) (τ : zS), zW C (zn κ) τ → zT τ l0 = 10 → (a0 = l0 ∧ paS κ τ a0) → w_Pa_statement_268 C (zn κ) Q X  l0 τ := by
    rintro _ τ268 W268 T268_0 ⟨rfl, j268⟩
    unfold w_Pa_statement_268
    intro T1
    refine Pa_pass_c W268 T1  ?_ (fun κ_2 q3 => ?_) (fun cls9 κ9 q9 => hx _ _ ?_)
    · exact ⟨j268.2.1, j268.2.2.1, by decide⟩  -- p1
    rotate_left
    · exact paX_tr j268.1 q9  -- x2
    have S4 := paS_T Ta0 j268 W268 q3
    intro W5
    intro M6
    refine h _ ?_
    · exact S4  -- q3
  have hj233 : ∀ (l0 : Nat) (l1 : Int32) (τ : zS), zW C (zn κ) τ → zT τ l0 = 10 → (a0 = l0 ∧ a1 = l1 ∧ paS κ τ a0 ∧ 2 ≤ psi τ a0) → w_Pa_statement_233 C (zn κ) Q X  l0 l1 τ := by
    rintro _ _ τ233 W233 T233_0 ⟨rfl, rfl, j233⟩
    unfold w_Pa_statement_233
    intro T7
    refine Co_column_c W233 T7  ?_ (fun r8 q10 => ?_)
    · exact ⟨j233.1.2.1.2.1, by decide, by decide⟩  -- p4
    intro W11
    intro M12
    refine ⟨fun c13 => ?_, fun c13 => ?_⟩
    · skip
      intro T14
      refine Co_column_c W11 T14  ?_ (fun r15 q17 => ?_)
      · exact ⟨j233.1.2.1.2.1, by decide, by decide⟩  -- p5
      intro W18
      intro M19
      intro T20
      refine Pa_finish_c W18 T20  ?_ (fun κ_21 q22 => ?_) (fun cls9 κ9 q9 => hx _ _ ?_)
      · exact ⟨j233.1.2, j233.2⟩  -- p6
      rotate_left
      · exact paX_tr j233.1.1 q9  -- x7
      have S23 := (⟨j233.1.1.tr q22.1, q22.2⟩ : paS κ κ_21 a0)
      intro W24
      intro M25
      refine hj268 _ _ W24 ?_ ?_
      · exact paS_t S23 Ta0  -- t8
      · exact ⟨rfl, S23⟩  -- k9
    · skip
      intro T26
      refine Pa_spread_c W11 T26  ?_ (fun κ_27 q28 => ?_) (fun cls9 κ9 q9 => hx _ _ ?_)
      · exact j233.1.2  -- p10
      rotate_left
      · exact paX_tr j233.1.1 q9  -- x11
      have S29 := (⟨j233.1.1.tr q28.1, q28.2⟩ : paS κ κ_27 a0)
      intro W30
      intro M31
      refine hj268 _ _ W30 ?_ ?_
      · exact paS_t S29 Ta0  -- t12
      · exact ⟨rfl, S29⟩  -- k13
  have hj223 : ∀ (l0 : Nat) (l1 : Int32) (τ : zS), zW C (zn κ) τ → zT τ l0 = 10 → (a0 = l0 ∧ a1 = l1 ∧ paS κ τ a0 ∧ 2 ≤ psi τ a0) → w_Pa_statement_223 C (zn κ) Q X  l0 l1 τ := by
    rintro _ _ τ223 W223 T223_0 ⟨rfl, rfl, j223⟩
    unfold w_Pa_statement_223
    intro T32
    refine Co_setColumn_c W223 T32  ?_ (fun κ_33 q34 => ?_)
    · exact ⟨j223.1.2.1.2.1, by decide, by decide⟩  -- p14
    have S35 := paS_N j223.1 (paN_k W223 (paS_t j223.1 Ta0) j223.1.2.1 q34)
    intro W36
    intro M37
    refine hj233 _ _ _ W36 ?_ ?_
    · exact paS_t S35 Ta0  -- t15
    · have P := psi_N (paN_k W223 (paS_t j223.1 Ta0) j223.1.2.1 q34)
      exact ⟨rfl, rfl, S35, by rw [P]; exact j223.2⟩
  have hj191 : ∀ (l0 : Nat) (l1 : Int32) (l3 : Int32) (s0 : Int32) (τ : zS), zW C (zn κ) τ → zT τ l0 = 10 → (a0 = l0 ∧ a1 = l1 ∧ paS κ τ a0 ∧ 2 ≤ psi τ a0) → w_Pa_statement_191 C (zn κ) Q X  l0 l1 l3 s0 τ := by
    rintro _ _ y191_3 y191_s0 τ191 W191 T191_0 ⟨rfl, rfl, j191⟩
    unfold w_Pa_statement_191
    intro T38
    refine Co_setColumn_c W191 T38  ?_ (fun κ_39 q40 => ?_)
    · exact ⟨j191.1.2.1.2.1, by decide, by decide⟩  -- p17
    have S41 := paS_N j191.1 (paN_k W191 (paS_t j191.1 Ta0) j191.1.2.1 q40)
    intro W42
    intro M43
    have P := psi_N (paN_k W191 (paS_t j191.1 Ta0) j191.1.2.1 q40)
    refine ⟨fun c44 => ?_, fun c44 => ?_⟩
    · skip
      refine hj223 _ _ _ W42 ?_ ?_
      · exact paS_t S41 Ta0  -- t18
      · exact ⟨rfl, rfl, S41, by rw [P]; exact j191.2⟩  -- k19
    · skip
      refine ⟨fun c45 => ?_, fun c45 => ?_⟩
      · skip
        refine hj233 _ _ _ W42 ?_ ?_
        · exact paS_t S41 Ta0  -- t20
        · exact ⟨rfl, rfl, S41, by rw [P]; exact j191.2⟩  -- k21
      · skip
        refine ⟨fun c46 => ?_, fun c46 => ?_⟩
        · skip
          refine hj233 _ _ _ W42 ?_ ?_
          · exact paS_t S41 Ta0  -- t22
          · exact ⟨rfl, rfl, S41, by rw [P]; exact j191.2⟩  -- k23
        · skip
          refine hj223 _ _ _ W42 ?_ ?_
          · exact paS_t S41 Ta0  -- t24
          · exact ⟨rfl, rfl, S41, by rw [P]; exact j191.2⟩  -- k25
  have hj177 : ∀ (l0 : Nat) (l1 : Int32) (l2 : Int32) (s0 : Int32) (τ : zS), zW C (zn κ) τ → zT τ l0 = 10 → (a0 = l0 ∧ a1 = l1 ∧ paS κ τ a0 ∧ 2 ≤ psi τ a0) → w_Pa_statement_177 C (zn κ) Q X  l0 l1 l2 s0 τ := by
    rintro _ _ y177_2 y177_s0 τ177 W177 T177_0 ⟨rfl, rfl, j177⟩
    unfold w_Pa_statement_177
    refine ⟨fun c47 => ?_, fun c47 => ?_⟩
    · skip
      intro T48
      refine Pa_behindPlace_c W177 T48  ?_ (fun r49 κ_50 q51 => ?_) (fun cls9 κ9 q9 => hx _ _ ?_)
      · exact j177.1.2  -- p26
      rotate_left
      · exact paX_tr j177.1.1 q9  -- x27
      have S52 := (⟨j177.1.1.tr q51.1.1, q51.1.2⟩ : paS κ κ_50 a0)
      intro W53
      intro M54
      refine hj191 _ _ _ _ _ W53 ?_ ?_
      · exact paS_t S52 Ta0  -- t28
      · exact ⟨rfl, rfl, S52, q51.2⟩  -- k29
    · skip
      refine hj191 _ _ _ _ _ W177 ?_ ?_
      · exact paS_t j177.1 Ta0  -- t30
      · exact ⟨rfl, rfl, j177.1, j177.2⟩  -- k31
  have hj151 : ∀ (l0 : Nat) (l1 : Int32) (l2 : Int32) (τ : zS), zW C (zn κ) τ → zT τ l0 = 10 → (a0 = l0 ∧ a1 = l1 ∧ paS κ τ a0 ∧ 2 ≤ psi τ a0) → w_Pa_statement_151 C (zn κ) Q X  l0 l1 l2 τ := by
    rintro _ _ y151_2 τ151 W151 T151_0 ⟨rfl, rfl, j151⟩
    unfold w_Pa_statement_151
    refine ⟨fun c55 => ?_, fun c55 => ?_⟩
    · skip
      refine hj177 _ _ _ _ _ W151 ?_ ?_
      · exact paS_t j151.1 Ta0  -- t32
      · exact ⟨rfl, rfl, j151.1, j151.2⟩  -- k33
    · skip
      intro T56
      refine Co_column_c W151 T56  ?_ (fun r57 q59 => ?_)
      · exact ⟨j151.1.2.1.2.1, by decide, by decide⟩  -- p34
      intro W60
      intro M61
      refine ⟨fun c62 => ?_, fun c62 => ?_⟩
      · skip
        refine hj177 _ _ _ _ _ W60 ?_ ?_
        · exact paS_t j151.1 Ta0  -- t35
        · exact ⟨rfl, rfl, j151.1, j151.2⟩  -- k36
      · skip
        refine hj177 _ _ _ _ _ W60 ?_ ?_
        · exact paS_t j151.1 Ta0  -- t37
        · exact ⟨rfl, rfl, j151.1, j151.2⟩  -- k38
  have hj121 : ∀ (l0 : Nat) (l1 : Int32) (l2 : Int32) (l3 : Int32) (s0 : Nat) (s1 : Int32) (s2 : Int32) (τ : zS), zW C (zn κ) τ → zT τ l0 = 10 → zT τ s0 = 10 → (a0 = l0 ∧ a1 = l1 ∧ paS κ τ a0 ∧ 2 ≤ psi τ a0 ∧ s0 = a0) → w_Pa_statement_121 C (zn κ) Q X  l0 l1 l2 l3 s0 s1 s2 τ := by
    rintro _ _ y121_2 y121_3 y121_s0 y121_s1 y121_s2 τ121 W121 T121_0 T121_1 ⟨rfl, rfl, j121⟩
    unfold w_Pa_statement_121
    refine ⟨fun c63 => ?_, fun c63 => ?_⟩
    · skip
      intro T64
      intro T65
      refine Ta_findName_c W121 T64 T65  ?_ (fun r66 q68 => ?_)
      · exact ⟨j121.1.2.1.1.1, j121.1.2.1.1.2.1⟩  -- p39
      intro W69
      intro M70
      intro T71
      refine Pa_setPlace_c W69 T71  ?_ (fun κ_72 q73 => ?_)
      · rw [j121.2.2]; exact j121.1.2.1  -- p40
      rw [j121.2.2] at q73
      have S74 := paS_N j121.1 q73
      intro W75
      intro M76
      refine hj151 _ _ _ _ W75 ?_ ?_
      · exact paS_t S74 Ta0  -- t41
      · exact ⟨rfl, rfl, S74, by rw [psi_N q73]; exact j121.2.1⟩  -- k42
    · skip
      intro T77
      refine Pa_setPlace_c W121 T77  ?_ (fun κ_78 q79 => ?_)
      · rw [j121.2.2]; exact j121.1.2.1  -- p43
      rw [j121.2.2] at q79
      have S80 := paS_N j121.1 q79
      intro W81
      intro M82
      refine hj151 _ _ _ _ W81 ?_ ?_
      · exact paS_t S80 Ta0  -- t44
      · exact ⟨rfl, rfl, S80, by rw [psi_N q79]; exact j121.2.1⟩  -- k45
  have hj104 : ∀ (l0 : Nat) (l1 : Int32) (l2 : Int32) (τ : zS), zW C (zn κ) τ → zT τ l0 = 10 → (a0 = l0 ∧ a1 = l1 ∧ paS κ τ a0 ∧ 2 ≤ psi τ a0) → w_Pa_statement_104 C (zn κ) Q X  l0 l1 l2 τ := by
    rintro _ _ y104_2 τ104 W104 T104_0 ⟨rfl, rfl, j104⟩
    unfold w_Pa_statement_104
    intro T83
    refine Pa_findVariable_c W104 T83  ?_ (fun r84 q86 => ?_) (fun cls9 κ9 q9 => hx _ _ ?_)
    · exact j104.1.2.1  -- p46
    rotate_left
    · exact paX_tr j104.1.1 q9  -- x47
    intro W87
    intro M88
    refine ⟨fun c89 => ?_, fun c89 => ?_⟩
    · skip
      refine hj121 _ _ _ _ _ _ _ _ W87 ?_ ?_ ?_
      · exact paS_t j104.1 Ta0  -- t48
      · exact paS_t j104.1 Ta0  -- t49
      · exact ⟨rfl, rfl, j104.1, j104.2, rfl⟩  -- k50
    · skip
      refine hj121 _ _ _ _ _ _ _ _ W87 ?_ ?_ ?_
      · exact paS_t j104.1 Ta0  -- t51
      · exact paS_t j104.1 Ta0  -- t52
      · exact ⟨rfl, rfl, j104.1, j104.2, rfl⟩  -- k53
  refine ⟨fun c90 => ?_, fun c90 => ?_⟩
  · skip
    refine ⟨fun c91 => ?_, fun c91 => ?_⟩
    · skip
      intro x92 hx92
      intro T93
      refine Pa_take_c W T93  ?_ (fun κ_94 q95 => ?_)
      · exact ⟨hp.1.1, paK_t hp.1.2.1 c91 (by decide)⟩  -- p54
      have S96 := paS_T Ta0 S0 W q95
      intro W97
      intro M98
      refine ⟨fun c99 => ?_, fun c99 => ?_⟩
      · skip
        refine ⟨fun c100 => ?_, fun c100 => ?_⟩
        · skip
          refine hj104 _ _ _ _ W97 ?_ ?_
          · exact paS_t S96 Ta0  -- t55
          · exact ⟨rfl, rfl, S96, psi2 Ta0 S0 W q95⟩  -- k56
        · skip
          refine ⟨fun c101 => ?_, fun c101 => ?_⟩
          · skip
            refine hj151 _ _ _ _ W97 ?_ ?_
            · exact paS_t S96 Ta0  -- t57
            · exact ⟨rfl, rfl, S96, psi2 Ta0 S0 W q95⟩  -- k58
          · skip
            refine hj104 _ _ _ _ W97 ?_ ?_
            · exact paS_t S96 Ta0  -- t59
            · exact ⟨rfl, rfl, S96, psi2 Ta0 S0 W q95⟩  -- k60
      · skip
        intro T102
        refine Pa_findArray_c W97 T102  ?_ (fun r103 q105 => ?_) (fun cls9 κ9 q9 => hx _ _ ?_)
        · exact S96.2.1  -- p61
        rotate_left
        · exact paX_tr S96.1 q9  -- x62
        intro W106
        intro M107
        intro T108
        refine Pa_setPlace_c W106 T108  ?_ (fun κ_109 q110 => ?_)
        · exact S96.2.1  -- p63
        have S111 := paS_N S96 q110
        intro W112
        intro M113
        intro T114
        refine Pa_openSign_c W112 T114  ?_ (fun κ_115 q116 => ?_) (fun cls9 κ9 q9 => hx _ _ ?_)
        · exact ⟨S111.2.1, S111.2.2.1, by decide⟩  -- p64
        rotate_left
        · exact paX_tr S111.1 q9  -- x65
        have S117 := paS_T Ta0 S111 W112 q116
        intro W118
        intro M119
        intro T120
        refine Pa_expression_c W118 T120  ?_ (fun κ_121 q122 => ?_) (fun cls9 κ9 q9 => hx _ _ ?_)
        · exact ⟨S117.2.1, S117.2.2.1, S117.2.2.2, Or.inl rfl⟩  -- p66
        rotate_left
        · exact paX_tr S117.1 q9  -- x67
        have S123 := (⟨S117.1.tr q122.1, q122.2⟩ : paS κ κ_121 a0)
        intro W124
        intro M125
        intro T126
        refine Pa_closeSign_c W124 T126  ?_ (fun κ_127 q128 => ?_) (fun cls9 κ9 q9 => hx _ _ ?_)
        · exact ⟨S123.2.1, S123.2.2.1, by decide⟩  -- p68
        rotate_left
        · exact paX_tr S123.1 q9  -- x69
        have S129 := paS_T Ta0 S123 W124 q128
        intro W130
        intro M131
        refine hj151 _ _ _ _ W130 ?_ ?_
        · exact paS_t S129 Ta0  -- t70
        · exact ⟨rfl, rfl, S129, psi2 Ta0 S123 W124 q128⟩  -- k71
    · skip
      intro T132
      refine Pa_wordStatement_c W T132  ?_ (fun κ_133 q134 => ?_) (fun cls9 κ9 q9 => hx _ _ ?_)
      · exact hp  -- p72
      rotate_left
      · exact paX_tr S0.1 q9  -- x73
      intro W135
      intro M136
      refine h _ ?_
      · exact q134  -- q74
  · skip
    intro T137
    refine Pa_localStatement_c W T137  ?_ (fun κ_138 q139 => ?_) (fun cls9 κ9 q9 => hx _ _ ?_)
    · exact ⟨hp.1, c90⟩  -- p75
    rotate_left
    · exact paX_tr S0.1 q9  -- x76
    intro W140
    intro M141
    refine h _ ?_
    · exact q139  -- q77

theorem paN_m {C : zC} {n0 p : Nat} {κ τ : zS} {x : Int32} (W : zW C n0 κ) (T : zT κ p = 10) (H : paI κ p) (e : τ = ui κ coMain (zR κ paCode p) x) : paN κ τ p := by
  have Z : zF (objF (zR κ paCode p)) κ τ := by rw [e]; exact zF_ui rfl
  have o : ∀ g, g ≠ coMain → zI τ g (zR κ paCode p) = zI κ g (zR κ paCode p) := fun g hg => by rw [e]; exact if_neg (fun z => hg z.1)
  refine (paN_c W T H Z ?_ (o _ (by decide))).1
  refine coI_g H.2.1 (fun g hg => o g (fun z => absurd (z ▸ hg) (by decide))) (fun g _ => by rw [e]; rfl) (fun g _ => by rw [e]; rfl) (fun g _ => by rw [e]; rfl)
theorem Pa_findCalled_c {C : zC} {n0 : Nat} {a0 : Nat} {κ : zS} {Q : zS → Prop} {X : zXp} (W : zW C n0 κ) (Ta0 : zT κ a0 = 10)  (hp : paA κ a0) (h : ∀ (κ' : zS), (paS κ κ' a0) → Q κ') (hx : ∀ (cls : String) (κ' : zS), (paX κ cls κ' a0) → X cls κ') : zRun C 12 mPa_findCalled [.ref a0] κ (oV Q X) := by
  refine Pa_findCalled_run W Ta0 ?_
  replace W := W.lo (Nat.le_trans W.1.2.1 W.1.2.2) (Nat.le_refl (zn κ))
  unfold w_Pa_findCalled_0
  have S0 := paS_0 hp
  have hj166 : ∀ (l0 : Nat) (τ : zS), zW C (zn κ) τ → zT τ l0 = 10 → (a0 = l0 ∧ paS κ τ a0) → w_Pa_findCalled_166 C (zn κ) Q X  l0 τ := by
    rintro _ τ166 W166 T166_0 ⟨rfl, j166⟩
    unfold w_Pa_findCalled_166
    refine ⟨fun c1 => ?_, fun c1 => ?_⟩
    · skip
      refine h _ ?_
      · exact j166  -- q1
    · skip
      intro T2
      refine Pa_refuse_c W166 T2  ?_ (fun κ_3 q4 => False.elim q4) (fun cls9 κ9 q9 => hx _ _ ?_)
      · exact j166.2.1  -- p2
      · exact paX_tr j166.1 q9  -- x3
  unfold w_Pa_findCalled_2
  refine ⟨fun n l0 l1 τ => n = (150 - l1.toInt).toNat ∧ (a0 = l0 ∧ paS κ τ a0 ∧ 0 ≤ l1.toInt), ⟨_, rfl, ?_⟩, ?_⟩
  · exact ⟨rfl, S0, by decide⟩  -- j4
  rintro n2 _ x2_1 κ2 W2 T2_0 ⟨hn2, rfl, i2⟩
  have hj89 : ∀ (l0 : Nat) (l1 : Int32) (l3 : Int32) (τ : zS), zW C (zn κ) τ → zT τ l0 = 10 → (a0 = l0 ∧ paS κ τ a0 ∧ l1 = x2_1 ∧ l1.toInt < 150) → w_Pa_findCalled_89 C (zn κ) Q X (fun (l0' : Nat) (l1' : Int32) (τ : zS) => ∃ k < n2, (fun (n : Nat) (l0 : Nat) (l1 : Int32) (τ : zS) => n = (150 - l1.toInt).toNat ∧ (a0 = l0 ∧ paS κ τ a0 ∧ 0 ≤ l1.toInt)) k l0' l1' τ) l0 l1 l3 τ := by
    rintro _ y89_1 y89_3 τ89 W89 T89_0 ⟨rfl, j89⟩
    unfold w_Pa_findCalled_89
    intro T5
    refine Co_setColumn_c W89 T5  ?_ (fun κ_6 q7 => ?_)
    · exact ⟨j89.1.2.1.2.1, by decide, by decide⟩  -- p5
    have S8 := paS_N j89.1 (paN_k W89 (paS_t j89.1 Ta0) j89.1.2.1 q7)
    intro W9
    intro M10
    intro x11 hx11
    refine ⟨_, ?_, rfl, ?_⟩
    · have e3 := j89.2.1
      have l3 := j89.2.2
      have l0 := i2.2
      have e1 : (y89_1 + 1).toInt = y89_1.toInt + 1 := by rw [add_i (by rw [t1i, e3]; omega) (by rw [t1i]; omega), t1i]
      rw [hn2, hx11, e1, e3]; rw [e3] at l3; omega
    · have e3 := j89.2.1
      have l3 := j89.2.2
      have l0 := i2.2
      have e1 : (y89_1 + 1).toInt = y89_1.toInt + 1 := by rw [add_i (by rw [t1i, e3]; omega) (by rw [t1i]; omega), t1i]
      exact ⟨rfl, S8, by rw [hx11, e1, e3]; omega⟩
  have hj82 : ∀ (l0 : Nat) (l1 : Int32) (l2 : Int32) (l3 : Int32) (τ : zS), zW C (zn κ) τ → zT τ l0 = 10 → (a0 = l0 ∧ paS κ τ a0) → w_Pa_findCalled_82 C (zn κ) Q X (fun (l0' : Nat) (l1' : Int32) (τ : zS) => ∃ k < n2, (fun (n : Nat) (l0 : Nat) (l1 : Int32) (τ : zS) => n = (150 - l1.toInt).toNat ∧ (a0 = l0 ∧ paS κ τ a0 ∧ 0 ≤ l1.toInt)) k l0' l1' τ) l0 l1 l2 l3 τ := by
    rintro _ y82_1 y82_2 y82_3 τ82 W82 T82_0 ⟨rfl, j82⟩
    unfold w_Pa_findCalled_82
    intro T12
    refine Pa_refuse_c W82 T12  ?_ (fun κ_13 q14 => False.elim q14) (fun cls9 κ9 q9 => hx _ _ ?_)
    · exact j82.2.1  -- p8
    · exact paX_tr j82.1 q9  -- x9
  refine ⟨fun c15 => ?_, fun c15 => ?_⟩
  · skip
    unfold w_Pa_findCalled_107
    refine ⟨fun n l0 l1 τ => n = (10 - l1.toInt).toNat ∧ (a0 = l0 ∧ paS κ τ a0 ∧ 0 ≤ l1.toInt), ⟨_, rfl, ?_⟩, ?_⟩
    · exact ⟨rfl, i2.1, by decide⟩  -- j10
    rintro n107 _ x107_1 κ107 W107 T107_0 ⟨hn107, rfl, i107⟩
    refine ⟨fun c16 => ?_, fun c16 => ?_⟩
    · skip
      refine hj166 _ _ W107 ?_ ?_
      · exact paS_t i107.1 Ta0  -- t11
      · exact ⟨rfl, i107.1⟩  -- k12
    · skip
      refine ⟨fun c17 => ?_, fun c17 => ?_⟩
      · skip
        refine hj166 _ _ W107 ?_ ?_
        · exact paS_t i107.1 Ta0  -- t13
        · exact ⟨rfl, i107.1⟩  -- k14
      · skip
        have e10 : (10 : Int32).toInt = 10 := rfl
        rw [lei, e10] at c17
        have l0 := i107.2
        have e1 : (x107_1 + 1).toInt = x107_1.toInt + 1 := by rw [add_i (by rw [t1i]; omega) (by rw [t1i]; omega), t1i]
        refine ⟨?_, ?_⟩
        · have L := i107.1.2.1.2.2.1.2.2.1
          rw [inb_iff]; omega
        intro T18
        refine Ta_isMain_c W107 T18  ?_ (fun r19 q21 => ?_)
        · exact ⟨i107.1.2.1.1.1, i107.1.2.1.1.2.1⟩  -- p16
        intro W22
        intro M23
        refine ⟨fun c24 => ?_, fun c24 => ?_⟩
        · skip
          intro x25 hx25
          refine ⟨_, ?_, rfl, ?_⟩
          · rw [hn107, hx25, e1]; omega  -- d17
          · exact ⟨rfl, i107.1, by rw [hx25, e1]; omega⟩  -- i18
        · skip
          refine ⟨?_, ?_⟩
          · have L := i107.1.2.1.2.1.1.2.2.2.2.1
            rw [inb_iff]; omega
          refine ⟨fun c26 => ?_, fun c26 => ?_⟩
          · skip
            intro x27 hx27
            refine ⟨_, ?_, rfl, ?_⟩
            · rw [hn107, hx27, e1]; omega  -- d20
            · exact ⟨rfl, i107.1, by rw [hx27, e1]; omega⟩  -- i21
          · skip
            intro κ_28 hκ_28
            have S29 := paS_N i107.1 (paN_m W22 (paS_t i107.1 Ta0) i107.1.2.1 hκ_28)
            intro W30
            intro x31 hx31
            refine ⟨_, ?_, rfl, ?_⟩
            · rw [hn107, hx31, e1]; omega  -- d22
            · exact ⟨rfl, S29, by rw [hx31, e1]; omega⟩  -- i23
  · skip
    intro T32
    have l0 := i2.2
    have sb := i2.1.2.1.2.1.2.2.2.2.2.1
    rw [lei] at c15
    have l1 : x2_1.toInt < 150 := by omega
    have e1 : (x2_1 + 1).toInt = x2_1.toInt + 1 := by rw [add_i (by rw [t1i]; omega) (by rw [t1i]; omega), t1i]
    refine Co_column_c W2 T32  ?_ (fun r33 q35 => ?_)
    · exact ⟨i2.1.2.1.2.1, by decide, by decide⟩  -- p24
    intro W36
    intro M37
    refine ⟨fun c38 => ?_, fun c38 => ?_⟩
    · skip
      intro x39 hx39
      refine ⟨_, ?_, rfl, ?_⟩
      · rw [hn2, hx39, e1]; omega  -- d25
      · exact ⟨rfl, i2.1, by rw [hx39, e1]; omega⟩  -- i26
    · skip
      intro T40
      refine Co_column_c W36 T40  ?_ (fun r41 q43 => ?_)
      · exact ⟨i2.1.2.1.2.1, by decide, by decide⟩  -- p27
      intro W44
      intro M45
      intro T46
      intro T47
      refine Ta_findName_c W44 T46 T47  ?_ (fun r48 q50 => ?_)
      · exact ⟨i2.1.2.1.1.1, i2.1.2.1.1.2.1⟩  -- p28
      intro W51
      intro M52
      refine ⟨fun c53 => ?_, fun c53 => ?_⟩
      · skip
        refine hj82 _ _ _ _ _ W51 ?_ ?_
        · exact paS_t i2.1 Ta0  -- t29
        · exact ⟨rfl, i2.1⟩  -- k30
      · skip
        refine ⟨?_, ?_⟩
        · have L1 := i2.1.2.1.2.2.1.2.2.1
          have L2 := i2.1.2.1.2.1.1.2.2.2.2.1
          have n1 : r48.toInt ≠ -1 := fun e => c53 (Int32.toInt_inj.mp (e.trans tmi.symm))
          obtain ⟨u1, u2, -⟩ := q50
          rw [inb_iff]; omega
        intro T54
        refine Co_column_c W51 T54  ?_ (fun r55 q57 => ?_)
        · exact ⟨i2.1.2.1.2.1, by decide, by decide⟩  -- p32
        intro W58
        intro M59
        refine ⟨fun c60 => ?_, fun c60 => ?_⟩
        · skip
          refine hj89 _ _ _ _ W58 ?_ ?_
          · exact paS_t i2.1 Ta0  -- t33
          · exact ⟨rfl, i2.1, rfl, l1⟩  -- k34
        · skip
          refine hj82 _ _ _ _ _ W58 ?_ ?_
          · exact paS_t i2.1 Ta0  -- t35
          · exact ⟨rfl, i2.1⟩  -- k36

end
section
set_option maxHeartbeats 1600000
/-! the class: Parser: read -/
/-- between two texts: the tape, a code to fill, the parser's own rows -/
def paZ (κ : zS) (p c : Nat) : Prop := (taI κ (zR κ paTape p) ∧ tokI κ (zR κ paTape p)) ∧ coI κ c ∧ paL κ p ∧ paC κ p
def rdF (κ τ : zS) (p c : Nat) : Prop := zF (fun _ a => a = p ∨ a = zR κ paTape p ∨ a = c) κ τ ∧ zR τ paTape p = zR κ paTape p ∧ zR τ paCode p = c ∧ zI τ taLength (zR κ paTape p) = zI κ taLength (zR κ paTape p)
def rdJ (κ τ : zS) (p c : Nat) : Prop := rdF κ τ p c ∧ paA τ p
def rdX (κ : zS) (cls : String) (κ' : zS) (p c : Nat) : Prop := cls = "java/lang/IllegalStateException" ∧ ∃ τ, κ' = ut τ ∧ rdF κ τ p c ∧ paI τ p
theorem rd_F {C : zC} {n0 p c : Nat} {κ τ σ : zS} (W : zW C n0 τ) (T : zT τ p = 10) (J : rdF κ τ p c) (F : paF τ σ p) : rdF κ σ p c := by
  obtain ⟨Z, a, b, l⟩ := J
  refine ⟨Z.tr (F.1.mono (fun _ x e => ?_)), F.2.1.trans a, F.2.2.trans b, ?_⟩
  · rcases e with e | e
    · exact Or.inl e
    · exact Or.inr (Or.inr (e.trans b))
  · have n := pa_ne W T
    have z : zI σ taLength (zR τ paTape p) = zI τ taLength (zR τ paTape p) := F.1.i (fun e => by
      rcases e with e | e
      · exact n.1 e
      · exact n.2.2 e)
    rw [a] at z
    exact z.trans l
theorem rd_S {C : zC} {n0 p c : Nat} {κ τ σ : zS} (W : zW C n0 τ) (T : zT τ p = 10) (J : rdJ κ τ p c) (S : paS τ σ p) : rdJ κ σ p c := ⟨rd_F W T J.1 S.1, S.2⟩
theorem rd_X {C : zC} {n0 p c : Nat} {κ τ κ' : zS} {cls : String} (W : zW C n0 τ) (T : zT τ p = 10) (J : rdJ κ τ p c) (x : paX τ cls κ' p) : rdX κ cls κ' p c := by
  obtain ⟨e, σ, e1, F, I⟩ := x
  exact ⟨e, σ, e1, rd_F W T J.1 F, I⟩
/-- what stands when the first token is to be taken -/
theorem rd_0 {C : zC} {n0 p c : Nat} {κ κ1 κ4 κ8 κ11 κ13 κ15 κ17 κ19 : zS} (W : zW C n0 κ) (W1 : zW C n0 κ1) (W4 : zW C n0 κ4) (W8 : zW C n0 κ8) (W15 : zW C n0 κ15) (W17 : zW C n0 κ17) (T : zT κ p = 10) (Tc : zT κ c = 5) (H : paZ κ p c)
    (q1 : zF (objF (zR κ paTape p)) κ κ1 ∧ taI κ1 (zR κ paTape p) ∧ tokI κ1 (zR κ paTape p) ∧ (zI κ1 taTotal (zR κ paTape p)).toInt ≤ 10242 ∧ zR κ1 taBytes (zR κ paTape p) = zR κ taBytes (zR κ paTape p) ∧ zI κ1 taLength (zR κ paTape p) = zI κ taLength (zR κ paTape p))
    (e4 : κ4 = ur κ1 paCode p c) (q8 : zF (objF (zR κ4 paCode p)) κ4 κ8 ∧ coI κ8 (zR κ4 paCode p) ∧ zR κ8 = zR κ4 ∧ (zI κ8 coVars (zR κ4 paCode p)).toInt = 0 ∧ (zI κ8 coArrays (zR κ4 paCode p)).toInt = 0 ∧ (zI κ8 coCells (zR κ4 paCode p)).toInt = 0 ∧ (zI κ8 coFunctions (zR κ4 paCode p)).toInt = 0 ∧ (zI κ8 coStatements (zR κ4 paCode p)).toInt = 0 ∧ (zI κ8 coLength (zR κ4 paCode p)).toInt = 0 ∧ (zI κ8 coMain (zR κ4 paCode p)).toInt = -1)
    (e11 : κ11 = ui κ8 paAt p (-1)) (e13 : κ13 = ui κ11 paOpen p 0) (e15 : κ15 = ui κ13 paInside p 0) (e17 : κ17 = ui κ15 paOwns p 0) (e19 : κ19 = ui κ17 paBlocks p 0) : rdF κ κ19 p c ∧ paI κ19 p ∧ (zI κ19 paAt p).toInt = -1 ∧ 0 ≤ (zI κ19 taTotal (zR κ19 paTape p)).toInt ∧ (zI κ19 coLength (zR κ19 paCode p)).toInt = 0 := by
  have n := pa_ne W T
  have Tt := ty_paTape W T
  have ntc : zR κ paTape p ≠ c := fun e => by rw [e, Tc] at Tt; exact absurd Tt (by decide)
  have npc : p ≠ c := fun e => by rw [e, Tc] at T; exact absurd T (by decide)
  have Z1 := q1.1
  have p1 : ∀ f, zR κ1 f p = zR κ f p := fun f => Z1.r (fun e => n.1 e.symm)
  have i1 : ∀ f, zI κ1 f p = zI κ f p := fun f => Z1.i (fun e => n.1 e.symm)
  have Z4 : zF (fun _ a => a = p) κ1 κ4 := by rw [e4]; exact zF_ur rfl (show zr paCode = some 5 by decide +kernel) (by decide)
  have r4 : zR κ4 paCode p = c := by rw [e4]; exact if_pos ⟨rfl, rfl⟩
  have r4o : ∀ f, f ≠ paCode → zR κ4 f p = zR κ1 f p := fun f hf => by rw [e4]; exact if_neg (fun z => hf z.1)
  rw [r4] at q8
  obtain ⟨Z8, C8, R8, -, -, -, -, -, L8, -⟩ := q8
  have T1 := Z1.t T (by decide)
  have T4 := Z4.t T1 (by decide)
  have T8 := Z8.t T4 (by decide)
  have Tt4 := Z4.t (Z1.t Tt (by decide)) (by decide)
  have rt : zR κ8 paTape p = zR κ paTape p := by rw [R8, r4o paTape (by decide), p1]
  have rc : zR κ8 paCode p = c := by rw [R8]; exact r4
  have a4 : taI κ4 (zR κ paTape p) := taI_zF Z4 W1 (Z1.t Tt (by decide)) (fun f e => n.1 e) q1.2.1
  have b4 : tokI κ4 (zR κ paTape p) := tokI_zF Z4 W1 (Z1.t Tt (by decide)) (fun f e => n.1 e) q1.2.2.1
  have a8 : taI κ8 (zR κ paTape p) := taI_zF Z8 W4 Tt4 (fun f e => ntc e) a4
  have b8 : tokI κ8 (zR κ paTape p) := tokI_zF Z8 W4 Tt4 (fun f e => ntc e) b4
  have t8 : ∀ f, zI κ8 f (zR κ paTape p) = zI κ1 f (zR κ paTape p) := fun f => (Z8.i (fun e => ntc e)).trans (Z4.i (fun e => n.1 e))
  have ip : ∀ f, zI κ8 f p = zI κ f p := fun f => ((Z8.i (fun e => npc e)).trans (by rw [e4]; rfl)).trans (i1 f)
  have ZZ : zF (fun _ a => a = p ∨ a = zR κ paTape p ∨ a = c) κ κ8 := ((Z1.mono (fun _ _ e => Or.inr (Or.inl e))).tr (Z4.mono (fun _ _ e => Or.inl e))).tr (Z8.mono (fun _ _ e => Or.inr (Or.inr e)))
  have nn : ∀ f, f ≠ paCode → ∀ d, zT κ (zR κ f p) = d + 1 → zN κ8 (zR κ8 f p) = zN κ (zR κ f p) := fun f hf d hd => by
    rw [R8, r4o f hf, p1]
    exact ZZ.l hd
  have I8 : paI κ8 p := by
    refine ⟨?_, ?_, ?_, ?_⟩
    · rw [rt, t8 taTotal]
      exact ⟨a8, b8, q1.2.2.2.1⟩
    · rw [rc]; exact C8
    · unfold paL
      rw [nn paVarNames (by decide) _ (ty_paVarNames W T), nn paArrayNames (by decide) _ (ty_paArrayNames W T), nn paFunctionNames (by decide) _ (ty_paFunctionNames W T), nn paOwnNames (by decide) _ (ty_paOwnNames W T), nn paOwners (by decide) _ (ty_paOwners W T), nn paLasts (by decide) _ (ty_paLasts W T), nn paElses (by decide) _ (ty_paElses W T)]
      exact H.2.2.1
    · unfold paC
      rw [nn paWaiting (by decide) _ (ty_paWaiting W T), ip paOwns, ip paBlocks, ip paWaits]
      exact H.2.2.2
  have O : paO κ8 κ15 p := ((paO_ui e11 (by decide)).tr (paO_ui e13 (by decide))).tr (paO_ui e15 (by decide))
  obtain ⟨I15, F15, c15, t15⟩ := paO_p W8 T8 O I8
  have T15 := F15.1.t T8 (by decide)
  have N17 := paN_u W15 T15 I15 e17 (Or.inl ⟨rfl, by decide, by decide⟩)
  have T17 := N17.1.1.t T15 (by decide)
  have N19 := paN_u W17 T17 N17.2.1 e19 (Or.inr (Or.inl ⟨rfl, by decide, by decide⟩))
  have N := N17.tr N19
  have J8 : rdF κ κ8 p c := ⟨ZZ, rt, rc, (t8 taLength).trans q1.2.2.2.2.2⟩
  have J15 := rd_F W8 T8 J8 F15
  have at15 : zI κ15 paAt p = -1 := by
    rw [e15, e13]
    show zI κ11 paAt p = _
    rw [e11]
    exact if_pos ⟨rfl, rfl⟩
  refine ⟨rd_F W15 T15 J15 N.1, N.2.1, by rw [N.2.2.1.1, at15]; rfl, ?_, ?_⟩
  · exact N.2.1.1.1.2.1
  · rw [N.2.2.2.1, F15.2.2, c15, rc, L8]
theorem rd_c {C : zC} {n0 p c : Nat} {κ κ1 κ4 : zS} (W : zW C n0 κ) (W1 : zW C n0 κ1) (T : zT κ p = 10) (Tc : zT κ c = 5) (H : coI κ c) (q : zF (objF (zR κ paTape p)) κ κ1) (e4 : κ4 = ur κ1 paCode p c) : coI κ4 (zR κ4 paCode p) := by
  have Tt := ty_paTape W T
  have ntc : c ≠ zR κ paTape p := fun e => by rw [← e, Tc] at Tt; exact absurd Tt (by decide)
  have npc : c ≠ p := fun e => by rw [e, T] at Tc; exact absurd Tc (by decide)
  have Z4 : zF (fun _ a => a = p) κ1 κ4 := by rw [e4]; exact zF_ur rfl (show zr paCode = some 5 by decide +kernel) (by decide)
  have r4 : zR κ4 paCode p = c := by rw [e4]; exact if_pos ⟨rfl, rfl⟩
  rw [r4]
  exact coI_zF Z4 W1 (q.t Tc (by decide)) (fun f e => npc e) (coI_zF q W Tc (fun f e => ntc e) H)
theorem Pa_read_c {C : zC} {n0 : Nat} {a0 : Nat} {a1 : Nat} {κ : zS} {Q : zS → Prop} {X : zXp} (W : zW C n0 κ) (Ta0 : zT κ a0 = 10) (Ta1 : zT κ a1 = 5)  (hp : paZ κ a0 a1 ∧ (zI κ taLength (zR κ paTape a0)).toInt ≤ 10240) (h : ∀ (κ' : zS), (rdF κ κ' a0 a1 ∧ paI κ' a0) → Q κ') (hx : ∀ (cls : String) (κ' : zS), (rdX κ cls κ' a0 a1) → X cls κ') : zRun C 14 mPa_read [.ref a0, .ref a1] κ (oV Q X) := by
  refine Pa_read_run W Ta0 Ta1 ?_
  replace W := W.lo (Nat.le_trans W.1.2.1 W.1.2.2) (Nat.le_refl (zn κ))
  unfold w_Pa_read_0
  have hj122 : ∀ (l0 : Nat) (τ : zS), zW C (zn κ) τ → zT τ l0 = 10 → (a0 = l0 ∧ rdJ κ τ a0 a1) → w_Pa_read_122 C (zn κ) Q X  l0 τ := by
    rintro _ τ122 W122 T122_0 ⟨rfl, j122⟩
    unfold w_Pa_read_122
    intro T1
    refine Pa_findCalled_c W122 T1  ?_ (fun κ_2 q3 => ?_) (fun cls9 κ9 q9 => hx _ _ ?_)
    · exact j122.2  -- p1
    rotate_left
    · exact rd_X W122 T122_0 j122 q9  -- x2
    intro W4
    intro M5
    intro T6
    have J := rd_S W122 T122_0 j122 q3
    have T2 := q3.1.1.t T122_0 (by decide)
    refine Co_linkFollows_c W4 T6  ?_ (fun κ_7 q8 => ?_)
    · exact J.2.1.2.1  -- p3
    intro W9
    intro M10
    refine h _ ?_
    · have N := (paN_c W4 T2 J.2.1 (q8.1.mono (fun _ _ z => z.2)) q8.2.1 (by rw [q8.2.2])).1
      exact ⟨rd_F W4 T2 J.1 N.1, N.2.1⟩
  intro T11
  refine Ta_split_c W T11  ?_ (fun κ_12 q13 => ?_)
  · exact ⟨hp.1.1.1, hp.1.1.2, hp.2⟩  -- p5
  intro W14
  intro M15
  intro κ_16 hκ_16
  intro W17
  intro T18
  refine Co_clear_c W17 T18  ?_ (fun κ_19 q20 => ?_)
  · exact rd_c W W14 Ta0 Ta1 hp.1.2.1 q13.1 hκ_16  -- p6
  intro W21
  intro M22
  intro κ_23 hκ_23
  intro W24
  intro κ_25 hκ_25
  intro W26
  intro κ_27 hκ_27
  intro W28
  intro κ_29 hκ_29
  intro W30
  intro κ_31 hκ_31
  intro W32
  intro T33
  obtain ⟨R1, R2, R3, R4, R5⟩ := rd_0 W W14 W17 W21 W28 W30 Ta0 Ta1 hp.1 q13 hκ_16 q20 hκ_23 hκ_25 hκ_27 hκ_29 hκ_31
  refine Pa_take_c W32 T33  ?_ (fun κ_34 q35 => ?_)
  · exact ⟨R2, by omega, by omega⟩  -- p7
  intro W36
  intro M37
  unfold w_Pa_read_50
  refine ⟨fun n l0 l2 τ => n = (10244 - l2.toInt).toNat ∧ (a0 = l0 ∧ rdJ κ τ a0 a1 ∧ 0 ≤ l2.toInt), ⟨_, rfl, ?_⟩, ?_⟩
  · obtain ⟨I, F, c, t⟩ := paO_p W32 T33 q35.1 R2
    refine ⟨rfl, ⟨rd_F W32 T33 R1 F, I, q35.2.1, ?_⟩, by decide⟩
    unfold psi
    rw [q35.2.2, R3, F.2.2, c, R5]
    decide
  rintro n50 _ x50_2 κ50 W50 T50_0 ⟨hn50, rfl, i50⟩
  have hj78 : ∀ (l0 : Nat) (l2 : Int32) (τ : zS), zW C (zn κ) τ → zT τ l0 = 10 → (a0 = l0 ∧ rdJ κ τ a0 a1 ∧ l2 = x50_2 ∧ l2.toInt ≤ 10242) → w_Pa_read_78 C (zn κ) Q X (fun (l0' : Nat) (l2' : Int32) (τ : zS) => ∃ k < n50, (fun (n : Nat) (l0 : Nat) (l2 : Int32) (τ : zS) => n = (10244 - l2.toInt).toNat ∧ (a0 = l0 ∧ rdJ κ τ a0 a1 ∧ 0 ≤ l2.toInt)) k l0' l2' τ) l0 l2 τ := by
    rintro _ y78_2 τ78 W78 T78_0 ⟨rfl, j78⟩
    unfold w_Pa_read_78
    have e3 := j78.2.1
    have l3 := j78.2.2
    have l0 := i50.2
    have e1 : (y78_2 + 1).toInt = y78_2.toInt + 1 := by rw [add_i (by rw [t1i, e3]; omega) (by rw [t1i]; omega), t1i]
    refine ⟨fun c38 => ?_, fun c38 => ?_⟩
    · skip
      refine ⟨fun c39 => ?_, fun c39 => ?_⟩
      · skip
        intro T40
        refine Pa_addStatement_c W78 T40  ?_ (fun r41 κ_42 q43 => ?_) (fun cls9 κ9 q9 => hx _ _ ?_)
        · exact j78.1.2  -- p9
        rotate_left
        · exact rd_X W78 T78_0 j78.1 q9  -- x10
        intro W44
        intro M45
        intro T46
        have J2 := rd_S W78 T78_0 j78.1 q43.1
        refine Pa_statement_c W44 T46  ?_ (fun κ_47 q48 => ?_) (fun cls9 κ9 q9 => hx _ _ ?_)
        · exact ⟨J2.2, by rw [q43.2.1]; exact q43.2.2⟩  -- p11
        rotate_left
        · exact rd_X W44 T46 J2 q9  -- x12
        intro W49
        intro M50
        intro x51 hx51
        refine ⟨_, ?_, rfl, ?_⟩
        · rw [hn50, hx51, e1, e3]; rw [e3] at l3; omega  -- d13
        · exact ⟨rfl, rd_S W44 T46 J2 q48, by rw [hx51, e1, e3]; omega⟩  -- i14
      · skip
        intro T52
        refine Pa_closeBlock_c W78 T52  ?_ (fun κ_53 q54 => ?_) (fun cls9 κ9 q9 => hx _ _ ?_)
        · exact j78.1.2  -- p15
        rotate_left
        · exact rd_X W78 T78_0 j78.1 q9  -- x16
        intro W55
        intro M56
        intro x57 hx57
        refine ⟨_, ?_, rfl, ?_⟩
        · rw [hn50, hx57, e1, e3]; rw [e3] at l3; omega  -- d17
        · exact ⟨rfl, rd_S W78 T78_0 j78.1 q54, by rw [hx57, e1, e3]; omega⟩  -- i18
    · skip
      intro T58
      refine Pa_item_c W78 T58  ?_ (fun κ_59 q60 => ?_) (fun cls9 κ9 q9 => hx _ _ ?_)
      · exact j78.1.2  -- p19
      rotate_left
      · exact rd_X W78 T78_0 j78.1 q9  -- x20
      intro W61
      intro M62
      intro x63 hx63
      refine ⟨_, ?_, rfl, ?_⟩
      · rw [hn50, hx63, e1, e3]; rw [e3] at l3; omega  -- d21
      · exact ⟨rfl, rd_S W78 T78_0 j78.1 q60, by rw [hx63, e1, e3]; omega⟩  -- i22
  refine ⟨fun c64 => ?_, fun c64 => ?_⟩
  · skip
    refine hj122 _ _ W50 ?_ ?_
    · exact T50_0  -- t23
    · exact ⟨rfl, i50.1⟩  -- k24
  · skip
    have l2 : x50_2.toInt ≤ 10242 := by
      rw [lti] at c64
      have tb := i50.1.2.1.1.2.2
      omega
    refine ⟨fun c65 => ?_, fun c65 => ?_⟩
    · skip
      refine hj78 _ _ _ W50 ?_ ?_
      · exact T50_0  -- t25
      · exact ⟨rfl, i50.1, rfl, l2⟩  -- k26
    · skip
      refine ⟨fun c66 => ?_, fun c66 => ?_⟩
      · skip
        refine hj122 _ _ W50 ?_ ?_
        · exact T50_0  -- t27
        · exact ⟨rfl, i50.1⟩  -- k28
      · skip
        refine hj78 _ _ _ W50 ?_ ?_
        · exact T50_0  -- t29
        · exact ⟨rfl, i50.1, rfl, l2⟩  -- k30

end
