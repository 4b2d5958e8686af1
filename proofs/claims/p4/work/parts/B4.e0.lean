set_option maxHeartbeats 1600000
/-! the class: Code -/
theorem wS_dbl {f n o : Nat} (h0 : f ≠ 0) (h1 : f ≠ 605) (h2 : f ≠ 800) (hc : cap9 f = 0) (h : 2 * o ≤ n) (h4 : 4 ≤ o) : n + wS f o ≤ wS f n ∧ 4 + wC f o ≤ wC f n := by
  unfold wS wC
  rw [if_neg h0, if_neg h1, if_neg h2, if_neg h0, if_neg h1, if_neg h2, if_neg h0, if_neg h1, if_neg h2, if_neg h0, if_neg h1, if_neg h2, hc, if_neg (by omega), if_neg (by omega), if_neg (by omega), if_neg (by omega)]
  omega
/-- a field gets a row of twice the length -/
theorem gr_f {C : zC} {n0 f c s t n : Nat} {κ κ1 κ2 : zS} (W : zW C n0 κ) (hr : zr f = some t) (ht : 20 ≤ t) (T : zT κ c = f / 100) (hw : f ≠ 0 ∧ f ≠ 605 ∧ f ≠ 800 ∧ cap9 f = 0) (q : cpR κ κ1 s t n) (e : κ2 = uo κ1 f c (zn κ)) (h2 : 2 * zN κ (zR κ f c) ≤ n) (h4 : 4 ≤ zN κ (zR κ f c)) : zF (fun g b => g = f ∧ b = c) κ κ2 ∧ zI κ2 = zI κ ∧ (∀ g b, ¬ (g = f ∧ b = c) → zR κ2 g b = zR κ g b) ∧ zR κ2 f c = zn κ ∧ zN κ2 (zn κ) = n ∧ (∀ x d, zT κ x = d + 1 → zN κ2 x = zN κ x ∧ zA κ2 x = zA κ x) ∧ (∀ i, i < n → i < zN κ s → zA κ2 (zn κ) i = zA κ s i) ∧ ∀ i, zN κ s ≤ i → zA κ2 (zn κ) i = 0 := by
  have w := wS_dbl hw.1 hw.2.1 hw.2.2.1 hw.2.2.2 h2 h4
  have F : zF (fun g b => g = f ∧ b = c) κ κ2 := zF_uo W hr ht T ht ⟨rfl, rfl⟩ q.1 e w.1 w.2
  obtain ⟨⟨g1, g2, g3, g4, g5, g6, -⟩, k1, k2, k3⟩ := q
  refine ⟨F, by rw [e]; exact g3, fun g b h => by rw [e]; exact (if_neg h).trans (congrFun (congrFun g4 g) b), by rw [e]; exact if_pos ⟨rfl, rfl⟩, ?_, fun x d hx => ⟨F.l hx, ?_⟩, fun i h1 h3 => ?_, fun i h1 => ?_⟩
  · rw [e]
    show zN κ1 (zn κ) = n
    rw [g2]; exact if_pos rfl
  · rw [e]; exact (g5 x (W.nw hx)).1
  · rw [e]; exact k2 i h1 h3
  · rw [e]; exact k3 i h1
theorem coRf_w : ∀ f, f ∈ [501, 500, 502, 503, 504, 505, 506, 507, 508] → f ≠ 0 ∧ f ≠ 605 ∧ f ≠ 800 ∧ cap9 f = 0 := by decide
def coI (κ : zS) (c : Nat) : Prop := ((zN κ (zR κ coVarStarts c)) = 10 ∧ (zN κ (zR κ coArrayBases c)) = 3 ∧ (zN κ (zR κ coArraySizes c)) = 3 ∧ (zN κ (zR κ coFirstStatements c)) = 10 ∧ (zN κ (zR κ coNameCounts c)) = 10 ∧ (zN κ (zR κ coOwnCounts c)) = 10) ∧ (0 ≤ (zI κ coVars c).toInt ∧ (zI κ coVars c).toInt ≤ 10) ∧ (0 ≤ (zI κ coArrays c).toInt ∧ (zI κ coArrays c).toInt ≤ 3) ∧ (0 ≤ (zI κ coCells c).toInt ∧ (zI κ coCells c).toInt ≤ 8 * (zI κ coArrays c).toInt) ∧ (0 ≤ (zI κ coFunctions c).toInt ∧ (zI κ coFunctions c).toInt ≤ 10) ∧ (0 ≤ (zI κ coStatements c).toInt ∧ (zI κ coStatements c).toInt ≤ 150) ∧ (11 * (zI κ coStatements c).toInt ≤ (zN κ (zR κ coRows c)) ∧ 88 ≤ (zN κ (zR κ coRows c)) ∧ (zN κ (zR κ coRows c)) ≤ 3322) ∧ (0 ≤ (zI κ coLength c).toInt ∧ (zI κ coLength c).toInt ≤ (zN κ (zR κ coOps c)) ∧ (zN κ (zR κ coArgs c)) = (zN κ (zR κ coOps c)) ∧ 64 ≤ (zN κ (zR κ coOps c)) ∧ (zN κ (zR κ coOps c)) ≤ 41000) ∧ ∀ i, i < 3 → 0 ≤ (zA κ (zR κ coArrayBases c) i).toInt ∧ 0 ≤ (zA κ (zR κ coArraySizes c) i).toInt ∧ (zA κ (zR κ coArrayBases c) i).toInt + (zA κ (zR κ coArraySizes c) i).toInt ≤ 24
abbrev coRf : List Nat := [coVarStarts, coArrayBases, coArraySizes, coFirstStatements, coNameCounts, coOwnCounts, coRows, coOps, coArgs]
abbrev coIf : List Nat := [coVars, coArrays, coCells, coFunctions, coStatements, coLength]
/-- numbers and rows that coI speaks of are the same -/
theorem coI_g {κ κ' : zS} {c : Nat} (H : coI κ c) (hi : ∀ f, f ∈ coIf → zI κ' f c = zI κ f c) (hr : ∀ f, f ∈ coRf → zR κ' f c = zR κ f c) (hn : ∀ f, f ∈ coRf → zN κ' (zR κ f c) = zN κ (zR κ f c)) (ha : ∀ f, f = coArrayBases ∨ f = coArraySizes → zA κ' (zR κ f c) = zA κ (zR κ f c)) : coI κ' c := by
  unfold coI at *
  rw [hr coVarStarts (by decide), hr coArrayBases (by decide), hr coArraySizes (by decide), hr coFirstStatements (by decide), hr coNameCounts (by decide), hr coOwnCounts (by decide), hr coRows (by decide), hr coOps (by decide), hr coArgs (by decide)]
  rw [hn coVarStarts (by decide), hn coArrayBases (by decide), hn coArraySizes (by decide), hn coFirstStatements (by decide), hn coNameCounts (by decide), hn coOwnCounts (by decide), hn coRows (by decide), hn coOps (by decide), hn coArgs (by decide)]
  rw [hi coVars (by decide), hi coArrays (by decide), hi coCells (by decide), hi coFunctions (by decide), hi coStatements (by decide), hi coLength (by decide), ha coArrayBases (Or.inl rfl), ha coArraySizes (Or.inr rfl)]
  exact H
theorem coRf_r : ∀ f, f ∈ coRf → zr f = some 20 ∧ f / 100 = 5 := by decide +kernel
theorem coRf_n {C : zC} {n0 c f g : Nat} {κ : zS} (W : zW C n0 κ) (T : zT κ c = 5) (hf : f ∈ coRf) (hg : g ∈ coRf) (h : f ≠ g) : zR κ f c ≠ zR κ g c := ow_ne W (coRf_r f hf).1 (by decide) (T.trans (coRf_r f hf).2.symm) (coRf_r g hg).1 (by decide) (T.trans (coRf_r g hg).2.symm) h
theorem coRf_t {C : zC} {n0 c f : Nat} {κ : zS} (W : zW C n0 κ) (T : zT κ c = 5) (hf : f ∈ coRf) : zT κ (zR κ f c) = 20 := W.r (coRf_r f hf).1 (T.trans (coRf_r f hf).2.symm)
theorem coRf_o {C : zC} {n0 c f : Nat} {κ : zS} (W : zW C n0 κ) (T : zT κ c = 5) (hf : f ∈ coRf) : zO κ (zR κ f c) = (f, c) := W.o (coRf_r f hf).1 (by decide) (T.trans (coRf_r f hf).2.symm)
/-- one field of one object -/
abbrev oneF (f a : Nat) : Nat → Nat → Prop := fun g b => g = f ∧ b = a
/-- any fields of one object -/
abbrev objF (a : Nat) : Nat → Nat → Prop := fun _ b => b = a
theorem col_i {x y : Int32} (h0 : 0 ≤ x.toInt) (h1 : x.toInt < 150) (h2 : 0 ≤ y.toInt) (h3 : y.toInt < 11) : (x * 11 + y).toInt = 11 * x.toInt + y.toInt := by
  have e : (11 : Int32).toInt = 11 := rfl
  have m : (x * 11).toInt = x.toInt * 11 := by rw [mul_i (by rw [e]; omega) (by rw [e]; omega), e]
  rw [add_i (by rw [m]; omega) (by rw [m]; omega), m]
  omega
theorem Co_shared_c {C : zC} {n0 : Nat} {a0 : Nat} {κ : zS} {Q : Int32 → zS → Prop} (W : zW C n0 κ) (Ta0 : zT κ a0 = 5)  (hp : coI κ a0) (h : ∀ (v : Int32), (v.toInt = (zI κ coVars a0).toInt + (zI κ coCells a0).toInt) → Q v κ) : zRun C 0 mCo_shared [.ref a0] κ (oI Q noX) := by
  refine Co_shared_run W Ta0 ?_
  replace W := W.lo (Nat.le_trans W.1.2.1 W.1.2.2) (Nat.le_refl (zn κ))
  unfold w_Co_shared_0
  obtain ⟨-, hv, ha, hc, -⟩ := hp
  refine h _ ?_
  · exact add_i (by omega) (by omega)  -- q1

theorem Co_isShared_c {C : zC} {n0 : Nat} {a0 : Nat} {a1 : Int32} {κ : zS} {Q : Int32 → zS → Prop} (W : zW C n0 κ) (Ta0 : zT κ a0 = 5)  (hp : coI κ a0) (h : ∀ (v : Int32), (nb v ∧ (v ≠ 0 → 0 ≤ a1.toInt ∧ a1.toInt < (zI κ coVars a0).toInt + (zI κ coCells a0).toInt)) → Q v κ) : zRun C 0 mCo_isShared [.ref a0, .int a1] κ (oI Q noX) := by
  refine Co_isShared_run W Ta0 ?_
  replace W := W.lo (Nat.le_trans W.1.2.1 W.1.2.2) (Nat.le_refl (zn κ))
  unfold w_Co_isShared_0
  obtain ⟨-, hv, ha, hc, -⟩ := hp
  have e : (zI κ coVars a0 + zI κ coCells a0).toInt = (zI κ coVars a0).toInt + (zI κ coCells a0).toInt := add_i (by omega) (by omega)
  refine ⟨fun c1 => ?_, fun c1 => ?_⟩
  · skip
    refine h _ ?_
    · exact ⟨nb_0, fun h => absurd rfl h⟩  -- q1
  · skip
    refine ⟨fun c2 => ?_, fun c2 => ?_⟩
    · skip
      refine h _ ?_
      · exact ⟨nb_0, fun h => absurd rfl h⟩  -- q2
    · skip
      refine h _ ?_
      · refine ⟨nb_1, fun _ => ?_⟩
        rw [lti, t0i] at c1
        rw [lei, e] at c2
        omega

theorem Co_howMany_c {C : zC} {n0 : Nat} {a0 : Nat} {a1 : Int32} {κ : zS} {Q : Int32 → zS → Prop} (W : zW C n0 κ) (Ta0 : zT κ a0 = 5)  (h : ∀ (v : Int32), (True) → Q v κ) : zRun C 0 mCo_howMany [.ref a0, .int a1] κ (oI Q noX) := by
  refine Co_howMany_run W Ta0 ?_
  replace W := W.lo (Nat.le_trans W.1.2.1 W.1.2.2) (Nat.le_refl (zn κ))
  unfold w_Co_howMany_0
  refine ⟨fun c1 => ?_, fun c1 => ?_, fun c1 => ?_, fun c1 => ?_⟩
  · skip
    refine h _ ?_
    · trivial  -- q1
  · skip
    refine h _ ?_
    · trivial  -- q2
  · skip
    refine h _ ?_
    · trivial  -- q3
  · skip
    refine h _ ?_
    · trivial  -- q4

theorem Co_firstOf_c {C : zC} {n0 : Nat} {a0 : Nat} {a1 : Int32} {κ : zS} {Q : Int32 → zS → Prop} (W : zW C n0 κ) (Ta0 : zT κ a0 = 5)  (hp : coI κ a0) (h : ∀ (v : Int32), (True) → Q v κ) : zRun C 0 mCo_firstOf [.ref a0, .int a1] κ (oI Q noX) := by
  refine Co_firstOf_run W Ta0 ?_
  replace W := W.lo (Nat.le_trans W.1.2.1 W.1.2.2) (Nat.le_refl (zn κ))
  unfold w_Co_firstOf_0
  refine ⟨fun c1 => ?_, fun c1 => ?_⟩
  · skip
    refine h _ ?_
    · trivial  -- q1
  · skip
    refine ⟨fun c2 => ?_, fun c2 => ?_⟩
    · skip
      refine h _ ?_
      · trivial  -- q2
    · skip
      refine ⟨?_, ?_⟩
      · have e : (10 : Int32).toInt = 10 := rfl
        rw [inb_iff, hp.1.2.2.2.1]
        rw [lti, t0i] at c1
        rw [lei, e] at c2
        omega
      refine h _ ?_
      · trivial  -- q4

theorem Co_column_c {C : zC} {n0 : Nat} {a0 : Nat} {a1 : Int32} {a2 : Int32} {κ : zS} {Q : Int32 → zS → Prop} (W : zW C n0 κ) (Ta0 : zT κ a0 = 5)  (hp : coI κ a0 ∧ 0 ≤ a2.toInt ∧ a2.toInt < 11) (h : ∀ (v : Int32), (True) → Q v κ) : zRun C 0 mCo_column [.ref a0, .int a1, .int a2] κ (oI Q noX) := by
  refine Co_column_run W Ta0 ?_
  replace W := W.lo (Nat.le_trans W.1.2.1 W.1.2.2) (Nat.le_refl (zn κ))
  unfold w_Co_column_0
  obtain ⟨H, p0, p1⟩ := hp
  obtain ⟨-, -, -, -, -, hs, hrw, -⟩ := H
  refine ⟨fun c1 => ?_, fun c1 => ?_⟩
  · skip
    refine h _ ?_
    · trivial  -- q1
  · skip
    refine ⟨fun c2 => ?_, fun c2 => ?_⟩
    · skip
      refine h _ ?_
      · trivial  -- q2
    · skip
      refine ⟨?_, ?_⟩
      · rw [lti, t0i] at c1
        rw [lei] at c2
        rw [inb_iff, col_i (by omega) (by omega) p0 p1]
        omega
      refine h _ ?_
      · trivial  -- q4

theorem Co_setColumn_c {C : zC} {n0 : Nat} {a0 : Nat} {a1 : Int32} {a2 : Int32} {a3 : Int32} {κ : zS} {Q : zS → Prop} (W : zW C n0 κ) (Ta0 : zT κ a0 = 5)  (hp : coI κ a0 ∧ 0 ≤ a2.toInt ∧ a2.toInt < 11) (h : ∀ (κ' : zS), (zF (oneF coRows a0) κ κ' ∧ coI κ' a0 ∧ zI κ' = zI κ ∧ zR κ' = zR κ) → Q κ') : zRun C 0 mCo_setColumn [.ref a0, .int a1, .int a2, .int a3] κ (oV Q noX) := by
  refine Co_setColumn_run W Ta0 ?_
  replace W := W.lo (Nat.le_trans W.1.2.1 W.1.2.2) (Nat.le_refl (zn κ))
  unfold w_Co_setColumn_0
  obtain ⟨H, p0, p1⟩ := hp
  have H0 := H
  obtain ⟨-, -, -, -, -, hs, hrw, -⟩ := H
  refine ⟨fun c1 => ?_, fun c1 => ?_⟩
  · skip
    refine h _ ?_
    · exact ⟨zF.rf, H0, rfl, rfl⟩  -- q1
  · skip
    refine ⟨fun c2 => ?_, fun c2 => ?_⟩
    · skip
      refine h _ ?_
      · exact ⟨zF.rf, H0, rfl, rfl⟩  -- q2
    · skip
      refine ⟨?_, ?_⟩
      · rw [lti, t0i] at c1
        rw [lei] at c2
        rw [inb_iff, col_i (by omega) (by omega) p0 p1]
        omega
      intro κ_3 hκ_3
      intro W4
      refine h _ ?_
      · rw [hκ_3]
        refine ⟨zF_ua (by rw [coRf_o W Ta0 (by decide)]; exact ⟨rfl, rfl⟩), coI_g H0 (fun _ _ => rfl) (fun _ _ => rfl) (fun _ _ => rfl) (fun f hf => if_neg ?_), rfl, rfl⟩
        rcases hf with rfl | rfl
        · exact coRf_n W Ta0 (by decide) (by decide) (by decide)
        · exact coRf_n W Ta0 (by decide) (by decide) (by decide)

theorem Co_clear_c {C : zC} {n0 : Nat} {a0 : Nat} {κ : zS} {Q : zS → Prop} (W : zW C n0 κ) (Ta0 : zT κ a0 = 5)  (hp : coI κ a0) (h : ∀ (κ' : zS), (zF (objF a0) κ κ' ∧ coI κ' a0 ∧ zR κ' = zR κ ∧ (zI κ' coVars a0).toInt = 0 ∧ (zI κ' coArrays a0).toInt = 0 ∧ (zI κ' coCells a0).toInt = 0 ∧ (zI κ' coFunctions a0).toInt = 0 ∧ (zI κ' coStatements a0).toInt = 0 ∧ (zI κ' coLength a0).toInt = 0 ∧ (zI κ' coMain a0).toInt = -1) → Q κ') : zRun C 1 mCo_clear [.ref a0] κ (oV Q noX) := by
  refine Co_clear_run W Ta0 ?_
  replace W := W.lo (Nat.le_trans W.1.2.1 W.1.2.2) (Nat.le_refl (zn κ))
  unfold w_Co_clear_0
  intro κ_1 hκ_1
  intro W2
  intro κ_3 hκ_3
  intro W4
  intro κ_5 hκ_5
  intro W6
  intro κ_7 hκ_7
  intro W8
  intro κ_9 hκ_9
  intro W10
  intro κ_11 hκ_11
  intro W12
  intro κ_13 hκ_13
  intro W14
  intro T15
  refine Ar_fill_c W14 T15  (fun κ_16 q17 => ?_)
  intro W18
  intro M19
  refine h _ ?_
  · have f1 : zF (objF a0) κ κ_1 := by rw [hκ_1]; exact zF_ui rfl
    have f3 : zF (objF a0) κ_1 κ_3 := by rw [hκ_3]; exact zF_ui rfl
    have f5 : zF (objF a0) κ_3 κ_5 := by rw [hκ_5]; exact zF_ui rfl
    have f7 : zF (objF a0) κ_5 κ_7 := by rw [hκ_7]; exact zF_ui rfl
    have f9 : zF (objF a0) κ_7 κ_9 := by rw [hκ_9]; exact zF_ui rfl
    have f11 : zF (objF a0) κ_9 κ_11 := by rw [hκ_11]; exact zF_ui rfl
    have f13 : zF (objF a0) κ_11 κ_13 := by rw [hκ_13]; exact zF_ui rfl
    have F := (((((f1.tr f3).tr f5).tr f7).tr f9).tr f11).tr f13
    have T13 := F.t Ta0 (by decide)
    have F16 : zF (objF a0) κ_13 κ_16 := by rw [q17]; exact zF_uf (by rw [coRf_o W14 T13 (by decide)])
    have r13 : zR κ_13 = zR κ := by rw [hκ_13, hκ_11, hκ_9, hκ_7, hκ_5, hκ_3, hκ_1]; rfl
    have n13 : zN κ_13 = zN κ := by rw [hκ_13, hκ_11, hκ_9, hκ_7, hκ_5, hκ_3, hκ_1]; rfl
    have a13 : zA κ_13 = zA κ := by rw [hκ_13, hκ_11, hκ_9, hκ_7, hκ_5, hκ_3, hκ_1]; rfl
    have i16 : zI κ_16 = zI κ_13 := by rw [q17]; rfl
    have r16 : zR κ_16 = zR κ := by rw [q17]; exact r13
    have n16 : zN κ_16 = zN κ := by rw [q17]; exact n13
    have v1 : zI κ_13 coVars a0 = 0 := by
      have e : zI κ_13 coVars a0 = zI κ_1 coVars a0 := by rw [hκ_13, hκ_11, hκ_9, hκ_7, hκ_5, hκ_3]; rfl
      rw [e, hκ_1]; exact if_pos ⟨rfl, rfl⟩
    have v3 : zI κ_13 coArrays a0 = 0 := by
      have e : zI κ_13 coArrays a0 = zI κ_3 coArrays a0 := by rw [hκ_13, hκ_11, hκ_9, hκ_7, hκ_5]; rfl
      rw [e, hκ_3]; exact if_pos ⟨rfl, rfl⟩
    have v5 : zI κ_13 coCells a0 = 0 := by
      have e : zI κ_13 coCells a0 = zI κ_5 coCells a0 := by rw [hκ_13, hκ_11, hκ_9, hκ_7]; rfl
      rw [e, hκ_5]; exact if_pos ⟨rfl, rfl⟩
    have v7 : zI κ_13 coFunctions a0 = 0 := by
      have e : zI κ_13 coFunctions a0 = zI κ_7 coFunctions a0 := by rw [hκ_13, hκ_11, hκ_9]; rfl
      rw [e, hκ_7]; exact if_pos ⟨rfl, rfl⟩
    have v9 : zI κ_13 coStatements a0 = 0 := by
      have e : zI κ_13 coStatements a0 = zI κ_9 coStatements a0 := by rw [hκ_13, hκ_11]; rfl
      rw [e, hκ_9]; exact if_pos ⟨rfl, rfl⟩
    have v11 : zI κ_13 coMain a0 = (-1) := by
      have e : zI κ_13 coMain a0 = zI κ_11 coMain a0 := by rw [hκ_13]; rfl
      rw [e, hκ_11]; exact if_pos ⟨rfl, rfl⟩
    have v13 : zI κ_13 coLength a0 = 0 := by
      rw [hκ_13]; exact if_pos ⟨rfl, rfl⟩
    have a16 : ∀ f, f = coArrayBases ∨ f = coArraySizes → zA κ_16 (zR κ f a0) = zA κ (zR κ f a0) := fun f hf => by
      rw [q17, r13]
      refine (if_neg ?_).trans (by show zA κ_13 _ = _; rw [a13])
      rcases hf with rfl | rfl
      · exact coRf_n W Ta0 (by decide) (by decide) (by decide)
      · exact coRf_n W Ta0 (by decide) (by decide) (by decide)
    rw [i16, v1, v3, v5, v7, v9, v11, v13]
    refine ⟨F.tr F16, ?_, r16, rfl, rfl, rfl, rfl, rfl, rfl, rfl⟩
    unfold coI at *
    rw [r16, n16, i16, v1, v3, v5, v7, v9, v13, a16 coArrayBases (Or.inl rfl), a16 coArraySizes (Or.inr rfl)]
    obtain ⟨g1, g2, g3, g4, g5, g6, g7, g8, g9⟩ := hp
    exact ⟨g1, by decide, by decide, by decide, by decide, by decide, ⟨by show (11 : Int) * 0 ≤ _; omega, g7.2⟩, ⟨by decide, by show (0 : Int) ≤ _; omega, g8.2.2⟩, g9⟩

theorem pm_1 {x : Int32} : x + 1 - 1 = x := by grind
theorem Co_addStatement_c {C : zC} {n0 : Nat} {a0 : Nat} {κ : zS} {Q : Int32 → zS → Prop} (W : zW C n0 κ) (Ta0 : zT κ a0 = 5)  (hp : coI κ a0 ∧ (zI κ coStatements a0).toInt < 150) (h : ∀ (v : Int32) (κ' : zS), (zF (objF a0) κ κ' ∧ coI κ' a0 ∧ v = zI κ coStatements a0 ∧ zI κ' coStatements a0 = zI κ coStatements a0 + 1 ∧ (∀ f, f ≠ coStatements → zI κ' f a0 = zI κ f a0)) → Q v κ') : zRun C 2 mCo_addStatement [.ref a0] κ (oI Q noX) := by
  refine Co_addStatement_run W Ta0 ?_
  replace W := W.lo (Nat.le_trans W.1.2.1 W.1.2.2) (Nat.le_refl (zn κ))
  unfold w_Co_addStatement_0
  obtain ⟨H, p0⟩ := hp
  have H0 := H
  obtain ⟨h1, hv, ha, hc, hf, hs, hrw, ho, hb⟩ := H
  have e11 : (11 : Int32).toInt = 11 := rfl
  have e3 : (3 : Int32).toInt = 3 := rfl
  have e4 : (4 : Int32).toInt = 4 := rfl
  have hj37 : ∀ (l0 : Nat) (l1 : Int32) (τ : zS), zW C (zn κ) τ → zT τ l0 = 5 → (a0 = l0 ∧ zF (objF a0) κ τ ∧ zI τ = zI κ ∧ (∀ f, f ∈ coRf → f ≠ coRows → zR τ f a0 = zR κ f a0) ∧ l1.toInt = 11 * (zI κ coStatements a0).toInt ∧ (l1.toInt + 11 ≤ (zN τ (zR τ coRows a0)) ∧ 88 ≤ (zN τ (zR τ coRows a0)) ∧ (zN τ (zR τ coRows a0)) ≤ 3322) ∧ (∀ f, f = coArrayBases ∨ f = coArraySizes → zA τ (zR κ f a0) = zA κ (zR κ f a0))) → w_Co_addStatement_37 C (zn κ) Q  l0 l1 τ := by
    rintro _ y37_1 τ37 W37 T37_0 ⟨rfl, j37⟩
    unfold w_Co_addStatement_37
    intro T1
    obtain ⟨F, jI, jR, jl, jp, jA⟩ := j37
    have ea : (y37_1 + 11).toInt = y37_1.toInt + 11 := by rw [add_i (by rw [e11]; omega) (by rw [e11]; omega), e11]
    have k1 := cnk (x := y37_1) (by omega)
    have k11 := cnk (x := y37_1 + 11) (by omega)
    refine Ar_fill4_c W37 T1  ?_ (fun κ_2 q3 => ?_)
    · exact ⟨by rw [lei, t0i]; omega, by rw [lei, ea]; omega, by omega⟩  -- p1
    intro W4
    intro M5
    refine ⟨?_, ?_⟩
    · rw [q3, inb_iff, add_i (by rw [t1i]; omega) (by rw [t1i]; omega), t1i]
      show _ ∧ _ < ((zN τ37 (zR τ37 coRows a0) : Nat) : Int)
      omega
    intro κ_6 hκ_6
    intro W7
    refine ⟨?_, ?_⟩
    · rw [hκ_6, q3, inb_iff, add_i (by rw [e3]; omega) (by rw [e3]; omega), e3]
      show _ ∧ _ < ((zN τ37 (zR τ37 coRows a0) : Nat) : Int)
      omega
    intro κ_8 hκ_8
    intro W9
    refine ⟨?_, ?_⟩
    · rw [hκ_8, hκ_6, q3, inb_iff, add_i (by rw [e4]; omega) (by rw [e4]; omega), e4]
      show _ ∧ _ < ((zN τ37 (zR τ37 coRows a0) : Nat) : Int)
      omega
    intro κ_10 hκ_10
    intro W11
    intro κ_12 hκ_12
    intro W13
    refine h _ _ ?_
    · have f2 : zF (oneF coRows a0) τ37 κ_2 := by rw [q3]; exact zF_uf (by rw [coRf_o W37 T37_0 (by decide)]; exact ⟨rfl, rfl⟩)
      have T2 := f2.t T37_0 (by decide)
      have f6 : zF (oneF coRows a0) κ_2 κ_6 := by rw [hκ_6]; exact zF_ua (by rw [coRf_o W4 T2 (by decide)]; exact ⟨rfl, rfl⟩)
      have T6 := f6.t T2 (by decide)
      have f8 : zF (oneF coRows a0) κ_6 κ_8 := by rw [hκ_8]; exact zF_ua (by rw [coRf_o W7 T6 (by decide)]; exact ⟨rfl, rfl⟩)
      have T8 := f8.t T6 (by decide)
      have f10 : zF (oneF coRows a0) κ_8 κ_10 := by rw [hκ_10]; exact zF_ua (by rw [coRf_o W9 T8 (by decide)]; exact ⟨rfl, rfl⟩)
      have G := ((f2.tr f6).tr f8).tr f10
      have f12 : zF (objF a0) κ_10 κ_12 := by rw [hκ_12]; exact zF_ui rfl
      have FF : zF (objF a0) κ κ_12 := (F.tr (G.mono (fun _ _ z => z.2))).tr f12
      have i10 : zI κ_10 = zI κ := by rw [hκ_10, hκ_8, hκ_6, q3]; exact jI
      have r12 : zR κ_12 = zR τ37 := by rw [hκ_12, hκ_10, hκ_8, hκ_6, q3]; rfl
      have n12 : zN κ_12 = zN τ37 := by rw [hκ_12, hκ_10, hκ_8, hκ_6, q3]; rfl
      have a12 : zA κ_12 = zA κ_10 := by rw [hκ_12]; rfl
      have is : zI κ_12 coStatements a0 = zI κ coStatements a0 + 1 := by
        rw [hκ_12]
        refine (if_pos ⟨rfl, rfl⟩).trans ?_
        rw [i10]
      have io : ∀ f, f ≠ coStatements → zI κ_12 f a0 = zI κ f a0 := fun f hf => by
        rw [hκ_12]
        exact (if_neg (fun z => hf z.1)).trans (congrFun (congrFun i10 f) a0)
      have ts : (zI κ_12 coStatements a0).toInt = (zI κ coStatements a0).toInt + 1 := by rw [is, add_i (by rw [t1i]; omega) (by rw [t1i]; omega), t1i]
      have aa : ∀ f, f = coArrayBases ∨ f = coArraySizes → zA κ_12 (zR τ37 f a0) = zA κ (zR κ f a0) := fun f hf => by
        have m : f ∈ coRf ∧ f ≠ coRows := by rcases hf with rfl | rfl <;> decide
        have g := (G.2.1 (zR τ37 f a0) (by rw [coRf_t W37 T37_0 m.1]; decide) (by rw [coRf_o W37 T37_0 m.1]; exact fun z => m.2 z.1)).1
        rw [a12, g, jR f m.1 m.2]
        exact jA f hf
      have nn : ∀ f, f ∈ coRf → zN τ37 (zR κ f a0) = zN κ (zR κ f a0) := fun f hf => F.l (coRf_t W Ta0 hf)
      refine ⟨FF, ?_, by rw [is]; exact pm_1, is, io⟩
      unfold coI
      rw [r12, n12, aa coArrayBases (Or.inl rfl), aa coArraySizes (Or.inr rfl), jR coVarStarts (by decide) (by decide), jR coArrayBases (by decide) (by decide), jR coArraySizes (by decide) (by decide), jR coFirstStatements (by decide) (by decide), jR coNameCounts (by decide) (by decide), jR coOwnCounts (by decide) (by decide), jR coOps (by decide) (by decide), jR coArgs (by decide) (by decide)]
      rw [nn coVarStarts (by decide), nn coArrayBases (by decide), nn coArraySizes (by decide), nn coFirstStatements (by decide), nn coNameCounts (by decide), nn coOwnCounts (by decide), nn coOps (by decide), nn coArgs (by decide)]
      rw [ts, io coVars (by decide), io coArrays (by decide), io coCells (by decide), io coFunctions (by decide), io coLength (by decide)]
      exact ⟨h1, hv, ha, hc, hf, ⟨by omega, by omega⟩, ⟨by omega, jp.2⟩, ho, hb⟩
  intro x14 hx14
  have ex : x14.toInt = 11 * (zI κ coStatements a0).toInt := by rw [hx14, mul_i (by rw [e11]; omega) (by rw [e11]; omega), e11]; omega
  have ea : (x14 + 11).toInt = x14.toInt + 11 := by rw [add_i (by rw [e11]; omega) (by rw [e11]; omega), e11]
  have rN := W.n (ty_coRows W Ta0)
  refine ⟨fun c15 => ?_, fun c15 => ?_⟩
  · skip
    refine hj37 _ _ _ W ?_ ?_
    · exact Ta0  -- t6
    · rw [lei, ea, ofn_i rN] at c15
      exact ⟨rfl, zF.rf, rfl, fun _ _ _ => rfl, ex, ⟨c15, hrw.2⟩, fun _ _ => rfl⟩
  · skip
    intro T16
    have c16 : (zN κ (zR κ coRows a0) : Int) < x14.toInt + 11 := by rw [lei, ea, ofn_i rN] at c15; omega
    have e2 : ((x14 + 11) * 2).toInt = (x14.toInt + 11) * 2 := by rw [mul_i (by rw [ea, t2i]; omega) (by rw [ea, t2i]; omega), ea, t2i]
    have kn := cnk (x := (x14 + 11) * 2) (by omega)
    refine Ar_copyOf_c W T16  ?_ (fun r17 κ_18 q19 => ?_)
    · exact ⟨⟨by rw [lei, t0i]; omega, by omega⟩, fun e => by
        have e9 := congrArg Int32.toInt e
        rw [ofn_i rN] at e9
        omega⟩
    intro W20
    intro M21
    intro T22
    refine ⟨?_, ?_⟩
    · rw [q19.1]; exact q19.2.2.1  -- b9
    intro κ_23 hκ_23
    intro W24
    have h9 : κ_23 = uo κ_18 coRows a0 (zn κ) := by rw [hκ_23, q19.1]
    obtain ⟨F9, g1, g2, g3, g4, g5, -⟩ := gr_f (f := coRows) W (by decide +kernel) (by decide) Ta0 (by decide) q19.2 h9 (by omega) (by omega)
    refine hj37 _ _ _ W24 ?_ ?_
    · exact F9.t Ta0 (by decide)  -- t10
    · refine ⟨rfl, F9.mono (fun _ _ z => z.2), g1, fun f _ hf => g2 f a0 (fun z => hf z.1), ex, ?_, fun f hf => ?_⟩
      · rw [g3, g4]; omega
      · exact (g5 _ _ (coRf_t W Ta0 (by rcases hf with rfl | rfl <;> decide))).2
