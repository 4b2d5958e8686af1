set_option maxHeartbeats 1600000
/-! the class: Parser: what holds of it; its leaves -/
def paL (κ : zS) (p : Nat) : Prop := (zN κ (zR κ paVarNames p)) = 10 ∧ (zN κ (zR κ paArrayNames p)) = 3 ∧ (zN κ (zR κ paFunctionNames p)) = 10 ∧ (zN κ (zR κ paOwnNames p)) = 8 ∧ (zN κ (zR κ paOwners p)) = 41 ∧ (zN κ (zR κ paLasts p)) = 41 ∧ (zN κ (zR κ paElses p)) = 41
def paC (κ : zS) (p : Nat) : Prop := (0 ≤ (zI κ paOwns p).toInt ∧ (zI κ paOwns p).toInt ≤ 8) ∧ (0 ≤ (zI κ paBlocks p).toInt ∧ (zI κ paBlocks p).toInt ≤ 41) ∧ (0 ≤ (zI κ paWaits p).toInt ∧ (zI κ paWaits p).toInt ≤ (zN κ (zR κ paWaiting p))) ∧ (16 ≤ (zN κ (zR κ paWaiting p)) ∧ (zN κ (zR κ paWaiting p)) ≤ 41000)
def paI (κ : zS) (p : Nat) : Prop := (taI κ (zR κ paTape p) ∧ tokI κ (zR κ paTape p) ∧ (zI κ taTotal (zR κ paTape p)).toInt ≤ 10242) ∧ coI κ (zR κ paCode p) ∧ paL κ p ∧ paC κ p
/-- where it stands among the tokens -/
def paK (κ : zS) (p : Nat) : Prop := (0 ≤ (zI κ paAt p).toInt ∧ (zI κ paAt p).toInt ≤ (zI κ taTotal (zR κ paTape p)).toInt) ∧ ((zI κ paAt p).toInt < (zI κ taTotal (zR κ paTape p)).toInt ∨ zI κ paKind p = 142)
/-- the parser and its code alone were touched -/
def paF (κ τ : zS) (p : Nat) : Prop := zF (fun _ a => a = p ∨ a = zR κ paCode p) κ τ ∧ zR τ paTape p = zR κ paTape p ∧ zR τ paCode p = zR κ paCode p
/-- some whole numbers of the parser's own alone were touched -/
def paO (κ τ : zS) (p : Nat) : Prop := zF (objF p) κ τ ∧ zR τ = zR κ ∧ zN τ = zN κ ∧ zA τ = zA κ ∧ ∀ f b, ¬ (b = p ∧ f ∈ [paAt, paKind, paOpen, paInside, paFaultCode, paFaultPlace]) → zI τ f b = zI κ f b
def paX (κ : zS) (cls : String) (κ' : zS) (p : Nat) : Prop := cls = "java/lang/IllegalStateException" ∧ ∃ τ, κ' = ut τ ∧ paF κ τ p ∧ paI τ p
theorem paF.rf {κ : zS} {p : Nat} : paF κ κ p := ⟨zF.rf, rfl, rfl⟩
theorem paF.tr {κ τ σ : zS} {p : Nat} (h : paF κ τ p) (g : paF τ σ p) : paF κ σ p := ⟨h.1.tr (by have z := g.1; rw [h.2.2] at z; exact z), g.2.1.trans h.2.1, g.2.2.trans h.2.2⟩
theorem paX_tr {κ τ κ' : zS} {cls : String} {p : Nat} (h : paF κ τ p) (g : paX τ cls κ' p) : paX κ cls κ' p := by
  obtain ⟨e, σ, e1, F, I⟩ := g
  exact ⟨e, σ, e1, h.tr F, I⟩
theorem paO.rf {κ : zS} {p : Nat} : paO κ κ p := ⟨zF.rf, rfl, rfl, rfl, fun _ _ _ => rfl⟩
theorem paO.tr {κ τ σ : zS} {p : Nat} (h : paO κ τ p) (g : paO τ σ p) : paO κ σ p := ⟨h.1.tr g.1, g.2.1.trans h.2.1, g.2.2.1.trans h.2.2.1, g.2.2.2.1.trans h.2.2.2.1, fun f b z => (g.2.2.2.2 f b z).trans (h.2.2.2.2 f b z)⟩
theorem paO_ui {κ τ : zS} {p f : Nat} {x : Int32} (e : τ = ui κ f p x) (hf : f ∈ [paAt, paKind, paOpen, paInside, paFaultCode, paFaultPlace]) : paO κ τ p := by
  subst e
  exact ⟨zF_ui rfl, rfl, rfl, rfl, fun g b z => if_neg (fun q => z ⟨q.2, by rw [q.1]; exact hf⟩)⟩
theorem taI_zF {C : zC} {n0 t : Nat} {F : Nat → Nat → Prop} {κ τ : zS} (Z : zF F κ τ) (W : zW C n0 κ) (T : zT κ t = 13) (hF : ∀ f, ¬ F f t) (H : taI κ t) : taI τ t := by
  unfold taI
  rw [Z.i (hF taLength), Z.i (hF taTotal), Z.r (hF taBytes), Z.r (hF taKinds), Z.r (hF taPlaces), Z.r (hF taLengths), Z.l (ty_taBytes W T), Z.l (ty_taKinds W T), Z.l (ty_taPlaces W T), Z.l (ty_taLengths W T)]
  exact H
theorem tokI_zF {C : zC} {n0 t : Nat} {F : Nat → Nat → Prop} {κ τ : zS} (Z : zF F κ τ) (W : zW C n0 κ) (T : zT κ t = 13) (hF : ∀ f, ¬ F f t) (H : tokI κ t) : tokI τ t := by
  have p := (Z.row W (show zr taPlaces = some 20 by decide +kernel) (by decide) T (hF taPlaces)).1
  have l := (Z.row W (show zr taLengths = some 20 by decide +kernel) (by decide) T (hF taLengths)).1
  unfold tokI
  rw [p, l, Z.r (hF taBytes), Z.r (hF taKinds), Z.l (ty_taBytes W T), Z.l (ty_taKinds W T)]
  exact H
theorem pa_ne {C : zC} {n0 p : Nat} {κ : zS} (W : zW C n0 κ) (T : zT κ p = 10) : zR κ paTape p ≠ p ∧ zR κ paCode p ≠ p ∧ zR κ paTape p ≠ zR κ paCode p := by
  have t := ty_paTape W T
  have c := ty_paCode W T
  refine ⟨fun e => ?_, fun e => ?_, fun e => ?_⟩
  · rw [e, T] at t; exact absurd t (by decide)
  · rw [e, T] at c; exact absurd c (by decide)
  · rw [e, c] at t; exact absurd t (by decide)
/-- the tape and the code stay, where the parser alone was touched -/
theorem paI_p {C : zC} {n0 p : Nat} {κ τ : zS} (W : zW C n0 κ) (T : zT κ p = 10) (Z : zF (objF p) κ τ) (ht : zR τ paTape p = zR κ paTape p) (hc : zR τ paCode p = zR κ paCode p) (hL : paL τ p) (hC : paC τ p) (H : paI κ p) : paI τ p ∧ paF κ τ p ∧ (∀ f, zI τ f (zR κ paCode p) = zI κ f (zR κ paCode p)) ∧ ∀ f, zI τ f (zR κ paTape p) = zI κ f (zR κ paTape p) := by
  have n := pa_ne W T
  have a : ∀ f, ¬ objF p f (zR κ paTape p) := fun f e => n.1 e
  have b : ∀ f, ¬ objF p f (zR κ paCode p) := fun f e => n.2.1 e
  refine ⟨⟨?_, ?_, hL, hC⟩, ⟨Z.mono (fun _ _ e => Or.inl e), ht, hc⟩, fun f => Z.i (b f), fun f => Z.i (a f)⟩
  · rw [ht, Z.i (a taTotal)]
    exact ⟨taI_zF Z W (ty_paTape W T) a H.1.1, tokI_zF Z W (ty_paTape W T) a H.1.2.1, H.1.2.2⟩
  · rw [hc]
    exact coI_zF Z W (ty_paCode W T) b H.2.1
theorem paO_p {C : zC} {n0 p : Nat} {κ τ : zS} (W : zW C n0 κ) (T : zT κ p = 10) (h : paO κ τ p) (H : paI κ p) : paI τ p ∧ paF κ τ p ∧ (∀ f, zI τ f (zR κ paCode p) = zI κ f (zR κ paCode p)) ∧ ∀ f, zI τ f (zR κ paTape p) = zI κ f (zR κ paTape p) := by
  refine paI_p W T h.1 (by rw [h.2.1]) (by rw [h.2.1]) ?_ ?_ H
  · unfold paL
    rw [h.2.1, h.2.2.1]
    exact H.2.2.1
  · unfold paC
    rw [h.2.1, h.2.2.1, h.2.2.2.2 paOwns p (fun e => absurd e.2 (by decide)), h.2.2.2.2 paBlocks p (fun e => absurd e.2 (by decide)), h.2.2.2.2 paWaits p (fun e => absurd e.2 (by decide))]
    exact H.2.2.2
theorem Pa_take_c {C : zC} {n0 : Nat} {a0 : Nat} {κ : zS} {Q : zS → Prop} (W : zW C n0 κ) (Ta0 : zT κ a0 = 10)  (hp : paI κ a0 ∧ -1 ≤ (zI κ paAt a0).toInt ∧ (zI κ paAt a0).toInt < (zI κ taTotal (zR κ paTape a0)).toInt) (h : ∀ (κ' : zS), (paO κ κ' a0 ∧ paK κ' a0 ∧ (zI κ' paAt a0).toInt = (zI κ paAt a0).toInt + 1) → Q κ') : zRun C 0 mPa_take [.ref a0] κ (oV Q noX) := by
  refine Pa_take_run W Ta0 ?_
  replace W := W.lo (Nat.le_trans W.1.2.1 W.1.2.2) (Nat.le_refl (zn κ))
  unfold w_Pa_take_0
  obtain ⟨H, p0, p1⟩ := hp
  have TT := H.1.1.2
  have tb := H.1.2.2
  intro κ_1 hκ_1
  intro W2
  have O1 : paO κ κ_1 a0 := paO_ui hκ_1 (by decide)
  have a1 : zI κ_1 paAt a0 = zI κ paAt a0 + 1 := by rw [hκ_1]; exact if_pos ⟨rfl, rfl⟩
  have e1 : (zI κ paAt a0 + 1).toInt = (zI κ paAt a0).toInt + 1 := by rw [add_i (by rw [t1i]; omega) (by rw [t1i]; omega), t1i]
  have t1 : zI κ_1 taTotal (zR κ_1 paTape a0) = zI κ taTotal (zR κ paTape a0) := by rw [hκ_1]; rfl
  refine ⟨fun c3 => ?_, fun c3 => ?_⟩
  · skip
    intro κ_4 hκ_4
    intro W5
    refine h _ ?_
    · exfalso
      rw [lti, t0i, a1, e1] at c3
      omega
  · skip
    refine ⟨fun c6 => ?_, fun c6 => ?_⟩
    · skip
      intro κ_7 hκ_7
      intro W8
      refine h _ ?_
      · rw [lei, t1, a1, e1] at c6
        have ea : zI κ_7 paAt a0 = zI κ_1 paAt a0 := by rw [hκ_7]; rfl
        have et : zI κ_7 taTotal (zR κ_7 paTape a0) = zI κ_1 taTotal (zR κ_1 paTape a0) := by rw [hκ_7]; rfl
        have ek : zI κ_7 paKind a0 = 142 := by rw [hκ_7]; exact if_pos ⟨rfl, rfl⟩
        refine ⟨O1.tr (paO_ui hκ_7 (by decide)), ⟨?_, Or.inr ek⟩, by rw [ea, a1, e1]⟩
        rw [ea, et, a1, e1, t1]
        omega
    · skip
      refine ⟨?_, ?_⟩
      · rw [lti, t0i, a1, e1] at c3
        rw [lei, t1, a1, e1] at c6
        have r1 : zN κ_1 (zR κ_1 taKinds (zR κ_1 paTape a0)) = zN κ (zR κ taKinds (zR κ paTape a0)) := by rw [hκ_1]; rfl
        rw [inb_iff, a1, e1, r1]
        omega
      intro κ_9 hκ_9
      intro W10
      refine h _ ?_
      · rw [lei, t1, a1, e1] at c6
        have ea : zI κ_9 paAt a0 = zI κ_1 paAt a0 := by rw [hκ_9]; rfl
        have et : zI κ_9 taTotal (zR κ_9 paTape a0) = zI κ_1 taTotal (zR κ_1 paTape a0) := by rw [hκ_9]; rfl
        refine ⟨O1.tr (paO_ui hκ_9 (by decide)), ?_, by rw [ea, a1, e1]⟩
        unfold paK
        rw [ea, et, a1, e1, t1]
        exact ⟨⟨by omega, by omega⟩, Or.inl (by omega)⟩

theorem paX_o {C : zC} {n0 p : Nat} {κ τ κ' : zS} (W : zW C n0 κ) (T : zT κ p = 10) (H : paI κ p) (O : paO κ τ p) (e : κ' = ut τ) : paX κ "java/lang/IllegalStateException" κ' p := by
  obtain ⟨I, F, -⟩ := paO_p W T O H
  exact ⟨rfl, τ, e, F, I⟩
theorem Pa_refuse_c {C : zC} {n0 : Nat} {a0 : Nat} {a1 : Int32} {a2 : Int32} {κ : zS} {Q : zS → Prop} {X : zXp} (W : zW C n0 κ) (Ta0 : zT κ a0 = 10)  (hp : paI κ a0) (h : ∀ (κ' : zS), (False) → Q κ') (hx : ∀ (cls : String) (κ' : zS), (paX κ cls κ' a0) → X cls κ') : zRun C 8 mPa_refuse [.ref a0, .int a1, .int a2] κ (oV Q X) := by
  refine Pa_refuse_run W Ta0 ?_
  replace W := W.lo (Nat.le_trans W.1.2.1 W.1.2.2) (Nat.le_refl (zn κ))
  unfold w_Pa_refuse_0
  have hj66 : ∀ (l0 : Nat) (s0 : Nat) (τ : zS), zW C (zn κ) τ → zT τ l0 = 10 → zT τ s0 = 10 → (a0 = l0 ∧ paO κ τ a0 ∧ s0 = a0) → w_Pa_refuse_66 C (zn κ) Q X  l0 s0 τ := by
    rintro _ y66_s0 τ66 W66 T66_0 T66_1 ⟨rfl, j66⟩
    unfold w_Pa_refuse_66
    intro κ_1 hκ_1
    intro W2
    intro κ_3 hκ_3
    refine hx _ _ ?_
    · rw [j66.2] at hκ_1
      exact paX_o W Ta0 hp (j66.1.tr (paO_ui hκ_1 (by decide))) hκ_3
  have hj35 : ∀ (l0 : Nat) (l3 : Int32) (s0 : Nat) (s1 : Int32) (τ : zS), zW C (zn κ) τ → zT τ l0 = 10 → zT τ s0 = 10 → (κ = τ ∧ a0 = l0 ∧ s0 = a0) → w_Pa_refuse_35 C (zn κ) Q X  l0 l3 s0 s1 τ := by
    rintro _ y35_3 y35_s0 y35_s1 _ W35 T35_0 T35_1 ⟨rfl, rfl, j35⟩
    unfold w_Pa_refuse_35
    intro κ_4 hκ_4
    intro W5
    refine ⟨fun c6 => ?_, fun c6 => ?_⟩
    · skip
      refine hj66 _ _ _ W5 ?_ ?_ ?_
      · rw [j35] at hκ_4; exact (paO_ui hκ_4 (by decide)).1.t Ta0 (by decide)  -- t2
      · rw [j35] at hκ_4; exact (paO_ui hκ_4 (by decide)).1.t Ta0 (by decide)  -- t3
      · rw [j35] at hκ_4; exact ⟨rfl, paO_ui hκ_4 (by decide), rfl⟩  -- k4
    · skip
      refine ⟨fun c7 => ?_, fun c7 => ?_⟩
      · skip
        refine hj66 _ _ _ W5 ?_ ?_ ?_
        · rw [j35] at hκ_4; exact (paO_ui hκ_4 (by decide)).1.t Ta0 (by decide)  -- t5
        · rw [j35] at hκ_4; exact (paO_ui hκ_4 (by decide)).1.t Ta0 (by decide)  -- t6
        · rw [j35] at hκ_4; exact ⟨rfl, paO_ui hκ_4 (by decide), rfl⟩  -- k7
      · skip
        refine ⟨?_, ?_⟩
        · rw [j35] at hκ_4
          have TT := hp.1.1.2
          have t1 : zI κ_4 taTotal (zR κ_4 paTape a0) = zI κ taTotal (zR κ paTape a0) := by rw [hκ_4]; rfl
          have r1 : zN κ_4 (zR κ_4 taPlaces (zR κ_4 paTape a0)) = zN κ (zR κ taPlaces (zR κ paTape a0)) := by rw [hκ_4]; rfl
          rw [lti, t0i] at c6
          rw [lei, t1] at c7
          rw [inb_iff, r1]
          omega
        intro κ_8 hκ_8
        intro W9
        intro κ_10 hκ_10
        refine hx _ _ ?_
        · rw [j35] at hκ_4
          exact paX_o W Ta0 hp ((paO_ui hκ_4 (by decide)).tr (paO_ui hκ_8 (by decide))) hκ_10
  have hj18 : ∀ (l0 : Nat) (l1 : Int32) (s0 : Int32) (τ : zS), zW C (zn κ) τ → zT τ l0 = 10 → (κ = τ ∧ a0 = l0 ∧ a1 = l1 ∧ True) → w_Pa_refuse_18 C (zn κ) Q X  l0 l1 s0 τ := by
    rintro _ _ y18_s0 _ W18 T18_0 ⟨rfl, rfl, rfl, j18⟩
    unfold w_Pa_refuse_18
    refine ⟨fun c11 => ?_, fun c11 => ?_⟩
    · skip
      refine hj35 _ _ _ _ _ W18 ?_ ?_ ?_
      · exact Ta0  -- t10
      · exact Ta0  -- t11
      · exact ⟨rfl, rfl, rfl⟩  -- k12
    · skip
      refine hj35 _ _ _ _ _ W18 ?_ ?_ ?_
      · exact Ta0  -- t13
      · exact Ta0  -- t14
      · exact ⟨rfl, rfl, rfl⟩  -- k15
  refine ⟨fun c12 => ?_, fun c12 => ?_⟩
  · skip
    refine hj18 _ _ _ _ W ?_ ?_
    · exact Ta0  -- t16
    · exact ⟨rfl, rfl, rfl, trivial⟩  -- k17
  · skip
    refine hj18 _ _ _ _ W ?_ ?_
    · exact Ta0  -- t18
    · exact ⟨rfl, rfl, rfl, trivial⟩  -- k19

theorem Pa_expect_c {C : zC} {n0 : Nat} {a0 : Nat} {a1 : Int32} {κ : zS} {Q : zS → Prop} {X : zXp} (W : zW C n0 κ) (Ta0 : zT κ a0 = 10)  (hp : paI κ a0) (h : ∀ (κ' : zS), (κ = κ' ∧ zI κ paKind a0 = a1) → Q κ') (hx : ∀ (cls : String) (κ' : zS), (paX κ cls κ' a0) → X cls κ') : zRun C 9 mPa_expect [.ref a0, .int a1] κ (oV Q X) := by
  refine Pa_expect_run W Ta0 ?_
  replace W := W.lo (Nat.le_trans W.1.2.1 W.1.2.2) (Nat.le_refl (zn κ))
  unfold w_Pa_expect_0
  refine ⟨fun c1 => ?_, fun c1 => ?_⟩
  · skip
    refine h _ ?_
    · exact ⟨rfl, c1⟩  -- q1
  · skip
    intro T2
    refine Pa_refuse_c W T2  ?_ (fun κ_3 q4 => False.elim q4) (fun cls9 κ9 q9 => hx _ _ ?_)
    · exact hp  -- p2
    · exact q9  -- x3

/-- a token was taken -/
def paT (κ τ : zS) (p : Nat) : Prop := paO κ τ p ∧ paK τ p ∧ (zI τ paAt p).toInt = (zI κ paAt p).toInt + 1
theorem paK_t {κ : zS} {p : Nat} {k : Int32} (h : paK κ p) (e : zI κ paKind p = k) (ne : k ≠ 142) : -1 ≤ (zI κ paAt p).toInt ∧ (zI κ paAt p).toInt < (zI κ taTotal (zR κ paTape p)).toInt := by
  refine ⟨by have := h.1.1; omega, ?_⟩
  rcases h.2 with z | z
  · exact z
  · exact absurd (e.symm.trans z) ne
theorem paT_o {C : zC} {n0 p : Nat} {κ τ σ : zS} {x : Int32} (W : zW C n0 κ) (T : zT κ p = 10) (e : τ = ui κ paOpen p x) (h : paO τ σ p ∧ paK σ p ∧ (zI σ paAt p).toInt = (zI τ paAt p).toInt + 1) : paT κ σ p := by
  refine ⟨(paO_ui e (by decide)).tr h.1, h.2.1, ?_⟩
  have ea : zI τ paAt p = zI κ paAt p := by rw [e]; rfl
  rw [h.2.2, ea]
theorem pa_pre {C : zC} {n0 p : Nat} {κ τ : zS} {k x : Int32} (W : zW C n0 κ) (T : zT κ p = 10) (H : paI κ p) (h : paK κ p) (e : zI κ paKind p = k) (ne : k ≠ 142) (et : τ = ui κ paOpen p x) : paI τ p ∧ -1 ≤ (zI τ paAt p).toInt ∧ (zI τ paAt p).toInt < (zI τ taTotal (zR τ paTape p)).toInt := by
  have ea : zI τ paAt p = zI κ paAt p := by rw [et]; rfl
  have eb : zI τ taTotal (zR τ paTape p) = zI κ taTotal (zR κ paTape p) := by rw [et]; rfl
  rw [ea, eb]
  exact ⟨(paO_p W T (paO_ui et (by decide)) H).1, paK_t h e ne⟩
theorem Pa_pass_c {C : zC} {n0 : Nat} {a0 : Nat} {a1 : Int32} {κ : zS} {Q : zS → Prop} {X : zXp} (W : zW C n0 κ) (Ta0 : zT κ a0 = 10)  (hp : paI κ a0 ∧ paK κ a0 ∧ a1 ≠ 142) (h : ∀ (κ' : zS), (paT κ κ' a0) → Q κ') (hx : ∀ (cls : String) (κ' : zS), (paX κ cls κ' a0) → X cls κ') : zRun C 9 mPa_pass [.ref a0, .int a1] κ (oV Q X) := by
  refine Pa_pass_run W Ta0 ?_
  replace W := W.lo (Nat.le_trans W.1.2.1 W.1.2.2) (Nat.le_refl (zn κ))
  unfold w_Pa_pass_0
  refine ⟨fun c1 => ?_, fun c1 => ?_⟩
  · skip
    intro T2
    refine Pa_take_c W T2  ?_ (fun κ_3 q4 => ?_)
    · exact ⟨hp.1, paK_t hp.2.1 c1 hp.2.2⟩  -- p1
    intro W5
    intro M6
    refine h _ ?_
    · exact q4  -- q2
  · skip
    intro T7
    refine Pa_refuse_c W T7  ?_ (fun κ_8 q9 => False.elim q9) (fun cls9 κ9 q9 => hx _ _ ?_)
    · exact hp.1  -- p3
    · exact q9  -- x4

theorem Pa_openSign_c {C : zC} {n0 : Nat} {a0 : Nat} {a1 : Int32} {κ : zS} {Q : zS → Prop} {X : zXp} (W : zW C n0 κ) (Ta0 : zT κ a0 = 10)  (hp : paI κ a0 ∧ paK κ a0 ∧ a1 ≠ 142) (h : ∀ (κ' : zS), (paT κ κ' a0) → Q κ') (hx : ∀ (cls : String) (κ' : zS), (paX κ cls κ' a0) → X cls κ') : zRun C 9 mPa_openSign [.ref a0, .int a1] κ (oV Q X) := by
  refine Pa_openSign_run W Ta0 ?_
  replace W := W.lo (Nat.le_trans W.1.2.1 W.1.2.2) (Nat.le_refl (zn κ))
  unfold w_Pa_openSign_0
  have hj35 : ∀ (l0 : Nat) (τ : zS), zW C (zn κ) τ → zT τ l0 = 10 → (κ = τ ∧ a0 = l0 ∧ zI κ paKind a0 = a1) → w_Pa_openSign_35 C (zn κ) Q X  l0 τ := by
    rintro _ _ W35 T35_0 ⟨rfl, rfl, j35⟩
    unfold w_Pa_openSign_35
    intro κ_1 hκ_1
    intro W2
    intro T3
    refine Pa_take_c W2 T3  ?_ (fun κ_4 q5 => ?_)
    · exact pa_pre W35 Ta0 hp.1 hp.2.1 j35 hp.2.2 hκ_1  -- p1
    intro W6
    intro M7
    refine h _ ?_
    · exact paT_o W35 Ta0 hκ_1 q5  -- q2
  have hj17 : ∀ (l0 : Nat) (τ : zS), zW C (zn κ) τ → zT τ l0 = 10 → (κ = τ ∧ a0 = l0 ∧ zI κ paKind a0 = a1) → w_Pa_openSign_17 C (zn κ) Q X  l0 τ := by
    rintro _ _ W17 T17_0 ⟨rfl, rfl, j17⟩
    unfold w_Pa_openSign_17
    refine ⟨fun c8 => ?_, fun c8 => ?_⟩
    · skip
      refine hj35 _ _ W17 ?_ ?_
      · exact Ta0  -- t3
      · exact ⟨rfl, rfl, j17⟩  -- k4
    · skip
      intro T9
      refine Pa_refuse_c W17 T9  ?_ (fun κ_10 q11 => False.elim q11) (fun cls9 κ9 q9 => hx _ _ ?_)
      · exact hp.1  -- p5
      · exact q9  -- x6
  refine ⟨fun c12 => ?_, fun c12 => ?_⟩
  · skip
    refine hj17 _ _ W ?_ ?_
    · exact Ta0  -- t7
    · exact ⟨rfl, rfl, c12⟩  -- k8
  · skip
    intro T13
    refine Pa_refuse_c W T13  ?_ (fun κ_14 q15 => False.elim q15) (fun cls9 κ9 q9 => hx _ _ ?_)
    · exact hp.1  -- p9
    · exact q9  -- x10

theorem Pa_closeSign_c {C : zC} {n0 : Nat} {a0 : Nat} {a1 : Int32} {κ : zS} {Q : zS → Prop} {X : zXp} (W : zW C n0 κ) (Ta0 : zT κ a0 = 10)  (hp : paI κ a0 ∧ paK κ a0 ∧ a1 ≠ 142) (h : ∀ (κ' : zS), (paT κ κ' a0) → Q κ') (hx : ∀ (cls : String) (κ' : zS), (paX κ cls κ' a0) → X cls κ') : zRun C 9 mPa_closeSign [.ref a0, .int a1] κ (oV Q X) := by
  refine Pa_closeSign_run W Ta0 ?_
  replace W := W.lo (Nat.le_trans W.1.2.1 W.1.2.2) (Nat.le_refl (zn κ))
  unfold w_Pa_closeSign_0
  have hj17 : ∀ (l0 : Nat) (τ : zS), zW C (zn κ) τ → zT τ l0 = 10 → (κ = τ ∧ a0 = l0 ∧ zI κ paKind a0 = a1) → w_Pa_closeSign_17 C (zn κ) Q X  l0 τ := by
    rintro _ _ W17 T17_0 ⟨rfl, rfl, j17⟩
    unfold w_Pa_closeSign_17
    intro κ_1 hκ_1
    intro W2
    intro T3
    refine Pa_take_c W2 T3  ?_ (fun κ_4 q5 => ?_)
    · exact pa_pre W17 Ta0 hp.1 hp.2.1 j17 hp.2.2 hκ_1  -- p1
    intro W6
    intro M7
    refine h _ ?_
    · exact paT_o W17 Ta0 hκ_1 q5  -- q2
  refine ⟨fun c8 => ?_, fun c8 => ?_⟩
  · skip
    refine hj17 _ _ W ?_ ?_
    · exact Ta0  -- t3
    · exact ⟨rfl, rfl, c8⟩  -- k4
  · skip
    intro T9
    refine Pa_refuse_c W T9  ?_ (fun κ_10 q11 => False.elim q11) (fun cls9 κ9 q9 => hx _ _ ?_)
    · exact hp.1  -- p5
    · exact q9  -- x6

theorem Pa_newName_c {C : zC} {n0 : Nat} {a0 : Nat} {a1 : Int32} {a2 : Int32} {κ : zS} {Q : Int32 → zS → Prop} {X : zXp} (W : zW C n0 κ) (Ta0 : zT κ a0 = 10)  (hp : paI κ a0 ∧ paK κ a0) (h : ∀ (v : Int32) (κ' : zS), (paT κ κ' a0 ∧ a1.toInt < a2.toInt) → Q v κ') (hx : ∀ (cls : String) (κ' : zS), (paX κ cls κ' a0) → X cls κ') : zRun C 10 mPa_newName [.ref a0, .int a1, .int a2] κ (oI Q X) := by
  refine Pa_newName_run W Ta0 ?_
  replace W := W.lo (Nat.le_trans W.1.2.1 W.1.2.2) (Nat.le_refl (zn κ))
  unfold w_Pa_newName_0
  have hj143 : ∀ (l0 : Nat) (τ : zS), zW C (zn κ) τ → zT τ l0 = 10 → (κ = τ ∧ a0 = l0 ∧ zI κ paKind a0 = 140 ∧ a1.toInt < a2.toInt) → w_Pa_newName_143 C (zn κ) Q X  l0 τ := by
    rintro _ _ W143 T143_0 ⟨rfl, rfl, j143⟩
    unfold w_Pa_newName_143
    intro T1
    refine Pa_take_c W143 T1  ?_ (fun κ_2 q3 => ?_)
    · exact ⟨hp.1, paK_t hp.2 j143.1 (by decide)⟩  -- p1
    intro W4
    intro M5
    refine h _ _ ?_
    · exact ⟨q3, j143.2⟩  -- q2
  have hj128 : ∀ (l0 : Nat) (l1 : Int32) (l2 : Int32) (τ : zS), zW C (zn κ) τ → zT τ l0 = 10 → (κ = τ ∧ a0 = l0 ∧ a1 = l1 ∧ a2 = l2 ∧ zI κ paKind a0 = 140) → w_Pa_newName_128 C (zn κ) Q X  l0 l1 l2 τ := by
    rintro _ _ _ _ W128 T128_0 ⟨rfl, rfl, rfl, rfl, j128⟩
    unfold w_Pa_newName_128
    refine ⟨fun c6 => ?_, fun c6 => ?_⟩
    · skip
      refine hj143 _ _ W128 ?_ ?_
      · exact Ta0  -- t3
      · exact ⟨rfl, rfl, j128, by rw [lti] at c6; exact c6⟩  -- k4
    · skip
      intro T7
      refine Pa_refuse_c W128 T7  ?_ (fun κ_8 q9 => False.elim q9) (fun cls9 κ9 q9 => hx _ _ ?_)
      · exact hp.1  -- p5
      · exact q9  -- x6
  have hj113 : ∀ (l0 : Nat) (l1 : Int32) (l2 : Int32) (s0 : Int32) (τ : zS), zW C (zn κ) τ → zT τ l0 = 10 → (κ = τ ∧ a0 = l0 ∧ a1 = l1 ∧ a2 = l2 ∧ zI κ paKind a0 = 140) → w_Pa_newName_113 C (zn κ) Q X  l0 l1 l2 s0 τ := by
    rintro _ _ _ y113_s0 _ W113 T113_0 ⟨rfl, rfl, rfl, rfl, j113⟩
    unfold w_Pa_newName_113
    refine ⟨fun c10 => ?_, fun c10 => ?_⟩
    · skip
      refine hj128 _ _ _ _ W113 ?_ ?_
      · exact Ta0  -- t7
      · exact ⟨rfl, rfl, rfl, rfl, j113⟩  -- k8
    · skip
      intro T11
      refine Pa_refuse_c W113 T11  ?_ (fun κ_12 q13 => False.elim q13) (fun cls9 κ9 q9 => hx _ _ ?_)
      · exact hp.1  -- p9
      · exact q9  -- x10
  intro T14
  refine Pa_expect_c W T14  ?_ (fun κ_15 q16 => ?_) (fun cls9 κ9 q9 => hx _ _ ?_)
  · exact hp.1  -- p11
  rotate_left
  · exact q9  -- x12
  obtain ⟨rfl, hk⟩ := q16
  intro W17
  intro M18
  intro T19
  intro T20
  refine Ta_findName_c W17 T19 T20  ?_ (fun r21 q23 => ?_)
  · exact ⟨hp.1.1.1, hp.1.1.2.1⟩  -- p13
  intro W24
  intro M25
  refine ⟨fun c26 => ?_, fun c26 => ?_⟩
  · skip
    refine hj113 _ _ _ _ _ W24 ?_ ?_
    · exact Ta0  -- t14
    · exact ⟨rfl, rfl, rfl, rfl, hk⟩  -- k15
  · skip
    intro T27
    intro T28
    refine Ta_findName_c W24 T27 T28  ?_ (fun r29 q31 => ?_)
    · exact ⟨hp.1.1.1, hp.1.1.2.1⟩  -- p16
    intro W32
    intro M33
    refine ⟨fun c34 => ?_, fun c34 => ?_⟩
    · skip
      refine hj113 _ _ _ _ _ W32 ?_ ?_
      · exact Ta0  -- t17
      · exact ⟨rfl, rfl, rfl, rfl, hk⟩  -- k18
    · skip
      intro T35
      intro T36
      refine Ta_findName_c W32 T35 T36  ?_ (fun r37 q39 => ?_)
      · exact ⟨hp.1.1.1, hp.1.1.2.1⟩  -- p19
      intro W40
      intro M41
      refine ⟨fun c42 => ?_, fun c42 => ?_⟩
      · skip
        refine hj113 _ _ _ _ _ W40 ?_ ?_
        · exact Ta0  -- t20
        · exact ⟨rfl, rfl, rfl, rfl, hk⟩  -- k21
      · skip
        intro T43
        intro T44
        refine Ta_findName_c W40 T43 T44  ?_ (fun r45 q47 => ?_)
        · exact ⟨hp.1.1.1, hp.1.1.2.1⟩  -- p22
        intro W48
        intro M49
        refine ⟨fun c50 => ?_, fun c50 => ?_⟩
        · skip
          refine hj113 _ _ _ _ _ W48 ?_ ?_
          · exact Ta0  -- t23
          · exact ⟨rfl, rfl, rfl, rfl, hk⟩  -- k24
        · skip
          refine hj113 _ _ _ _ _ W48 ?_ ?_
          · exact Ta0  -- t25
          · exact ⟨rfl, rfl, rfl, rfl, hk⟩  -- k26

theorem Pa_findArray_c {C : zC} {n0 : Nat} {a0 : Nat} {a1 : Int32} {κ : zS} {Q : Int32 → zS → Prop} {X : zXp} (W : zW C n0 κ) (Ta0 : zT κ a0 = 10)  (hp : paI κ a0) (h : ∀ (v : Int32), (0 ≤ v.toInt ∧ v.toInt < 3) → Q v κ) (hx : ∀ (cls : String) (κ' : zS), (paX κ cls κ' a0) → X cls κ') : zRun C 9 mPa_findArray [.ref a0, .int a1] κ (oI Q X) := by
  refine Pa_findArray_run W Ta0 ?_
  replace W := W.lo (Nat.le_trans W.1.2.1 W.1.2.2) (Nat.le_refl (zn κ))
  unfold w_Pa_findArray_0
  intro T1
  intro T2
  refine Ta_findName_c W T1 T2  ?_ (fun r3 q5 => ?_)
  · exact ⟨hp.1.1, hp.1.2.1⟩  -- p1
  intro W6
  intro M7
  refine ⟨fun c8 => ?_, fun c8 => ?_⟩
  · skip
    refine h _ ?_
    · have L := hp.2.2.1.2.1
      have n1 : r3.toInt ≠ -1 := fun e => c8 (Int32.toInt_inj.mp (e.trans tmi.symm))
      obtain ⟨u1, u2, -⟩ := q5
      omega
  · skip
    intro T9
    refine Pa_refuse_c W6 T9  ?_ (fun κ_10 q11 => False.elim q11) (fun cls9 κ9 q9 => hx _ _ ?_)
    · exact hp  -- p3
    · exact q9  -- x4

theorem Pa_findVariable_c {C : zC} {n0 : Nat} {a0 : Nat} {a1 : Int32} {κ : zS} {Q : Int32 → zS → Prop} {X : zXp} (W : zW C n0 κ) (Ta0 : zT κ a0 = 10)  (hp : paI κ a0) (h : ∀ (v : Int32), (-1 ≤ v.toInt ∧ v.toInt < 8) → Q v κ) (hx : ∀ (cls : String) (κ' : zS), (paX κ cls κ' a0) → X cls κ') : zRun C 9 mPa_findVariable [.ref a0, .int a1] κ (oI Q X) := by
  refine Pa_findVariable_run W Ta0 ?_
  replace W := W.lo (Nat.le_trans W.1.2.1 W.1.2.2) (Nat.le_refl (zn κ))
  unfold w_Pa_findVariable_0
  intro T1
  intro T2
  refine Ta_findName_c W T1 T2  ?_ (fun r3 q5 => ?_)
  · exact ⟨hp.1.1, hp.1.2.1⟩  -- p1
  intro W6
  intro M7
  refine ⟨fun c8 => ?_, fun c8 => ?_⟩
  · skip
    refine h _ ?_
    · have L := hp.2.2.1.2.2.2.1
      obtain ⟨u1, u2, -⟩ := q5
      omega
  · skip
    intro T9
    intro T10
    refine Ta_findName_c W6 T9 T10  ?_ (fun r11 q13 => ?_)
    · exact ⟨hp.1.1, hp.1.2.1⟩  -- p3
    intro W14
    intro M15
    refine ⟨fun c16 => ?_, fun c16 => ?_⟩
    · skip
      refine h _ ?_
      · have L := hp.2.2.1.2.2.2.1
        obtain ⟨u1, u2, -⟩ := q5
        omega
    · skip
      intro T17
      refine Pa_refuse_c W14 T17  ?_ (fun κ_18 q19 => False.elim q19) (fun cls9 κ9 q9 => hx _ _ ?_)
      · exact hp  -- p5
      · exact q9  -- x6

theorem Pa_rankOf_c {C : zC} {n0 : Nat} {a0 : Int32} {κ : zS} {Q : Int32 → zS → Prop} (W : zW C n0 κ)   (h : ∀ (v : Int32), (True) → Q v κ) : zRun C 0 mPa_rankOf [.int a0] κ (oI Q noX) := by
  refine Pa_rankOf_run W  ?_
  replace W := W.lo (Nat.le_trans W.1.2.1 W.1.2.2) (Nat.le_refl (zn κ))
  unfold w_Pa_rankOf_0
  refine ⟨fun c1 => ?_, fun c1 => ?_⟩
  · skip
    refine ⟨fun c2 => ?_, fun c2 => ?_⟩
    · skip
      refine ⟨fun c3 => ?_, fun c3 => ?_⟩
      · skip
        refine ⟨fun c4 => ?_, fun c4 => ?_⟩
        · skip
          refine ⟨fun c5 => ?_, fun c5 => ?_⟩
          · skip
            refine ⟨fun c6 => ?_, fun c6 => ?_⟩
            · skip
              refine h _ ?_
              · trivial  -- q1
            · skip
              refine h _ ?_
              · trivial  -- q2
          · skip
            refine h _ ?_
            · trivial  -- q3
        · skip
          refine h _ ?_
          · trivial  -- q4
      · skip
        refine h _ ?_
        · trivial  -- q5
    · skip
      refine h _ ?_
      · trivial  -- q6
  · skip
    refine h _ ?_
    · trivial  -- q7

theorem Pa_binary_c {C : zC} {n0 : Nat} {a0 : Int32} {κ : zS} {Q : Int32 → zS → Prop} (W : zW C n0 κ)   (h : ∀ (v : Int32), (v = -1 ∨ a0 ≠ 142) → Q v κ) : zRun C 0 mPa_binary [.int a0] κ (oI Q noX) := by
  refine Pa_binary_run W  ?_
  replace W := W.lo (Nat.le_trans W.1.2.1 W.1.2.2) (Nat.le_refl (zn κ))
  unfold w_Pa_binary_0
  refine ⟨fun c1 => ?_, fun c1 => ?_, fun c1 => ?_, fun c1 => ?_, fun c1 => ?_, fun c1 => ?_, fun c1 => ?_, fun c1 => ?_, fun c1 => ?_, fun c1 => ?_, fun c1 => ?_, fun c1 => ?_, fun c1 => ?_, fun c1 => ?_⟩
  · skip
    refine h _ ?_
    · exact Or.inl rfl  -- q1
  · skip
    refine h _ ?_
    · exact Or.inr (fun e => by rw [e] at c1; exact absurd c1 (by decide))  -- q2
  · skip
    refine h _ ?_
    · exact Or.inr (fun e => by rw [e] at c1; exact absurd c1 (by decide))  -- q3
  · skip
    refine h _ ?_
    · exact Or.inr (fun e => by rw [e] at c1; exact absurd c1 (by decide))  -- q4
  · skip
    refine h _ ?_
    · exact Or.inr (fun e => by rw [e] at c1; exact absurd c1 (by decide))  -- q5
  · skip
    refine h _ ?_
    · exact Or.inr (fun e => by rw [e] at c1; exact absurd c1 (by decide))  -- q6
  · skip
    refine h _ ?_
    · exact Or.inr (fun e => by rw [e] at c1; exact absurd c1 (by decide))  -- q7
  · skip
    refine h _ ?_
    · exact Or.inr (fun e => by rw [e] at c1; exact absurd c1 (by decide))  -- q8
  · skip
    refine h _ ?_
    · exact Or.inr (fun e => by rw [e] at c1; exact absurd c1 (by decide))  -- q9
  · skip
    refine h _ ?_
    · exact Or.inr (fun e => by rw [e] at c1; exact absurd c1 (by decide))  -- q10
  · skip
    refine h _ ?_
    · exact Or.inr (fun e => by rw [e] at c1; exact absurd c1 (by decide))  -- q11
  · skip
    refine h _ ?_
    · exact Or.inr (fun e => by rw [e] at c1; exact absurd c1 (by decide))  -- q12
  · skip
    refine h _ ?_
    · exact Or.inr (fun e => by rw [e] at c1; exact absurd c1 (by decide))  -- q13
  · skip
    refine h _ ?_
    · exact Or.inr (fun e => by rw [e] at c1; exact absurd c1 (by decide))  -- q14
