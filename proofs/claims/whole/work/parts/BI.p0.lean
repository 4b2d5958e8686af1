section
set_option maxHeartbeats 1600000
/-! the class: Parser: what holds of it; its leaves -/
def paL (κ : zS) (p : Nat) : Prop := (zN κ (zR κ paVarNames p)) = 10 ∧ (zN κ (zR κ paArrayNames p)) = 3 ∧ (zN κ (zR κ paFunctionNames p)) = 10 ∧ (zN κ (zR κ paOwnNames p)) = 8 ∧ (zN κ (zR κ paOwners p)) = 41 ∧ (zN κ (zR κ paLasts p)) = 41 ∧ (zN κ (zR κ paElses p)) = 41
def paC (κ : zS) (p : Nat) : Prop := (0 ≤ (zI κ paOwns p).toInt ∧ (zI κ paOwns p).toInt ≤ 8) ∧ (0 ≤ (zI κ paBlocks p).toInt ∧ (zI κ paBlocks p).toInt ≤ 41) ∧ (0 ≤ (zI κ paWaits p).toInt ∧ (zI κ paWaits p).toInt ≤ (zN κ (zR κ paWaiting p))) ∧ (16 ≤ (zN κ (zR κ paWaiting p)) ∧ (zN κ (zR κ paWaiting p)) ≤ 41000)
def paI (κ : zS) (p : Nat) : Prop := (taI κ (zR κ paTape p) ∧ tokI κ (zR κ paTape p) ∧ (zI κ taTotal (zR κ paTape p)).toInt ≤ 10242) ∧ coI κ (zR κ paCode p) ∧ paL κ p ∧ paC κ p
/-- where it stands among the tokens -/
def paK (κ : zS) (p : Nat) : Prop := (0 ≤ (zI κ paAt p).toInt ∧ (zI κ paAt p).toInt ≤ (zI κ taTotal (zR κ paTape p)).toInt) ∧ ((zI κ paAt p).toInt < (zI κ taTotal (zR κ paTape p)).toInt ∨ zI κ paKind p = 142)
/-- the parser and its code alone were touched -/
def paF (κ τ : zS) (p : Nat) : Prop := zF (fun _ a => a = p ∨ a = zR κ paCode p) κ τ ∧ zR τ paTape p = zR κ paTape p ∧ zR τ paCode p = zR κ paCode p
/-- some whole numbers of the parser's own alone were touched -/
def paO (κ τ : zS) (p : Nat) : Prop := zF (objF p) κ τ ∧ zR τ = zR κ ∧ zN τ = zN κ ∧ zA τ = zA κ ∧ ∀ f b, ¬ (b = p ∧ f ∈ [paAt, paKind, paOpen, paInside, paFaultCode, paFaultPlace]) → zI τ f b = zI κ f b
def paX (κ : zS) (cls : String) (κ' : zS) (p : Nat) : Prop := cls = "java/lang/IllegalStateException" ∧ ∃ τ, κ' = ut τ ∧ paF κ τ p ∧ paI τ p
theorem paF.rf {κ : zS} {p : Nat} : paF κ κ p := ⟨zF.rf, rfl, rfl⟩
theorem paF.tr {κ τ σ : zS} {p : Nat} (h : paF κ τ p) (g : paF τ σ p) : paF κ σ p := ⟨h.1.tr (by have z := g.1; rw [h.2.2] at z; exact z), g.2.1.trans h.2.1, g.2.2.trans h.2.2⟩
theorem paX_tr {κ τ κ' : zS} {cls : String} {p : Nat} (h : paF κ τ p) (g : paX τ cls κ' p) : paX κ cls κ' p := by
  obtain ⟨e, σ, e1, F, I⟩ := g
  exact ⟨e, σ, e1, h.tr F, I⟩
theorem paO.rf {κ : zS} {p : Nat} : paO κ κ p := ⟨zF.rf, rfl, rfl, rfl, fun _ _ _ => rfl⟩
theorem paO.tr {κ τ σ : zS} {p : Nat} (h : paO κ τ p) (g : paO τ σ p) : paO κ σ p := ⟨h.1.tr g.1, g.2.1.trans h.2.1, g.2.2.1.trans h.2.2.1, g.2.2.2.1.trans h.2.2.2.1, fun f b z => (g.2.2.2.2 f b z).trans (h.2.2.2.2 f b z)⟩
theorem paO_ui {κ τ : zS} {p f : Nat} {x : Int32} (e : τ = ui κ f p x) (hf : f ∈ [paAt, paKind, paOpen, paInside, paFaultCode, paFaultPlace]) : paO κ τ p := by
  subst e
  exact ⟨zF_ui rfl, rfl, rfl, rfl, fun g b z => if_neg (fun q => z ⟨q.2, by rw [q.1]; exact hf⟩)⟩
theorem taI_zF {C : zC} {n0 t : Nat} {F : Nat → Nat → Prop} {κ τ : zS} (Z : zF F κ τ) (W : zW C n0 κ) (T : zT κ t = 13) (hF : ∀ f, ¬ F f t) (H : taI κ t) : taI τ t := by
  unfold taI
  rw [Z.i (hF taLength), Z.i (hF taTotal), Z.r (hF taBytes), Z.r (hF taKinds), Z.r (hF taPlaces), Z.r (hF taLengths), Z.l (ty_taBytes W T), Z.l (ty_taKinds W T), Z.l (ty_taPlaces W T), Z.l (ty_taLengths W T)]
  exact H
theorem tokI_zF {C : zC} {n0 t : Nat} {F : Nat → Nat → Prop} {κ τ : zS} (Z : zF F κ τ) (W : zW C n0 κ) (T : zT κ t = 13) (hF : ∀ f, ¬ F f t) (H : tokI κ t) : tokI τ t := by
  have p := (Z.row W (show zr taPlaces = some 20 by decide +kernel) (by decide) T (hF taPlaces)).1
  have l := (Z.row W (show zr taLengths = some 20 by decide +kernel) (by decide) T (hF taLengths)).1
  unfold tokI
  rw [p, l, Z.r (hF taBytes), Z.r (hF taKinds), Z.l (ty_taBytes W T), Z.l (ty_taKinds W T)]
  exact H
theorem pa_ne {C : zC} {n0 p : Nat} {κ : zS} (W : zW C n0 κ) (T : zT κ p = 10) : zR κ paTape p ≠ p ∧ zR κ paCode p ≠ p ∧ zR κ paTape p ≠ zR κ paCode p := by
  have t := ty_paTape W T
  have c := ty_paCode W T
  refine ⟨fun e => ?_, fun e => ?_, fun e => ?_⟩
  · rw [e, T] at t; exact absurd t (by decide)
  · rw [e, T] at c; exact absurd c (by decide)
  · rw [e, c] at t; exact absurd t (by decide)
/-- the tape and the code stay, where the parser alone was touched -/
theorem paI_p {C : zC} {n0 p : Nat} {κ τ : zS} (W : zW C n0 κ) (T : zT κ p = 10) (Z : zF (objF p) κ τ) (ht : zR τ paTape p = zR κ paTape p) (hc : zR τ paCode p = zR κ paCode p) (hL : paL τ p) (hC : paC τ p) (H : paI κ p) : paI τ p ∧ paF κ τ p ∧ (∀ f, zI τ f (zR κ paCode p) = zI κ f (zR κ paCode p)) ∧ ∀ f, zI τ f (zR κ paTape p) = zI κ f (zR κ paTape p) := by
  have n := pa_ne W T
  have a : ∀ f, ¬ objF p f (zR κ paTape p) := fun f e => n.1 e
  have b : ∀ f, ¬ objF p f (zR κ paCode p) := fun f e => n.2.1 e
  refine ⟨⟨?_, ?_, hL, hC⟩, ⟨Z.mono (fun _ _ e => Or.inl e), ht, hc⟩, fun f => Z.i (b f), fun f => Z.i (a f)⟩
  · rw [ht, Z.i (a taTotal)]
    exact ⟨taI_zF Z W (ty_paTape W T) a H.1.1, tokI_zF Z W (ty_paTape W T) a H.1.2.1, H.1.2.2⟩
  · rw [hc]
    exact coI_zF Z W (ty_paCode W T) b H.2.1
theorem paO_p {C : zC} {n0 p : Nat} {κ τ : zS} (W : zW C n0 κ) (T : zT κ p = 10) (h : paO κ τ p) (H : paI κ p) : paI τ p ∧ paF κ τ p ∧ (∀ f, zI τ f (zR κ paCode p) = zI κ f (zR κ paCode p)) ∧ ∀ f, zI τ f (zR κ paTape p) = zI κ f (zR κ paTape p) := by
  refine paI_p W T h.1 (by rw [h.2.1]) (by rw [h.2.1]) ?_ ?_ H
  · unfold paL
    rw [h.2.1, h.2.2.1]
    exact H.2.2.1
  · unfold paC
    rw [h.2.1, h.2.2.1, h.2.2.2.2 paOwns p (fun e => absurd e.2 (by decide)), h.2.2.2.2 paBlocks p (fun e => absurd e.2 (by decide)), h.2.2.2.2 paWaits p (fun e => absurd e.2 (by decide))]
    exact H.2.2.2
theorem Pa_take_c {C : zC} {n0 : Nat} {a0 : Nat} {κ : zS} {Q : zS → Prop} (W : zW C n0 κ) (Ta0 : zT κ a0 = 10)  (hp : paI κ a0 ∧ -1 ≤ (zI κ paAt a0).toInt ∧ (zI κ paAt a0).toInt < (zI κ taTotal (zR κ paTape a0)).toInt) (h : ∀ (κ' : zS), (paO κ κ' a0 ∧ paK κ' a0 ∧ (zI κ' paAt a0).toInt = (zI κ paAt a0).toInt + 1) → Q κ') : zRun C 0 mPa_take [.ref a0] κ (oV Q noX) := by
  refine Pa_take_run W Ta0 ?_
  replace W := W.lo (Nat.le_trans W.1.2.1 W.1.2.2) (Nat.le_refl (zn κ))
  unfold w_Pa_take_0
  obtain ⟨H, p0, p1⟩ := hp
  have TT := H.1.1.2
  have tb := H.1.2.2
  intro κ_1 hκ_1
  intro W2
  have O1 : paO κ κ_1 a0 := paO_ui hκ_1 (by decide)
  have a1 : zI κ_1 paAt a0 = zI κ paAt a0 + 1 := by rw [hκ_1]; exact if_pos ⟨rfl, rfl⟩
  have e1 : (zI κ paAt a0 + 1).toInt = (zI κ paAt a0).toInt + 1 := by rw [add_i (by rw [t1i]; omega) (by rw [t1i]; omega), t1i]
  have t1 : zI κ_1 taTotal (zR κ_1 paTape a0) = zI κ taTotal (zR κ paTape a0) := by rw [hκ_1]; rfl
  refine ⟨fun c3 => ?_, fun c3 => ?_⟩
  · skip
    intro κ_4 hκ_4
    intro W5
    refine h _ ?_
    · exfalso
      rw [lti, t0i, a1, e1] at c3
      omega
  · skip
    refine ⟨fun c6 => ?_, fun c6 => ?_⟩
    · skip
      intro κ_7 hκ_7
      intro W8
      refine h _ ?_
      · rw [lei, t1, a1, e1] at c6
        have ea : zI κ_7 paAt a0 = zI κ_1 paAt a0 := by rw [hκ_7]; rfl
        have et : zI κ_7 taTotal (zR κ_7 paTape a0) = zI κ_1 taTotal (zR κ_1 paTape a0) := by rw [hκ_7]; rfl
        have ek : zI κ_7 paKind a0 = 142 := by rw [hκ_7]; exact if_pos ⟨rfl, rfl⟩
        refine ⟨O1.tr (paO_ui hκ_7 (by decide)), ⟨?_, Or.inr ek⟩, by rw [ea, a1, e1]⟩
        rw [ea, et, a1, e1, t1]
        omega
    · skip
      refine ⟨?_, ?_⟩
      · rw [lti, t0i, a1, e1] at c3
        rw [lei, t1, a1, e1] at c6
        have r1 : zN κ_1 (zR κ_1 taKinds (zR κ_1 paTape a0)) = zN κ (zR κ taKinds (zR κ paTape a0)) := by rw [hκ_1]; rfl
        rw [inb_iff, a1, e1, r1]
        omega
      intro κ_9 hκ_9
      intro W10
      refine h _ ?_
      · rw [lei, t1, a1, e1] at c6
        have ea : zI κ_9 paAt a0 = zI κ_1 paAt a0 := by rw [hκ_9]; rfl
        have et : zI κ_9 taTotal (zR κ_9 paTape a0) = zI κ_1 taTotal (zR κ_1 paTape a0) := by rw [hκ_9]; rfl
        refine ⟨O1.tr (paO_ui hκ_9 (by decide)), ?_, by rw [ea, a1, e1]⟩
        unfold paK
        rw [ea, et, a1, e1, t1]
        exact ⟨⟨by omega, by omega⟩, Or.inl (by omega)⟩

theorem paX_o {C : zC} {n0 p : Nat} {κ τ κ' : zS} (W : zW C n0 κ) (T : zT κ p = 10) (H : paI κ p) (O : paO κ τ p) (e : κ' = ut τ) : paX κ "java/lang/IllegalStateException" κ' p := by
  obtain ⟨I, F, -⟩ := paO_p W T O H
  exact ⟨rfl, τ, e, F, I⟩
theorem Pa_refuse_c {C : zC} {n0 : Nat} {a0 : Nat} {a1 : Int32} {a2 : Int32} {κ : zS} {Q : zS → Prop} {X : zXp} (W : zW C n0 κ) (Ta0 : zT κ a0 = 10)  (hp : paI κ a0) (h : ∀ (κ' : zS), (False) → Q κ') (hx : ∀ (cls : String) (κ' : zS), (paX κ cls κ' a0) → X cls κ') : zRun C 8 mPa_refuse [.ref a0, .int a1, .int a2] κ (oV Q X) := by
  refine Pa_refuse_run W Ta0 ?_
  replace W := W.lo (Nat.le_trans W.1.2.1 W.1.2.2) (Nat.le_refl (zn κ))
  unfold w_Pa_refuse_0
  have hj66 : ∀ (l0 : Nat) (s0 : Nat) (τ : zS), zW C (zn κ) τ → zT τ l0 = 10 → zT τ s0 = 10 → (a0 = l0 ∧ paO κ τ a0 ∧ s0 = a0) → w_Pa_refuse_66 C (zn κ) Q X  l0 s0 τ := by
    rintro _ y66_s0 τ66 W66 T66_0 T66_1 ⟨rfl, j66⟩
    unfold w_Pa_refuse_66
    intro κ_1 hκ_1
    intro W2
    intro κ_3 hκ_3
    refine hx _ _ ?_
    · rw [j66.2] at hκ_1
      exact paX_o W Ta0 hp (j66.1.tr (paO_ui hκ_1 (by decide))) hκ_3
  have hj35 : ∀ (l0 : Nat) (l3 : Int32) (s0 : Nat) (s1 : Int32) (τ : zS), zW C (zn κ) τ → zT τ l0 = 10 → zT τ s0 = 10 → (κ = τ ∧ a0 = l0 ∧ s0 = a0) → w_Pa_refuse_35 C (zn κ) Q X  l0 l3 s0 s1 τ := by
    rintro _ y35_3 y35_s0 y35_s1 _ W35 T35_0 T35_1 ⟨rfl, rfl, j35⟩
    unfold w_Pa_refuse_35
    intro κ_4 hκ_4
    intro W5
    refine ⟨fun c6 => ?_, fun c6 => ?_⟩
    · skip
      refine hj66 _ _ _ W5 ?_ ?_ ?_
      · rw [j35] at hκ_4; exact (paO_ui hκ_4 (by decide)).1.t Ta0 (by decide)  -- t2
      · rw [j35] at hκ_4; exact (paO_ui hκ_4 (by decide)).1.t Ta0 (by decide)  -- t3
      · rw [j35] at hκ_4; exact ⟨rfl, paO_ui hκ_4 (by decide), rfl⟩  -- k4
    · skip
      refine ⟨fun c7 => ?_, fun c7 => ?_⟩
      · skip
        refine hj66 _ _ _ W5 ?_ ?_ ?_
        · rw [j35] at hκ_4; exact (paO_ui hκ_4 (by decide)).1.t Ta0 (by decide)  -- t5
        · rw [j35] at hκ_4; exact (paO_ui hκ_4 (by decide)).1.t Ta0 (by decide)  -- t6
        · rw [j35] at hκ_4; exact ⟨rfl, paO_ui hκ_4 (by decide), rfl⟩  -- k7
      · skip
        refine ⟨?_, ?_⟩
        · rw [j35] at hκ_4
          have TT := hp.1.1.2
          have t1 : zI κ_4 taTotal (zR κ_4 paTape a0) = zI κ taTotal (zR κ paTape a0) := by rw [hκ_4]; rfl
          have r1 : zN κ_4 (zR κ_4 taPlaces (zR κ_4 paTape a0)) = zN κ (zR κ taPlaces (zR κ paTape a0)) := by rw [hκ_4]; rfl
          rw [lti, t0i] at c6
          rw [lei, t1] at c7
          rw [inb_iff, r1]
          omega
        intro κ_8 hκ_8
        intro W9
        intro κ_10 hκ_10
        refine hx _ _ ?_
        · rw [j35] at hκ_4
          exact paX_o W Ta0 hp ((paO_ui hκ_4 (by decide)).tr (paO_ui hκ_8 (by decide))) hκ_10
  have hj18 : ∀ (l0 : Nat) (l1 : Int32) (s0 : Int32) (τ : zS), zW C (zn κ) τ → zT τ l0 = 10 → (κ = τ ∧ a0 = l0 ∧ a1 = l1 ∧ True) → w_Pa_refuse_18 C (zn κ) Q X  l0 l1 s0 τ := by
    rintro _ _ y18_s0 _ W18 T18_0 ⟨rfl, rfl, rfl, j18⟩
    unfold w_Pa_refuse_18
    refine ⟨fun c11 => ?_, fun c11 => ?_⟩
    · skip
      refine hj35 _ _ _ _ _ W18 ?_ ?_ ?_
      · exact Ta0  -- t10
      · exact Ta0  -- t11
      · exact ⟨rfl, rfl, rfl⟩  -- k12
    · skip
      refine hj35 _ _ _ _ _ W18 ?_ ?_ ?_
      · exact Ta0  -- t13
      · exact Ta0  -- t14
      · exact ⟨rfl, rfl, rfl⟩  -- k15
  refine ⟨fun c12 => ?_, fun c12 => ?_⟩
  · skip
    refine hj18 _ _ _ _ W ?_ ?_
    · exact Ta0  -- t16
    · exact ⟨rfl, rfl, rfl, trivial⟩  -- k17
  · skip
    refine hj18 _ _ _ _ W ?_ ?_
    · exact Ta0  -- t18
    · exact ⟨rfl, rfl, rfl, trivial⟩  -- k19

theorem Pa_expect_c {C : zC} {n0 : Nat} {a0 : Nat} {a1 : Int32} {κ : zS} {Q : zS → Prop} {X : zXp} (W : zW C n0 κ) (Ta0 : zT κ a0 = 10)  (hp : paI κ a0) (h : ∀ (κ' : zS), (κ = κ' ∧ zI κ paKind a0 = a1) → Q κ') (hx : ∀ (cls : String) (κ' : zS), (paX κ cls κ' a0) → X cls κ') : zRun C 9 mPa_expect [.ref a0, .int a1] κ (oV Q X) := by
  refine Pa_expect_run W Ta0 ?_
  replace W := W.lo (Nat.le_trans W.1.2.1 W.1.2.2) (Nat.le_refl (zn κ))
  unfold w_Pa_expect_0
  refine ⟨fun c1 => ?_, fun c1 => ?_⟩
  · skip
    refine h _ ?_
    · exact ⟨rfl, c1⟩  -- q1
  · skip
    intro T2
    refine Pa_refuse_c W T2  ?_ (fun κ_3 q4 => False.elim q4) (fun cls9 κ9 q9 => hx _ _ ?_)
    · exact hp  -- p2
    · exact q9  -- x3

/-- a token was taken -/
def paT (κ τ : zS) (p : Nat) : Prop := paO κ τ p ∧ paK τ p ∧ (zI τ paAt p).toInt = (zI κ paAt p).toInt + 1
theorem paK_t {κ : zS} {p : Nat} {k : Int32} (h : paK κ p) (e : zI κ paKind p = k) (ne : k ≠ 142) : -1 ≤ (zI κ paAt p).toInt ∧ (zI κ paAt p).toInt < (zI κ taTotal (zR κ paTape p)).toInt := by
  refine ⟨by have := h.1.1; omega, ?_⟩
  rcases h.2 with z | z
  · exact z
  · exact absurd (e.symm.trans z) ne
theorem paT_o {C : zC} {n0 p : Nat} {κ τ σ : zS} {x : Int32} (W : zW C n0 κ) (T : zT κ p = 10) (e : τ = ui κ paOpen p x) (h : paO τ σ p ∧ paK σ p ∧ (zI σ paAt p).toInt = (zI τ paAt p).toInt + 1) : paT κ σ p := by
  refine ⟨(paO_ui e (by decide)).tr h.1, h.2.1, ?_⟩
  have ea : zI τ paAt p = zI κ paAt p := by rw [e]; rfl
  rw [h.2.2, ea]
theorem pa_pre {C : zC} {n0 p : Nat} {κ τ : zS} {k x : Int32} (W : zW C n0 κ) (T : zT κ p = 10) (H : paI κ p) (h : paK κ p) (e : zI κ paKind p = k) (ne : k ≠ 142) (et : τ = ui κ paOpen p x) : paI τ p ∧ -1 ≤ (zI τ paAt p).toInt ∧ (zI τ paAt p).toInt < (zI τ taTotal (zR τ paTape p)).toInt := by
  have ea : zI τ paAt p = zI κ paAt p := by rw [et]; rfl
  have eb : zI τ taTotal (zR τ paTape p) = zI κ taTotal (zR κ paTape p) := by rw [et]; rfl
  rw [ea, eb]
  exact ⟨(paO_p W T (paO_ui et (by decide)) H).1, paK_t h e ne⟩
theorem Pa_pass_c {C : zC} {n0 : Nat} {a0 : Nat} {a1 : Int32} {κ : zS} {Q : zS → Prop} {X : zXp} (W : zW C n0 κ) (Ta0 : zT κ a0 = 10)  (hp : paI κ a0 ∧ paK κ a0 ∧ a1 ≠ 142) (h : ∀ (κ' : zS), (paT κ κ' a0) → Q κ') (hx : ∀ (cls : String) (κ' : zS), (paX κ cls κ' a0) → X cls κ') : zRun C 9 mPa_pass [.ref a0, .int a1] κ (oV Q X) := by
  refine Pa_pass_run W Ta0 ?_
  replace W := W.lo (Nat.le_trans W.1.2.1 W.1.2.2) (Nat.le_refl (zn κ))
  unfold w_Pa_pass_0
  refine ⟨fun c1 => ?_, fun c1 => ?_⟩
  · skip
    intro T2
    refine Pa_take_c W T2  ?_ (fun κ_3 q4 => ?_)
    · exact ⟨hp.1, paK_t hp.2.1 c1 hp.2.2⟩  -- p1
    intro W5
    intro M6
    refine h _ ?_
    · exact q4  -- q2
  · skip
    intro T7
    refine Pa_refuse_c W T7  ?_ (fun κ_8 q9 => False.elim q9) (fun cls9 κ9 q9 => hx _ _ ?_)
    · exact hp.1  -- p3
    · exact q9  -- x4

theorem Pa_openSign_c {C : zC} {n0 : Nat} {a0 : Nat} {a1 : Int32} {κ : zS} {Q : zS → Prop} {X : zXp} (W : zW C n0 κ) (Ta0 : zT κ a0 = 10)  (hp : paI κ a0 ∧ paK κ a0 ∧ a1 ≠ 142) (h : ∀ (κ' : zS), (paT κ κ' a0) → Q κ') (hx : ∀ (cls : String) (κ' : zS), (paX κ cls κ' a0) → X cls κ') : zRun C 9 mPa_openSign [.ref a0, .int a1] κ (oV Q X) := by
  refine Pa_openSign_run W Ta0 ?_
  replace W := W.lo (Nat.le_trans W.1.2.1 W.1.2.2) (Nat.le_refl (zn κ))
  unfold w_Pa_openSign_0
  have hj35 : ∀ (l0 : Nat) (τ : zS), zW C (zn κ) τ → zT τ l0 = 10 → (κ = τ ∧ a0 = l0 ∧ zI κ paKind a0 = a1) → w_Pa_openSign_35 C (zn κ) Q X  l0 τ := by
    rintro _ _ W35 T35_0 ⟨rfl, rfl, j35⟩
    unfold w_Pa_openSign_35
    intro κ_1 hκ_1
    intro W2
    intro T3
    refine Pa_take_c W2 T3  ?_ (fun κ_4 q5 => ?_)
    · exact pa_pre W35 Ta0 hp.1 hp.2.1 j35 hp.2.2 hκ_1  -- p1
    intro W6
    intro M7
    refine h _ ?_
    · exact paT_o W35 Ta0 hκ_1 q5  -- q2
  have hj17 : ∀ (l0 : Nat) (τ : zS), zW C (zn κ) τ → zT τ l0 = 10 → (κ = τ ∧ a0 = l0 ∧ zI κ paKind a0 = a1) → w_Pa_openSign_17 C (zn κ) Q X  l0 τ := by
    rintro _ _ W17 T17_0 ⟨rfl, rfl, j17⟩
    unfold w_Pa_openSign_17
    refine ⟨fun c8 => ?_, fun c8 => ?_⟩
    · skip
      refine hj35 _ _ W17 ?_ ?_
      · exact Ta0  -- t3
      · exact ⟨rfl, rfl, j17⟩  -- k4
    · skip
      intro T9
      refine Pa_refuse_c W17 T9  ?_ (fun κ_10 q11 => False.elim q11) (fun cls9 κ9 q9 => hx _ _ ?_)
      · exact hp.1  -- p5
      · exact q9  -- x6
  refine ⟨fun c12 => ?_, fun c12 => ?_⟩
  · skip
    refine hj17 _ _ W ?_ ?_
    · exact Ta0  -- t7
    · exact ⟨rfl, rfl, c12⟩  -- k8
  · skip
    intro T13
    refine Pa_refuse_c W T13  ?_ (fun κ_14 q15 => False.elim q15) (fun cls9 κ9 q9 => hx _ _ ?_)
    · exact hp.1  -- p9
    · exact q9  -- x10

theorem Pa_closeSign_c {C : zC} {n0 : Nat} {a0 : Nat} {a1 : Int32} {κ : zS} {Q : zS → Prop} {X : zXp} (W : zW C n0 κ) (Ta0 : zT κ a0 = 10)  (hp : paI κ a0 ∧ paK κ a0 ∧ a1 ≠ 142) (h : ∀ (κ' : zS), (paT κ κ' a0) → Q κ') (hx : ∀ (cls : String) (κ' : zS), (paX κ cls κ' a0) → X cls κ') : zRun C 9 mPa_closeSign [.ref a0, .int a1] κ (oV Q X) := by
  refine Pa_closeSign_run W Ta0 ?_
  replace W := W.lo (Nat.le_trans W.1.2.1 W.1.2.2) (Nat.le_refl (zn κ))
  unfold w_Pa_closeSign_0
  have hj17 : ∀ (l0 : Nat) (τ : zS), zW C (zn κ) τ → zT τ l0 = 10 → (κ = τ ∧ a0 = l0 ∧ zI κ paKind a0 = a1) → w_Pa_closeSign_17 C (zn κ) Q X  l0 τ := by
    rintro _ _ W17 T17_0 ⟨rfl, rfl, j17⟩
    unfold w_Pa_closeSign_17
    intro κ_1 hκ_1
    intro W2
    intro T3
    refine Pa_take_c W2 T3  ?_ (fun κ_4 q5 => ?_)
    · exact pa_pre W17 Ta0 hp.1 hp.2.1 j17 hp.2.2 hκ_1  -- p1
    intro W6
    intro M7
    refine h _ ?_
    · exact paT_o W17 Ta0 hκ_1 q5  -- q2
  refine ⟨fun c8 => ?_, fun c8 => ?_⟩
  · skip
    refine hj17 _ _ W ?_ ?_
    · exact Ta0  -- t3
    · exact ⟨rfl, rfl, c8⟩  -- k4
  · skip
    intro T9
    refine Pa_refuse_c W T9  ?_ (fun κ_10 q11 => False.elim q11) (fun cls9 κ9 q9 => hx _ _ ?_)
    · exact hp.1  -- p5
    · exact q9  -- x6

theorem Pa_newName_c {C : zC} {n0 : Nat} {a0 : Nat} {a1 : Int32} {a2 : Int32} {κ : zS} {Q : Int32 → zS → Prop} {X : zXp} (W : zW C n0 κ) (Ta0 : zT κ a0 = 10)  (hp : paI κ a0 ∧ paK κ a0) (h : ∀ (v : Int32) (κ' : zS), (paT κ κ' a0 ∧ a1.toInt < a2.toInt) → Q v κ') (hx : ∀ (cls : String) (κ' : zS), (paX κ cls κ' a0) → X cls κ') : zRun C 10 mPa_newName [.ref a0, .int a1, .int a2] κ (oI Q X) := by
  refine Pa_newName_run W Ta0 ?_
  replace W := W.lo (Nat.le_trans W.1.2.1 W.1.2.2) (Nat.le_refl (zn κ))
  unfold w_Pa_newName_0
  have hj143 : ∀ (l0 : Nat) (τ : zS), zW C (zn κ) τ → zT τ l0 = 10 → (κ = τ ∧ a0 = l0 ∧ zI κ paKind a0 = 140 ∧ a1.toInt < a2.toInt) → w_Pa_newName_143 C (zn κ) Q X  l0 τ := by
    rintro _ _ W143 T143_0 ⟨rfl, rfl, j143⟩
    unfold w_Pa_newName_143
    intro T1
    refine Pa_take_c W143 T1  ?_ (fun κ_2 q3 => ?_)
    · exact ⟨hp.1, paK_t hp.2 j143.1 (by decide)⟩  -- p1
    intro W4
    intro M5
    refine h _ _ ?_
    · exact ⟨q3, j143.2⟩  -- q2
  have hj128 : ∀ (l0 : Nat) (l1 : Int32) (l2 : Int32) (τ : zS), zW C (zn κ) τ → zT τ l0 = 10 → (κ = τ ∧ a0 = l0 ∧ a1 = l1 ∧ a2 = l2 ∧ zI κ paKind a0 = 140) → w_Pa_newName_128 C (zn κ) Q X  l0 l1 l2 τ := by
    rintro _ _ _ _ W128 T128_0 ⟨rfl, rfl, rfl, rfl, j128⟩
    unfold w_Pa_newName_128
    refine ⟨fun c6 => ?_, fun c6 => ?_⟩
    · skip
      refine hj143 _ _ W128 ?_ ?_
      · exact Ta0  -- t3
      · exact ⟨rfl, rfl, j128, by rw [lti] at c6; exact c6⟩  -- k4
    · skip
      intro T7
      refine Pa_refuse_c W128 T7  ?_ (fun κ_8 q9 => False.elim q9) (fun cls9 κ9 q9 => hx _ _ ?_)
      · exact hp.1  -- p5
      · exact q9  -- x6
  have hj113 : ∀ (l0 : Nat) (l1 : Int32) (l2 : Int32) (s0 : Int32) (τ : zS), zW C (zn κ) τ → zT τ l0 = 10 → (κ = τ ∧ a0 = l0 ∧ a1 = l1 ∧ a2 = l2 ∧ zI κ paKind a0 = 140) → w_Pa_newName_113 C (zn κ) Q X  l0 l1 l2 s0 τ := by
    rintro _ _ _ y113_s0 _ W113 T113_0 ⟨rfl, rfl, rfl, rfl, j113⟩
    unfold w_Pa_newName_113
    refine ⟨fun c10 => ?_, fun c10 => ?_⟩
    · skip
      refine hj128 _ _ _ _ W113 ?_ ?_
      · exact Ta0  -- t7
      · exact ⟨rfl, rfl, rfl, rfl, j113⟩  -- k8
    · skip
      intro T11
      refine Pa_refuse_c W113 T11  ?_ (fun κ_12 q13 => False.elim q13) (fun cls9 κ9 q9 => hx _ _ ?_)
      · exact hp.1  -- p9
      · exact q9  -- x10
  intro T14
  refine Pa_expect_c W T14  ?_ (fun κ_15 q16 => ?_) (fun cls9 κ9 q9 => hx _ _ ?_)
  · exact hp.1  -- p11
  rotate_left
  · exact q9  -- x12
  obtain ⟨rfl, hk⟩ := q16
  intro W17
  intro M18
  intro T19
  intro T20
  refine Ta_findName_c W17 T19 T20  ?_ (fun r21 q23 => ?_)
  · exact ⟨hp.1.1.1, hp.1.1.2.1⟩  -- p13
  intro W24
  intro M25
  refine ⟨fun c26 => ?_, fun c26 => ?_⟩
  · skip
    refine hj113 _ _ _ _ _ W24 ?_ ?_
    · exact Ta0  -- t14
    · exact ⟨rfl, rfl, rfl, rfl, hk⟩  -- k15
  · skip
    intro T27
    intro T28
    refine Ta_findName_c W24 T27 T28  ?_ (fun r29 q31 => ?_)
    · exact ⟨hp.1.1.1, hp.1.1.2.1⟩  -- p16
    intro W32
    intro M33
    refine ⟨fun c34 => ?_, fun c34 => ?_⟩
    · skip
      refine hj113 _ _ _ _ _ W32 ?_ ?_
      · exact Ta0  -- t17
      · exact ⟨rfl, rfl, rfl, rfl, hk⟩  -- k18
    · skip
      intro T35
      intro T36
      refine Ta_findName_c W32 T35 T36  ?_ (fun r37 q39 => ?_)
      · exact ⟨hp.1.1.1, hp.1.1.2.1⟩  -- p19
      intro W40
      intro M41
      refine ⟨fun c42 => ?_, fun c42 => ?_⟩
      · skip
        refine hj113 _ _ _ _ _ W40 ?_ ?_
        · exact Ta0  -- t20
        · exact ⟨rfl, rfl, rfl, rfl, hk⟩  -- k21
      · skip
        intro T43
        intro T44
        refine Ta_findName_c W40 T43 T44  ?_ (fun r45 q47 => ?_)
        · exact ⟨hp.1.1.1, hp.1.1.2.1⟩  -- p22
        intro W48
        intro M49
        refine ⟨fun c50 => ?_, fun c50 => ?_⟩
        · skip
          refine hj113 _ _ _ _ _ W48 ?_ ?_
          · exact Ta0  -- t23
          · exact ⟨rfl, rfl, rfl, rfl, hk⟩  -- k24
        · skip
          refine hj113 _ _ _ _ _ W48 ?_ ?_
          · exact Ta0  -- t25
          · exact ⟨rfl, rfl, rfl, rfl, hk⟩  -- k26

theorem Pa_findArray_c {C : zC} {n0 : Nat} {a0 : Nat} {a1 : Int32} {κ : zS} {Q : Int32 → zS → Prop} {X : zXp} (W : zW C n0 κ) (Ta0 : zT κ a0 = 10)  (hp : paI κ a0) (h : ∀ (v : Int32), (0 ≤ v.toInt ∧ v.toInt < 3) → Q v κ) (hx : ∀ (cls : String) (κ' : zS), (paX κ cls κ' a0) → X cls κ') : zRun C 9 mPa_findArray [.ref a0, .int a1] κ (oI Q X) := by
  refine Pa_findArray_run W Ta0 ?_
  replace W := W.lo (Nat.le_trans W.1.2.1 W.1.2.2) (Nat.le_refl (zn κ))
  unfold w_Pa_findArray_0
  intro T1
  intro T2
  refine Ta_findName_c W T1 T2  ?_ (fun r3 q5 => ?_)
  · exact ⟨hp.1.1, hp.1.2.1⟩  -- p1
  intro W6
  intro M7
  refine ⟨fun c8 => ?_, fun c8 => ?_⟩
  · skip
    refine h _ ?_
    · have L := hp.2.2.1.2.1
      have n1 : r3.toInt ≠ -1 := fun e => c8 (Int32.toInt_inj.mp (e.trans tmi.symm))
      obtain ⟨u1, u2, -⟩ := q5
      omega
  · skip
    intro T9
    refine Pa_refuse_c W6 T9  ?_ (fun κ_10 q11 => False.elim q11) (fun cls9 κ9 q9 => hx _ _ ?_)
    · exact hp  -- p3
    · exact q9  -- x4

theorem Pa_findVariable_c {C : zC} {n0 : Nat} {a0 : Nat} {a1 : Int32} {κ : zS} {Q : Int32 → zS → Prop} {X : zXp} (W : zW C n0 κ) (Ta0 : zT κ a0 = 10)  (hp : paI κ a0) (h : ∀ (v : Int32), (-1 ≤ v.toInt ∧ v.toInt < 8) → Q v κ) (hx : ∀ (cls : String) (κ' : zS), (paX κ cls κ' a0) → X cls κ') : zRun C 9 mPa_findVariable [.ref a0, .int a1] κ (oI Q X) := by
  refine Pa_findVariable_run W Ta0 ?_
  replace W := W.lo (Nat.le_trans W.1.2.1 W.1.2.2) (Nat.le_refl (zn κ))
  unfold w_Pa_findVariable_0
  intro T1
  intro T2
  refine Ta_findName_c W T1 T2  ?_ (fun r3 q5 => ?_)
  · exact ⟨hp.1.1, hp.1.2.1⟩  -- p1
  intro W6
  intro M7
  refine ⟨fun c8 => ?_, fun c8 => ?_⟩
  · skip
    refine h _ ?_
    · have L := hp.2.2.1.2.2.2.1
      obtain ⟨u1, u2, -⟩ := q5
      omega
  · skip
    intro T9
    intro T10
    refine Ta_findName_c W6 T9 T10  ?_ (fun r11 q13 => ?_)
    · exact ⟨hp.1.1, hp.1.2.1⟩  -- p3
    intro W14
    intro M15
    refine ⟨fun c16 => ?_, fun c16 => ?_⟩
    · skip
      refine h _ ?_
      · have L := hp.2.2.1.2.2.2.1
        obtain ⟨u1, u2, -⟩ := q5
        omega
    · skip
      intro T17
      refine Pa_refuse_c W14 T17  ?_ (fun κ_18 q19 => False.elim q19) (fun cls9 κ9 q9 => hx _ _ ?_)
      · exact hp  -- p5
      · exact q9  -- x6

theorem Pa_rankOf_c {C : zC} {n0 : Nat} {a0 : Int32} {κ : zS} {Q : Int32 → zS → Prop} (W : zW C n0 κ)   (h : ∀ (v : Int32), (True) → Q v κ) : zRun C 0 mPa_rankOf [.int a0] κ (oI Q noX) := by
  refine Pa_rankOf_run W  ?_
  replace W := W.lo (Nat.le_trans W.1.2.1 W.1.2.2) (Nat.le_refl (zn κ))
  unfold w_Pa_rankOf_0
  refine ⟨fun c1 => ?_, fun c1 => ?_⟩
  · skip
    refine ⟨fun c2 => ?_, fun c2 => ?_⟩
    · skip
      refine ⟨fun c3 => ?_, fun c3 => ?_⟩
      · skip
        refine ⟨fun c4 => ?_, fun c4 => ?_⟩
        · skip
          refine ⟨fun c5 => ?_, fun c5 => ?_⟩
          · skip
            refine ⟨fun c6 => ?_, fun c6 => ?_⟩
            · skip
              refine h _ ?_
              · trivial  -- q1
            · skip
              refine h _ ?_
              · trivial  -- q2
          · skip
            refine h _ ?_
            · trivial  -- q3
        · skip
          refine h _ ?_
          · trivial  -- q4
      · skip
        refine h _ ?_
        · trivial  -- q5
    · skip
      refine h _ ?_
      · trivial  -- q6
  · skip
    refine h _ ?_
    · trivial  -- q7

theorem Pa_binary_c {C : zC} {n0 : Nat} {a0 : Int32} {κ : zS} {Q : Int32 → zS → Prop} (W : zW C n0 κ)   (h : ∀ (v : Int32), (v = -1 ∨ a0 ≠ 142) → Q v κ) : zRun C 0 mPa_binary [.int a0] κ (oI Q noX) := by
  refine Pa_binary_run W  ?_
  replace W := W.lo (Nat.le_trans W.1.2.1 W.1.2.2) (Nat.le_refl (zn κ))
  unfold w_Pa_binary_0
  refine ⟨fun c1 => ?_, fun c1 => ?_, fun c1 => ?_, fun c1 => ?_, fun c1 => ?_, fun c1 => ?_, fun c1 => ?_, fun c1 => ?_, fun c1 => ?_, fun c1 => ?_, fun c1 => ?_, fun c1 => ?_, fun c1 => ?_, fun c1 => ?_⟩
  · skip
    refine h _ ?_
    · exact Or.inl rfl  -- q1
  · skip
    refine h _ ?_
    · exact Or.inr (fun e => by rw [e] at c1; exact absurd c1 (by decide))  -- q2
  · skip
    refine h _ ?_
    · exact Or.inr (fun e => by rw [e] at c1; exact absurd c1 (by decide))  -- q3
  · skip
    refine h _ ?_
    · exact Or.inr (fun e => by rw [e] at c1; exact absurd c1 (by decide))  -- q4
  · skip
    refine h _ ?_
    · exact Or.inr (fun e => by rw [e] at c1; exact absurd c1 (by decide))  -- q5
  · skip
    refine h _ ?_
    · exact Or.inr (fun e => by rw [e] at c1; exact absurd c1 (by decide))  -- q6
  · skip
    refine h _ ?_
    · exact Or.inr (fun e => by rw [e] at c1; exact absurd c1 (by decide))  -- q7
  · skip
    refine h _ ?_
    · exact Or.inr (fun e => by rw [e] at c1; exact absurd c1 (by decide))  -- q8
  · skip
    refine h _ ?_
    · exact Or.inr (fun e => by rw [e] at c1; exact absurd c1 (by decide))  -- q9
  · skip
    refine h _ ?_
    · exact Or.inr (fun e => by rw [e] at c1; exact absurd c1 (by decide))  -- q10
  · skip
    refine h _ ?_
    · exact Or.inr (fun e => by rw [e] at c1; exact absurd c1 (by decide))  -- q11
  · skip
    refine h _ ?_
    · exact Or.inr (fun e => by rw [e] at c1; exact absurd c1 (by decide))  -- q12
  · skip
    refine h _ ?_
    · exact Or.inr (fun e => by rw [e] at c1; exact absurd c1 (by decide))  -- q13
  · skip
    refine h _ ?_
    · exact Or.inr (fun e => by rw [e] at c1; exact absurd c1 (by decide))  -- q14

end
section
set_option maxHeartbeats 1600000
/-! the class: Parser: names, blocks, operators that wait -/
def psi (κ : zS) (p : Nat) : Int := 2 * (zI κ paAt p).toInt - (zI κ coLength (zR κ paCode p)).toInt
def tht (κ : zS) (p : Nat) : Int := (zI κ paAt p).toInt - (zI κ coLength (zR κ paCode p)).toInt - (zI κ paWaits p).toInt
/-- statements: for each token taken two words of code may come -/
def paM (κ τ : zS) (p : Nat) (k : Int) : Prop := paF κ τ p ∧ paI τ p ∧ paK τ p ∧ psi κ p + k ≤ psi τ p
/-- expressions: for each token taken one word may come, or wait -/
def paE (κ τ : zS) (p : Nat) (k : Int) : Prop := paF κ τ p ∧ paI τ p ∧ paK τ p ∧ tht κ p + k ≤ tht τ p ∧ (zI κ paAt p).toInt ≤ (zI τ paAt p).toInt
/-- neither tokens nor code move -/
def paN (κ τ : zS) (p : Nat) : Prop := paF κ τ p ∧ paI τ p ∧ (zI τ paAt p = zI κ paAt p ∧ zI τ paKind p = zI κ paKind p) ∧ zI τ coLength (zR τ paCode p) = zI κ coLength (zR κ paCode p) ∧ zI τ taTotal (zR τ paTape p) = zI κ taTotal (zR κ paTape p)
theorem paM.tr {κ τ σ : zS} {p : Nat} {k l : Int} (h : paM κ τ p k) (g : paM τ σ p l) : paM κ σ p (k + l) := ⟨h.1.tr g.1, g.2.1, g.2.2.1, by have a := h.2.2.2; have b := g.2.2.2; omega⟩
theorem paM.le {κ τ : zS} {p : Nat} {k l : Int} (h : paM κ τ p k) (e : l ≤ k) : paM κ τ p l := ⟨h.1, h.2.1, h.2.2.1, by have a := h.2.2.2; omega⟩
theorem paE.tr {κ τ σ : zS} {p : Nat} {k l : Int} (h : paE κ τ p k) (g : paE τ σ p l) : paE κ σ p (k + l) := ⟨h.1.tr g.1, g.2.1, g.2.2.1, by have a := h.2.2.2.1; have b := g.2.2.2.1; omega, by have a := h.2.2.2.2; have b := g.2.2.2.2; omega⟩
theorem paE.le {κ τ : zS} {p : Nat} {k l : Int} (h : paE κ τ p k) (e : l ≤ k) : paE κ τ p l := ⟨h.1, h.2.1, h.2.2.1, by have a := h.2.2.2.1; omega, h.2.2.2.2⟩
theorem paN.rf {κ : zS} {p : Nat} (H : paI κ p) : paN κ κ p := ⟨paF.rf, H, ⟨rfl, rfl⟩, rfl, rfl⟩
theorem paN.tr {κ τ σ : zS} {p : Nat} (h : paN κ τ p) (g : paN τ σ p) : paN κ σ p := ⟨h.1.tr g.1, g.2.1, ⟨g.2.2.1.1.trans h.2.2.1.1, g.2.2.1.2.trans h.2.2.1.2⟩, g.2.2.2.1.trans h.2.2.2.1, g.2.2.2.2.trans h.2.2.2.2⟩
theorem paN_K {κ τ : zS} {p : Nat} (h : paN κ τ p) (K : paK κ p) : paK τ p := by
  unfold paK
  rw [h.2.2.1.1, h.2.2.1.2, h.2.2.2.2]
  exact K
theorem paN_M {κ τ : zS} {p : Nat} (h : paN κ τ p) (K : paK κ p) : paM κ τ p 0 := by
  refine ⟨h.1, h.2.1, paN_K h K, ?_⟩
  unfold psi
  rw [h.2.2.1.1, h.2.2.2.1]
  omega
theorem paT_N {C : zC} {n0 p : Nat} {κ τ : zS} (W : zW C n0 κ) (T : zT κ p = 10) (H : paI κ p) (h : paT κ τ p) : paM κ τ p 2 ∧ paE κ τ p 1 ∧ zI τ paWaits p = zI κ paWaits p ∧ (zI τ paAt p).toInt = (zI κ paAt p).toInt + 1 ∧ zI τ coLength (zR τ paCode p) = zI κ coLength (zR κ paCode p) := by
  obtain ⟨I, F, c, t⟩ := paO_p W T h.1 H
  have ec : zI τ coLength (zR τ paCode p) = zI κ coLength (zR κ paCode p) := by rw [F.2.2]; exact c _
  have ew : zI τ paWaits p = zI κ paWaits p := h.1.2.2.2.2 paWaits p (fun e => absurd e.2 (by decide))
  refine ⟨⟨F, I, h.2.1, ?_⟩, ⟨F, I, h.2.1, ?_, by have := h.2.2; omega⟩, ew, h.2.2, ec⟩
  · unfold psi
    rw [h.2.2, ec]
    omega
  · unfold tht
    rw [h.2.2, ec, ew]
    omega
theorem paI_c {C : zC} {n0 p : Nat} {κ τ : zS} (W : zW C n0 κ) (T : zT κ p = 10) (H : paI κ p) (Z : zF (objF (zR κ paCode p)) κ τ) (hc : coI τ (zR κ paCode p)) : paI τ p ∧ paF κ τ p ∧ (∀ f, zI τ f p = zI κ f p) ∧ (∀ f, zI τ f (zR κ paTape p) = zI κ f (zR κ paTape p)) ∧ ∀ f, zR τ f p = zR κ f p := by
  have n := pa_ne W T
  have a : ∀ f, ¬ objF (zR κ paCode p) f (zR κ paTape p) := fun f e => n.2.2 e
  have b : ∀ f, ¬ objF (zR κ paCode p) f p := fun f e => n.2.1 e.symm
  have r : ∀ f, zR τ f p = zR κ f p := fun f => Z.r (b f)
  refine ⟨⟨?_, ?_, ?_, ?_⟩, ⟨Z.mono (fun _ _ e => Or.inr e), r _, r _⟩, fun f => Z.i (b f), fun f => Z.i (a f), r⟩
  · rw [r, Z.i (a taTotal)]
    exact ⟨taI_zF Z W (ty_paTape W T) a H.1.1, tokI_zF Z W (ty_paTape W T) a H.1.2.1, H.1.2.2⟩
  · rw [r]; exact hc
  · unfold paL
    rw [r paVarNames, r paArrayNames, r paFunctionNames, r paOwnNames, r paOwners, r paLasts, r paElses, Z.l (ty_paVarNames W T), Z.l (ty_paArrayNames W T), Z.l (ty_paFunctionNames W T), Z.l (ty_paOwnNames W T), Z.l (ty_paOwners W T), Z.l (ty_paLasts W T), Z.l (ty_paElses W T)]
    exact H.2.2.1
  · unfold paC
    rw [r paWaiting, Z.l (ty_paWaiting W T), Z.i (b paOwns), Z.i (b paBlocks), Z.i (b paWaits)]
    exact H.2.2.2
/-- the code alone, but not its length -/
theorem paN_c {C : zC} {n0 p : Nat} {κ τ : zS} (W : zW C n0 κ) (T : zT κ p = 10) (H : paI κ p) (Z : zF (objF (zR κ paCode p)) κ τ) (hc : coI τ (zR κ paCode p)) (hl : zI τ coLength (zR κ paCode p) = zI κ coLength (zR κ paCode p)) : paN κ τ p ∧ zI τ paWaits p = zI κ paWaits p := by
  obtain ⟨I, F, i, t, r⟩ := paI_c W T H Z hc
  exact ⟨⟨F, I, ⟨i _, i _⟩, by rw [r]; exact hl, by rw [r]; exact t _⟩, i _⟩
/-- one word more -/
theorem pa_emit {C : zC} {n0 p : Nat} {κ τ : zS} (W : zW C n0 κ) (T : zT κ p = 10) (H : paI κ p) (q : zF (objF (zR κ paCode p)) κ τ ∧ coI τ (zR κ paCode p) ∧ zI τ coLength (zR κ paCode p) = zI κ coLength (zR κ paCode p) + 1 ∧ (∀ f, f ≠ coLength → zI τ f (zR κ paCode p) = zI κ f (zR κ paCode p))) (hb : (zI κ coLength (zR κ paCode p)).toInt ≤ 20500) : paI τ p ∧ paF κ τ p ∧ (∀ f, zI τ f p = zI κ f p) ∧ zI τ taTotal (zR τ paTape p) = zI κ taTotal (zR κ paTape p) ∧ (zI τ coLength (zR τ paCode p)).toInt = (zI κ coLength (zR κ paCode p)).toInt + 1 := by
  obtain ⟨I, F, i, t, r⟩ := paI_c W T H q.1 q.2.1
  have b := H.2.1.2.2.2.2.2.2.2.1.1
  refine ⟨I, F, i, by rw [r]; exact t _, ?_⟩
  rw [r, q.2.2.1, add_i (by rw [t1i]; omega) (by rw [t1i]; omega), t1i]
theorem paE_emit {C : zC} {n0 p : Nat} {κ τ : zS} (W : zW C n0 κ) (T : zT κ p = 10) (H : paI κ p) (K : paK κ p) (q : zF (objF (zR κ paCode p)) κ τ ∧ coI τ (zR κ paCode p) ∧ zI τ coLength (zR κ paCode p) = zI κ coLength (zR κ paCode p) + 1 ∧ (∀ f, f ≠ coLength → zI τ f (zR κ paCode p) = zI κ f (zR κ paCode p))) (hb : (zI κ coLength (zR κ paCode p)).toInt ≤ 20500) : paE κ τ p (-1) ∧ zI τ paKind p = zI κ paKind p ∧ paM κ τ p (-1) := by
  obtain ⟨I, F, i, t, l⟩ := pa_emit W T H q hb
  have k : paK τ p := by
    unfold paK
    rw [i paAt, i paKind, t]
    exact K
  refine ⟨⟨F, I, k, ?_, by rw [i paAt]; exact Int.le_refl _⟩, i _, F, I, k, ?_⟩
  · unfold tht
    rw [i paAt, i paWaits, l]
    omega
  · unfold psi
    rw [i paAt, l]
    omega
theorem pa_ua {C : zC} {n0 p f i t : Nat} {κ τ : zS} {x : Int32} (W : zW C n0 κ) (T : zT κ p = 10) (hr : zr f = some t) (ht : 20 ≤ t) (e : τ = ua κ (zR κ f p) i x) (hf : f / 100 = 10 := by decide) : zF (objF p) κ τ ∧ zR τ = zR κ ∧ zN τ = zN κ ∧ zI τ = zI κ ∧ zT τ p = 10 := by
  subst e
  have Z : zF (objF p) κ (ua κ (zR κ f p) i x) := zF_ua (by rw [W.o hr ht (T.trans hf.symm)])
  exact ⟨Z, rfl, rfl, rfl, Z.t T (by decide)⟩
/-- rows and counts of the parser's own -/
theorem paN_p {C : zC} {n0 p : Nat} {κ τ : zS} (W : zW C n0 κ) (T : zT κ p = 10) (H : paI κ p) (Z : zF (objF p) κ τ) (hR : zR τ = zR κ) (hN : zN τ = zN κ) (ha : zI τ paAt p = zI κ paAt p) (hk : zI τ paKind p = zI κ paKind p) (hC : paC τ p) : paN κ τ p := by
  obtain ⟨I, F, c, t⟩ := paI_p W T Z (by rw [hR]) (by rw [hR]) (by unfold paL; rw [hR, hN]; exact H.2.2.1) hC H
  exact ⟨F, I, ⟨ha, hk⟩, by rw [hR]; exact c _, by rw [hR]; exact t _⟩
theorem paE_hold {κ τ : zS} {p : Nat} (H : paI κ p) (K : paK κ p) (hb : (zI κ paWaits p).toInt ≤ 20490) (h : paN κ τ p ∧ zI τ paWaits p = zI κ paWaits p + 1) : paE κ τ p (-1) ∧ zI τ paKind p = zI κ paKind p ∧ (zI τ paAt p).toInt = (zI κ paAt p).toInt := by
  have w := H.2.2.2.2.2.1
  have e1 : (zI κ paWaits p + 1).toInt = (zI κ paWaits p).toInt + 1 := by rw [add_i (by rw [t1i]; omega) (by rw [t1i]; omega), t1i]
  refine ⟨⟨h.1.1, h.1.2.1, paN_K h.1 K, ?_, by rw [h.1.2.2.1.1]; exact Int.le_refl _⟩, h.1.2.2.1.2, by rw [h.1.2.2.1.1]⟩
  unfold tht
  rw [h.1.2.2.1.1, h.1.2.2.2.1, h.2, e1]
  omega
theorem paE_pop {C : zC} {n0 p : Nat} {κ τ : zS} (W : zW C n0 κ) (T : zT κ p = 10) (H : paI κ p) (w : 0 < (zI κ paWaits p).toInt) (e : τ = ui κ paWaits p (zI κ paWaits p - 1)) : paN κ τ p ∧ (zI τ paWaits p).toInt = (zI κ paWaits p).toInt - 1 ∧ (paK κ p → paE κ τ p 1) := by
  have D := H.2.2.2
  have e1 := dec_i (x := zI κ paWaits p) w
  have o : zI τ paWaits p = zI κ paWaits p - 1 := by rw [e]; exact if_pos ⟨rfl, rfl⟩
  have oth : ∀ f, f ≠ paWaits → zI τ f p = zI κ f p := fun f hf => by rw [e]; exact if_neg (fun z => hf z.1)
  have Z : zF (objF p) κ τ := by rw [e]; exact zF_ui rfl
  have r : zR τ = zR κ := by rw [e]; rfl
  have n : zN τ = zN κ := by rw [e]; rfl
  have N : paN κ τ p := paN_p W T H Z r n (oth _ (by decide)) (oth _ (by decide)) (by
    unfold paC
    rw [r, n, o, e1, oth paOwns (by decide), oth paBlocks (by decide)]
    have d := D.2.2.1
    exact ⟨D.1, D.2.1, ⟨by omega, by omega⟩, D.2.2.2⟩)
  refine ⟨N, by rw [o, e1], fun K => ⟨N.1, N.2.1, paN_K N K, ?_, by rw [N.2.2.1.1]; exact Int.le_refl _⟩⟩
  unfold tht
  rw [N.2.2.1.1, N.2.2.2.1, o, e1]
  omega
theorem Pa_addOwn_c {C : zC} {n0 : Nat} {a0 : Nat} {a1 : Int32} {κ : zS} {Q : zS → Prop} (W : zW C n0 κ) (Ta0 : zT κ a0 = 10)  (hp : paI κ a0) (h : ∀ (κ' : zS), (paN κ κ' a0) → Q κ') : zRun C 0 mPa_addOwn [.ref a0, .int a1] κ (oV Q noX) := by
  refine Pa_addOwn_run W Ta0 ?_
  replace W := W.lo (Nat.le_trans W.1.2.1 W.1.2.2) (Nat.le_refl (zn κ))
  unfold w_Pa_addOwn_0
  have L := hp.2.2.1
  have D := hp.2.2.2
  have e8 : (8 : Int32).toInt = 8 := rfl
  refine ⟨fun c1 => ?_, fun c1 => ?_⟩
  · skip
    refine h _ ?_
    · exact paN.rf hp  -- q1
  · skip
    have c9 : (zI κ paOwns a0).toInt < 8 := by rw [lei, e8] at c1; omega
    refine ⟨?_, ?_⟩
    · have l4 := L.2.2.2.1
      have o := D.1
      rw [inb_iff]; omega
    intro κ_2 hκ_2
    intro W3
    intro κ_4 hκ_4
    intro W5
    refine h _ ?_
    · have f1 := pa_ua W Ta0 (show zr paOwnNames = some 20 by decide +kernel) (by decide) hκ_2
      have Z : zF (objF a0) κ κ_4 := f1.1.tr (by rw [hκ_4]; exact zF_ui rfl)
      have r : zR κ_4 = zR κ := by rw [hκ_4]; exact f1.2.1
      have n : zN κ_4 = zN κ := by rw [hκ_4]; exact f1.2.2.1
      have o : zI κ_4 paOwns a0 = zI κ paOwns a0 + 1 := by
        rw [hκ_4]
        refine (if_pos ⟨rfl, rfl⟩).trans ?_
        rw [f1.2.2.2.1]
      have ob := D.1
      have e1 : (zI κ paOwns a0 + 1).toInt = (zI κ paOwns a0).toInt + 1 := by rw [add_i (by rw [t1i]; omega) (by rw [t1i]; omega), t1i]
      have oth : ∀ f, f ≠ paOwns → zI κ_4 f a0 = zI κ f a0 := fun f hf => by
        rw [hκ_4]
        exact (if_neg (fun z => hf z.1)).trans (congrFun (congrFun f1.2.2.2.1 f) a0)
      refine paN_p W Ta0 hp Z r n (oth _ (by decide)) (oth _ (by decide)) ?_
      unfold paC
      rw [r, n, o, e1, oth paBlocks (by decide), oth paWaits (by decide)]
      exact ⟨⟨by omega, by omega⟩, D.2⟩

theorem Pa_pushBlock_c {C : zC} {n0 : Nat} {a0 : Nat} {a1 : Int32} {a2 : Int32} {κ : zS} {Q : zS → Prop} (W : zW C n0 κ) (Ta0 : zT κ a0 = 10)  (hp : paI κ a0) (h : ∀ (κ' : zS), (paN κ κ' a0) → Q κ') : zRun C 0 mPa_pushBlock [.ref a0, .int a1, .int a2] κ (oV Q noX) := by
  refine Pa_pushBlock_run W Ta0 ?_
  replace W := W.lo (Nat.le_trans W.1.2.1 W.1.2.2) (Nat.le_refl (zn κ))
  unfold w_Pa_pushBlock_0
  have L := hp.2.2.1
  have D := hp.2.2.2
  have l5 := L.2.2.2.2.1
  have l6 := L.2.2.2.2.2.1
  have l7 := L.2.2.2.2.2.2
  have oN := W.n (ty_paOwners W Ta0)
  have b := D.2.1
  refine ⟨fun c1 => ?_, fun c1 => ?_⟩
  · skip
    refine h _ ?_
    · exact paN.rf hp  -- q1
  · skip
    have c9 : (zI κ paBlocks a0).toInt < 41 := by rw [lei, ofn_i oN] at c1; omega
    refine ⟨?_, ?_⟩
    · rw [inb_iff]; omega  -- b2
    intro κ_2 hκ_2
    intro W3
    have f1 := pa_ua W Ta0 (show zr paOwners = some 20 by decide +kernel) (by decide) hκ_2
    refine ⟨?_, ?_⟩
    · rw [f1.2.1, f1.2.2.1, f1.2.2.2.1, inb_iff]; omega  -- b3
    intro κ_4 hκ_4
    intro W5
    have f2 := pa_ua W3 f1.2.2.2.2 (show zr paLasts = some 20 by decide +kernel) (by decide) hκ_4
    refine ⟨?_, ?_⟩
    · rw [f2.2.1, f2.2.2.1, f2.2.2.2.1, f1.2.1, f1.2.2.1, f1.2.2.2.1, inb_iff]; omega  -- b4
    intro κ_6 hκ_6
    intro W7
    intro κ_8 hκ_8
    intro W9
    refine h _ ?_
    · have f3 := pa_ua W5 f2.2.2.2.2 (show zr paElses = some 23 by decide +kernel) (by decide) hκ_6
      have Z : zF (objF a0) κ κ_8 := ((f1.1.tr f2.1).tr f3.1).tr (by rw [hκ_8]; exact zF_ui rfl)
      have r : zR κ_8 = zR κ := by rw [hκ_8]; exact f3.2.1.trans (f2.2.1.trans f1.2.1)
      have n : zN κ_8 = zN κ := by rw [hκ_8]; exact f3.2.2.1.trans (f2.2.2.1.trans f1.2.2.1)
      have i6 : zI κ_6 = zI κ := f3.2.2.2.1.trans (f2.2.2.2.1.trans f1.2.2.2.1)
      have o : zI κ_8 paBlocks a0 = zI κ paBlocks a0 + 1 := by
        rw [hκ_8]
        refine (if_pos ⟨rfl, rfl⟩).trans ?_
        rw [i6]
      have e1 : (zI κ paBlocks a0 + 1).toInt = (zI κ paBlocks a0).toInt + 1 := by rw [add_i (by rw [t1i]; omega) (by rw [t1i]; omega), t1i]
      have oth : ∀ f, f ≠ paBlocks → zI κ_8 f a0 = zI κ f a0 := fun f hf => by
        rw [hκ_8]
        exact (if_neg (fun z => hf z.1)).trans (congrFun (congrFun i6 f) a0)
      refine paN_p W Ta0 hp Z r n (oth _ (by decide)) (oth _ (by decide)) ?_
      unfold paC
      rw [r, n, o, e1, oth paOwns (by decide), oth paWaits (by decide)]
      exact ⟨D.1, ⟨by omega, by omega⟩, D.2.2⟩

theorem Pa_setPlace_c {C : zC} {n0 : Nat} {a0 : Nat} {a1 : Int32} {a2 : Int32} {a3 : Int32} {κ : zS} {Q : zS → Prop} (W : zW C n0 κ) (Ta0 : zT κ a0 = 10)  (hp : paI κ a0) (h : ∀ (κ' : zS), (paN κ κ' a0) → Q κ') : zRun C 1 mPa_setPlace [.ref a0, .int a1, .int a2, .int a3] κ (oV Q noX) := by
  refine Pa_setPlace_run W Ta0 ?_
  replace W := W.lo (Nat.le_trans W.1.2.1 W.1.2.2) (Nat.le_refl (zn κ))
  unfold w_Pa_setPlace_0
  intro T1
  refine Co_setColumn_c W T1  ?_ (fun κ_2 q3 => ?_)
  · exact ⟨hp.2.1, by decide, by decide⟩  -- p1
  intro W4
  intro M5
  intro T6
  refine Co_setColumn_c W4 T6  ?_ (fun κ_7 q8 => ?_)
  · have f := (paN_c W Ta0 hp (q3.1.mono (fun _ _ z => z.2)) q3.2.1 (by rw [q3.2.2.1])).1
    exact ⟨f.2.1.2.1, by decide, by decide⟩
  intro W9
  intro M10
  refine h _ ?_
  · have f := (paN_c W Ta0 hp (q3.1.mono (fun _ _ z => z.2)) q3.2.1 (by rw [q3.2.2.1])).1
    have g := (paN_c W4 (q3.1.t Ta0 (by decide)) f.2.1 (q8.1.mono (fun _ _ z => z.2)) q8.2.1 (by rw [q8.2.2.1])).1
    exact f.tr g

theorem Pa_hold_c {C : zC} {n0 : Nat} {a0 : Nat} {a1 : Int32} {κ : zS} {Q : zS → Prop} (W : zW C n0 κ) (Ta0 : zT κ a0 = 10)  (hp : paI κ a0 ∧ (zI κ paWaits a0).toInt ≤ 20490) (h : ∀ (κ' : zS), (paN κ κ' a0 ∧ zI κ' paWaits a0 = zI κ paWaits a0 + 1) → Q κ') : zRun C 2 mPa_hold [.ref a0, .int a1] κ (oV Q noX) := by
  refine Pa_hold_run W Ta0 ?_
  replace W := W.lo (Nat.le_trans W.1.2.1 W.1.2.2) (Nat.le_refl (zn κ))
  unfold w_Pa_hold_0
  have L := hp.1.2.2.1
  have D := hp.1.2.2.2
  have w0 := D.2.2.1
  have wl := D.2.2.2
  have oN := W.n (ty_paWaiting W Ta0)
  have e1 : (zI κ paWaits a0 + 1).toInt = (zI κ paWaits a0).toInt + 1 := by rw [add_i (by rw [t1i]; omega) (by rw [t1i]; omega), t1i]
  have hj29 : ∀ (l0 : Nat) (l1 : Int32) (τ : zS), zW C (zn κ) τ → zT τ l0 = 10 → (a0 = l0 ∧ a1 = l1 ∧ zF (objF a0) κ τ ∧ zI τ = zI κ ∧ (∀ f, f ≠ paWaiting → zR τ f a0 = zR κ f a0) ∧ (zI κ paWaits a0).toInt < (zN τ (zR τ paWaiting a0)) ∧ 16 ≤ (zN τ (zR τ paWaiting a0)) ∧ (zN τ (zR τ paWaiting a0)) ≤ 41000) → w_Pa_hold_29 C (zn κ) Q  l0 l1 τ := by
    rintro _ _ τ29 W29 T29_0 ⟨rfl, rfl, j29⟩
    unfold w_Pa_hold_29
    refine ⟨?_, ?_⟩
    · rw [j29.2.1, inb_iff]
      have := j29.2.2.2.1
      omega
    intro κ_1 hκ_1
    intro W2
    intro κ_3 hκ_3
    intro W4
    refine h _ ?_
    · obtain ⟨F, jI, jR, j1, j2, j3⟩ := j29
      have f1 := pa_ua W29 T29_0 (show zr paWaiting = some 20 by decide +kernel) (by decide) hκ_1
      have Z : zF (objF a0) κ κ_3 := (F.tr f1.1).tr (by rw [hκ_3]; exact zF_ui rfl)
      have r : zR κ_3 = zR τ29 := by rw [hκ_3]; exact f1.2.1
      have n : zN κ_3 = zN τ29 := by rw [hκ_3]; exact f1.2.2.1
      have o : zI κ_3 paWaits a0 = zI κ paWaits a0 + 1 := by
        rw [hκ_3]
        refine (if_pos ⟨rfl, rfl⟩).trans ?_
        rw [f1.2.2.2.1, jI]
      have oth : ∀ f, f ≠ paWaits → zI κ_3 f a0 = zI κ f a0 := fun f hf => by
        rw [hκ_3]
        exact (if_neg (fun z => hf z.1)).trans (congrFun (congrFun (f1.2.2.2.1.trans jI) f) a0)
      have nl : ∀ f, f ≠ paWaiting → ∀ c, zT κ (zR κ f a0) = c + 1 → zN κ_3 (zR κ_3 f a0) = zN κ (zR κ f a0) := fun f hf c hc => by
        rw [r, jR f hf]
        exact Z.l hc
      obtain ⟨I, G, c, t⟩ := paI_p W Ta0 Z (by rw [r]; exact jR _ (by decide)) (by rw [r]; exact jR _ (by decide)) (by
        unfold paL
        rw [nl paVarNames (by decide) _ (ty_paVarNames W Ta0), nl paArrayNames (by decide) _ (ty_paArrayNames W Ta0), nl paFunctionNames (by decide) _ (ty_paFunctionNames W Ta0), nl paOwnNames (by decide) _ (ty_paOwnNames W Ta0), nl paOwners (by decide) _ (ty_paOwners W Ta0), nl paLasts (by decide) _ (ty_paLasts W Ta0), nl paElses (by decide) _ (ty_paElses W Ta0)]
        exact L) (by
        unfold paC
        rw [r, n, o, e1, oth paOwns (by decide), oth paBlocks (by decide)]
        exact ⟨D.1, D.2.1, ⟨by omega, by omega⟩, j2, j3⟩) hp.1
      exact ⟨⟨G, I, ⟨oth _ (by decide), oth _ (by decide)⟩, by rw [G.2.2]; exact c _, by rw [G.2.1]; exact t _⟩, o⟩
  refine ⟨fun c5 => ?_, fun c5 => ?_⟩
  · skip
    refine hj29 _ _ _ W ?_ ?_
    · exact Ta0  -- t3
    · rw [lti, ofn_i oN] at c5
      exact ⟨rfl, rfl, zF.rf, rfl, fun _ _ => rfl, c5, wl.1, wl.2⟩
  · skip
    intro T6
    have c8 : (zI κ paWaits a0).toInt = zN κ (zR κ paWaiting a0) := by rw [lti, ofn_i oN] at c5; omega
    have e2 : (zI κ paWaits a0 * 2).toInt = (zI κ paWaits a0).toInt * 2 := by rw [mul_i (by rw [t2i]; omega) (by rw [t2i]; omega), t2i]
    have kn := cnk (x := zI κ paWaits a0 * 2) (by omega)
    refine Ar_copyOf_c W T6  ?_ (fun r7 κ_8 q9 => ?_)
    · exact ⟨⟨by rw [lei, t0i]; omega, by omega⟩, fun e => by
        have e9 := congrArg Int32.toInt e
        rw [ofn_i oN] at e9
        omega⟩
    intro W10
    intro M11
    intro T12
    refine ⟨?_, ?_⟩
    · rw [q9.1]; exact q9.2.2.1  -- b6
    intro κ_13 hκ_13
    intro W14
    refine hj29 _ _ _ W14 ?_ ?_
    · have h9 : κ_13 = uo κ_8 paWaiting a0 (zn κ) := by rw [hκ_13, q9.1]
      exact (gr_f (f := paWaiting) W (by decide +kernel) (by decide) Ta0 (by decide) q9.2 h9 (by omega) (by omega)).1.t Ta0 (by decide)
    · have h9 : κ_13 = uo κ_8 paWaiting a0 (zn κ) := by rw [hκ_13, q9.1]
      obtain ⟨F9, u1, u2, u3, u4, u5, -⟩ := gr_f (f := paWaiting) W (by decide +kernel) (by decide) Ta0 (by decide) q9.2 h9 (by omega) (by omega)
      refine ⟨rfl, rfl, F9.mono (fun _ _ z => z.2), u1, fun f hf => u2 f a0 (fun z => hf z.1), ?_, ?_, ?_⟩
      · rw [u3, u4]; omega
      · rw [u3, u4]; omega
      · rw [u3, u4]; omega

theorem Pa_emitWaiting_c {C : zC} {n0 : Nat} {a0 : Nat} {a1 : Int32} {κ : zS} {Q : zS → Prop} (W : zW C n0 κ) (Ta0 : zT κ a0 = 10)  (hp : paI κ a0 ∧ (zI κ coLength (zR κ paCode a0)).toInt + (zI κ paWaits a0).toInt ≤ 20490) (h : ∀ (κ' : zS), (paF κ κ' a0 ∧ paI κ' a0 ∧ (zI κ' paAt a0 = zI κ paAt a0 ∧ zI κ' paKind a0 = zI κ paKind a0) ∧ zI κ' taTotal (zR κ' paTape a0) = zI κ taTotal (zR κ paTape a0) ∧ (zI κ' coLength (zR κ' paCode a0)).toInt + (zI κ' paWaits a0).toInt = (zI κ coLength (zR κ paCode a0)).toInt + (zI κ paWaits a0).toInt) → Q κ') : zRun C 3 mPa_emitWaiting [.ref a0, .int a1] κ (oV Q noX) := by
  refine Pa_emitWaiting_run W Ta0 ?_
  replace W := W.lo (Nat.le_trans W.1.2.1 W.1.2.2) (Nat.le_refl (zn κ))
  unfold w_Pa_emitWaiting_0
  refine ⟨fun n l0 l1 τ => n = ((zI τ paWaits a0).toInt).toNat ∧ (a0 = l0 ∧ a1 = l1 ∧ paF κ τ a0 ∧ paI τ a0 ∧ (zI τ paAt a0 = zI κ paAt a0 ∧ zI τ paKind a0 = zI κ paKind a0) ∧ zI τ taTotal (zR τ paTape a0) = zI κ taTotal (zR κ paTape a0) ∧ (zI τ coLength (zR τ paCode a0)).toInt + (zI τ paWaits a0).toInt = (zI κ coLength (zR κ paCode a0)).toInt + (zI κ paWaits a0).toInt), ⟨_, rfl, ?_⟩, ?_⟩
  · exact ⟨rfl, rfl, paF.rf, hp.1, ⟨rfl, rfl⟩, rfl, rfl⟩  -- j1
  rintro n0 _ _ κ0 W0 T0_0 ⟨hn0, rfl, rfl, i0⟩
  refine ⟨fun c1 => ?_, fun c1 => ?_⟩
  · skip
    refine h _ ?_
    · exact i0  -- q2
  · skip
    rw [lei, t0i] at c1
    have c9 : 0 < (zI κ0 paWaits a0).toInt := by omega
    have w := i0.2.1.2.2.2.2.2.1
    have ed := dec_i c9
    refine ⟨?_, ?_⟩
    · rw [inb_iff, ed]; omega  -- b3
    refine Pa_rankOf_c W0   (fun r2 q4 => ?_)
    intro W5
    intro M6
    refine ⟨fun c7 => ?_, fun c7 => ?_⟩
    · skip
      refine h _ ?_
      · exact i0  -- q4
    · skip
      intro κ_8 hκ_8
      intro W9
      obtain ⟨N8, w8, -⟩ := paE_pop W0 T0_0 i0.2.1 c9 hκ_8
      have d8 := N8.2.1.2.2.2.2.2.1
      have s8 := i0.2.2.2.2
      have l0 := i0.2.1.2.1.2.2.2.2.2.2.2.1.1
      have b8 : (zI κ_8 coLength (zR κ_8 paCode a0)).toInt ≤ 20490 := by rw [N8.2.2.2.1]; omega
      refine ⟨?_, ?_⟩
      · have n8 : zN κ_8 (zR κ_8 paWaiting a0) = zN κ0 (zR κ0 paWaiting a0) := by rw [hκ_8]; rfl
        rw [inb_iff, n8]; omega
      intro T10
      refine Co_emit_c W9 T10  ?_ (fun κ_11 q12 => ?_)
      · exact ⟨N8.2.1.2.1, by omega⟩  -- p6
      intro W13
      intro M14
      refine ⟨_, ?_, rfl, ?_⟩
      · obtain ⟨I, F, i, t, l⟩ := pa_emit W9 (N8.1.1.t T0_0 (by decide)) N8.2.1 q12 (by omega)
        rw [hn0, i paWaits, w8]; omega
      · obtain ⟨I, F, i, t, l⟩ := pa_emit W9 (N8.1.1.t T0_0 (by decide)) N8.2.1 q12 (by omega)
        refine ⟨rfl, rfl, (i0.1.tr N8.1).tr F, I, ⟨?_, ?_⟩, ?_, ?_⟩
        · rw [i paAt, N8.2.2.1.1]; exact i0.2.2.1.1
        · rw [i paKind, N8.2.2.1.2]; exact i0.2.2.1.2
        · rw [t, N8.2.2.2.2]; exact i0.2.2.2.1
        · rw [l, i paWaits, w8, N8.2.2.2.1]; omega

/-- what emitWaiting leaves -/
theorem paE_ew {κ τ : zS} {p : Nat} (K : paK κ p) (q : paF κ τ p ∧ paI τ p ∧ (zI τ paAt p = zI κ paAt p ∧ zI τ paKind p = zI κ paKind p) ∧ zI τ taTotal (zR τ paTape p) = zI κ taTotal (zR κ paTape p) ∧ (zI τ coLength (zR τ paCode p)).toInt + (zI τ paWaits p).toInt = (zI κ coLength (zR κ paCode p)).toInt + (zI κ paWaits p).toInt) : paE κ τ p 0 ∧ zI τ paKind p = zI κ paKind p ∧ (zI τ paAt p).toInt = (zI κ paAt p).toInt := by
  obtain ⟨F, I, ⟨a, k⟩, t, s⟩ := q
  refine ⟨⟨F, I, ?_, ?_, by rw [a]; exact Int.le_refl _⟩, k, by rw [a]⟩
  · unfold paK
    rw [a, k, t]
    exact K
  · unfold tht
    rw [a]
    omega
/-- how much may be held or said -/
theorem pa_room {κ : zS} {p : Nat} (H : paI κ p) : 0 ≤ (zI κ coLength (zR κ paCode p)).toInt ∧ 0 ≤ (zI κ paWaits p).toInt := ⟨H.2.1.2.2.2.2.2.2.2.1.1, H.2.2.2.2.2.1.1⟩
theorem paE_s {κ τ : zS} {p : Nat} {k : Int} (E : paE κ τ p k) : (zI τ coLength (zR τ paCode p)).toInt + (zI τ paWaits p).toInt + k ≤ (zI κ coLength (zR κ paCode p)).toInt + (zI κ paWaits p).toInt + ((zI τ paAt p).toInt - (zI κ paAt p).toInt) := by
  have e := E.2.2.2.1
  unfold tht at e
  omega
theorem Pa_closeInner_c {C : zC} {n0 : Nat} {a0 : Nat} {κ : zS} {Q : zS → Prop} {X : zXp} (W : zW C n0 κ) (Ta0 : zT κ a0 = 10)  (hp : paI κ a0 ∧ paK κ a0 ∧ 0 < (zI κ paWaits a0).toInt ∧ (zI κ coLength (zR κ paCode a0)).toInt + (zI κ paWaits a0).toInt ≤ 20490) (h : ∀ (κ' : zS), (paE κ κ' a0 0) → Q κ') (hx : ∀ (cls : String) (κ' : zS), (paX κ cls κ' a0) → X cls κ') : zRun C 10 mPa_closeInner [.ref a0] κ (oV Q X) := by
  refine Pa_closeInner_run W Ta0 ?_
  replace W := W.lo (Nat.le_trans W.1.2.1 W.1.2.2) (Nat.le_refl (zn κ))
  unfold w_Pa_closeInner_0
  have hj26 : ∀ (l0 : Nat) (l1 : Int32) (s0 : Nat) (s1 : Int32) (τ : zS), zW C (zn κ) τ → zT τ l0 = 10 → zT τ s0 = 10 → (κ = τ ∧ a0 = l0 ∧ s0 = a0 ∧ s1 ≠ 142) → w_Pa_closeInner_26 C (zn κ) Q X  l0 l1 s0 s1 τ := by
    rintro _ y26_1 y26_s0 y26_s1 _ W26 T26_0 T26_1 ⟨rfl, rfl, j26⟩
    unfold w_Pa_closeInner_26
    intro T1
    refine Pa_closeSign_c W26 T1  ?_ (fun κ_2 q3 => ?_) (fun cls9 κ9 q9 => hx _ _ ?_)
    · rw [j26.1]; exact ⟨hp.1, hp.2.1, j26.2⟩  -- p1
    rotate_left
    · rw [j26.1] at q9; exact q9  -- x2
    intro W4
    intro M5
    intro κ_6 hκ_6
    intro W7
    rw [j26.1] at q3
    obtain ⟨-, E1, ew, ea, el⟩ := paT_N W Ta0 hp.1 q3
    have R := pa_room hp.1
    obtain ⟨N6, w6, E6⟩ := paE_pop W4 (q3.1.1.t Ta0 (by decide)) E1.2.1 (by rw [ew]; exact hp.2.2.1) hκ_6
    have E2 := E6 E1.2.2.1
    refine ⟨fun c8 => ?_, fun c8 => ?_⟩
    · skip
      refine h _ ?_
      · exact (E1.tr E2).le (by decide)  -- q3
    · skip
      intro T9
      refine Co_emit_c W7 T9  ?_ (fun κ_10 q11 => ?_)
      · exact ⟨N6.2.1.2.1, by rw [N6.2.2.2.1, el]; omega⟩  -- p4
      intro W12
      intro M13
      refine h _ ?_
      · have E3 := (paE_emit W7 (N6.1.1.t (q3.1.1.t Ta0 (by decide)) (by decide)) N6.2.1 E2.2.2.1 q11 (by rw [N6.2.2.2.1, el]; omega)).1
        exact ((E1.tr E2).tr E3).le (by decide)
  refine ⟨?_, ?_⟩
  · have w := hp.1.2.2.2.2.2.1
    have ed := dec_i hp.2.2.1
    rw [inb_iff, ed]; omega
  intro x14 hx14
  refine ⟨fun c15 => ?_, fun c15 => ?_⟩
  · skip
    refine hj26 _ _ _ _ _ W ?_ ?_ ?_
    · exact Ta0  -- t7
    · exact Ta0  -- t8
    · exact ⟨rfl, rfl, rfl, by decide⟩  -- k9
  · skip
    refine hj26 _ _ _ _ _ W ?_ ?_ ?_
    · exact Ta0  -- t10
    · exact Ta0  -- t11
    · exact ⟨rfl, rfl, rfl, by decide⟩  -- k12

theorem Pa_operand_c {C : zC} {n0 : Nat} {a0 : Nat} {κ : zS} {Q : Int32 → zS → Prop} {X : zXp} (W : zW C n0 κ) (Ta0 : zT κ a0 = 10)  (hp : paI κ a0 ∧ paK κ a0 ∧ (zI κ coLength (zR κ paCode a0)).toInt + (zI κ paWaits a0).toInt ≤ 20490) (h : ∀ (v : Int32) (κ' : zS), (paE κ κ' a0 0 ∧ (zI κ paAt a0).toInt + 1 ≤ (zI κ' paAt a0).toInt ∧ nb v) → Q v κ') (hx : ∀ (cls : String) (κ' : zS), (paX κ cls κ' a0) → X cls κ') : zRun C 10 mPa_operand [.ref a0] κ (oI Q X) := by
  refine Pa_operand_run W Ta0 ?_
  replace W := W.lo (Nat.le_trans W.1.2.1 W.1.2.2) (Nat.le_refl (zn κ))
  unfold w_Pa_operand_0
  have R := pa_room hp.1
  have hj102 : ∀ (l0 : Nat) (l1 : Int32) (τ : zS), zW C (zn κ) τ → zT τ l0 = 10 → (a0 = l0 ∧ paE κ τ a0 0 ∧ (zI κ paAt a0).toInt + 1 ≤ (zI τ paAt a0).toInt) → w_Pa_operand_102 C (zn κ) Q X  l0 l1 τ := by
    rintro _ y102_1 τ102 W102 T102_0 ⟨rfl, j102⟩
    unfold w_Pa_operand_102
    refine ⟨fun c1 => ?_, fun c1 => ?_⟩
    · skip
      refine h _ _ ?_
      · exact ⟨j102.1, j102.2, nb_0⟩  -- q1
    · skip
      refine h _ _ ?_
      · exact ⟨j102.1, j102.2, nb_1⟩  -- q2
  have hj80 : ∀ (l0 : Nat) (l1 : Int32) (s0 : Nat) (s1 : Int32) (τ : zS), zW C (zn κ) τ → zT τ l0 = 10 → zT τ s0 = 10 → (κ = τ ∧ a0 = l0 ∧ s0 = a0 ∧ zI κ paKind a0 ≠ 142) → w_Pa_operand_80 C (zn κ) Q X  l0 l1 s0 s1 τ := by
    rintro _ y80_1 y80_s0 y80_s1 _ W80 T80_0 T80_1 ⟨rfl, rfl, j80⟩
    unfold w_Pa_operand_80
    intro T2
    refine Pa_hold_c W80 T2  ?_ (fun κ_3 q4 => ?_)
    · rw [j80.1]; exact ⟨hp.1, by omega⟩  -- p3
    intro W5
    intro M6
    intro T7
    rw [j80.1] at q4
    obtain ⟨E1, k1, a1⟩ := paE_hold hp.1 hp.2.1 (by omega) q4
    refine Pa_take_c W5 T7  ?_ (fun κ_8 q9 => ?_)
    · exact ⟨E1.2.1, paK_t E1.2.2.1 k1 j80.2⟩  -- p4
    intro W10
    intro M11
    obtain ⟨-, E2, -, a2, -⟩ := paT_N W5 T7 E1.2.1 q9
    refine hj102 _ _ _ W10 ?_ ?_
    · exact q9.1.1.t T7 (by decide)  -- t5
    · exact ⟨rfl, (E1.tr E2).le (by decide), by omega⟩  -- k6
  have hj64 : ∀ (l0 : Nat) (l1 : Int32) (τ : zS), zW C (zn κ) τ → zT τ l0 = 10 → (κ = τ ∧ a0 = l0 ∧ zI κ paKind a0 ≠ 142) → w_Pa_operand_64 C (zn κ) Q X  l0 l1 τ := by
    rintro _ y64_1 _ W64 T64_0 ⟨rfl, rfl, j64⟩
    unfold w_Pa_operand_64
    refine ⟨fun c12 => ?_, fun c12 => ?_⟩
    · skip
      refine hj80 _ _ _ _ _ W64 ?_ ?_ ?_
      · exact Ta0  -- t7
      · exact Ta0  -- t8
      · exact ⟨rfl, rfl, rfl, j64⟩  -- k9
    · skip
      refine hj80 _ _ _ _ _ W64 ?_ ?_ ?_
      · exact Ta0  -- t10
      · exact Ta0  -- t11
      · exact ⟨rfl, rfl, rfl, j64⟩  -- k12
  have hj15 : ∀ (l0 : Nat) (s0 : Int32) (τ : zS), zW C (zn κ) τ → zT τ l0 = 10 → (κ = τ ∧ a0 = l0 ∧ (s0 ≠ 0 → zI κ paKind a0 = 141)) → w_Pa_operand_15 C (zn κ) Q X  l0 s0 τ := by
    rintro _ y15_s0 _ W15 T15_0 ⟨rfl, rfl, j15⟩
    unfold w_Pa_operand_15
    refine ⟨fun c13 => ?_, fun c13 => ?_⟩
    · skip
      refine ⟨fun c14 => ?_, fun c14 => ?_⟩
      · skip
        refine hj64 _ _ _ W15 ?_ ?_
        · exact Ta0  -- t13
        · exact ⟨rfl, rfl, by rw [c14]; decide⟩  -- k14
      · skip
        refine ⟨fun c15 => ?_, fun c15 => ?_⟩
        · skip
          intro T16
          refine Pa_openSign_c W15 T16  ?_ (fun κ_17 q18 => ?_) (fun cls9 κ9 q9 => hx _ _ ?_)
          · exact ⟨hp.1, hp.2.1, by decide⟩  -- p15
          rotate_left
          · exact q9  -- x16
          intro W19
          intro M20
          intro T21
          obtain ⟨-, E1, w1, a1, l1⟩ := paT_N W Ta0 hp.1 q18
          refine Pa_hold_c W19 T21  ?_ (fun κ_22 q23 => ?_)
          · exact ⟨E1.2.1, by rw [w1]; omega⟩  -- p17
          intro W24
          intro M25
          refine hj102 _ _ _ W24 ?_ ?_
          · exact q23.1.1.1.t T21 (by decide)  -- t18
          · obtain ⟨E2, -, a2⟩ := paE_hold E1.2.1 E1.2.2.1 (by rw [w1]; omega) q23
            exact ⟨rfl, (E1.tr E2).le (by decide), by omega⟩
        · skip
          refine hj64 _ _ _ W15 ?_ ?_
          · exact Ta0  -- t20
          · exact ⟨rfl, rfl, by rw [c15]; decide⟩  -- k21
    · skip
      intro T26
      refine Ta_numberAt_c W15 T26  ?_ (fun r27 q29 => ?_)
      · exact hp.1.1.1  -- p22
      intro W30
      intro M31
      intro T32
      refine Co_emit_c W30 T32  ?_ (fun κ_33 q34 => ?_)
      · exact ⟨hp.1.2.1, by omega⟩  -- p23
      intro W35
      intro M36
      intro T37
      obtain ⟨E1, k1, -⟩ := paE_emit W Ta0 hp.1 hp.2.1 q34 (by omega)
      refine Pa_take_c W35 T37  ?_ (fun κ_38 q39 => ?_)
      · exact ⟨E1.2.1, paK_t E1.2.2.1 (k1.trans (j15 c13)) (by decide)⟩  -- p24
      intro W40
      intro M41
      refine hj102 _ _ _ W40 ?_ ?_
      · exact q39.1.1.t T37 (by decide)  -- t25
      · obtain ⟨-, E2, -, a2, -⟩ := paT_N W35 T37 E1.2.1 q39
        have m := E1.2.2.2.2
        exact ⟨rfl, (E1.tr E2).le (by decide), by omega⟩
  refine ⟨fun c42 => ?_, fun c42 => ?_⟩
  · skip
    refine hj15 _ _ _ W ?_ ?_
    · exact Ta0  -- t27
    · exact ⟨rfl, rfl, fun z => absurd rfl z⟩  -- k28
  · skip
    refine hj15 _ _ _ W ?_ ?_
    · exact Ta0  -- t29
    · exact ⟨rfl, rfl, fun _ => c42⟩  -- k30

theorem Pa_operandName_c {C : zC} {n0 : Nat} {a0 : Nat} {a1 : Int32} {κ : zS} {Q : Int32 → zS → Prop} {X : zXp} (W : zW C n0 κ) (Ta0 : zT κ a0 = 10)  (hp : paI κ a0 ∧ paK κ a0 ∧ (zI κ coLength (zR κ paCode a0)).toInt + (zI κ paWaits a0).toInt ≤ 20490) (h : ∀ (v : Int32) (κ' : zS), (paE κ κ' a0 (-1) ∧ nb v) → Q v κ') (hx : ∀ (cls : String) (κ' : zS), (paX κ cls κ' a0) → X cls κ') : zRun C 10 mPa_operandName [.ref a0, .int a1] κ (oI Q X) := by
  refine Pa_operandName_run W Ta0 ?_
  replace W := W.lo (Nat.le_trans W.1.2.1 W.1.2.2) (Nat.le_refl (zn κ))
  unfold w_Pa_operandName_0
  have R := pa_room hp.1
  have hj68 : ∀ (l0 : Nat) (l1 : Int32) (l2 : Int32) (s0 : Nat) (s1 : Int32) (τ : zS), zW C (zn κ) τ → zT τ l0 = 10 → zT τ s0 = 5 → (κ = τ ∧ a0 = l0 ∧ a1 = l1 ∧ s0 = zR κ paCode a0) → w_Pa_operandName_68 C (zn κ) Q X  l0 l1 l2 s0 s1 τ := by
    rintro _ _ y68_2 y68_s0 y68_s1 _ W68 T68_0 T68_1 ⟨rfl, rfl, rfl, j68⟩
    unfold w_Pa_operandName_68
    refine ⟨fun c1 => ?_, fun c1 => ?_⟩
    · skip
      intro T2
      intro T3
      refine Ta_findName_c W68 T2 T3  ?_ (fun r4 q6 => ?_)
      · exact ⟨hp.1.1.1, hp.1.1.2.1⟩  -- p1
      intro W7
      intro M8
      intro T9
      refine Co_emit_c W7 T9  ?_ (fun κ_10 q11 => ?_)
      · rw [j68]; exact ⟨hp.1.2.1, by omega⟩  -- p2
      intro W12
      intro M13
      refine h _ _ ?_
      · rw [j68] at q11
        exact ⟨(paE_emit W Ta0 hp.1 hp.2.1 q11 (by omega)).1, nb_0⟩
    · skip
      intro T14
      refine Co_emit_c W68 T14  ?_ (fun κ_15 q16 => ?_)
      · rw [j68]; exact ⟨hp.1.2.1, by omega⟩  -- p4
      intro W17
      intro M18
      refine h _ _ ?_
      · rw [j68] at q16
        exact ⟨(paE_emit W Ta0 hp.1 hp.2.1 q16 (by omega)).1, nb_0⟩
  refine ⟨fun c19 => ?_, fun c19 => ?_⟩
  · skip
    refine ⟨fun c20 => ?_, fun c20 => ?_⟩
    · skip
      unfold w_Pa_operandName_49
      intro T21
      refine Pa_findVariable_c W T21  ?_ (fun r22 q24 => ?_) (fun cls9 κ9 q9 => hx _ _ ?_)
      · exact hp.1  -- p6
      rotate_left
      · exact q9  -- x7
      intro W25
      intro M26
      refine ⟨fun c27 => ?_, fun c27 => ?_⟩
      · skip
        refine hj68 _ _ _ _ _ _ W25 ?_ ?_ ?_
        · exact Ta0  -- t8
        · exact ty_paCode W Ta0  -- t9
        · exact ⟨rfl, rfl, rfl, rfl⟩  -- k10
      · skip
        refine hj68 _ _ _ _ _ _ W25 ?_ ?_ ?_
        · exact Ta0  -- t11
        · exact ty_paCode W Ta0  -- t12
        · exact ⟨rfl, rfl, rfl, rfl⟩  -- k13
    · skip
      intro T28
      refine Pa_refuse_c W T28  ?_ (fun κ_29 q30 => False.elim q30) (fun cls9 κ9 q9 => hx _ _ ?_)
      · exact hp.1  -- p14
      · exact q9  -- x15
  · skip
    intro T31
    refine Pa_findArray_c W T31  ?_ (fun r32 q34 => ?_) (fun cls9 κ9 q9 => hx _ _ ?_)
    · exact hp.1  -- p16
    rotate_left
    · exact q9  -- x17
    intro W35
    intro M36
    intro T37
    refine Pa_openSign_c W35 T37  ?_ (fun κ_38 q39 => ?_) (fun cls9 κ9 q9 => hx _ _ ?_)
    · exact ⟨hp.1, hp.2.1, by decide⟩  -- p18
    rotate_left
    · exact q9  -- x19
    intro W40
    intro M41
    intro T42
    obtain ⟨-, E1, w1, a1, l1⟩ := paT_N W Ta0 hp.1 q39
    refine Pa_hold_c W40 T42  ?_ (fun κ_43 q44 => ?_)
    · exact ⟨E1.2.1, by rw [w1]; omega⟩  -- p20
    intro W45
    intro M46
    refine h _ _ ?_
    · obtain ⟨E2, -, a2⟩ := paE_hold E1.2.1 E1.2.2.1 (by rw [w1]; omega) q44
      exact ⟨(E1.tr E2).le (by decide), nb_1⟩

theorem Pa_operator_c {C : zC} {n0 : Nat} {a0 : Nat} {a1 : Int32} {κ : zS} {Q : zS → Prop} {X : zXp} (W : zW C n0 κ) (Ta0 : zT κ a0 = 10)  (hp : paI κ a0 ∧ paK κ a0 ∧ (zI κ coLength (zR κ paCode a0)).toInt + (zI κ paWaits a0).toInt ≤ 20490 ∧ zI κ paKind a0 ≠ 142) (h : ∀ (κ' : zS), (paE κ κ' a0 0) → Q κ') (hx : ∀ (cls : String) (κ' : zS), (paX κ cls κ' a0) → X cls κ') : zRun C 9 mPa_operator [.ref a0, .int a1] κ (oV Q X) := by
  refine Pa_operator_run W Ta0 ?_
  replace W := W.lo (Nat.le_trans W.1.2.1 W.1.2.2) (Nat.le_refl (zn κ))
  unfold w_Pa_operator_0
  have R := pa_room hp.1
  have hj58 : ∀ (l0 : Nat) (l1 : Int32) (τ : zS), zW C (zn κ) τ → zT τ l0 = 10 → (a0 = l0 ∧ a1 = l1 ∧ paE κ τ a0 0 ∧ zI τ paKind a0 ≠ 142 ∧ (zI τ coLength (zR τ paCode a0)).toInt + (zI τ paWaits a0).toInt ≤ 20490) → w_Pa_operator_58 C (zn κ) Q X  l0 l1 τ := by
    rintro _ _ τ58 W58 T58_0 ⟨rfl, rfl, j58⟩
    unfold w_Pa_operator_58
    intro T1
    have R58 := pa_room j58.1.2.1
    refine Pa_hold_c W58 T1  ?_ (fun κ_2 q3 => ?_)
    · exact ⟨j58.1.2.1, by omega⟩  -- p1
    intro W4
    intro M5
    intro T6
    obtain ⟨E1, k1, a1⟩ := paE_hold j58.1.2.1 j58.1.2.2.1 (by omega) q3
    refine Pa_take_c W4 T6  ?_ (fun κ_7 q8 => ?_)
    · exact ⟨E1.2.1, paK_t E1.2.2.1 k1 j58.2.1⟩  -- p2
    intro W9
    intro M10
    refine h _ ?_
    · obtain ⟨-, E2, -, a2, -⟩ := paT_N W4 T6 E1.2.1 q8
      exact ((j58.1.tr E1).tr E2).le (by decide)
  have hj16 : ∀ (l0 : Nat) (l1 : Int32) (l2 : Int32) (s0 : Nat) (s1 : Int32) (τ : zS), zW C (zn κ) τ → zT τ l0 = 10 → zT τ s0 = 10 → (κ = τ ∧ a0 = l0 ∧ a1 = l1 ∧ s0 = a0) → w_Pa_operator_16 C (zn κ) Q X  l0 l1 l2 s0 s1 τ := by
    rintro _ _ y16_2 y16_s0 y16_s1 _ W16 T16_0 T16_1 ⟨rfl, rfl, rfl, j16⟩
    unfold w_Pa_operator_16
    intro T11
    refine Pa_emitWaiting_c W16 T11  ?_ (fun κ_12 q13 => ?_)
    · rw [j16]; exact ⟨hp.1, hp.2.2.1⟩  -- p4
    intro W14
    intro M15
    rw [j16] at q13
    have Q := paE_ew hp.2.1 q13
    have S := q13.2.2.2.2
    have K12 : zI κ_12 paKind a0 ≠ 142 := by rw [Q.2.1]; exact hp.2.2.2
    refine ⟨fun c16 => ?_, fun c16 => ?_⟩
    · skip
      refine hj58 _ _ _ W14 ?_ ?_
      · exact Q.1.1.1.t Ta0 (by decide)  -- t5
      · exact ⟨rfl, rfl, Q.1, K12, by omega⟩  -- k6
    · skip
      refine ⟨fun c17 => ?_, fun c17 => ?_⟩
      · skip
        refine hj58 _ _ _ W14 ?_ ?_
        · exact Q.1.1.1.t Ta0 (by decide)  -- t7
        · exact ⟨rfl, rfl, Q.1, K12, by omega⟩  -- k8
      · skip
        refine ⟨?_, ?_⟩
        · have w := Q.1.2.1.2.2.2.2.2.1
          rw [lei, t0i] at c17
          have ed := dec_i (x := zI κ_12 paWaits a0) (by omega)
          rw [inb_iff, ed]; omega
        refine Pa_rankOf_c W14   (fun r18 q20 => ?_)
        intro W21
        intro M22
        refine ⟨fun c23 => ?_, fun c23 => ?_⟩
        · skip
          refine hj58 _ _ _ W21 ?_ ?_
          · exact Q.1.1.1.t Ta0 (by decide)  -- t10
          · exact ⟨rfl, rfl, Q.1, K12, by omega⟩  -- k11
        · skip
          intro T24
          refine Pa_refuse_c W21 T24  ?_ (fun κ_25 q26 => False.elim q26) (fun cls9 κ9 q9 => hx _ _ ?_)
          · exact Q.1.2.1  -- p12
          · exact paX_tr Q.1.1 q9  -- x13
  refine Pa_rankOf_c W   (fun r27 q29 => ?_)
  intro W30
  intro M31
  refine ⟨fun c32 => ?_, fun c32 => ?_⟩
  · skip
    refine hj16 _ _ _ _ _ _ W30 ?_ ?_ ?_
    · exact Ta0  -- t14
    · exact Ta0  -- t15
    · exact ⟨rfl, rfl, rfl, rfl⟩  -- k16
  · skip
    refine hj16 _ _ _ _ _ _ W30 ?_ ?_ ?_
    · exact Ta0  -- t17
    · exact Ta0  -- t18
    · exact ⟨rfl, rfl, rfl, rfl⟩  -- k19

/-- an expression on its way: S counts the tokens before it -/
def exS (κ : zS) (p : Nat) (t : Int32) : Int := if t = -1 then (zI κ paAt p).toInt else (zI κ paAt p).toInt - 1
def exJ (κ τ : zS) (p : Nat) (S : Int) (l3 l4 l5 l6 : Int32) : Prop := (paF κ τ p ∧ paI τ p ∧ paK τ p) ∧ (S ≤ (zI τ paAt p).toInt ∧ (zI τ coLength (zR τ paCode p)).toInt + (zI τ paWaits p).toInt ≤ S + (zI τ paAt p).toInt) ∧ (l3 ≠ -1 → S + 1 ≤ (zI τ paAt p).toInt ∧ (zI τ coLength (zR τ paCode p)).toInt + (zI τ paWaits p).toInt + 1 ≤ S + (zI τ paAt p).toInt) ∧ (l6 ≠ 0 → S + 1 ≤ (zI τ paAt p).toInt) ∧ (l6 = 0 → l4 ≠ 0 ∧ l5 ≠ 0) ∧ (0 ≤ l6.toInt ∧ l6.toInt ≤ 20486)
theorem exJ_b {κ τ : zS} {p : Nat} {S : Int} {l3 l4 l5 l6 : Int32} (J : exJ κ τ p S l3 l4 l5 l6) : (zI τ coLength (zR τ paCode p)).toInt + (zI τ paWaits p).toInt ≤ 20484 ∧ (zI τ paAt p).toInt ≤ 10242 := by
  have a := J.1.2.2.1.2
  have b := J.1.2.1.1.2.2
  have c := J.2.1
  omega
theorem exJ_E {κ τ σ : zS} {p : Nat} {S : Int} {l3 l4 l5 l6 m3 m4 m5 m6 : Int32} (J : exJ κ τ p S l3 l4 l5 l6) (E : paE τ σ p 0) (h3 : m3 = l3 ∨ m3 = -1) (hn : l6 ≠ 0 ∨ (zI τ paAt p).toInt + 1 ≤ (zI σ paAt p).toInt) (z : m6 ≠ 0) (b6 : 0 ≤ m6.toInt ∧ m6.toInt ≤ 20486) : exJ κ σ p S m3 m4 m5 m6 := by
  obtain ⟨⟨F, I, K⟩, ⟨s1, s2⟩, h, h6, h0, hb⟩ := J
  have e := paE_s E
  have m := E.2.2.2.2
  refine ⟨⟨F.tr E.1, E.2.1, E.2.2.1⟩, ⟨by omega, by omega⟩, fun q => ?_, fun _ => ?_, fun q => absurd q z, b6⟩
  · rcases h3 with h3 | h3
    · have g := h (h3 ▸ q)
      omega
    · exact absurd h3 q
  · rcases hn with hn | hn
    · have := h6 hn; omega
    · omega
theorem exJ_N {κ τ σ : zS} {p : Nat} {S : Int} {l3 l4 l5 l6 m4 m5 m6 : Int32} (J : exJ κ τ p S l3 l4 l5 l6) (E : paE τ σ p (-1)) (hn : l3 ≠ -1) (z : m6 ≠ 0) (b6 : 0 ≤ m6.toInt ∧ m6.toInt ≤ 20486) : exJ κ σ p S (-1) m4 m5 m6 := by
  obtain ⟨⟨F, I, K⟩, ⟨s1, s2⟩, h, h6, h0, hb⟩ := J
  have e := paE_s E
  have m := E.2.2.2.2
  have g := h hn
  exact ⟨⟨F.tr E.1, E.2.1, E.2.2.1⟩, ⟨by omega, by omega⟩, fun q => absurd rfl q, fun _ => by omega, fun q => absurd q z, b6⟩
theorem exJ_T {κ τ σ : zS} {p : Nat} {S : Int} {l3 l4 l5 l6 m3 m6 : Int32} (J : exJ κ τ p S l3 l4 l5 l6) (E : paE τ σ p 1) (ha : (zI σ paAt p).toInt = (zI τ paAt p).toInt + 1) (z : m6 ≠ 0) (b6 : 0 ≤ m6.toInt ∧ m6.toInt ≤ 20486) : exJ κ σ p S m3 l4 l5 m6 := by
  obtain ⟨⟨F, I, K⟩, ⟨s1, s2⟩, h, h6, h0, hb⟩ := J
  have e := paE_s E
  exact ⟨⟨F.tr E.1, E.2.1, E.2.2.1⟩, ⟨by omega, by omega⟩, fun q => ⟨by omega, by omega⟩, fun _ => by omega, fun q => absurd q z, b6⟩
theorem exJ_x {κ τ : zS} {p : Nat} {S : Int} {l3 l4 l5 l6 : Int32} (J : exJ κ τ p S l3 l4 l5 l6) (z : l6 ≠ 0) : (zI τ coLength (zR τ paCode p)).toInt + 1 ≤ 2 * (zI τ paAt p).toInt := by
  have a := J.2.2.2.1 z
  have b := J.2.1
  have c := (pa_room J.1.2.1).2
  omega
theorem paN_w0 {C : zC} {n0 p : Nat} {κ τ : zS} (W : zW C n0 κ) (T : zT κ p = 10) (H : paI κ p) (e : τ = ui κ paWaits p 0) : paN κ τ p ∧ (zI τ paWaits p).toInt = 0 := by
  have D := H.2.2.2
  have o : zI τ paWaits p = 0 := by rw [e]; exact if_pos ⟨rfl, rfl⟩
  have oth : ∀ f, f ≠ paWaits → zI τ f p = zI κ f p := fun f hf => by rw [e]; exact if_neg (fun z => hf z.1)
  have Z : zF (objF p) κ τ := by rw [e]; exact zF_ui rfl
  have r : zR τ = zR κ := by rw [e]; rfl
  have n : zN τ = zN κ := by rw [e]; rfl
  refine ⟨paN_p W T H Z r n (oth _ (by decide)) (oth _ (by decide)) ?_, by rw [o]; rfl⟩
  unfold paC
  rw [r, n, o, t0i, oth paOwns (by decide), oth paBlocks (by decide)]
  exact ⟨D.1, D.2.1, ⟨by omega, by omega⟩, D.2.2.2⟩
theorem ex_init {κ τ : zS} {p : Nat} {t : Int32} (N : paN κ τ p) (w : (zI τ paWaits p).toInt = 0) (K : paK κ p) (h0 : 0 ≤ psi κ p) (h2 : t = -1 ∨ 2 ≤ psi κ p) : exJ κ τ p (exS κ p t) t 1 1 0 := by
  have ea := N.2.2.1.1
  have el := N.2.2.2.1
  have k := paN_K N K
  have k0 := K.1.1
  unfold psi at h0 h2
  refine ⟨⟨N.1, N.2.1, k⟩, ?_, fun q => ?_, fun q => absurd rfl q, fun _ => ⟨by decide, by decide⟩, ⟨by decide, by decide⟩⟩
  · rw [ea, el, w]
    unfold exS
    split
    · omega
    · rename_i q
      have := h2.resolve_left q
      omega
  · have g := h2.resolve_left q
    rw [ea, el, w]
    unfold exS
    rw [if_neg q]
    omega
theorem Pa_expression_c {C : zC} {n0 : Nat} {a0 : Nat} {a1 : Int32} {a2 : Int32} {κ : zS} {Q : zS → Prop} {X : zXp} (W : zW C n0 κ) (Ta0 : zT κ a0 = 10)  (hp : paI κ a0 ∧ paK κ a0 ∧ 0 ≤ psi κ a0 ∧ (a2 = -1 ∨ 2 ≤ psi κ a0)) (h : ∀ (κ' : zS), (paF κ κ' a0 ∧ paI κ' a0 ∧ paK κ' a0 ∧ 0 ≤ psi κ' a0) → Q κ') (hx : ∀ (cls : String) (κ' : zS), (paX κ cls κ' a0) → X cls κ') : zRun C 11 mPa_expression [.ref a0, .int a1, .int a2] κ (oV Q X) := by
  refine Pa_expression_run W Ta0 ?_
  replace W := W.lo (Nat.le_trans W.1.2.1 W.1.2.2) (Nat.le_refl (zn κ))
  unfold w_Pa_expression_0
  have hj178 : ∀ (l0 : Nat) (τ : zS), zW C (zn κ) τ → zT τ l0 = 10 → (a0 = l0 ∧ (paF κ τ a0 ∧ paI τ a0 ∧ paK τ a0) ∧ (zI τ coLength (zR τ paCode a0)).toInt + 1 ≤ 2 * (zI τ paAt a0).toInt) → w_Pa_expression_178 C (zn κ) Q X  l0 τ := by
    rintro _ τ178 W178 T178_0 ⟨rfl, j178⟩
    unfold w_Pa_expression_178
    intro T1
    obtain ⟨⟨F, I, K⟩, l⟩ := j178
    have tb := I.1.2.2
    have kb := K.1.2
    refine Co_emit_c W178 T1  ?_ (fun κ_2 q3 => ?_)
    · exact ⟨I.2.1, by omega⟩  -- p1
    intro W4
    intro M5
    refine h _ ?_
    · obtain ⟨-, -, M⟩ := paE_emit W178 T178_0 I K q3 (by omega)
      have m := M.2.2.2
      refine ⟨F.tr M.1, M.2.1, M.2.2.1, ?_⟩
      unfold psi at m ⊢
      omega
  intro T6
  refine Co_column_c W T6  ?_ (fun r7 q9 => ?_)
  · exact ⟨hp.1.2.1, by decide, by decide⟩  -- p3
  intro W10
  intro M11
  intro T12
  refine Co_setColumn_c W10 T12  ?_ (fun κ_13 q14 => ?_)
  · exact ⟨hp.1.2.1, by decide, by decide⟩  -- p4
  intro W15
  intro M16
  intro κ_17 hκ_17
  intro W18
  unfold w_Pa_expression_36
  refine ⟨fun n l0 l3 l4 l5 l6 τ => n = (20486 - l6.toInt).toNat ∧ (a0 = l0 ∧ exJ κ τ a0 (exS κ a0 a2) l3 l4 l5 l6), ⟨_, rfl, ?_⟩, ?_⟩
  · have N1 := (paN_c W Ta0 hp.1 (q14.1.mono (fun _ _ z => z.2)) q14.2.1 (by rw [q14.2.2.1])).1
    obtain ⟨N2, w2⟩ := paN_w0 W15 (q14.1.t Ta0 (by decide)) N1.2.1 hκ_17
    exact ⟨rfl, ex_init (N1.tr N2) w2 hp.2.1 hp.2.2.1 hp.2.2.2⟩
  rintro n36 _ x36_3 x36_4 x36_5 x36_6 κ36 W36 T36_0 ⟨hn36, rfl, i36⟩
  have hj161 : ∀ (l0 : Nat) (l3 : Int32) (l4 : Int32) (l6 : Int32) (s0 : Int32) (τ : zS), zW C (zn κ) τ → zT τ l0 = 10 → (a0 = l0 ∧ exJ κ τ a0 (exS κ a0 a2) l3 l4 1 l6 ∧ l6 = x36_6 ∧ l6.toInt ≤ 20485 ∧ l6 ≠ 0 ∧ (s0 ≠ 0 → 0 < (zI τ paWaits a0).toInt)) → w_Pa_expression_161 C (zn κ) Q X (fun (l0' : Nat) (l3' : Int32) (l4' : Int32) (l5' : Int32) (l6' : Int32) (τ : zS) => ∃ k < n36, (fun (n : Nat) (l0 : Nat) (l3 : Int32) (l4 : Int32) (l5 : Int32) (l6 : Int32) (τ : zS) => n = (20486 - l6.toInt).toNat ∧ (a0 = l0 ∧ exJ κ τ a0 (exS κ a0 a2) l3 l4 l5 l6)) k l0' l3' l4' l5' l6' τ) l0 l3 l4 l6 s0 τ := by
    rintro _ y161_3 y161_4 y161_6 y161_s0 τ161 W161 T161_0 ⟨rfl, j161⟩
    unfold w_Pa_expression_161
    obtain ⟨J, rfl, b6, z6, w6⟩ := j161
    have B := exJ_b J
    have l0 := J.2.2.2.2.2
    have e1 : (y161_6 + 1).toInt = y161_6.toInt + 1 := by rw [add_i (by rw [t1i]; omega) (by rw [t1i]; omega), t1i]
    have z1 : ∀ x : Int32, x = y161_6 + 1 → x ≠ 0 ∧ (0 ≤ x.toInt ∧ x.toInt ≤ 20486) := fun x h => ⟨fun z => by rw [z] at h; rw [← h, t0i] at e1; omega, by rw [h, e1]; omega, by rw [h, e1]; omega⟩
    refine ⟨fun c19 => ?_, fun c19 => ?_⟩
    · skip
      intro x20 hx20
      refine ⟨_, ?_, rfl, ?_⟩
      · rw [hn36, hx20, e1]; omega  -- d6
      · rw [c19]
        exact ⟨rfl, ⟨J.1, J.2.1, J.2.2.1, fun _ => J.2.2.2.1 z6, fun q => absurd q (z1 _ hx20).1, (z1 _ hx20).2⟩⟩
    · skip
      intro T21
      refine Pa_closeInner_c W161 T21  ?_ (fun κ_22 q23 => ?_) (fun cls9 κ9 q9 => hx _ _ ?_)
      · exact ⟨J.1.2.1, J.1.2.2, w6 c19, by omega⟩  -- p8
      rotate_left
      · exact paX_tr J.1.1 q9  -- x9
      intro W24
      intro M25
      intro x26 hx26
      refine ⟨_, ?_, rfl, ?_⟩
      · rw [hn36, hx26, e1]; omega  -- d10
      · exact ⟨rfl, exJ_E J q23 (Or.inl rfl) (Or.inl z6) (z1 _ hx26).1 (z1 _ hx26).2⟩  -- i11
  have hj109 : ∀ (l0 : Nat) (l5 : Int32) (l6 : Int32) (s0 : Int32) (τ : zS), zW C (zn κ) τ → zT τ l0 = 10 → (a0 = l0 ∧ l6 = x36_6 ∧ l6.toInt ≤ 20485 ∧ ∀ m4 m5 m6 : Int32, m6.toInt = l6.toInt + 1 → exJ κ τ a0 (exS κ a0 a2) (-1) m4 m5 m6) → w_Pa_expression_109 C (zn κ) Q X (fun (l0' : Nat) (l3' : Int32) (l4' : Int32) (l5' : Int32) (l6' : Int32) (τ : zS) => ∃ k < n36, (fun (n : Nat) (l0 : Nat) (l3 : Int32) (l4 : Int32) (l5 : Int32) (l6 : Int32) (τ : zS) => n = (20486 - l6.toInt).toNat ∧ (a0 = l0 ∧ exJ κ τ a0 (exS κ a0 a2) l3 l4 l5 l6)) k l0' l3' l4' l5' l6' τ) l0 l5 l6 s0 τ := by
    rintro _ y109_5 y109_6 y109_s0 τ109 W109 T109_0 ⟨rfl, j109⟩
    unfold w_Pa_expression_109
    intro x27 hx27
    refine ⟨_, ?_, rfl, ?_⟩
    · obtain ⟨rfl, b6, G⟩ := j109
      have l0 := i36.2.2.2.2.2
      have e1 : (y109_6 + 1).toInt = y109_6.toInt + 1 := by rw [add_i (by rw [t1i]; omega) (by rw [t1i]; omega), t1i]
      rw [hn36, hx27, e1]; omega
    · obtain ⟨rfl, b6, G⟩ := j109
      have l0 := i36.2.2.2.2.2
      have e1 : (y109_6 + 1).toInt = y109_6.toInt + 1 := by rw [add_i (by rw [t1i]; omega) (by rw [t1i]; omega), t1i]
      exact ⟨rfl, G _ _ _ (by rw [hx27, e1])⟩
  have hj87 : ∀ (l0 : Nat) (l3 : Int32) (l4 : Int32) (l5 : Int32) (l6 : Int32) (τ : zS), zW C (zn κ) τ → zT τ l0 = 10 → (a0 = l0 ∧ τ = κ36 ∧ l3 = x36_3 ∧ l4 = x36_4 ∧ l5 = x36_5 ∧ l6 = x36_6 ∧ l6.toInt ≤ 20485) → w_Pa_expression_87 C (zn κ) Q X (fun (l0' : Nat) (l3' : Int32) (l4' : Int32) (l5' : Int32) (l6' : Int32) (τ : zS) => ∃ k < n36, (fun (n : Nat) (l0 : Nat) (l3 : Int32) (l4 : Int32) (l5 : Int32) (l6 : Int32) (τ : zS) => n = (20486 - l6.toInt).toNat ∧ (a0 = l0 ∧ exJ κ τ a0 (exS κ a0 a2) l3 l4 l5 l6)) k l0' l3' l4' l5' l6' τ) l0 l3 l4 l5 l6 τ := by
    rintro _ y87_3 y87_4 y87_5 y87_6 τ87 W87 T87_0 ⟨rfl, j87⟩
    unfold w_Pa_expression_87
    obtain ⟨rfl, rfl, rfl, rfl, rfl, b6⟩ := j87
    have B := exJ_b i36
    have l0 := i36.2.2.2.2.2
    have e1 : (y87_6 + 1).toInt = y87_6.toInt + 1 := by rw [add_i (by rw [t1i]; omega) (by rw [t1i]; omega), t1i]
    have z1 : ∀ x : Int32, x.toInt = y87_6.toInt + 1 → x ≠ 0 ∧ (0 ≤ x.toInt ∧ x.toInt ≤ 20486) := fun x h => ⟨fun z => by rw [z, t0i] at h; omega, by omega, by omega⟩
    refine ⟨fun c28 => ?_, fun c28 => ?_⟩
    · skip
      refine Pa_binary_c W87   (fun r29 q31 => ?_)
      intro W32
      intro M33
      refine ⟨fun c34 => ?_, fun c34 => ?_⟩
      · skip
        intro T35
        refine Pa_emitWaiting_c W32 T35  ?_ (fun κ_36 q37 => ?_)
        · exact ⟨i36.1.2.1, by omega⟩  -- p14
        intro W38
        intro M39
        have Q := paE_ew i36.1.2.2 q37
        have z6 : y87_6 ≠ 0 := fun z => (i36.2.2.2.2.1 z).1 c28
        refine ⟨fun c40 => ?_, fun c40 => ?_⟩
        · skip
          refine hj161 _ _ _ _ _ _ W38 ?_ ?_
          · exact Q.1.1.1.t T87_0 (by decide)  -- t15
          · exact ⟨rfl, exJ_E i36 Q.1 (Or.inl rfl) (Or.inl z6) z6 l0, rfl, b6, z6, fun q => absurd rfl q⟩  -- k16
        · skip
          refine hj161 _ _ _ _ _ _ W38 ?_ ?_
          · exact Q.1.1.1.t T87_0 (by decide)  -- t17
          · exact ⟨rfl, exJ_E i36 Q.1 (Or.inl rfl) (Or.inl z6) z6 l0, rfl, b6, z6, fun _ => by rw [lei, t0i] at c40; omega⟩  -- k18
      · skip
        refine Pa_binary_c W32   (fun r41 q43 => ?_)
        intro W44
        intro M45
        intro T46
        refine Pa_operator_c W44 T46  ?_ (fun κ_47 q48 => ?_) (fun cls9 κ9 q9 => hx _ _ ?_)
        · exact ⟨i36.1.2.1, i36.1.2.2, by omega, q31.resolve_left c34⟩  -- p19
        rotate_left
        · exact paX_tr i36.1.1 q9  -- x20
        intro W49
        intro M50
        intro x51 hx51
        refine ⟨_, ?_, rfl, ?_⟩
        · rw [hn36, hx51, e1]; omega  -- d21
        · exact ⟨rfl, exJ_E i36 q48 (Or.inl rfl) (Or.inl (fun z => (i36.2.2.2.2.1 z).1 c28)) (z1 _ (by rw [hx51, e1])).1 (z1 _ (by rw [hx51, e1])).2⟩  -- i22
    · skip
      refine ⟨fun c52 => ?_, fun c52 => ?_⟩
      · skip
        intro T53
        refine Pa_operandName_c W87 T53  ?_ (fun r54 κ_55 q56 => ?_) (fun cls9 κ9 q9 => hx _ _ ?_)
        · exact ⟨i36.1.2.1, i36.1.2.2, by omega⟩  -- p23
        rotate_left
        · exact paX_tr i36.1.1 q9  -- x24
        intro W57
        intro M58
        refine hj109 _ _ _ _ _ W57 ?_ ?_
        · exact q56.1.1.1.t T87_0 (by decide)  -- t25
        · exact ⟨rfl, rfl, b6, fun m4 m5 m6 e => exJ_N i36 q56.1 c52 (z1 _ e).1 (z1 _ e).2⟩  -- k26
      · skip
        intro T59
        refine Pa_operand_c W87 T59  ?_ (fun r60 κ_61 q62 => ?_) (fun cls9 κ9 q9 => hx _ _ ?_)
        · exact ⟨i36.1.2.1, i36.1.2.2, by omega⟩  -- p27
        rotate_left
        · exact paX_tr i36.1.1 q9  -- x28
        intro W63
        intro M64
        refine hj109 _ _ _ _ _ W63 ?_ ?_
        · exact q62.1.1.1.t T87_0 (by decide)  -- t29
        · exact ⟨rfl, rfl, b6, fun m4 m5 m6 e => exJ_E i36 q62.1 (Or.inr rfl) (Or.inr q62.2.1) (z1 _ e).1 (z1 _ e).2⟩  -- k30
  refine ⟨fun c65 => ?_, fun c65 => ?_⟩
  · skip
    refine hj178 _ _ W36 ?_ ?_
    · exact T36_0  -- t31
    · exact ⟨rfl, i36.1, exJ_x i36 (fun z => (i36.2.2.2.2.1 z).2 c65)⟩  -- k32
  · skip
    have tb := i36.1.2.1.1.2.2
    have t0 := i36.1.2.1.1.1.2.1
    have m2 : ((2 : Int32) * zI κ36 taTotal (zR κ36 paTape a0)).toInt = 2 * (zI κ36 taTotal (zR κ36 paTape a0)).toInt := by rw [mul_i (by rw [t2i]; omega) (by rw [t2i]; omega), t2i]
    refine ⟨fun c66 => ?_, fun c66 => ?_⟩
    · skip
      refine hj178 _ _ W36 ?_ ?_
      · exact T36_0  -- t33
      · rw [lti, m2] at c66
        exact ⟨rfl, i36.1, exJ_x i36 (fun z => by rw [z, t0i] at c66; omega)⟩
    · skip
      have b5 : x36_6.toInt ≤ 20485 := by rw [lti, m2] at c66; omega
      refine ⟨fun c67 => ?_, fun c67 => ?_⟩
      · skip
        refine hj87 _ _ _ _ _ _ W36 ?_ ?_
        · exact T36_0  -- t35
        · exact ⟨rfl, rfl, rfl, rfl, rfl, rfl, b5⟩  -- k36
      · skip
        refine ⟨fun c68 => ?_, fun c68 => ?_⟩
        · skip
          refine hj87 _ _ _ _ _ _ W36 ?_ ?_
          · exact T36_0  -- t37
          · exact ⟨rfl, rfl, rfl, rfl, rfl, rfl, b5⟩  -- k38
        · skip
          refine ⟨fun c69 => ?_, fun c69 => ?_⟩
          · skip
            refine hj87 _ _ _ _ _ _ W36 ?_ ?_
            · exact T36_0  -- t39
            · exact ⟨rfl, rfl, rfl, rfl, rfl, rfl, b5⟩  -- k40
          · skip
            intro x70 hx70
            intro T71
            refine Pa_take_c W36 T71  ?_ (fun κ_72 q73 => ?_)
            · exact ⟨i36.1.2.1, paK_t i36.1.2.2 c69 (by decide)⟩  -- p41
            intro W74
            intro M75
            intro x76 hx76
            refine ⟨_, ?_, rfl, ?_⟩
            · have l0 := i36.2.2.2.2.2
              have e1 : (x36_6 + 1).toInt = x36_6.toInt + 1 := by rw [add_i (by rw [t1i]; omega) (by rw [t1i]; omega), t1i]
              rw [hn36, hx76, e1]; omega
            · have l0 := i36.2.2.2.2.2
              have e1 : (x36_6 + 1).toInt = x36_6.toInt + 1 := by rw [add_i (by rw [t1i]; omega) (by rw [t1i]; omega), t1i]
              obtain ⟨-, E, -, a, -⟩ := paT_N W36 T36_0 i36.1.2.1 q73
              exact ⟨rfl, exJ_T i36 E a (fun z => by rw [z] at hx76; rw [← hx76, t0i] at e1; omega) ⟨by rw [hx76, e1]; omega, by rw [hx76, e1]; omega⟩⟩

end
