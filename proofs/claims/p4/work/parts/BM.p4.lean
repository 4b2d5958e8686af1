set_option maxHeartbeats 1600000
/-! the class: Parser: read -/
/-- between two texts: the tape, a code to fill, the parser's own rows -/
def paZ (κ : zS) (p c : Nat) : Prop := (taI κ (zR κ paTape p) ∧ tokI κ (zR κ paTape p)) ∧ coI κ c ∧ paL κ p ∧ paC κ p
def rdF (κ τ : zS) (p c : Nat) : Prop := zF (fun _ a => a = p ∨ a = zR κ paTape p ∨ a = c) κ τ ∧ zR τ paTape p = zR κ paTape p ∧ zR τ paCode p = c ∧ zI τ taLength (zR κ paTape p) = zI κ taLength (zR κ paTape p)
def rdJ (κ τ : zS) (p c : Nat) : Prop := rdF κ τ p c ∧ paA τ p
def rdX (κ : zS) (cls : String) (κ' : zS) (p c : Nat) : Prop := cls = "java/lang/IllegalStateException" ∧ ∃ τ, κ' = ut τ ∧ rdF κ τ p c ∧ paI τ p
theorem rd_F {C : zC} {n0 p c : Nat} {κ τ σ : zS} (W : zW C n0 τ) (T : zT τ p = 10) (J : rdF κ τ p c) (F : paF τ σ p) : rdF κ σ p c := by
  obtain ⟨Z, a, b, l⟩ := J
  refine ⟨Z.tr (F.1.mono (fun _ x e => ?_)), F.2.1.trans a, F.2.2.trans b, ?_⟩
  · rcases e with e | e
    · exact Or.inl e
    · exact Or.inr (Or.inr (e.trans b))
  · have n := pa_ne W T
    have z : zI σ taLength (zR τ paTape p) = zI τ taLength (zR τ paTape p) := F.1.i (fun e => by
      rcases e with e | e
      · exact n.1 e
      · exact n.2.2 e)
    rw [a] at z
    exact z.trans l
theorem rd_S {C : zC} {n0 p c : Nat} {κ τ σ : zS} (W : zW C n0 τ) (T : zT τ p = 10) (J : rdJ κ τ p c) (S : paS τ σ p) : rdJ κ σ p c := ⟨rd_F W T J.1 S.1, S.2⟩
theorem rd_X {C : zC} {n0 p c : Nat} {κ τ κ' : zS} {cls : String} (W : zW C n0 τ) (T : zT τ p = 10) (J : rdJ κ τ p c) (x : paX τ cls κ' p) : rdX κ cls κ' p c := by
  obtain ⟨e, σ, e1, F, I⟩ := x
  exact ⟨e, σ, e1, rd_F W T J.1 F, I⟩
/-- what stands when the first token is to be taken -/
theorem rd_0 {C : zC} {n0 p c : Nat} {κ κ1 κ4 κ8 κ11 κ13 κ15 κ17 κ19 : zS} (W : zW C n0 κ) (W1 : zW C n0 κ1) (W4 : zW C n0 κ4) (W8 : zW C n0 κ8) (W15 : zW C n0 κ15) (W17 : zW C n0 κ17) (T : zT κ p = 10) (Tc : zT κ c = 5) (H : paZ κ p c)
    (q1 : zF (objF (zR κ paTape p)) κ κ1 ∧ taI κ1 (zR κ paTape p) ∧ tokI κ1 (zR κ paTape p) ∧ (zI κ1 taTotal (zR κ paTape p)).toInt ≤ 10242 ∧ zR κ1 taBytes (zR κ paTape p) = zR κ taBytes (zR κ paTape p) ∧ zI κ1 taLength (zR κ paTape p) = zI κ taLength (zR κ paTape p))
    (e4 : κ4 = ur κ1 paCode p c) (q8 : zF (objF (zR κ4 paCode p)) κ4 κ8 ∧ coI κ8 (zR κ4 paCode p) ∧ zR κ8 = zR κ4 ∧ (zI κ8 coVars (zR κ4 paCode p)).toInt = 0 ∧ (zI κ8 coArrays (zR κ4 paCode p)).toInt = 0 ∧ (zI κ8 coCells (zR κ4 paCode p)).toInt = 0 ∧ (zI κ8 coFunctions (zR κ4 paCode p)).toInt = 0 ∧ (zI κ8 coStatements (zR κ4 paCode p)).toInt = 0 ∧ (zI κ8 coLength (zR κ4 paCode p)).toInt = 0 ∧ (zI κ8 coMain (zR κ4 paCode p)).toInt = -1)
    (e11 : κ11 = ui κ8 paAt p (-1)) (e13 : κ13 = ui κ11 paOpen p 0) (e15 : κ15 = ui κ13 paInside p 0) (e17 : κ17 = ui κ15 paOwns p 0) (e19 : κ19 = ui κ17 paBlocks p 0) : rdF κ κ19 p c ∧ paI κ19 p ∧ (zI κ19 paAt p).toInt = -1 ∧ 0 ≤ (zI κ19 taTotal (zR κ19 paTape p)).toInt ∧ (zI κ19 coLength (zR κ19 paCode p)).toInt = 0 := by
  have n := pa_ne W T
  have Tt := ty_paTape W T
  have ntc : zR κ paTape p ≠ c := fun e => by rw [e, Tc] at Tt; exact absurd Tt (by decide)
  have npc : p ≠ c := fun e => by rw [e, Tc] at T; exact absurd T (by decide)
  have Z1 := q1.1
  have p1 : ∀ f, zR κ1 f p = zR κ f p := fun f => Z1.r (fun e => n.1 e.symm)
  have i1 : ∀ f, zI κ1 f p = zI κ f p := fun f => Z1.i (fun e => n.1 e.symm)
  have Z4 : zF (fun _ a => a = p) κ1 κ4 := by rw [e4]; exact zF_ur rfl (show zr paCode = some 5 by decide +kernel) (by decide)
  have r4 : zR κ4 paCode p = c := by rw [e4]; exact if_pos ⟨rfl, rfl⟩
  have r4o : ∀ f, f ≠ paCode → zR κ4 f p = zR κ1 f p := fun f hf => by rw [e4]; exact if_neg (fun z => hf z.1)
  rw [r4] at q8
  obtain ⟨Z8, C8, R8, -, -, -, -, -, L8, -⟩ := q8
  have T1 := Z1.t T (by decide)
  have T4 := Z4.t T1 (by decide)
  have T8 := Z8.t T4 (by decide)
  have Tt4 := Z4.t (Z1.t Tt (by decide)) (by decide)
  have rt : zR κ8 paTape p = zR κ paTape p := by rw [R8, r4o paTape (by decide), p1]
  have rc : zR κ8 paCode p = c := by rw [R8]; exact r4
  have a4 : taI κ4 (zR κ paTape p) := taI_zF Z4 W1 (Z1.t Tt (by decide)) (fun f e => n.1 e) q1.2.1
  have b4 : tokI κ4 (zR κ paTape p) := tokI_zF Z4 W1 (Z1.t Tt (by decide)) (fun f e => n.1 e) q1.2.2.1
  have a8 : taI κ8 (zR κ paTape p) := taI_zF Z8 W4 Tt4 (fun f e => ntc e) a4
  have b8 : tokI κ8 (zR κ paTape p) := tokI_zF Z8 W4 Tt4 (fun f e => ntc e) b4
  have t8 : ∀ f, zI κ8 f (zR κ paTape p) = zI κ1 f (zR κ paTape p) := fun f => (Z8.i (fun e => ntc e)).trans (Z4.i (fun e => n.1 e))
  have ip : ∀ f, zI κ8 f p = zI κ f p := fun f => ((Z8.i (fun e => npc e)).trans (by rw [e4]; rfl)).trans (i1 f)
  have ZZ : zF (fun _ a => a = p ∨ a = zR κ paTape p ∨ a = c) κ κ8 := ((Z1.mono (fun _ _ e => Or.inr (Or.inl e))).tr (Z4.mono (fun _ _ e => Or.inl e))).tr (Z8.mono (fun _ _ e => Or.inr (Or.inr e)))
  have nn : ∀ f, f ≠ paCode → ∀ d, zT κ (zR κ f p) = d + 1 → zN κ8 (zR κ8 f p) = zN κ (zR κ f p) := fun f hf d hd => by
    rw [R8, r4o f hf, p1]
    exact ZZ.l hd
  have I8 : paI κ8 p := by
    refine ⟨?_, ?_, ?_, ?_⟩
    · rw [rt, t8 taTotal]
      exact ⟨a8, b8, q1.2.2.2.1⟩
    · rw [rc]; exact C8
    · unfold paL
      rw [nn paVarNames (by decide) _ (ty_paVarNames W T), nn paArrayNames (by decide) _ (ty_paArrayNames W T), nn paFunctionNames (by decide) _ (ty_paFunctionNames W T), nn paOwnNames (by decide) _ (ty_paOwnNames W T), nn paOwners (by decide) _ (ty_paOwners W T), nn paLasts (by decide) _ (ty_paLasts W T), nn paElses (by decide) _ (ty_paElses W T)]
      exact H.2.2.1
    · unfold paC
      rw [nn paWaiting (by decide) _ (ty_paWaiting W T), ip paOwns, ip paBlocks, ip paWaits]
      exact H.2.2.2
  have O : paO κ8 κ15 p := ((paO_ui e11 (by decide)).tr (paO_ui e13 (by decide))).tr (paO_ui e15 (by decide))
  obtain ⟨I15, F15, c15, t15⟩ := paO_p W8 T8 O I8
  have T15 := F15.1.t T8 (by decide)
  have N17 := paN_u W15 T15 I15 e17 (Or.inl ⟨rfl, by decide, by decide⟩)
  have T17 := N17.1.1.t T15 (by decide)
  have N19 := paN_u W17 T17 N17.2.1 e19 (Or.inr (Or.inl ⟨rfl, by decide, by decide⟩))
  have N := N17.tr N19
  have J8 : rdF κ κ8 p c := ⟨ZZ, rt, rc, (t8 taLength).trans q1.2.2.2.2.2⟩
  have J15 := rd_F W8 T8 J8 F15
  have at15 : zI κ15 paAt p = -1 := by
    rw [e15, e13]
    show zI κ11 paAt p = _
    rw [e11]
    exact if_pos ⟨rfl, rfl⟩
  refine ⟨rd_F W15 T15 J15 N.1, N.2.1, by rw [N.2.2.1.1, at15]; rfl, ?_, ?_⟩
  · exact N.2.1.1.1.2.1
  · rw [N.2.2.2.1, F15.2.2, c15, rc, L8]
theorem rd_c {C : zC} {n0 p c : Nat} {κ κ1 κ4 : zS} (W : zW C n0 κ) (W1 : zW C n0 κ1) (T : zT κ p = 10) (Tc : zT κ c = 5) (H : coI κ c) (q : zF (objF (zR κ paTape p)) κ κ1) (e4 : κ4 = ur κ1 paCode p c) : coI κ4 (zR κ4 paCode p) := by
  have Tt := ty_paTape W T
  have ntc : c ≠ zR κ paTape p := fun e => by rw [← e, Tc] at Tt; exact absurd Tt (by decide)
  have npc : c ≠ p := fun e => by rw [e, T] at Tc; exact absurd Tc (by decide)
  have Z4 : zF (fun _ a => a = p) κ1 κ4 := by rw [e4]; exact zF_ur rfl (show zr paCode = some 5 by decide +kernel) (by decide)
  have r4 : zR κ4 paCode p = c := by rw [e4]; exact if_pos ⟨rfl, rfl⟩
  rw [r4]
  exact coI_zF Z4 W1 (q.t Tc (by decide)) (fun f e => npc e) (coI_zF q W Tc (fun f e => ntc e) H)
theorem Pa_read_c {C : zC} {n0 : Nat} {a0 : Nat} {a1 : Nat} {κ : zS} {Q : zS → Prop} {X : zXp} (W : zW C n0 κ) (Ta0 : zT κ a0 = 10) (Ta1 : zT κ a1 = 5)  (hp : paZ κ a0 a1 ∧ (zI κ taLength (zR κ paTape a0)).toInt ≤ 10240) (h : ∀ (κ' : zS), (rdF κ κ' a0 a1 ∧ paI κ' a0) → Q κ') (hx : ∀ (cls : String) (κ' : zS), (rdX κ cls κ' a0 a1) → X cls κ') : zRun C 14 mPa_read [.ref a0, .ref a1] κ (oV Q X) := by
  refine Pa_read_run W Ta0 Ta1 ?_
  replace W := W.lo (Nat.le_trans W.1.2.1 W.1.2.2) (Nat.le_refl (zn κ))
  unfold w_Pa_read_0
  have hj122 : ∀ (l0 : Nat) (τ : zS), zW C (zn κ) τ → zT τ l0 = 10 → (a0 = l0 ∧ rdJ κ τ a0 a1) → w_Pa_read_122 C (zn κ) Q X  l0 τ := by
    rintro _ τ122 W122 T122_0 ⟨rfl, j122⟩
    unfold w_Pa_read_122
    intro T1
    refine Pa_findCalled_c W122 T1  ?_ (fun κ_2 q3 => ?_) (fun cls9 κ9 q9 => hx _ _ ?_)
    · exact j122.2  -- p1
    rotate_left
    · exact rd_X W122 T122_0 j122 q9  -- x2
    intro W4
    intro M5
    intro T6
    have J := rd_S W122 T122_0 j122 q3
    have T2 := q3.1.1.t T122_0 (by decide)
    refine Co_linkFollows_c W4 T6  ?_ (fun κ_7 q8 => ?_)
    · exact J.2.1.2.1  -- p3
    intro W9
    intro M10
    refine h _ ?_
    · have N := (paN_c W4 T2 J.2.1 (q8.1.mono (fun _ _ z => z.2)) q8.2.1 (by rw [q8.2.2])).1
      exact ⟨rd_F W4 T2 J.1 N.1, N.2.1⟩
  intro T11
  refine Ta_split_c W T11  ?_ (fun κ_12 q13 => ?_)
  · exact ⟨hp.1.1.1, hp.1.1.2, hp.2⟩  -- p5
  intro W14
  intro M15
  intro κ_16 hκ_16
  intro W17
  intro T18
  refine Co_clear_c W17 T18  ?_ (fun κ_19 q20 => ?_)
  · exact rd_c W W14 Ta0 Ta1 hp.1.2.1 q13.1 hκ_16  -- p6
  intro W21
  intro M22
  intro κ_23 hκ_23
  intro W24
  intro κ_25 hκ_25
  intro W26
  intro κ_27 hκ_27
  intro W28
  intro κ_29 hκ_29
  intro W30
  intro κ_31 hκ_31
  intro W32
  intro T33
  obtain ⟨R1, R2, R3, R4, R5⟩ := rd_0 W W14 W17 W21 W28 W30 Ta0 Ta1 hp.1 q13 hκ_16 q20 hκ_23 hκ_25 hκ_27 hκ_29 hκ_31
  refine Pa_take_c W32 T33  ?_ (fun κ_34 q35 => ?_)
  · exact ⟨R2, by omega, by omega⟩  -- p7
  intro W36
  intro M37
  unfold w_Pa_read_50
  refine ⟨fun n l0 l2 τ => n = (10244 - l2.toInt).toNat ∧ (a0 = l0 ∧ rdJ κ τ a0 a1 ∧ 0 ≤ l2.toInt), ⟨_, rfl, ?_⟩, ?_⟩
  · obtain ⟨I, F, c, t⟩ := paO_p W32 T33 q35.1 R2
    refine ⟨rfl, ⟨rd_F W32 T33 R1 F, I, q35.2.1, ?_⟩, by decide⟩
    unfold psi
    rw [q35.2.2, R3, F.2.2, c, R5]
    decide
  rintro n50 _ x50_2 κ50 W50 T50_0 ⟨hn50, rfl, i50⟩
  have hj78 : ∀ (l0 : Nat) (l2 : Int32) (τ : zS), zW C (zn κ) τ → zT τ l0 = 10 → (a0 = l0 ∧ rdJ κ τ a0 a1 ∧ l2 = x50_2 ∧ l2.toInt ≤ 10242) → w_Pa_read_78 C (zn κ) Q X (fun (l0' : Nat) (l2' : Int32) (τ : zS) => ∃ k < n50, (fun (n : Nat) (l0 : Nat) (l2 : Int32) (τ : zS) => n = (10244 - l2.toInt).toNat ∧ (a0 = l0 ∧ rdJ κ τ a0 a1 ∧ 0 ≤ l2.toInt)) k l0' l2' τ) l0 l2 τ := by
    rintro _ y78_2 τ78 W78 T78_0 ⟨rfl, j78⟩
    unfold w_Pa_read_78
    have e3 := j78.2.1
    have l3 := j78.2.2
    have l0 := i50.2
    have e1 : (y78_2 + 1).toInt = y78_2.toInt + 1 := by rw [add_i (by rw [t1i, e3]; omega) (by rw [t1i]; omega), t1i]
    refine ⟨fun c38 => ?_, fun c38 => ?_⟩
    · skip
      refine ⟨fun c39 => ?_, fun c39 => ?_⟩
      · skip
        intro T40
        refine Pa_addStatement_c W78 T40  ?_ (fun r41 κ_42 q43 => ?_) (fun cls9 κ9 q9 => hx _ _ ?_)
        · exact j78.1.2  -- p9
        rotate_left
        · exact rd_X W78 T78_0 j78.1 q9  -- x10
        intro W44
        intro M45
        intro T46
        have J2 := rd_S W78 T78_0 j78.1 q43.1
        refine Pa_statement_c W44 T46  ?_ (fun κ_47 q48 => ?_) (fun cls9 κ9 q9 => hx _ _ ?_)
        · exact ⟨J2.2, by rw [q43.2.1]; exact q43.2.2⟩  -- p11
        rotate_left
        · exact rd_X W44 T46 J2 q9  -- x12
        intro W49
        intro M50
        intro x51 hx51
        refine ⟨_, ?_, rfl, ?_⟩
        · rw [hn50, hx51, e1, e3]; rw [e3] at l3; omega  -- d13
        · exact ⟨rfl, rd_S W44 T46 J2 q48, by rw [hx51, e1, e3]; omega⟩  -- i14
      · skip
        intro T52
        refine Pa_closeBlock_c W78 T52  ?_ (fun κ_53 q54 => ?_) (fun cls9 κ9 q9 => hx _ _ ?_)
        · exact j78.1.2  -- p15
        rotate_left
        · exact rd_X W78 T78_0 j78.1 q9  -- x16
        intro W55
        intro M56
        intro x57 hx57
        refine ⟨_, ?_, rfl, ?_⟩
        · rw [hn50, hx57, e1, e3]; rw [e3] at l3; omega  -- d17
        · exact ⟨rfl, rd_S W78 T78_0 j78.1 q54, by rw [hx57, e1, e3]; omega⟩  -- i18
    · skip
      intro T58
      refine Pa_item_c W78 T58  ?_ (fun κ_59 q60 => ?_) (fun cls9 κ9 q9 => hx _ _ ?_)
      · exact j78.1.2  -- p19
      rotate_left
      · exact rd_X W78 T78_0 j78.1 q9  -- x20
      intro W61
      intro M62
      intro x63 hx63
      refine ⟨_, ?_, rfl, ?_⟩
      · rw [hn50, hx63, e1, e3]; rw [e3] at l3; omega  -- d21
      · exact ⟨rfl, rd_S W78 T78_0 j78.1 q60, by rw [hx63, e1, e3]; omega⟩  -- i22
  refine ⟨fun c64 => ?_, fun c64 => ?_⟩
  · skip
    refine hj122 _ _ W50 ?_ ?_
    · exact T50_0  -- t23
    · exact ⟨rfl, i50.1⟩  -- k24
  · skip
    have l2 : x50_2.toInt ≤ 10242 := by
      rw [lti] at c64
      have tb := i50.1.2.1.1.2.2
      omega
    refine ⟨fun c65 => ?_, fun c65 => ?_⟩
    · skip
      refine hj78 _ _ _ W50 ?_ ?_
      · exact T50_0  -- t25
      · exact ⟨rfl, i50.1, rfl, l2⟩  -- k26
    · skip
      refine ⟨fun c66 => ?_, fun c66 => ?_⟩
      · skip
        refine hj122 _ _ W50 ?_ ?_
        · exact T50_0  -- t27
        · exact ⟨rfl, i50.1⟩  -- k28
      · skip
        refine hj78 _ _ _ W50 ?_ ?_
        · exact T50_0  -- t29
        · exact ⟨rfl, i50.1, rfl, l2⟩  -- k30
