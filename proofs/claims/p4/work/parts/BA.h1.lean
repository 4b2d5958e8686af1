set_option maxHeartbeats 1600000
/-! the class: Machine's work -/
/-- a method touched one machine alone, made nothing, and kept its ways few -/
def mF (κ τ : zS) (m : Nat) : Prop := zF (objF m) κ τ ∧ zR τ = zR κ ∧ zN τ = zN κ ∧ ((zI κ maWays m).toInt ≤ 64 → (zI τ maWays m).toInt ≤ 64)
/-- where the machine stands is the same; what it draws from is the same -/
def mS0 (κ τ : zS) (m : Nat) : Prop := ∀ f, f ≤ maFrame → zI τ f m = zI κ f m
def mG (κ τ : zS) (m : Nat) : Prop := ∀ f, maWants ≤ f → zI τ f m = zI κ f m ∧ (f = maWeights → zR τ f m = zR κ f m ∧ zA τ (zR κ f m) = zA κ (zR κ f m))
def mS (κ τ : zS) (m : Nat) : Prop := mS0 κ τ m ∧ mG κ τ m
theorem mS0.rf {κ : zS} {m : Nat} : mS0 κ κ m := fun _ _ => rfl
theorem mS0.tr {κ τ σ : zS} {m : Nat} (h : mS0 κ τ m) (g : mS0 τ σ m) : mS0 κ σ m := fun f z => (g f z).trans (h f z)
theorem mG.rf {κ : zS} {m : Nat} : mG κ κ m := fun _ _ => ⟨rfl, fun _ => ⟨rfl, rfl⟩⟩
theorem mG.tr {κ τ σ : zS} {m : Nat} (h : mG κ τ m) (g : mG τ σ m) : mG κ σ m := fun f z => ⟨(g f z).1.trans (h f z).1, fun e => by
  have a := (h f z).2 e
  have b := (g f z).2 e
  rw [a.1] at b
  exact ⟨b.1, b.2.trans a.2⟩⟩
theorem mF.rf {κ : zS} {m : Nat} : mF κ κ m := ⟨zF.rf, rfl, rfl, id⟩
theorem mF.tr {κ τ σ : zS} {m : Nat} (h : mF κ τ m) (g : mF τ σ m) : mF κ σ m := ⟨h.1.tr g.1, g.2.1.trans h.2.1, g.2.2.1.trans h.2.2.1, fun z => g.2.2.2 (h.2.2.2 z)⟩
theorem mS.rf {κ : zS} {m : Nat} : mS κ κ m := ⟨mS0.rf, mG.rf⟩
theorem mS.tr {κ τ σ : zS} {m : Nat} (h : mS κ τ m) (g : mS τ σ m) : mS κ σ m := ⟨h.1.tr g.1, h.2.tr g.2⟩
theorem mF_ui {κ τ : zS} {m f : Nat} {x : Int32} (e : τ = ui κ f m x) (h : f ≠ maWays) : mF κ τ m := by
  refine ⟨by rw [e]; exact zF_ui rfl, by rw [e]; rfl, by rw [e]; rfl, fun z => ?_⟩
  have w : zI τ maWays m = zI κ maWays m := by rw [e]; exact if_neg (fun z => h z.1.symm)
  rw [w]; exact z
theorem mS0_ui {κ τ : zS} {m f : Nat} {x : Int32} (e : τ = ui κ f m x) (h : maFrame < f) : mS0 κ τ m := fun g z => by
  rw [e]; exact if_neg (fun q => by have := q.1; omega)
theorem mG_ui {κ τ : zS} {m f : Nat} {x : Int32} (e : τ = ui κ f m x) (h : f < maWants) : mG κ τ m := fun g z => ⟨by
  rw [e]; exact if_neg (fun q => by have := q.1; omega), fun _ => by rw [e]; exact ⟨rfl, rfl⟩⟩
theorem mS_ui {κ τ : zS} {m f : Nat} {x : Int32} (e : τ = ui κ f m x) (h : maFrame < f ∧ f < maWants) : mS κ τ m := ⟨mS0_ui e h.1, mG_ui e h.2⟩
theorem mF_ub {C : zC} {n0 m f i t : Nat} {κ τ : zS} {x : Int32} (W : zW C n0 κ) (T : zT κ m = f / 100) (hr : zr f = some t) (ht : 20 ≤ t) (e : τ = ua κ (zR κ f m) i x) : mF κ τ m ∧ mS0 κ τ m ∧ zI τ = zI κ :=
  ⟨⟨by rw [e]; exact zF_ua (by rw [W.o hr ht T]), by rw [e]; rfl, by rw [e]; rfl, fun z => by rw [e]; exact z⟩, fun g _ => by rw [e]; rfl, by rw [e]; rfl⟩
theorem ne_w {C : zC} {n0 m f t : Nat} {κ : zS} (W : zW C n0 κ) (T : zT κ m = 7) (hf : f / 100 = 7) (hr : zr f = some t) (ht : 20 ≤ t) (hw : f ≠ maWeights) : zR κ maWeights m ≠ zR κ f m := ow_ne W (show zr maWeights = some 20 by decide +kernel) (by decide) T hr ht (T.trans hf.symm) (fun z => hw z.symm)
theorem mF_ua {C : zC} {n0 m f i t : Nat} {κ τ : zS} {x : Int32} (W : zW C n0 κ) (T : zT κ m = 7) (hr : zr f = some t) (ht : 20 ≤ t) (e : τ = ua κ (zR κ f m) i x) (hf : f / 100 = 7 := by decide) (hw : f ≠ maWeights := by decide) : mF κ τ m ∧ mS κ τ m ∧ zI τ = zI κ := by
  obtain ⟨f1, f2, f3⟩ := mF_ub W (T.trans hf.symm) hr ht e
  refine ⟨f1, ⟨f2, fun g _ => ⟨by rw [f3], fun eg => ?_⟩⟩, f3⟩
  rw [eg, e]
  exact ⟨rfl, if_neg (ne_w W T hf hr ht hw)⟩
/-- what a Code is stays, where its fields and rows are not touched -/
theorem coI_zF {C : zC} {n0 c : Nat} {F : Nat → Nat → Prop} {κ τ : zS} (Z : zF F κ τ) (W : zW C n0 κ) (T : zT κ c = 5) (hF : ∀ f, ¬ F f c) (H : coI κ c) : coI τ c := by
  refine coI_g H (fun f _ => Z.i (hF f)) (fun f _ => Z.r (hF f)) (fun f hf => Z.l (coRf_t W T hf)) (fun f hf => ?_)
  have m : f ∈ coRf := by rcases hf with rfl | rfl <;> decide
  have r := (Z.row W (coRf_r f m).1 (by decide) (T.trans (coRf_r f m).2.symm) (hF f)).1
  rw [Z.r (hF f)] at r
  exact r
def mkI (κ : zS) (m : Nat) : Prop := maL κ m ∧ coI κ (zR κ maCode m)
theorem mkI_f {C : zC} {n0 m : Nat} {κ τ : zS} (h : mF κ τ m) (W : zW C n0 κ) (T : zT κ m = 7) (H : mkI κ m) : mkI τ m ∧ zI τ coLength (zR τ maCode m) = zI κ coLength (zR κ maCode m) := by
  have T5 : zT κ (zR κ maCode m) = 5 := ty_maCode W T
  have ne : ∀ f, ¬ objF m f (zR κ maCode m) := fun f e => by
    have e : zR κ maCode m = m := e
    rw [e, T] at T5
    exact absurd T5 (by decide)
  refine ⟨⟨?_, ?_⟩, ?_⟩
  · unfold maL; rw [h.2.1, h.2.2.1]; exact H.1
  · rw [h.2.1]; exact coI_zF h.1 W T5 ne H.2
  · rw [h.2.1]; exact h.1.i (ne coLength)
theorem mF_fail {κ τ : zS} {m : Nat} {w : Int32} (h : zF (objF m) κ τ ∧ zR τ = zR κ ∧ zN τ = zN κ ∧ zA τ = zA κ ∧ (∀ f b, ¬ (f = maFailure ∧ b = m) → ¬ (f = maOutcome ∧ b = m) → zI τ f b = zI κ f b) ∧ zI τ maFailure m = w ∧ zI τ maOutcome m = 2) : mF κ τ m ∧ mS κ τ m := by
  refine ⟨⟨h.1, h.2.1, h.2.2.1, fun z => ?_⟩, fun f z => h.2.2.2.2.1 f m (fun e => absurd (e.1 ▸ z) (by decide)) (fun e => absurd (e.1 ▸ z) (by decide)), fun f z => ⟨h.2.2.2.2.1 f m (fun e => absurd (e.1 ▸ z) (by decide)) (fun e => absurd (e.1 ▸ z) (by decide)), fun _ => ⟨by rw [h.2.1], by rw [h.2.2.2.1]⟩⟩⟩
  rw [h.2.2.2.2.1 maWays m (fun e => absurd e.1 (by decide)) (fun e => absurd e.1 (by decide))]
  exact z
def wkJ (κ τ : zS) (m : Nat) (p d : Int32) : Prop := (mF κ τ m ∧ mS κ τ m) ∧ (0 ≤ d.toInt ∧ d.toInt ≤ 256) ∧ zI τ maPc m = p ∧ 0 ≤ p.toInt ∧ p.toInt < (zI κ coLength (zR κ maCode m)).toInt
theorem wkS {C : zC} {n0 m i : Nat} {κ τ σ : zS} {p d d' x : Int32} (J : wkJ κ τ m p d) (W : zW C n0 τ) (T : zT τ m = 7) (e : σ = ua τ (zR τ maStack m) i x) (h0 : 0 ≤ d'.toInt) (h1 : d'.toInt ≤ 256) : zT σ m = 7 ∧ wkJ κ σ m p d' := by
  obtain ⟨f1, f2, f3⟩ := mF_ua W T (show zr maStack = some 20 by decide +kernel) (by decide) e
  exact ⟨f1.1.t T (by decide), ⟨J.1.1.tr f1, J.1.2.tr f2⟩, ⟨h0, h1⟩, by rw [f3]; exact J.2.2.1, J.2.2.2⟩
theorem dec_i {x : Int32} (h : 0 < x.toInt) : (x - 1).toInt = x.toInt - 1 := by
  have := ihi x
  rw [sub_i (by rw [t1i]; omega) (by rw [t1i]; omega), t1i]
theorem Ma_work_c {C : zC} {n0 : Nat} {a0 : Nat} {κ : zS} {Q : Int32 → zS → Prop} (W : zW C n0 κ) (Ta0 : zT κ a0 = 7)  (hp : mkI κ a0) (h : ∀ (v : Int32) (κ' : zS), (mF κ κ' a0 ∧ mS κ κ' a0) → Q v κ') : zRun C 1 mMa_work [.ref a0] κ (oI Q noX) := by
  refine Ma_work_run W Ta0 ?_
  replace W := W.lo (Nat.le_trans W.1.2.1 W.1.2.2) (Nat.le_refl (zn κ))
  unfold w_Ma_work_0
  unfold w_Ma_work_2
  refine ⟨fun n l0 l1 τ => n = ((zI κ coLength (zR κ maCode a0)).toInt - (zI τ maPc a0).toInt).toNat ∧ (a0 = l0 ∧ (mF κ τ a0 ∧ mS κ τ a0) ∧ 0 ≤ l1.toInt ∧ l1.toInt ≤ 256), ⟨_, rfl, ?_⟩, ?_⟩
  · exact ⟨rfl, ⟨mF.rf, mS.rf⟩, by decide, by decide⟩  -- j1
  rintro n2 _ x2_1 κ2 W2 T2_0 ⟨hn2, rfl, i2⟩
  have hj278 : ∀ (l0 : Nat) (l1 : Int32) (τ : zS), zW C (zn κ) τ → zT τ l0 = 7 → (a0 = l0 ∧ wkJ κ τ a0 (zI κ2 maPc a0) l1) → w_Ma_work_278 C (zn κ) Q (fun (l0' : Nat) (l1' : Int32) (τ : zS) => ∃ k < n2, (fun (n : Nat) (l0 : Nat) (l1 : Int32) (τ : zS) => n = ((zI κ coLength (zR κ maCode a0)).toInt - (zI τ maPc a0).toInt).toNat ∧ (a0 = l0 ∧ (mF κ τ a0 ∧ mS κ τ a0) ∧ 0 ≤ l1.toInt ∧ l1.toInt ≤ 256)) k l0' l1' τ) l0 l1 τ := by
    rintro _ y278_1 τ278 W278 T278_0 ⟨rfl, j278⟩
    unfold w_Ma_work_278
    intro κ_1 hκ_1
    intro W2
    refine ⟨_, ?_, rfl, ?_⟩
    · have e : zI κ_1 maPc a0 = zI κ2 maPc a0 + 1 := by
        rw [hκ_1]
        refine (if_pos ⟨rfl, rfl⟩).trans ?_
        rw [j278.2.2.1]
      have b := j278.2.2.2
      have e1 := inc_i (x := zI κ2 maPc a0) b.1 b.2
      rw [hn2, e, e1]; omega
    · exact ⟨rfl, ⟨j278.1.1.tr (mF_ui hκ_1 (by decide)), j278.1.2.tr (mS_ui hκ_1 (by decide))⟩, j278.2.1⟩  -- i3
  have hj252 : ∀ (l0 : Nat) (l1 : Int32) (l2 : Int32) (τ : zS), zW C (zn κ) τ → zT τ l0 = 7 → (a0 = l0 ∧ wkJ κ τ a0 (zI κ2 maPc a0) l1 ∧ l1.toInt ≤ 255 ∧ 1 ≤ l1.toInt) → w_Ma_work_252 C (zn κ) Q (fun (l0' : Nat) (l1' : Int32) (τ : zS) => ∃ k < n2, (fun (n : Nat) (l0 : Nat) (l1 : Int32) (τ : zS) => n = ((zI κ coLength (zR κ maCode a0)).toInt - (zI τ maPc a0).toInt).toNat ∧ (a0 = l0 ∧ (mF κ τ a0 ∧ mS κ τ a0) ∧ 0 ≤ l1.toInt ∧ l1.toInt ≤ 256)) k l0' l1' τ) l0 l1 l2 τ := by
    rintro _ y252_1 y252_2 τ252 W252 T252_0 ⟨rfl, j252⟩
    unfold w_Ma_work_252
    obtain ⟨J, u1, u2⟩ := j252
    have L := (mkI_f J.1.1 W Ta0 hp).1.1.2.1
    have e1 := dec_i (x := y252_1) (by omega)
    refine ⟨?_, ?_⟩
    · rw [inb_iff, e1]; omega  -- b4
    refine ⟨?_, ?_⟩
    · rw [inb_iff]; omega  -- b5
    refine Ma_combine_c W252   (fun r3 q5 => ?_)
    intro W6
    intro M7
    refine ⟨?_, ?_⟩
    · rw [inb_iff, e1]; omega  -- b6
    intro κ_8 hκ_8
    intro W9
    refine hj278 _ _ _ W9 ?_ ?_
    · exact (wkS J W252 T252_0 hκ_8 J.2.1.1 J.2.1.2).1  -- t7
    · exact ⟨rfl, (wkS J W252 T252_0 hκ_8 J.2.1.1 J.2.1.2).2⟩  -- k8
  have hj222 : ∀ (l0 : Nat) (l1 : Int32) (l2 : Int32) (τ : zS), zW C (zn κ) τ → zT τ l0 = 7 → (a0 = l0 ∧ wkJ κ τ a0 (zI κ2 maPc a0) l1) → w_Ma_work_222 C (zn κ) Q (fun (l0' : Nat) (l1' : Int32) (τ : zS) => ∃ k < n2, (fun (n : Nat) (l0 : Nat) (l1 : Int32) (τ : zS) => n = ((zI κ coLength (zR κ maCode a0)).toInt - (zI τ maPc a0).toInt).toNat ∧ (a0 = l0 ∧ (mF κ τ a0 ∧ mS κ τ a0) ∧ 0 ≤ l1.toInt ∧ l1.toInt ≤ 256)) k l0' l1' τ) l0 l1 l2 τ := by
    rintro _ y222_1 y222_2 τ222 W222 T222_0 ⟨rfl, j222⟩
    unfold w_Ma_work_222
    refine ⟨fun c10 => ?_, fun c10 => ?_⟩
    · skip
      refine hj278 _ _ _ W222 ?_ ?_
      · exact T222_0  -- t9
      · exact ⟨rfl, j222⟩  -- k10
    · skip
      intro x11 hx11
      have L := (mkI_f j222.1.1 W Ta0 hp).1.1.2.1
      have D := j222.2.1
      have f1 : (-1 : Int32).toInt = -1 := rfl
      have c9 : 1 < y222_1.toInt := by rw [lei, t1i] at c10; omega
      have em : x11.toInt = y222_1.toInt - 1 := by rw [hx11, add_i (by rw [f1]; omega) (by rw [f1]; omega), f1]; omega
      refine ⟨fun c12 => ?_, fun c12 => ?_⟩
      · skip
        refine hj252 _ _ _ _ W222 ?_ ?_
        · exact T222_0  -- t11
        · exact ⟨rfl, ⟨j222.1, ⟨by omega, by omega⟩, j222.2.2⟩, by omega, by omega⟩  -- k12
      · skip
        refine ⟨?_, ?_⟩
        · rw [inb_iff]; omega  -- b13
        refine ⟨fun c13 => ?_, fun c13 => ?_⟩
        · skip
          refine hj252 _ _ _ _ W222 ?_ ?_
          · exact T222_0  -- t14
          · exact ⟨rfl, ⟨j222.1, ⟨by omega, by omega⟩, j222.2.2⟩, by omega, by omega⟩  -- k15
        · skip
          intro κ_14 hκ_14
          intro W15
          refine h _ _ ?_
          · exact ⟨j222.1.1.tr (mF_ui hκ_14 (by decide)), j222.1.2.tr (mS_ui hκ_14 (by decide))⟩  -- q16
  have hj173 : ∀ (l0 : Nat) (l1 : Int32) (l2 : Int32) (τ : zS), zW C (zn κ) τ → zT τ l0 = 7 → (a0 = l0 ∧ wkJ κ τ a0 (zI κ2 maPc a0) l1) → w_Ma_work_173 C (zn κ) Q (fun (l0' : Nat) (l1' : Int32) (τ : zS) => ∃ k < n2, (fun (n : Nat) (l0 : Nat) (l1 : Int32) (τ : zS) => n = ((zI κ coLength (zR κ maCode a0)).toInt - (zI τ maPc a0).toInt).toNat ∧ (a0 = l0 ∧ (mF κ τ a0 ∧ mS κ τ a0) ∧ 0 ≤ l1.toInt ∧ l1.toInt ≤ 256)) k l0' l1' τ) l0 l1 l2 τ := by
    rintro _ y173_1 y173_2 τ173 W173 T173_0 ⟨rfl, j173⟩
    unfold w_Ma_work_173
    refine ⟨fun c16 => ?_, fun c16 => ?_⟩
    · skip
      refine hj222 _ _ _ _ W173 ?_ ?_
      · exact T173_0  -- t17
      · exact ⟨rfl, j173⟩  -- k18
    · skip
      refine ⟨fun c17 => ?_, fun c17 => ?_⟩
      · skip
        refine hj222 _ _ _ _ W173 ?_ ?_
        · exact T173_0  -- t19
        · exact ⟨rfl, j173⟩  -- k20
      · skip
        have L := (mkI_f j173.1.1 W Ta0 hp).1.1.2.1
        have D := j173.2.1
        have c9 : 0 < y173_1.toInt := by rw [lei, t0i] at c17; omega
        have e1 := dec_i c9
        refine ⟨?_, ?_⟩
        · rw [inb_iff, e1]; omega  -- b21
        intro x18 hx18
        refine ⟨fun c19 => ?_, fun c19 => ?_⟩
        · skip
          refine ⟨fun c20 => ?_, fun c20 => ?_⟩
          · skip
            refine ⟨?_, ?_⟩
            · rw [inb_iff, e1]; omega  -- b22
            intro κ_21 hκ_21
            intro W22
            refine hj278 _ _ _ W22 ?_ ?_
            · exact (wkS j173 W173 T173_0 hκ_21 D.1 D.2).1  -- t23
            · exact ⟨rfl, (wkS j173 W173 T173_0 hκ_21 D.1 D.2).2⟩  -- k24
          · skip
            refine ⟨?_, ?_⟩
            · rw [inb_iff, e1]; omega  -- b25
            intro κ_23 hκ_23
            intro W24
            refine hj278 _ _ _ W24 ?_ ?_
            · exact (wkS j173 W173 T173_0 hκ_23 D.1 D.2).1  -- t26
            · exact ⟨rfl, (wkS j173 W173 T173_0 hκ_23 D.1 D.2).2⟩  -- k27
        · skip
          refine ⟨?_, ?_⟩
          · rw [inb_iff, e1]; omega  -- b28
          intro κ_25 hκ_25
          intro W26
          refine hj278 _ _ _ W26 ?_ ?_
          · exact (wkS j173 W173 T173_0 hκ_25 D.1 D.2).1  -- t29
          · exact ⟨rfl, (wkS j173 W173 T173_0 hκ_25 D.1 D.2).2⟩  -- k30
  refine ⟨fun c27 => ?_, fun c27 => ?_⟩
  · skip
    refine h _ _ ?_
    · exact i2.1  -- q31
  · skip
    refine ⟨fun c28 => ?_, fun c28 => ?_⟩
    · skip
      refine h _ _ ?_
      · exact i2.1  -- q32
    · skip
      have I := mkI_f i2.1.1 W Ta0 hp
      have L := I.1.1.2.1
      have LM := I.1.1.1
      have D := i2.2
      have O := I.1.2.2.2.2.2.2.2.2.1
      have bN := W2.n (ty_maStack W2 T2_0)
      rw [lti, t0i] at c27
      rw [lei] at c28
      have J0 : wkJ κ κ2 a0 (zI κ2 maPc a0) x2_1 := ⟨i2.1, i2.2, rfl, by omega, by rw [← I.2]; omega⟩
      refine ⟨?_, ?_⟩
      · rw [inb_iff]; omega  -- b33
      intro x29 hx29
      refine ⟨fun c30 => ?_, fun c30 => ?_⟩
      · skip
        refine ⟨fun c31 => ?_, fun c31 => ?_⟩
        · skip
          refine ⟨fun c32 => ?_, fun c32 => ?_⟩
          · skip
            refine hj173 _ _ _ _ W2 ?_ ?_
            · exact T2_0  -- t34
            · exact ⟨rfl, J0⟩  -- k35
          · skip
            refine ⟨fun c33 => ?_, fun c33 => ?_⟩
            · skip
              refine hj173 _ _ _ _ W2 ?_ ?_
              · exact T2_0  -- t36
              · exact ⟨rfl, J0⟩  -- k37
            · skip
              have c9 : 0 < x2_1.toInt := by rw [lei, t0i] at c33; omega
              have e1 := dec_i c9
              refine ⟨?_, ?_⟩
              · rw [inb_iff]; omega  -- b38
              refine ⟨?_, ?_⟩
              · rw [inb_iff, e1]; omega  -- b39
              intro T34
              refine Ma_cellAt_c W2 T34  ?_ (fun r35 q37 => ?_)
              · exact I.1.2  -- p40
              intro W38
              intro M39
              refine ⟨fun c40 => ?_, fun c40 => ?_⟩
              · skip
                refine ⟨?_, ?_⟩
                · have r9 := q37.resolve_left c40
                  rw [inb_iff]; omega
                refine ⟨?_, ?_⟩
                · rw [inb_iff, e1]; omega  -- b42
                intro κ_41 hκ_41
                intro W42
                refine hj278 _ _ _ W42 ?_ ?_
                · exact (wkS J0 W2 T2_0 hκ_41 D.1 D.2).1  -- t43
                · exact ⟨rfl, (wkS J0 W2 T2_0 hκ_41 D.1 D.2).2⟩  -- k44
              · skip
                intro κ_43 hκ_43
                intro W44
                refine h _ _ ?_
                · exact ⟨i2.1.1.tr (mF_ui hκ_43 (by decide)), i2.1.2.tr (mS_ui hκ_43 (by decide))⟩  -- q45
        · skip
          refine ⟨fun c45 => ?_, fun c45 => ?_⟩
          · skip
            refine hj278 _ _ _ W2 ?_ ?_
            · exact T2_0  -- t46
            · exact ⟨rfl, J0⟩  -- k47
          · skip
            rw [lei, ofn_i bN] at c45
            have e1 : (x2_1 + 1).toInt = x2_1.toInt + 1 := by rw [add_i (by rw [t1i]; omega) (by rw [t1i]; omega), t1i]
            refine ⟨?_, ?_⟩
            · rw [inb_iff]; omega  -- b48
            intro T46
            refine Ma_fetch_c W2 T46  ?_ (fun r47 q49 => ?_)
            · exact I.1.1  -- p49
            intro W50
            intro M51
            refine ⟨?_, ?_⟩
            · rw [inb_iff]; omega  -- b50
            intro κ_52 hκ_52
            intro W53
            intro x54 hx54
            refine hj278 _ _ _ W53 ?_ ?_
            · exact (wkS J0 W2 T2_0 hκ_52 D.1 D.2).1  -- t51
            · exact ⟨rfl, (wkS J0 W2 T2_0 hκ_52 (by rw [hx54, e1]; omega) (by rw [hx54, e1]; omega)).2⟩  -- k52
      · skip
        intro κ_55 hκ_55
        intro W56
        refine ⟨fun c57 => ?_, fun c57 => ?_⟩
        · skip
          refine h _ _ ?_
          · exact ⟨i2.1.1.tr (mF_ui hκ_55 (by decide)), i2.1.2.tr (mS_ui hκ_55 (by decide))⟩  -- q53
        · skip
          refine ⟨?_, ?_⟩
          · have c9 : 0 < x2_1.toInt := by rw [lei, t0i] at c57; omega
            have e1 := dec_i c9
            rw [hκ_55]
            show inb _ (zN κ2 (zR κ2 maStack a0))
            rw [inb_iff, e1]; omega
          refine h _ _ ?_
          · exact ⟨i2.1.1.tr (mF_ui hκ_55 (by decide)), i2.1.2.tr (mS_ui hκ_55 (by decide))⟩  -- q55
