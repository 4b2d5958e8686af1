set_option maxHeartbeats 1600000
theorem Co_column_q5 {C : zC} {n0 : Nat} {a0 : Nat} {a1 : Int32} {a2 : Int32} {κ : zS} {Q : Int32 → zS → Prop} (W : zW C n0 κ) (Ta0 : zT κ a0 = 5)  (hp : coI κ a0 ∧ 0 ≤ a2.toInt ∧ a2.toInt < 11) (h : ∀ (v : Int32), ((True) ∧ (∀ p, zT κ p = 10 → zR κ paCode p = a0 → v = cl5 a1 a2 (ab5 κ p))) → Q v κ) : zRun C 0 mCo_column [.ref a0, .int a1, .int a2] κ (oI Q noX) := by
  refine Co_column_run W Ta0 ?_
  replace W := W.lo (Nat.le_trans W.1.2.1 W.1.2.2) (Nat.le_refl (zn κ))
  unfold w_Co_column_0
  obtain ⟨H, p0, p1⟩ := hp
  obtain ⟨-, -, -, -, -, hs, hrw, -⟩ := H
  refine ⟨fun c1 => ?_, fun c1 => ?_⟩
  · skip
    refine h _ ?_
    · refine and_5 ?_ (fun o9 => fun p _ e => (if_pos c1).symm)  -- q1
      trivial
  · skip
    refine ⟨fun c2 => ?_, fun c2 => ?_⟩
    · skip
      refine h _ ?_
      · refine and_5 ?_ (fun o9 => fun p _ e => by subst e; exact ((if_neg c1).trans (if_pos c2)).symm)  -- q2
        trivial
    · skip
      refine ⟨?_, ?_⟩
      · rw [lti, t0i] at c1
        rw [lei] at c2
        rw [inb_iff, col_i (by omega) (by omega) p0 p1]
        omega
      refine h _ ?_
      · refine and_5 ?_ (fun o9 => fun p _ e => by subst e; exact ((if_neg c1).trans ((if_neg c2).trans (ab_G5 (Or.inr (Or.inl rfl)) (col_b5 c1 c2 hs.2 p0 p1)))).symm)  -- q4
        trivial

theorem Co_setColumn_q5 {C : zC} {n0 : Nat} {a0 : Nat} {a1 : Int32} {a2 : Int32} {a3 : Int32} {κ : zS} {Q : zS → Prop} (W : zW C n0 κ) (Ta0 : zT κ a0 = 5)  (hp : coI κ a0 ∧ 0 ≤ a2.toInt ∧ a2.toInt < 11) (h : ∀ (κ' : zS), ((zF (oneF coRows a0) κ κ' ∧ coI κ' a0 ∧ zI κ' = zI κ ∧ zR κ' = zR κ) ∧ (∀ p, zT κ p = 10 → zR κ paCode p = a0 → f5_Co_setColumn a1 a2 a3 (ab5 κ p) = .inl (ab5 κ' p, ()))) → Q κ') : zRun C 0 mCo_setColumn [.ref a0, .int a1, .int a2, .int a3] κ (oV Q noX) := by
  refine Co_setColumn_run W Ta0 ?_
  replace W := W.lo (Nat.le_trans W.1.2.1 W.1.2.2) (Nat.le_refl (zn κ))
  unfold w_Co_setColumn_0
  obtain ⟨H, p0, p1⟩ := hp
  have H0 := H
  obtain ⟨-, -, -, -, -, hs, hrw, -⟩ := H
  refine ⟨fun c1 => ?_, fun c1 => ?_⟩
  · skip
    refine h _ ?_
    · refine and_5 ?_ (fun o9 => fun p _ e => if_pos c1)  -- q1
      exact ⟨zF.rf, H0, rfl, rfl⟩
  · skip
    refine ⟨fun c2 => ?_, fun c2 => ?_⟩
    · skip
      refine h _ ?_
      · refine and_5 ?_ (fun o9 => fun p _ e => by subst e; exact (if_neg c1).trans (if_pos c2))  -- q2
        exact ⟨zF.rf, H0, rfl, rfl⟩
    · skip
      refine ⟨?_, ?_⟩
      · rw [lti, t0i] at c1
        rw [lei] at c2
        rw [inb_iff, col_i (by omega) (by omega) p0 p1]
        omega
      intro κ_3 hκ_3
      intro W4
      refine h _ ?_
      · refine and_5 ?_ (fun o9 => fun p Tp e => by subst e; exact (if_neg c1).trans ((if_neg c2).trans (ab_ug5 (f := 506) W Tp hκ_3 (Or.inr (Or.inl rfl)) (col_b5 c1 c2 hs.2 p0 p1))))  -- q4
        rw [hκ_3]
        refine ⟨zF_ua (by rw [coRf_o W Ta0 (by decide)]; exact ⟨rfl, rfl⟩), coI_g H0 (fun _ _ => rfl) (fun _ _ => rfl) (fun _ _ => rfl) (fun f hf => if_neg ?_), rfl, rfl⟩
        rcases hf with rfl | rfl
        · exact coRf_n W Ta0 (by decide) (by decide) (by decide)
        · exact coRf_n W Ta0 (by decide) (by decide) (by decide)

theorem Co_emit_q5 {C : zC} {n0 : Nat} {a0 : Nat} {a1 : Int32} {a2 : Int32} {κ : zS} {Q : zS → Prop} (W : zW C n0 κ) (Ta0 : zT κ a0 = 5)  (hp : coI κ a0 ∧ (zI κ coLength a0).toInt < 20500) (h : ∀ (κ' : zS), ((zF (objF a0) κ κ' ∧ coI κ' a0 ∧ zI κ' coLength a0 = zI κ coLength a0 + 1 ∧ (∀ f, f ≠ coLength → zI κ' f a0 = zI κ f a0)) ∧ (∀ p, zT κ p = 10 → zR κ paCode p = a0 → f5_Co_emit a1 a2 (ab5 κ p) = .inl (ab5 κ' p, ()))) → Q κ') : zRun C 2 mCo_emit [.ref a0, .int a1, .int a2] κ (oV Q noX) := by
  refine Co_emit_run W Ta0 ?_
  replace W := W.lo (Nat.le_trans W.1.2.1 W.1.2.2) (Nat.le_refl (zn κ))
  unfold w_Co_emit_0
  obtain ⟨H, p0⟩ := hp
  have H0 := H
  obtain ⟨h1, hv, ha, hc, hf, hs, hrw, ho, hb⟩ := H
  have hj46 : ∀ (l0 : Nat) (l1 : Int32) (l2 : Int32) (τ : zS), zW C (zn κ) τ → zT τ l0 = 5 → ((a0 = l0 ∧ a1 = l1 ∧ a2 = l2 ∧ zF (objF a0) κ τ ∧ zI τ = zI κ ∧ coI τ a0 ∧ (zI κ coLength a0).toInt < (zN τ (zR τ coOps a0))) ∧ (∀ p, zT κ p = 10 → zR κ paCode p = a0 → ab5 τ p = ab5 κ p ∧ zT τ p = 10 ∧ zR τ paCode p = a0)) → w_Co_emit_46 C (zn κ) Q  l0 l1 l2 τ := by
    rintro _ _ _ τ46 W46 T46_0 ⟨⟨rfl, rfl, rfl, j46⟩, hE⟩
    unfold w_Co_emit_46
    obtain ⟨F, jI, J, jl⟩ := j46
    have J0 := J
    obtain ⟨g1, gv, ga, gc, gf, gs, grw, go, gb⟩ := J
    refine ⟨?_, ?_⟩
    · rw [inb_iff, jI]; omega  -- b1
    intro κ_1 hκ_1
    intro W2
    refine ⟨?_, ?_⟩
    · rw [hκ_1, inb_iff]
      show 0 ≤ (zI τ46 coLength a0).toInt ∧ (zI τ46 coLength a0).toInt < ((zN τ46 (zR τ46 coArgs a0) : Nat) : Int)
      rw [jI]; omega
    intro κ_3 hκ_3
    intro W4
    intro κ_5 hκ_5
    intro W6
    refine h _ ?_
    · refine and_5 ?_ (fun o9 => ?_)  -- q3
      · have f1 : zF (objF a0) τ46 κ_1 := by rw [hκ_1]; exact zF_ua (by rw [coRf_o W46 T46_0 (by decide)])
        have T1 := f1.t T46_0 (by decide)
        have f3 : zF (objF a0) κ_1 κ_3 := by rw [hκ_3]; exact zF_ua (by rw [coRf_o W2 T1 (by decide)])
        have f5 : zF (objF a0) κ_3 κ_5 := by rw [hκ_5]; exact zF_ui rfl
        have i3 : zI κ_3 = zI κ := by rw [hκ_3, hκ_1]; exact jI
        have r5 : zR κ_5 = zR τ46 := by rw [hκ_5, hκ_3, hκ_1]; rfl
        have n5 : zN κ_5 = zN τ46 := by rw [hκ_5, hκ_3, hκ_1]; rfl
        have is : zI κ_5 coLength a0 = zI κ coLength a0 + 1 := by
          rw [hκ_5]
          refine (if_pos ⟨rfl, rfl⟩).trans ?_
          rw [i3]
        have io : ∀ f, f ≠ coLength → zI κ_5 f a0 = zI κ f a0 := fun f hf => by
          rw [hκ_5]
          exact (if_neg (fun z => hf z.1)).trans (congrFun (congrFun i3 f) a0)
        have ts : (zI κ_5 coLength a0).toInt = (zI κ coLength a0).toInt + 1 := by rw [is, add_i (by rw [t1i]; omega) (by rw [t1i]; omega), t1i]
        have aa : ∀ f, f = coArrayBases ∨ f = coArraySizes → zA κ_5 (zR τ46 f a0) = zA τ46 (zR τ46 f a0) := fun f hf => by
          have m : f ∈ coRf ∧ f ≠ coOps ∧ f ≠ coArgs := by rcases hf with rfl | rfl <;> decide
          have e1 : zA κ_1 (zR τ46 f a0) = zA τ46 (zR τ46 f a0) := by rw [hκ_1]; exact if_neg (coRf_n W46 T46_0 m.1 (by decide) m.2.1)
          have e3 : zA κ_3 (zR τ46 f a0) = zA κ_1 (zR τ46 f a0) := by
            rw [hκ_3, show zR κ_1 = zR τ46 from by rw [hκ_1]; rfl]
            exact if_neg (coRf_n W46 T46_0 m.1 (by decide) m.2.2)
          rw [show zA κ_5 = zA κ_3 from by rw [hκ_5]; rfl, e3, e1]
        refine ⟨((F.tr f1).tr f3).tr f5, ?_, is, io⟩
        rw [jI] at gv ga gc gf gs grw
        unfold coI
        rw [r5, n5, aa coArrayBases (Or.inl rfl), aa coArraySizes (Or.inr rfl), ts, io coVars (by decide), io coArrays (by decide), io coCells (by decide), io coFunctions (by decide), io coStatements (by decide)]
        exact ⟨g1, gv, ga, gc, gf, gs, grw, ⟨by omega, by omega, go.2.2⟩, gb⟩
      · intro p Tp e
        obtain ⟨g, t, r⟩ := hE p Tp e
        subst r
        rw [← g]
        exact em_5 W46 t hκ_1 hκ_3 hκ_5 (by rw [jI]; exact ho.1) (by rw [jI]; omega)
  have oN := W.n (ty_coOps W Ta0)
  refine ⟨fun c7 => ?_, fun c7 => ?_⟩
  · skip
    refine hj46 _ _ _ _ W ?_ ?_
    · exact Ta0  -- t4
    · refine and_5 ?_ (fun o9 => fun p Tp e => ⟨rfl, Tp, e⟩)  -- k5
      rw [lti, ofn_i oN] at c7
      exact ⟨rfl, rfl, rfl, zF.rf, rfl, H0, c7⟩
  · skip
    intro T8
    have c8 : (zI κ coLength a0).toInt = zN κ (zR κ coOps a0) := by rw [lti, ofn_i oN] at c7; omega
    have e2 : (zI κ coLength a0 * 2).toInt = (zI κ coLength a0).toInt * 2 := by rw [mul_i (by rw [t2i]; omega) (by rw [t2i]; omega), t2i]
    have kn := cnk (x := zI κ coLength a0 * 2) (by omega)
    refine Ar_copyOf_c W T8  ?_ (fun r9 κ_10 q11 => ?_)
    · exact ⟨⟨by rw [lei, t0i]; omega, by omega⟩, fun e => by
        have e9 := congrArg Int32.toInt e
        rw [ofn_i oN] at e9
        omega⟩
    intro W12
    intro M13
    intro T14
    refine ⟨?_, ?_⟩
    · rw [q11.1]; exact q11.2.2.1  -- b7
    intro κ_15 hκ_15
    intro W16
    intro T17
    have h9 : κ_15 = uo κ_10 coOps a0 (zn κ) := by rw [hκ_15, q11.1]
    obtain ⟨F9, u1, u2, u3, u4, u5, u6, -⟩ := gr_f (f := coOps) W (by decide +kernel) (by decide) Ta0 (by decide) q11.2 h9 (by omega) (by omega)
    have T15 := F9.t Ta0 (by decide)
    have aN := W16.n (ty_coArgs W16 T15)
    have ra : zR κ_15 coArgs a0 = zR κ coArgs a0 := u2 coArgs a0 (fun z => absurd z.1 (by decide))
    have na9 : zN κ_15 (zR κ_15 coArgs a0) = zN κ (zR κ coOps a0) := by rw [ra, (u5 _ _ (coRf_t W Ta0 (by decide))).1]; exact ho.2.2.1
    have l9 := cnk ho.1
    have g9 : ∀ p, zT κ p = 10 → zR κ paCode p = a0 → ab5 κ_15 p = ab5 κ p ∧ zT κ_15 p = 10 ∧ zR κ_15 paCode p = a0 := fun p Tp e => by
      subst e
      exact ⟨gwR_5 (f := 507) W Tp (Or.inr (Or.inr (Or.inl rfl))) u1 u2 u5 (fun i hi => by
        have hi' : i < (zI κ coLength (zR κ paCode p)).toNatClampNeg := hi
        exact (congrFun (congrArg (zA κ_15) u3) i).trans (u6 i (by omega) (by omega))), F9.t Tp (by decide), u2 _ _ (fun z => absurd z.1 (by decide))⟩
    rw [u1]
    refine Ar_copyOf_c W16 T17  ?_ (fun r18 κ_19 q20 => ?_)
    · exact ⟨⟨by rw [lei, t0i]; omega, by omega⟩, fun e => by
        have e9 := congrArg Int32.toInt e
        rw [ofn_i aN, na9] at e9
        omega⟩
    intro W21
    intro M22
    intro T23
    refine ⟨?_, ?_⟩
    · rw [q20.1]; exact q20.2.2.1  -- b9
    intro κ_24 hκ_24
    intro W25
    have h24 : κ_24 = uo κ_19 coArgs a0 (zn κ_15) := by rw [hκ_24, q20.1]
    obtain ⟨G9, w1, w2, w3, w4, w5, w6, -⟩ := gr_f (f := coArgs) W16 (by decide +kernel) (by decide) T15 (by decide) q20.2 h24 (by omega) (by omega)
    have FF : zF (objF a0) κ κ_24 := (F9.mono (fun _ _ z => z.2)).tr (G9.mono (fun _ _ z => z.2))
    refine hj46 _ _ _ _ W25 ?_ ?_
    · exact FF.t Ta0 (by decide)  -- t10
    · refine and_5 ?_ (fun o9 => ?_)  -- k11
      · have rr : ∀ f, f ∈ coRf → f ≠ coOps → f ≠ coArgs → zR κ_24 f a0 = zR κ f a0 := fun f _ z1 z2 => (w2 f a0 (fun z => z2 z.1)).trans (u2 f a0 (fun z => z1 z.1))
        have nn : ∀ f, f ∈ coRf → zN κ_24 (zR κ f a0) = zN κ (zR κ f a0) := fun f hf => FF.l (coRf_t W Ta0 hf)
        have ro : zR κ_24 coOps a0 = zn κ := (w2 coOps a0 (fun z => absurd z.1 (by decide))).trans u3
        have t0 : zT κ_15 (zn κ) = 20 := by rw [← u3]; exact coRf_t W16 T15 (by decide)
        have no : zN κ_24 (zn κ) = (zI κ coLength a0 * 2).toNatClampNeg := ((w5 _ _ t0).1).trans u4
        have aa : ∀ f, f = coArrayBases ∨ f = coArraySizes → zA κ_24 (zR κ f a0) = zA κ (zR κ f a0) := fun f hf => by
          have m : f ∈ coRf := by rcases hf with rfl | rfl <;> decide
          have t1 := coRf_t W Ta0 m
          exact ((w5 _ _ (F9.t t1 (by decide))).2).trans (u5 _ _ t1).2
        have ii : zI κ_24 = zI κ := w1.trans u1
        refine ⟨rfl, rfl, rfl, FF, ii, ?_, ?_⟩
        · unfold coI
          rw [ii, rr coVarStarts (by decide) (by decide) (by decide), rr coArrayBases (by decide) (by decide) (by decide), rr coArraySizes (by decide) (by decide) (by decide), rr coFirstStatements (by decide) (by decide) (by decide), rr coNameCounts (by decide) (by decide) (by decide), rr coOwnCounts (by decide) (by decide) (by decide), rr coRows (by decide) (by decide) (by decide), ro, w3]
          rw [nn coVarStarts (by decide), nn coArrayBases (by decide), nn coArraySizes (by decide), nn coFirstStatements (by decide), nn coNameCounts (by decide), nn coOwnCounts (by decide), nn coRows (by decide), no, w4, aa coArrayBases (Or.inl rfl), aa coArraySizes (Or.inr rfl)]
          exact ⟨h1, hv, ha, hc, hf, hs, hrw, ⟨ho.1, by omega, rfl, by omega, by omega⟩, hb⟩
        · rw [ro, no]; omega
      · intro p Tp e
        obtain ⟨g, t, r⟩ := g9 p Tp e
        subst r
        refine ⟨(gwR_5 (f := 508) W16 t (Or.inr (Or.inr (Or.inr rfl))) w1 w2 w5 (fun i hi => ?_)).trans g, G9.t t (by decide), w2 _ _ (fun z => absurd z.1 (by decide))⟩
        have hi' : i < (zI κ_15 coLength (zR κ_15 paCode p)).toNatClampNeg := hi
        rw [u1] at hi'
        exact (congrFun (congrArg (zA κ_24) w3) i).trans (w6 i (by omega) (by omega))

theorem Co_addStatement_q5 {C : zC} {n0 : Nat} {a0 : Nat} {κ : zS} {Q : Int32 → zS → Prop} (W : zW C n0 κ) (Ta0 : zT κ a0 = 5)  (hp : coI κ a0 ∧ (zI κ coStatements a0).toInt < 150) (h : ∀ (v : Int32) (κ' : zS), ((zF (objF a0) κ κ' ∧ coI κ' a0 ∧ v = zI κ coStatements a0 ∧ zI κ' coStatements a0 = zI κ coStatements a0 + 1 ∧ (∀ f, f ≠ coStatements → zI κ' f a0 = zI κ f a0)) ∧ (∀ p, zT κ p = 10 → zR κ paCode p = a0 → f5_Co_addStatement (ab5 κ p) = .inl (ab5 κ' p, v))) → Q v κ') : zRun C 2 mCo_addStatement [.ref a0] κ (oI Q noX) := by
  refine Co_addStatement_run W Ta0 ?_
  replace W := W.lo (Nat.le_trans W.1.2.1 W.1.2.2) (Nat.le_refl (zn κ))
  unfold w_Co_addStatement_0
  obtain ⟨H, p0⟩ := hp
  have H0 := H
  obtain ⟨h1, hv, ha, hc, hf, hs, hrw, ho, hb⟩ := H
  have e11 : (11 : Int32).toInt = 11 := rfl
  have e3 : (3 : Int32).toInt = 3 := rfl
  have e4 : (4 : Int32).toInt = 4 := rfl
  have hj37 : ∀ (l0 : Nat) (l1 : Int32) (τ : zS), zW C (zn κ) τ → zT τ l0 = 5 → ((a0 = l0 ∧ zF (objF a0) κ τ ∧ zI τ = zI κ ∧ (∀ f, f ∈ coRf → f ≠ coRows → zR τ f a0 = zR κ f a0) ∧ l1.toInt = 11 * (zI κ coStatements a0).toInt ∧ (l1.toInt + 11 ≤ (zN τ (zR τ coRows a0)) ∧ 88 ≤ (zN τ (zR τ coRows a0)) ∧ (zN τ (zR τ coRows a0)) ≤ 3322) ∧ (∀ f, f = coArrayBases ∨ f = coArraySizes → zA τ (zR κ f a0) = zA κ (zR κ f a0))) ∧ (∀ p, zT κ p = 10 → zR κ paCode p = a0 → ab5 τ p = ab5 κ p ∧ zT τ p = 10 ∧ zR τ paCode p = a0)) → w_Co_addStatement_37 C (zn κ) Q  l0 l1 τ := by
    rintro _ y37_1 τ37 W37 T37_0 ⟨⟨rfl, j37⟩, hE⟩
    unfold w_Co_addStatement_37
    intro T1
    obtain ⟨F, jI, jR, jl, jp, jA⟩ := j37
    have ea : (y37_1 + 11).toInt = y37_1.toInt + 11 := by rw [add_i (by rw [e11]; omega) (by rw [e11]; omega), e11]
    have k1 := cnk (x := y37_1) (by omega)
    have k11 := cnk (x := y37_1 + 11) (by omega)
    refine Ar_fill4_c W37 T1  ?_ (fun κ_2 q3 => ?_)
    · exact ⟨by rw [lei, t0i]; omega, by rw [lei, ea]; omega, by omega⟩  -- p1
    intro W4
    intro M5
    refine ⟨?_, ?_⟩
    · rw [q3, inb_iff, add_i (by rw [t1i]; omega) (by rw [t1i]; omega), t1i]
      show _ ∧ _ < ((zN τ37 (zR τ37 coRows a0) : Nat) : Int)
      omega
    intro κ_6 hκ_6
    intro W7
    refine ⟨?_, ?_⟩
    · rw [hκ_6, q3, inb_iff, add_i (by rw [e3]; omega) (by rw [e3]; omega), e3]
      show _ ∧ _ < ((zN τ37 (zR τ37 coRows a0) : Nat) : Int)
      omega
    intro κ_8 hκ_8
    intro W9
    refine ⟨?_, ?_⟩
    · rw [hκ_8, hκ_6, q3, inb_iff, add_i (by rw [e4]; omega) (by rw [e4]; omega), e4]
      show _ ∧ _ < ((zN τ37 (zR τ37 coRows a0) : Nat) : Int)
      omega
    intro κ_10 hκ_10
    intro W11
    intro κ_12 hκ_12
    intro W13
    refine h _ _ ?_
    · refine and_5 ?_ (fun o9 => ?_)  -- q5
      · have f2 : zF (oneF coRows a0) τ37 κ_2 := by rw [q3]; exact zF_uf (by rw [coRf_o W37 T37_0 (by decide)]; exact ⟨rfl, rfl⟩)
        have T2 := f2.t T37_0 (by decide)
        have f6 : zF (oneF coRows a0) κ_2 κ_6 := by rw [hκ_6]; exact zF_ua (by rw [coRf_o W4 T2 (by decide)]; exact ⟨rfl, rfl⟩)
        have T6 := f6.t T2 (by decide)
        have f8 : zF (oneF coRows a0) κ_6 κ_8 := by rw [hκ_8]; exact zF_ua (by rw [coRf_o W7 T6 (by decide)]; exact ⟨rfl, rfl⟩)
        have T8 := f8.t T6 (by decide)
        have f10 : zF (oneF coRows a0) κ_8 κ_10 := by rw [hκ_10]; exact zF_ua (by rw [coRf_o W9 T8 (by decide)]; exact ⟨rfl, rfl⟩)
        have G := ((f2.tr f6).tr f8).tr f10
        have f12 : zF (objF a0) κ_10 κ_12 := by rw [hκ_12]; exact zF_ui rfl
        have FF : zF (objF a0) κ κ_12 := (F.tr (G.mono (fun _ _ z => z.2))).tr f12
        have i10 : zI κ_10 = zI κ := by rw [hκ_10, hκ_8, hκ_6, q3]; exact jI
        have r12 : zR κ_12 = zR τ37 := by rw [hκ_12, hκ_10, hκ_8, hκ_6, q3]; rfl
        have n12 : zN κ_12 = zN τ37 := by rw [hκ_12, hκ_10, hκ_8, hκ_6, q3]; rfl
        have a12 : zA κ_12 = zA κ_10 := by rw [hκ_12]; rfl
        have is : zI κ_12 coStatements a0 = zI κ coStatements a0 + 1 := by
          rw [hκ_12]
          refine (if_pos ⟨rfl, rfl⟩).trans ?_
          rw [i10]
        have io : ∀ f, f ≠ coStatements → zI κ_12 f a0 = zI κ f a0 := fun f hf => by
          rw [hκ_12]
          exact (if_neg (fun z => hf z.1)).trans (congrFun (congrFun i10 f) a0)
        have ts : (zI κ_12 coStatements a0).toInt = (zI κ coStatements a0).toInt + 1 := by rw [is, add_i (by rw [t1i]; omega) (by rw [t1i]; omega), t1i]
        have aa : ∀ f, f = coArrayBases ∨ f = coArraySizes → zA κ_12 (zR τ37 f a0) = zA κ (zR κ f a0) := fun f hf => by
          have m : f ∈ coRf ∧ f ≠ coRows := by rcases hf with rfl | rfl <;> decide
          have g := (G.2.1 (zR τ37 f a0) (by rw [coRf_t W37 T37_0 m.1]; decide) (by rw [coRf_o W37 T37_0 m.1]; exact fun z => m.2 z.1)).1
          rw [a12, g, jR f m.1 m.2]
          exact jA f hf
        have nn : ∀ f, f ∈ coRf → zN τ37 (zR κ f a0) = zN κ (zR κ f a0) := fun f hf => F.l (coRf_t W Ta0 hf)
        refine ⟨FF, ?_, by rw [is]; exact pm_1, is, io⟩
        unfold coI
        rw [r12, n12, aa coArrayBases (Or.inl rfl), aa coArraySizes (Or.inr rfl), jR coVarStarts (by decide) (by decide), jR coArrayBases (by decide) (by decide), jR coArraySizes (by decide) (by decide), jR coFirstStatements (by decide) (by decide), jR coNameCounts (by decide) (by decide), jR coOwnCounts (by decide) (by decide), jR coOps (by decide) (by decide), jR coArgs (by decide) (by decide)]
        rw [nn coVarStarts (by decide), nn coArrayBases (by decide), nn coArraySizes (by decide), nn coFirstStatements (by decide), nn coNameCounts (by decide), nn coOwnCounts (by decide), nn coOps (by decide), nn coArgs (by decide)]
        rw [ts, io coVars (by decide), io coArrays (by decide), io coCells (by decide), io coFunctions (by decide), io coLength (by decide)]
        exact ⟨h1, hv, ha, hc, hf, ⟨by omega, by omega⟩, ⟨by omega, jp.2⟩, ho, hb⟩
      · intro p Tp e
        obtain ⟨g, t, r⟩ := hE p Tp e
        subst r
        have kk := cnk (x := zI τ37 coStatements (zR τ37 paCode p)) (by rw [jI]; exact hs.1)
        have i1 : (y37_1 + 1).toNatClampNeg = 11 * (zI τ37 coStatements (zR τ37 paCode p)).toNatClampNeg + 1 := by
          have a := add_i (x := y37_1) (y := 1) (by rw [t1i]; omega) (by rw [t1i]; omega)
          rw [t1i] at a
          have b := cnk (x := y37_1 + 1) (by omega)
          rw [jI] at kk ⊢
          omega
        have i3 : (y37_1 + 3).toNatClampNeg = 11 * (zI τ37 coStatements (zR τ37 paCode p)).toNatClampNeg + 3 := by
          have a := add_i (x := y37_1) (y := 3) (by rw [e3]; omega) (by rw [e3]; omega)
          rw [e3] at a
          have b := cnk (x := y37_1 + 3) (by omega)
          rw [jI] at kk ⊢
          omega
        have i4 : (y37_1 + 4).toNatClampNeg = 11 * (zI τ37 coStatements (zR τ37 paCode p)).toNatClampNeg + 4 := by
          have a := add_i (x := y37_1) (y := 4) (by rw [e4]; omega) (by rw [e4]; omega)
          rw [e4] at a
          have b := cnk (x := y37_1 + 4) (by omega)
          rw [jI] at kk ⊢
          omega
        have q3' : κ_2 = uff τ37 (zR τ37 coRows (zR τ37 paCode p)) (11 * (zI τ37 coStatements (zR τ37 paCode p)).toNatClampNeg) (11 * (zI τ37 coStatements (zR τ37 paCode p)).toNatClampNeg + 11) (-1) := by
          have a1 : y37_1.toNatClampNeg = 11 * (zI τ37 coStatements (zR τ37 paCode p)).toNatClampNeg := by rw [jI] at kk ⊢; omega
          have a2 : (y37_1 + 11).toNatClampNeg = 11 * (zI τ37 coStatements (zR τ37 paCode p)).toNatClampNeg + 11 := by rw [jI] at kk ⊢; omega
          rw [q3, a1, a2]
        have z := sm_5 W37 t q3' hκ_6 hκ_8 hκ_10 hκ_12 i1 i3 i4 (by rw [jI]; exact hs.1) (by rw [jI]; omega)
        rw [← g, z, o9.2.2.1, jI]
  intro x14 hx14
  have ex : x14.toInt = 11 * (zI κ coStatements a0).toInt := by rw [hx14, mul_i (by rw [e11]; omega) (by rw [e11]; omega), e11]; omega
  have ea : (x14 + 11).toInt = x14.toInt + 11 := by rw [add_i (by rw [e11]; omega) (by rw [e11]; omega), e11]
  have rN := W.n (ty_coRows W Ta0)
  refine ⟨fun c15 => ?_, fun c15 => ?_⟩
  · skip
    refine hj37 _ _ _ W ?_ ?_
    · exact Ta0  -- t6
    · refine and_5 ?_ (fun o9 => fun p Tp e => ⟨rfl, Tp, e⟩)  -- k7
      rw [lei, ea, ofn_i rN] at c15
      exact ⟨rfl, zF.rf, rfl, fun _ _ _ => rfl, ex, ⟨c15, hrw.2⟩, fun _ _ => rfl⟩
  · skip
    intro T16
    have c16 : (zN κ (zR κ coRows a0) : Int) < x14.toInt + 11 := by rw [lei, ea, ofn_i rN] at c15; omega
    have e2 : ((x14 + 11) * 2).toInt = (x14.toInt + 11) * 2 := by rw [mul_i (by rw [ea, t2i]; omega) (by rw [ea, t2i]; omega), ea, t2i]
    have kn := cnk (x := (x14 + 11) * 2) (by omega)
    refine Ar_copyOf_c W T16  ?_ (fun r17 κ_18 q19 => ?_)
    · exact ⟨⟨by rw [lei, t0i]; omega, by omega⟩, fun e => by
        have e9 := congrArg Int32.toInt e
        rw [ofn_i rN] at e9
        omega⟩
    intro W20
    intro M21
    intro T22
    refine ⟨?_, ?_⟩
    · rw [q19.1]; exact q19.2.2.1  -- b9
    intro κ_23 hκ_23
    intro W24
    have h9 : κ_23 = uo κ_18 coRows a0 (zn κ) := by rw [hκ_23, q19.1]
    obtain ⟨F9, g1, g2, g3, g4, g5, g6, -⟩ := gr_f (f := coRows) W (by decide +kernel) (by decide) Ta0 (by decide) q19.2 h9 (by omega) (by omega)
    refine hj37 _ _ _ W24 ?_ ?_
    · exact F9.t Ta0 (by decide)  -- t10
    · refine and_5 ?_ (fun o9 => ?_)  -- k11
      · refine ⟨rfl, F9.mono (fun _ _ z => z.2), g1, fun f _ hf => g2 f a0 (fun z => hf z.1), ex, ?_, fun f hf => ?_⟩
        · rw [g3, g4]; omega
        · exact (g5 _ _ (coRf_t W Ta0 (by rcases hf with rfl | rfl <;> decide))).2
      · intro p Tp e
        subst e
        have l9 := cnk (x := zI κ coStatements (zR κ paCode p)) hs.1
        refine ⟨gwR_5 (f := 506) W Tp (Or.inr (Or.inl rfl)) g1 g2 g5 (fun i hi => ?_), F9.t Tp (by decide), g2 _ _ (fun z => absurd z.1 (by decide))⟩
        have hi' : i < 11 * (zI κ coStatements (zR κ paCode p)).toNatClampNeg := hi
        exact (congrFun (congrArg (zA κ_23) g3) i).trans (g6 i (by omega) (by omega))

theorem Pa_hold_q5 {C : zC} {n0 : Nat} {a0 : Nat} {a1 : Int32} {κ : zS} {Q : zS → Prop} (W : zW C n0 κ) (Ta0 : zT κ a0 = 10)  (hp : paI κ a0 ∧ (zI κ paWaits a0).toInt ≤ 20490) (h : ∀ (κ' : zS), ((paN κ κ' a0 ∧ zI κ' paWaits a0 = zI κ paWaits a0 + 1) ∧ (f5_Pa_hold a1 (ab5 κ a0) = .inl (ab5 κ' a0, ()))) → Q κ') : zRun C 2 mPa_hold [.ref a0, .int a1] κ (oV Q noX) := by
  refine Pa_hold_run W Ta0 ?_
  replace W := W.lo (Nat.le_trans W.1.2.1 W.1.2.2) (Nat.le_refl (zn κ))
  unfold w_Pa_hold_0
  have L := hp.1.2.2.1
  have D := hp.1.2.2.2
  have w0 := D.2.2.1
  have wl := D.2.2.2
  have oN := W.n (ty_paWaiting W Ta0)
  have e1 : (zI κ paWaits a0 + 1).toInt = (zI κ paWaits a0).toInt + 1 := by rw [add_i (by rw [t1i]; omega) (by rw [t1i]; omega), t1i]
  have hj29 : ∀ (l0 : Nat) (l1 : Int32) (τ : zS), zW C (zn κ) τ → zT τ l0 = 10 → ((a0 = l0 ∧ a1 = l1 ∧ zF (objF a0) κ τ ∧ zI τ = zI κ ∧ (∀ f, f ≠ paWaiting → zR τ f a0 = zR κ f a0) ∧ (zI κ paWaits a0).toInt < (zN τ (zR τ paWaiting a0)) ∧ 16 ≤ (zN τ (zR τ paWaiting a0)) ∧ (zN τ (zR τ paWaiting a0)) ≤ 41000) ∧ ab5 τ a0 = ab5 κ a0) → w_Pa_hold_29 C (zn κ) Q  l0 l1 τ := by
    rintro _ _ τ29 W29 T29_0 ⟨⟨rfl, rfl, j29⟩, hE⟩
    unfold w_Pa_hold_29
    refine ⟨?_, ?_⟩
    · rw [j29.2.1, inb_iff]
      have := j29.2.2.2.1
      omega
    intro κ_1 hκ_1
    intro W2
    intro κ_3 hκ_3
    intro W4
    refine h _ ?_
    · refine and_5 ?_ (fun o9 => ?_)  -- q2
      · obtain ⟨F, jI, jR, j1, j2, j3⟩ := j29
        have f1 := pa_ua W29 T29_0 (show zr paWaiting = some 20 by decide +kernel) (by decide) hκ_1
        have Z : zF (objF a0) κ κ_3 := (F.tr f1.1).tr (by rw [hκ_3]; exact zF_ui rfl)
        have r : zR κ_3 = zR τ29 := by rw [hκ_3]; exact f1.2.1
        have n : zN κ_3 = zN τ29 := by rw [hκ_3]; exact f1.2.2.1
        have o : zI κ_3 paWaits a0 = zI κ paWaits a0 + 1 := by
          rw [hκ_3]
          refine (if_pos ⟨rfl, rfl⟩).trans ?_
          rw [f1.2.2.2.1, jI]
        have oth : ∀ f, f ≠ paWaits → zI κ_3 f a0 = zI κ f a0 := fun f hf => by
          rw [hκ_3]
          exact (if_neg (fun z => hf z.1)).trans (congrFun (congrFun (f1.2.2.2.1.trans jI) f) a0)
        have nl : ∀ f, f ≠ paWaiting → ∀ c, zT κ (zR κ f a0) = c + 1 → zN κ_3 (zR κ_3 f a0) = zN κ (zR κ f a0) := fun f hf c hc => by
          rw [r, jR f hf]
          exact Z.l hc
        obtain ⟨I, G, c, t⟩ := paI_p W Ta0 Z (by rw [r]; exact jR _ (by decide)) (by rw [r]; exact jR _ (by decide)) (by
          unfold paL
          rw [nl paVarNames (by decide) _ (ty_paVarNames W Ta0), nl paArrayNames (by decide) _ (ty_paArrayNames W Ta0), nl paFunctionNames (by decide) _ (ty_paFunctionNames W Ta0), nl paOwnNames (by decide) _ (ty_paOwnNames W Ta0), nl paOwners (by decide) _ (ty_paOwners W Ta0), nl paLasts (by decide) _ (ty_paLasts W Ta0), nl paElses (by decide) _ (ty_paElses W Ta0)]
          exact L) (by
          unfold paC
          rw [r, n, o, e1, oth paOwns (by decide), oth paBlocks (by decide)]
          exact ⟨D.1, D.2.1, ⟨by omega, by omega⟩, j2, j3⟩) hp.1
        exact ⟨⟨G, I, ⟨oth _ (by decide), oth _ (by decide)⟩, by rw [G.2.2]; exact c _, by rw [G.2.1]; exact t _⟩, o⟩
      · rw [← hE]
        exact ho_5 W29 T29_0 hκ_1 hκ_3 (by rw [j29.2.1]; exact w0.1) (by rw [j29.2.1]; have := hp.2; omega)
  refine ⟨fun c5 => ?_, fun c5 => ?_⟩
  · skip
    refine hj29 _ _ _ W ?_ ?_
    · exact Ta0  -- t3
    · refine and_5 ?_ (fun o9 => rfl)  -- k4
      rw [lti, ofn_i oN] at c5
      exact ⟨rfl, rfl, zF.rf, rfl, fun _ _ => rfl, c5, wl.1, wl.2⟩
  · skip
    intro T6
    have c8 : (zI κ paWaits a0).toInt = zN κ (zR κ paWaiting a0) := by rw [lti, ofn_i oN] at c5; omega
    have e2 : (zI κ paWaits a0 * 2).toInt = (zI κ paWaits a0).toInt * 2 := by rw [mul_i (by rw [t2i]; omega) (by rw [t2i]; omega), t2i]
    have kn := cnk (x := zI κ paWaits a0 * 2) (by omega)
    refine Ar_copyOf_c W T6  ?_ (fun r7 κ_8 q9 => ?_)
    · exact ⟨⟨by rw [lei, t0i]; omega, by omega⟩, fun e => by
        have e9 := congrArg Int32.toInt e
        rw [ofn_i oN] at e9
        omega⟩
    intro W10
    intro M11
    intro T12
    refine ⟨?_, ?_⟩
    · rw [q9.1]; exact q9.2.2.1  -- b6
    intro κ_13 hκ_13
    intro W14
    refine hj29 _ _ _ W14 ?_ ?_
    · have h9 : κ_13 = uo κ_8 paWaiting a0 (zn κ) := by rw [hκ_13, q9.1]
      exact (gr_f (f := paWaiting) W (by decide +kernel) (by decide) Ta0 (by decide) q9.2 h9 (by omega) (by omega)).1.t Ta0 (by decide)
    · refine and_5 ?_ (fun o9 => ?_)  -- k8
      · have h9 : κ_13 = uo κ_8 paWaiting a0 (zn κ) := by rw [hκ_13, q9.1]
        obtain ⟨F9, u1, u2, u3, u4, u5, -⟩ := gr_f (f := paWaiting) W (by decide +kernel) (by decide) Ta0 (by decide) q9.2 h9 (by omega) (by omega)
        refine ⟨rfl, rfl, F9.mono (fun _ _ z => z.2), u1, fun f hf => u2 f a0 (fun z => hf z.1), ?_, ?_, ?_⟩
        · rw [u3, u4]; omega
        · rw [u3, u4]; omega
        · rw [u3, u4]; omega
      · have h9 : κ_13 = uo κ_8 paWaiting a0 (zn κ) := by rw [hκ_13, q9.1]
        obtain ⟨F9, u1, u2, u3, u4, u5, u6, -⟩ := gr_f (f := paWaiting) W (by decide +kernel) (by decide) Ta0 (by decide) q9.2 h9 (by omega) (by omega)
        have l9 := cnk w0.1
        refine gwR_5 (f := 1015) W Ta0 (Or.inl rfl) u1 u2 u5 (fun i hi => ?_)
        have hi' : i < (zI κ paWaits a0).toNatClampNeg := hi
        exact (congrFun (congrArg (zA κ_13) u3) i).trans (u6 i (by omega) (by omega))
