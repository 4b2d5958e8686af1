set_option maxHeartbeats 1600000
/-! the class: Code's emit, linkFollows -/
theorem Co_emit_c {C : zC} {n0 : Nat} {a0 : Nat} {a1 : Int32} {a2 : Int32} {κ : zS} {Q : zS → Prop} (W : zW C n0 κ) (Ta0 : zT κ a0 = 5)  (hp : coI κ a0 ∧ (zI κ coLength a0).toInt < 20500) (h : ∀ (κ' : zS), (zF (objF a0) κ κ' ∧ coI κ' a0 ∧ zI κ' coLength a0 = zI κ coLength a0 + 1 ∧ (∀ f, f ≠ coLength → zI κ' f a0 = zI κ f a0)) → Q κ') : zRun C 2 mCo_emit [.ref a0, .int a1, .int a2] κ (oV Q noX) := by
  refine Co_emit_run W Ta0 ?_
  replace W := W.lo (Nat.le_trans W.1.2.1 W.1.2.2) (Nat.le_refl (zn κ))
  unfold w_Co_emit_0
  obtain ⟨H, p0⟩ := hp
  have H0 := H
  obtain ⟨h1, hv, ha, hc, hf, hs, hrw, ho, hb⟩ := H
  have hj46 : ∀ (l0 : Nat) (l1 : Int32) (l2 : Int32) (τ : zS), zW C (zn κ) τ → zT τ l0 = 5 → (a0 = l0 ∧ a1 = l1 ∧ a2 = l2 ∧ zF (objF a0) κ τ ∧ zI τ = zI κ ∧ coI τ a0 ∧ (zI κ coLength a0).toInt < (zN τ (zR τ coOps a0))) → w_Co_emit_46 C (zn κ) Q  l0 l1 l2 τ := by
    rintro _ _ _ τ46 W46 T46_0 ⟨rfl, rfl, rfl, j46⟩
    unfold w_Co_emit_46
    obtain ⟨F, jI, J, jl⟩ := j46
    have J0 := J
    obtain ⟨g1, gv, ga, gc, gf, gs, grw, go, gb⟩ := J
    refine ⟨?_, ?_⟩
    · rw [inb_iff, jI]; omega  -- b1
    intro κ_1 hκ_1
    intro W2
    refine ⟨?_, ?_⟩
    · rw [hκ_1, inb_iff]
      show 0 ≤ (zI τ46 coLength a0).toInt ∧ (zI τ46 coLength a0).toInt < ((zN τ46 (zR τ46 coArgs a0) : Nat) : Int)
      rw [jI]; omega
    intro κ_3 hκ_3
    intro W4
    intro κ_5 hκ_5
    intro W6
    refine h _ ?_
    · have f1 : zF (objF a0) τ46 κ_1 := by rw [hκ_1]; exact zF_ua (by rw [coRf_o W46 T46_0 (by decide)])
      have T1 := f1.t T46_0 (by decide)
      have f3 : zF (objF a0) κ_1 κ_3 := by rw [hκ_3]; exact zF_ua (by rw [coRf_o W2 T1 (by decide)])
      have f5 : zF (objF a0) κ_3 κ_5 := by rw [hκ_5]; exact zF_ui rfl
      have i3 : zI κ_3 = zI κ := by rw [hκ_3, hκ_1]; exact jI
      have r5 : zR κ_5 = zR τ46 := by rw [hκ_5, hκ_3, hκ_1]; rfl
      have n5 : zN κ_5 = zN τ46 := by rw [hκ_5, hκ_3, hκ_1]; rfl
      have is : zI κ_5 coLength a0 = zI κ coLength a0 + 1 := by
        rw [hκ_5]
        refine (if_pos ⟨rfl, rfl⟩).trans ?_
        rw [i3]
      have io : ∀ f, f ≠ coLength → zI κ_5 f a0 = zI κ f a0 := fun f hf => by
        rw [hκ_5]
        exact (if_neg (fun z => hf z.1)).trans (congrFun (congrFun i3 f) a0)
      have ts : (zI κ_5 coLength a0).toInt = (zI κ coLength a0).toInt + 1 := by rw [is, add_i (by rw [t1i]; omega) (by rw [t1i]; omega), t1i]
      have aa : ∀ f, f = coArrayBases ∨ f = coArraySizes → zA κ_5 (zR τ46 f a0) = zA τ46 (zR τ46 f a0) := fun f hf => by
        have m : f ∈ coRf ∧ f ≠ coOps ∧ f ≠ coArgs := by rcases hf with rfl | rfl <;> decide
        have e1 : zA κ_1 (zR τ46 f a0) = zA τ46 (zR τ46 f a0) := by rw [hκ_1]; exact if_neg (coRf_n W46 T46_0 m.1 (by decide) m.2.1)
        have e3 : zA κ_3 (zR τ46 f a0) = zA κ_1 (zR τ46 f a0) := by
          rw [hκ_3, show zR κ_1 = zR τ46 from by rw [hκ_1]; rfl]
          exact if_neg (coRf_n W46 T46_0 m.1 (by decide) m.2.2)
        rw [show zA κ_5 = zA κ_3 from by rw [hκ_5]; rfl, e3, e1]
      refine ⟨((F.tr f1).tr f3).tr f5, ?_, is, io⟩
      rw [jI] at gv ga gc gf gs grw
      unfold coI
      rw [r5, n5, aa coArrayBases (Or.inl rfl), aa coArraySizes (Or.inr rfl), ts, io coVars (by decide), io coArrays (by decide), io coCells (by decide), io coFunctions (by decide), io coStatements (by decide)]
      exact ⟨g1, gv, ga, gc, gf, gs, grw, ⟨by omega, by omega, go.2.2⟩, gb⟩
  have oN := W.n (ty_coOps W Ta0)
  refine ⟨fun c7 => ?_, fun c7 => ?_⟩
  · skip
    refine hj46 _ _ _ _ W ?_ ?_
    · exact Ta0  -- t4
    · rw [lti, ofn_i oN] at c7
      exact ⟨rfl, rfl, rfl, zF.rf, rfl, H0, c7⟩
  · skip
    intro T8
    have c8 : (zI κ coLength a0).toInt = zN κ (zR κ coOps a0) := by rw [lti, ofn_i oN] at c7; omega
    have e2 : (zI κ coLength a0 * 2).toInt = (zI κ coLength a0).toInt * 2 := by rw [mul_i (by rw [t2i]; omega) (by rw [t2i]; omega), t2i]
    have kn := cnk (x := zI κ coLength a0 * 2) (by omega)
    refine Ar_copyOf_c W T8  ?_ (fun r9 κ_10 q11 => ?_)
    · exact ⟨⟨by rw [lei, t0i]; omega, by omega⟩, fun e => by
        have e9 := congrArg Int32.toInt e
        rw [ofn_i oN] at e9
        omega⟩
    intro W12
    intro M13
    intro T14
    refine ⟨?_, ?_⟩
    · rw [q11.1]; exact q11.2.2.1  -- b7
    intro κ_15 hκ_15
    intro W16
    intro T17
    have h9 : κ_15 = uo κ_10 coOps a0 (zn κ) := by rw [hκ_15, q11.1]
    obtain ⟨F9, u1, u2, u3, u4, u5, -⟩ := gr_f (f := coOps) W (by decide +kernel) (by decide) Ta0 (by decide) q11.2 h9 (by omega) (by omega)
    have T15 := F9.t Ta0 (by decide)
    have aN := W16.n (ty_coArgs W16 T15)
    have ra : zR κ_15 coArgs a0 = zR κ coArgs a0 := u2 coArgs a0 (fun z => absurd z.1 (by decide))
    have na9 : zN κ_15 (zR κ_15 coArgs a0) = zN κ (zR κ coOps a0) := by rw [ra, (u5 _ _ (coRf_t W Ta0 (by decide))).1]; exact ho.2.2.1
    rw [u1]
    refine Ar_copyOf_c W16 T17  ?_ (fun r18 κ_19 q20 => ?_)
    · exact ⟨⟨by rw [lei, t0i]; omega, by omega⟩, fun e => by
        have e9 := congrArg Int32.toInt e
        rw [ofn_i aN, na9] at e9
        omega⟩
    intro W21
    intro M22
    intro T23
    refine ⟨?_, ?_⟩
    · rw [q20.1]; exact q20.2.2.1  -- b9
    intro κ_24 hκ_24
    intro W25
    have h24 : κ_24 = uo κ_19 coArgs a0 (zn κ_15) := by rw [hκ_24, q20.1]
    obtain ⟨G9, w1, w2, w3, w4, w5, -⟩ := gr_f (f := coArgs) W16 (by decide +kernel) (by decide) T15 (by decide) q20.2 h24 (by omega) (by omega)
    have FF : zF (objF a0) κ κ_24 := (F9.mono (fun _ _ z => z.2)).tr (G9.mono (fun _ _ z => z.2))
    refine hj46 _ _ _ _ W25 ?_ ?_
    · exact FF.t Ta0 (by decide)  -- t10
    · have rr : ∀ f, f ∈ coRf → f ≠ coOps → f ≠ coArgs → zR κ_24 f a0 = zR κ f a0 := fun f _ z1 z2 => (w2 f a0 (fun z => z2 z.1)).trans (u2 f a0 (fun z => z1 z.1))
      have nn : ∀ f, f ∈ coRf → zN κ_24 (zR κ f a0) = zN κ (zR κ f a0) := fun f hf => FF.l (coRf_t W Ta0 hf)
      have ro : zR κ_24 coOps a0 = zn κ := (w2 coOps a0 (fun z => absurd z.1 (by decide))).trans u3
      have t0 : zT κ_15 (zn κ) = 20 := by rw [← u3]; exact coRf_t W16 T15 (by decide)
      have no : zN κ_24 (zn κ) = (zI κ coLength a0 * 2).toNatClampNeg := ((w5 _ _ t0).1).trans u4
      have aa : ∀ f, f = coArrayBases ∨ f = coArraySizes → zA κ_24 (zR κ f a0) = zA κ (zR κ f a0) := fun f hf => by
        have m : f ∈ coRf := by rcases hf with rfl | rfl <;> decide
        have t1 := coRf_t W Ta0 m
        exact ((w5 _ _ (F9.t t1 (by decide))).2).trans (u5 _ _ t1).2
      have ii : zI κ_24 = zI κ := w1.trans u1
      refine ⟨rfl, rfl, rfl, FF, ii, ?_, ?_⟩
      · unfold coI
        rw [ii, rr coVarStarts (by decide) (by decide) (by decide), rr coArrayBases (by decide) (by decide) (by decide), rr coArraySizes (by decide) (by decide) (by decide), rr coFirstStatements (by decide) (by decide) (by decide), rr coNameCounts (by decide) (by decide) (by decide), rr coOwnCounts (by decide) (by decide) (by decide), rr coRows (by decide) (by decide) (by decide), ro, w3]
        rw [nn coVarStarts (by decide), nn coArrayBases (by decide), nn coArraySizes (by decide), nn coFirstStatements (by decide), nn coNameCounts (by decide), nn coOwnCounts (by decide), nn coRows (by decide), no, w4, aa coArrayBases (Or.inl rfl), aa coArraySizes (Or.inr rfl)]
        exact ⟨h1, hv, ha, hc, hf, hs, hrw, ⟨ho.1, by omega, rfl, by omega, by omega⟩, hb⟩
      · rw [ro, no]; omega

theorem Co_linkFollows_c {C : zC} {n0 : Nat} {a0 : Nat} {κ : zS} {Q : zS → Prop} (W : zW C n0 κ) (Ta0 : zT κ a0 = 5)  (hp : coI κ a0) (h : ∀ (κ' : zS), (zF (oneF coRows a0) κ κ' ∧ coI κ' a0 ∧ zI κ' = zI κ) → Q κ') : zRun C 1 mCo_linkFollows [.ref a0] κ (oV Q noX) := by
  refine Co_linkFollows_run W Ta0 ?_
  replace W := W.lo (Nat.le_trans W.1.2.1 W.1.2.2) (Nat.le_refl (zn κ))
  unfold w_Co_linkFollows_0
  unfold w_Co_linkFollows_2
  refine ⟨fun n l0 l1 τ => n = (150 - l1.toInt).toNat ∧ (a0 = l0 ∧ zF (oneF coRows a0) κ τ ∧ coI τ a0 ∧ zI τ = zI κ ∧ 0 ≤ l1.toInt), ⟨_, rfl, ?_⟩, ?_⟩
  · exact ⟨rfl, zF.rf, hp, rfl, by decide⟩  -- j1
  rintro n2 _ x2_1 κ2 W2 T2_0 ⟨hn2, rfl, i2⟩
  obtain ⟨F, I, eI, l0⟩ := i2
  refine ⟨fun c1 => ?_, fun c1 => ?_⟩
  · skip
    refine h _ ?_
    · exact ⟨F, I, eI⟩  -- q2
  · skip
    intro T2
    have c9 : x2_1.toInt < 150 := by
      have g := I.2.2.2.2.2.1
      rw [lei] at c1
      omega
    have e1 : (x2_1 + 1).toInt = x2_1.toInt + 1 := by rw [add_i (by rw [t1i]; omega) (by rw [t1i]; omega), t1i]
    refine Co_column_c W2 T2  ?_ (fun r3 q5 => ?_)
    · exact ⟨I, by decide, by decide⟩  -- p3
    intro W6
    intro M7
    intro T8
    refine Co_column_c W6 T8  ?_ (fun r9 q11 => ?_)
    · exact ⟨I, by decide, by decide⟩  -- p4
    intro W12
    intro M13
    refine ⟨fun c14 => ?_, fun c14 => ?_⟩
    · skip
      intro x15 hx15
      refine ⟨_, ?_, rfl, ?_⟩
      · rw [hn2, hx15, e1]; omega  -- d5
      · exact ⟨rfl, F, I, eI, by rw [hx15, e1]; omega⟩  -- i6
    · skip
      refine ⟨fun c16 => ?_, fun c16 => ?_⟩
      · skip
        intro x17 hx17
        refine ⟨_, ?_, rfl, ?_⟩
        · rw [hn2, hx17, e1]; omega  -- d7
        · exact ⟨rfl, F, I, eI, by rw [hx17, e1]; omega⟩  -- i8
      · skip
        intro T18
        refine Co_column_c W12 T18  ?_ (fun r19 q21 => ?_)
        · exact ⟨I, by decide, by decide⟩  -- p9
        intro W22
        intro M23
        refine ⟨fun c24 => ?_, fun c24 => ?_⟩
        · skip
          intro T25
          refine Co_column_c W22 T25  ?_ (fun r26 q28 => ?_)
          · exact ⟨I, by decide, by decide⟩  -- p10
          intro W29
          intro M30
          intro T31
          refine Co_setColumn_c W29 T31  ?_ (fun κ_32 q33 => ?_)
          · exact ⟨I, by decide, by decide⟩  -- p11
          intro W34
          intro M35
          intro x36 hx36
          refine ⟨_, ?_, rfl, ?_⟩
          · rw [hn2, hx36, e1]; omega  -- d12
          · exact ⟨rfl, F.tr q33.1, q33.2.1, q33.2.2.1.trans eI, by rw [hx36, e1]; omega⟩  -- i13
        · skip
          intro T37
          refine Co_setColumn_c W22 T37  ?_ (fun κ_38 q39 => ?_)
          · exact ⟨I, by decide, by decide⟩  -- p14
          intro W40
          intro M41
          intro x42 hx42
          refine ⟨_, ?_, rfl, ?_⟩
          · rw [hn2, hx42, e1]; omega  -- d15
          · exact ⟨rfl, F.tr q39.1, q39.2.1, q39.2.2.1.trans eI, by rw [hx42, e1]; omega⟩  -- i16
