set_option maxHeartbeats 1600000
/-! the reference: names in expressions -/
theorem named_g5 {C : rCx} (hC : cOK C) (B T A : Int32) (c0 : Nat) {σ : rS}  {Q : Int32 → rS → Prop} (hp : eQ σ B T A c0 0 ∧ rd σ 5 (σ.1 10) = 1 ∧ (σ.1 46 ≠ 0 → ∃ st' a' W', eOp (σ.2.2.1 5) (σ.2.2.1 7) (σ.2.2.1 39) (σ.1 10) (eW σ) st' a' W')) (h : ∀ (v : Int32) (σ' : rS), ((((∀ k, k ≠ 10 → k ≠ 11 → k ≠ 12 → k ≠ 13 → k ≠ 48 → k ≠ 49 → σ'.1 k = σ.1 k) ∧ (∀ k,  σ'.2.1 k = σ.2.1 k) ∧ (∀ k, k ≠ 39 → k ≠ 50 → k ≠ 51 → k ≠ 52 → σ'.2.2.1 k = σ.2.2.1 k) ∧ (∀ k j, k ≠ 39 → k ≠ 50 → k ≠ 51 → k ≠ 52 → σ'.2.2.1 k j = σ.2.2.1 k j) ∧ (∀ k j,  σ'.2.2.2 k j = σ.2.2.2 k j)) ∧ tK σ' B T ∧ nb v ∧ (σ.1 46 ≠ 0 → σ'.1 11 = 0 ∧ σ'.2.2.1 39 = σ.2.2.1 39) ∧ (∀ j, j ≠ (σ.1 10).toNatClampNeg → σ'.2.2.1 39 j = σ.2.2.1 39 j) ∧ (σ'.1 11 = 0 → eOp (σ'.2.2.1 5) (σ'.2.2.1 7) (σ'.2.2.1 39) (σ.1 10) (eW σ) v (σ'.1 10) (eW σ') ∧ eI (σ'.1 48) (σ'.1 49) (eW σ') v (σ'.1 10 - A) ∧ eO (σ'.1 13) (eW σ') c0)) ∧ g5_named σ = (σ', v)) → Q v σ') : cI C 4 m_named [.ref (co C)] σ Q := by
  refine m_named_run hC ?_
  unfold w_named_0
  obtain ⟨⟨hK, hL, hM, hF, hN, hA, h11, h47, hI, hO⟩, hs1, hm⟩ := hp
  have h66 := eI_66 hI
  have hm2 := fun e => eOp_at1 (hm e) hs1
  have hj79 : ∀ (l1 : Int32) (l2 : Int32) (τ : rS), ((((∀ k, k ≠ 10 → k ≠ 11 → k ≠ 12 → τ.1 k = σ.1 k) ∧ (∀ k,  τ.2.1 k = σ.2.1 k) ∧ (∀ k, k ≠ 39 → τ.2.2.1 k = σ.2.2.1 k) ∧ (∀ k j, k ≠ 39 → τ.2.2.1 k j = σ.2.2.1 k j) ∧ (∀ k j,  τ.2.2.2 k j = σ.2.2.2 k j)) ∧ tK τ B T ∧ l1 = σ.1 10 ∧ (σ.1 46 ≠ 0 → τ.1 11 = 0 ∧ τ.2.2.1 39 = σ.2.2.1 39) ∧ (∀ j, j ≠ (σ.1 10).toNatClampNeg → τ.2.2.1 39 j = σ.2.2.1 39 j) ∧ (τ.1 11 = 0 → τ.1 10 = σ.1 10 + 1 ∧ rd σ 5 (σ.1 10 + 1) ≠ 4 ∧ ¬ sg (σ.2.2.1 5) (σ.2.2.1 7) (σ.1 10 + 1) 40 ∧ (l2 ≠ 0 ↔ sg (σ.2.2.1 5) (σ.2.2.1 7) (σ.1 10 + 1) 91) ∧ (l2 ≠ 0 → validC (rd τ 39 (σ.1 10))) ∧ (l2 = 0 → validV (rd τ 39 (σ.1 10))))) ∧ g5_named σ = g5_named_79 l1 l2 τ) → w_named_79 C Q  l1 l2 τ := by
    rintro y79_1 y79_2 τ79 ⟨j79, hE⟩
    unfold w_named_79
    refine isRight_g5 hC  (fun r1 q3 => ?_)
    obtain ⟨q3, z9⟩ := q3
    replace hE := rb_p5 hE z9
    clear z9
    refine ⟨fun c4 => ?_, fun c4 => ?_⟩
    · skip
      replace hE := rb_f5 hE c4
      refine ⟨fun c5 => ?_, fun c5 => ?_⟩
      · skip
        replace hE := rb_t5 hE c5
        refine ⟨fun c6 => ?_, fun c6 => ?_⟩
        · skip
          replace hE := rb_f5 hE c6
          refine ⟨ib_131074.mpr ?_, ?_⟩
          · clear h hE; grind (splits := 30) [tK, eM, sg, nb, validC, validV, tyF, tyN, eB]  -- b1
          refine valueOf_g5 hC  ?_ (fun r7 q9 => ?_)
          · clear h hE; grind (splits := 30) [tK, eM, sg, nb, validC, validV, tyF, tyN, eB]  -- p2
          obtain ⟨q9, z9⟩ := q9
          replace hE := rb_p5 hE z9
          clear z9
          refine push_g5 hC  ?_ (fun σ_10 q11 => ?_)
          · clear h hE; grind (splits := 30) [tK, eM, sg, nb, validC, validV, tyF, tyN, eB]  -- p3
          obtain ⟨q11, z9⟩ := q11
          replace hE := rb_p5 hE z9.symm
          clear z9
          refine h _ _ ?_
          · refine and_5 ?_ (fun o9 => hE)  -- q4
            clear h hE; have m5 : σ_10.2.2.1 5 = σ.2.2.1 5 := by grind
            have m7 : σ_10.2.2.1 7 = σ.2.2.1 7 := by grind
            have m39 : σ_10.2.2.1 39 = τ79.2.2.1 39 := by grind
            have mW : eW σ_10 = turnW (eW σ) := by grind
            have ma : σ_10.1 10 = σ.1 10 + 1 ∧ σ_10.1 11 = 0 ∧ 0 ≤ σ_10.1 48 ∧ σ_10.1 48 ≤ σ.1 48 ∧ σ_10.1 49 = σ.1 49 + 1 ∧ σ_10.1 13 = σ.1 13 := by grind
            have mv : validV (rd τ79 39 (σ.1 10)) ∧ ¬ sg (σ.2.2.1 5) (σ.2.2.1 7) (σ.1 10 + 1) 40 ∧ ¬ sg (σ.2.2.1 5) (σ.2.2.1 7) (σ.1 10 + 1) 91 ∧ rd σ 5 (σ.1 10 + 1) ≠ 4 := by grind
            have mT : tK σ_10 B T := by grind [tK]
            refine ⟨by grind, mT, nb_1, by grind, by grind, fun _ => ⟨?_, ?_, ?_⟩⟩
            · rw [m5, m7, m39]; exact eOp_name hs1 mv.2.1 mv.2.2.1 mv.1 mv.2.2.2 ma.1 mW
            · rw [mW, ma.2.2.2.2.1, ma.1]
              have u := pL_up hL (k := 1) (Or.inl rfl) (by rw [← ma.1]; exact mT.2.2.2.2.2)
              exact eI_push hI ma.2.2.1 ma.2.2.2.1 u.1 u.2.1
            · rw [mW, ma.2.2.2.2.2]; exact eO_turn hO
        · skip
          replace hE := rb_t5 hE c6
          refine push_g5 hC  ?_ (fun σ_12 q13 => ?_)
          · clear h hE; grind (splits := 30) [tK, eM, sg, nb, validC, validV, tyF, tyN, eB]  -- p5
          obtain ⟨q13, z9⟩ := q13
          replace hE := rb_p5 hE z9.symm
          clear z9
          refine h _ _ ?_
          · refine and_5 ?_ (fun o9 => hE)  -- q6
            clear h hE; have m5 : σ_12.2.2.1 5 = σ.2.2.1 5 := by grind
            have m7 : σ_12.2.2.1 7 = σ.2.2.1 7 := by grind
            have m39 : σ_12.2.2.1 39 = τ79.2.2.1 39 := by grind
            have mW : eW σ_12 = turnW (eW σ) := by grind
            have ma : σ_12.1 10 = σ.1 10 + 1 ∧ σ_12.1 11 = 0 ∧ 0 ≤ σ_12.1 48 ∧ σ_12.1 48 ≤ σ.1 48 ∧ σ_12.1 49 = σ.1 49 + 1 ∧ σ_12.1 13 = σ.1 13 := by grind
            have mv : validV (rd τ79 39 (σ.1 10)) ∧ ¬ sg (σ.2.2.1 5) (σ.2.2.1 7) (σ.1 10 + 1) 40 ∧ ¬ sg (σ.2.2.1 5) (σ.2.2.1 7) (σ.1 10 + 1) 91 ∧ rd σ 5 (σ.1 10 + 1) ≠ 4 := by grind
            have mT : tK σ_12 B T := by grind [tK]
            refine ⟨by grind, mT, nb_1, by grind, by grind, fun _ => ⟨?_, ?_, ?_⟩⟩
            · rw [m5, m7, m39]; exact eOp_name hs1 mv.2.1 mv.2.2.1 mv.1 mv.2.2.2 ma.1 mW
            · rw [mW, ma.2.2.2.2.1, ma.1]
              have u := pL_up hL (k := 1) (Or.inl rfl) (by rw [← ma.1]; exact mT.2.2.2.2.2)
              exact eI_push hI ma.2.2.1 ma.2.2.2.1 u.1 u.2.1
            · rw [mW, ma.2.2.2.2.2]; exact eO_turn hO
      · skip
        replace hE := rb_f5 hE c5
        refine open_g5 hC B T ?_ (fun σ_14 q15 => ?_)
        · clear h hE; grind (splits := 30) [tK, eM, sg, nb, validC, validV, tyF, tyN, eB]  -- p7
        obtain ⟨q15, z9⟩ := q15
        replace hE := rb_p5 hE z9.symm
        clear z9
        refine ⟨ib_131074.mpr ?_, ?_⟩
        · clear h hE; grind (splits := 30) [tK, eM, sg, nb, validC, validV, tyF, tyN, eB]  -- b8
        refine hold_g5 hC  ?_ (fun σ_16 q17 => ?_)
        · clear h hE; grind (splits := 30) [tK, eM, sg, nb, validC, validV, tyF, tyN, eB]  -- p9
        obtain ⟨q17, z9⟩ := q17
        replace hE := rb_p5 hE z9.symm
        clear z9
        refine h _ _ ?_
        · refine and_5 ?_ (fun o9 => hE)  -- q10
          clear h hE; have m5 : σ_16.2.2.1 5 = σ.2.2.1 5 := by grind
          have m7 : σ_16.2.2.1 7 = σ.2.2.1 7 := by grind
          have m39 : σ_16.2.2.1 39 = τ79.2.2.1 39 := by grind
          have m0 : τ79.1 11 = 0 := by grind
          have mv : sg (σ.2.2.1 5) (σ.2.2.1 7) (σ.1 10 + 1) 91 ∧ validC (rd τ79 39 (σ.1 10)) ∧ τ79.1 10 = σ.1 10 + 1 := by grind
          have mW : eW σ_16 = (91, rd τ79 39 (σ.1 10)) :: eW σ := by grind
          have mo : σ_14.1 11 = 0 ↔ rd σ 5 (σ.1 10 + 2) ≠ 4 ∧ σ.1 13 ≠ 40 := by grind [sg]
          have k0 : σ.1 46 ≠ 0 → σ_14.1 11 = 0 := by
            intro hm'
            have k1 := eOp_at1 (hm hm') hs1
            have k2 : σ.1 13 ≠ 40 := by
              have : c0 = 0 := by rcases hM with q | q; exact absurd q hm'; exact q.2.2.2
              subst this
              exact eO_40 hO (k1.2.2.1 mv.1).1
            exact mo.mpr ⟨(k1.2.2.1 mv.1).2.2, k2⟩
          have mT : tK σ_16 B T := by grind [tK]
          have ma : σ_14.1 11 = 0 → σ_16.1 10 = σ.1 10 + 2 ∧ σ_16.1 48 = σ.1 48 + 1 ∧ σ_16.1 49 = σ.1 49 ∧ σ_16.1 13 = σ.1 13 + 1 := by grind
          have m11 : σ_16.1 11 = σ_14.1 11 := by grind
          refine ⟨by grind, mT, nb_0, by grind, by grind, fun hf => ?_⟩
          rw [m11] at hf
          have k6 := eO_open (s := 91) (f := rd τ79 39 (σ.1 10)) hO (mo.mp hf).2 (Or.inr rfl)
          refine ⟨?_, ?_, ?_⟩
          · rw [m5, m7, m39]; exact eOp_cell hs1 mv.1 k6.2 mv.2.1 (mo.mp hf).1 (ma hf).1 mW
          · rw [mW, (ma hf).2.1, (ma hf).2.2.1, (ma hf).1]
            have u := pL_up hL (k := 2) (Or.inr rfl) (by rw [← (ma hf).1]; exact mT.2.2.2.2.2)
            exact eI_hold0 hI (Or.inr (Or.inr ⟨rfl, mv.2.1⟩)) u.1 u.2.1
          · rw [mW, (ma hf).2.2.2]; exact k6.1
    · skip
      replace hE := rb_t5 hE c4
      refine h _ _ ?_
      · refine and_5 ?_ (fun o9 => hE)  -- q11
        clear h hE; grind (splits := 30) [tK, eM, sg, nb, validC, validV, tyF, tyN, eB]
  have hj34 : ∀ (l1 : Int32) (τ : rS), ((((∀ k, k ≠ 10 → k ≠ 11 → k ≠ 12 → τ.1 k = σ.1 k) ∧ τ.2 = σ.2) ∧ tK τ B T ∧ l1 = σ.1 10 ∧ (σ.1 46 ≠ 0 → τ.1 11 = 0) ∧ (τ.1 11 = 0 → τ.1 10 = σ.1 10 + 1 ∧ rd σ 5 (σ.1 10 + 1) ≠ 4 ∧ ¬ sg (σ.2.2.1 5) (σ.2.2.1 7) (σ.1 10 + 1) 40)) ∧ g5_named σ = g5_named_34 l1 τ) → w_named_34 C Q  l1 τ := by
    rintro y34_1 τ34 ⟨j34, hE⟩
    unfold w_named_34
    refine isRight_g5 hC  (fun r18 q20 => ?_)
    obtain ⟨q20, z9⟩ := q20
    replace hE := rb_p5 hE z9
    clear z9
    refine ⟨fun c21 => ?_, fun c21 => ?_⟩
    · skip
      replace hE := rb_f5 hE c21
      refine isAt_g5 hC  ?_ (fun r22 q24 => ?_)
      · clear h hE; grind (splits := 30) [tK, eM, sg, nb, validC, validV, tyF, tyN, eB]  -- p12
      obtain ⟨q24, z9⟩ := q24
      replace hE := rb_p5 hE z9
      clear z9
      refine ⟨fun c25 => ?_, fun c25 => ?_⟩
      · skip
        replace hE := rb_f5 hE c25
        refine hj79 _ _ _ ?_
        · refine and_5 ?_ (fun o9 => hE)  -- k13
          clear h hE; grind (splits := 30) [tK, eM, sg, nb, validC, validV, tyF, tyN, eB]
      · skip
        replace hE := rb_t5 hE c25
        refine ⟨fun c26 => ?_, fun c26 => ?_⟩
        · skip
          replace hE := rb_t5 hE c26
          refine variableOf_g5 hC  ?_ (fun r27 q29 => ?_)
          · clear h hE; grind (splits := 30) [tK, eM, sg, nb, validC, validV, tyF, tyN, eB]  -- p14
          obtain ⟨q29, z9⟩ := q29
          replace hE := rb_p5 hE z9
          clear z9
          refine look_g5 hC  ?_ (fun σ_30 q31 => ?_)
          · clear h hE; grind (splits := 30) [tK, eM, sg, nb, validC, validV, tyF, tyN, eB]  -- p15
          obtain ⟨q31, z9⟩ := q31
          replace hE := rb_p5 hE z9.symm
          clear z9
          refine hj79 _ _ _ ?_
          · refine and_5 ?_ (fun o9 => hE)  -- k16
            clear h hE; grind (splits := 30) [tK, eM, sg, nb, validC, validV, tyF, tyN, eB]
        · skip
          replace hE := rb_f5 hE c26
          refine arrayOf_g5 hC  ?_ (fun r32 q34 => ?_)
          · clear h hE; grind (splits := 30) [tK, eM, sg, nb, validC, validV, tyF, tyN, eB]  -- p17
          obtain ⟨q34, z9⟩ := q34
          replace hE := rb_p5 hE z9
          clear z9
          refine look_g5 hC  ?_ (fun σ_35 q36 => ?_)
          · clear h hE; grind (splits := 30) [tK, eM, sg, nb, validC, validV, tyF, tyN, eB]  -- p18
          obtain ⟨q36, z9⟩ := q36
          replace hE := rb_p5 hE z9.symm
          clear z9
          refine hj79 _ _ _ ?_
          · refine and_5 ?_ (fun o9 => hE)  -- k19
            clear h hE; grind (splits := 30) [tK, eM, sg, nb, validC, validV, tyF, tyN, eB]
    · skip
      replace hE := rb_t5 hE c21
      refine h _ _ ?_
      · refine and_5 ?_ (fun o9 => hE)  -- q20
        clear h hE; grind (splits := 30) [tK, eM, sg, nb, validC, validV, tyF, tyN, eB]
  have hE : g5_named σ = g5_named σ := rfl
  intro x37 hx37
  replace hE := rb_p5 hE hx37
  refine go_g5 hC B T ?_ (fun σ_38 q39 => ?_)
  · clear h hE; grind (splits := 30) [tK, eM, sg, nb, validC, validV, tyF, tyN, eB]  -- p21
  obtain ⟨q39, z9⟩ := q39
  replace hE := rb_p5 hE z9.symm
  clear z9
  refine isRight_g5 hC  (fun r40 q42 => ?_)
  obtain ⟨q42, z9⟩ := q42
  replace hE := rb_p5 hE z9
  clear z9
  refine ⟨fun c43 => ?_, fun c43 => ?_⟩
  · skip
    replace hE := rb_t5 hE c43
    refine hj34 _ _ ?_
    · refine and_5 ?_ (fun o9 => hE)  -- k22
      clear h hE; grind (splits := 30) [tK, eM, sg, nb, validC, validV, tyF, tyN, eB]
  · skip
    replace hE := rb_f5 hE c43
    refine isAt_g5 hC  ?_ (fun r44 q46 => ?_)
    · clear h hE; grind (splits := 30) [tK, eM, sg, nb, validC, validV, tyF, tyN, eB]  -- p23
    obtain ⟨q46, z9⟩ := q46
    replace hE := rb_p5 hE z9
    clear z9
    refine ⟨fun c47 => ?_, fun c47 => ?_⟩
    · skip
      replace hE := rb_t5 hE c47
      refine hj34 _ _ ?_
      · refine and_5 ?_ (fun o9 => hE)  -- k24
        clear h hE; grind (splits := 30) [tK, eM, sg, nb, validC, validV, tyF, tyN, eB]
    · skip
      replace hE := rb_f5 hE c47
      refine flaw_g5 hC  ?_ (fun σ_48 q49 => ?_)
      · clear h hE; grind (splits := 30) [tK, eM, sg, nb, validC, validV, tyF, tyN, eB]  -- p25
      obtain ⟨q49, z9⟩ := q49
      replace hE := rb_p5 hE z9.symm
      clear z9
      refine hj34 _ _ ?_
      · refine and_5 ?_ (fun o9 => hE)  -- k26
        clear h hE; grind (splits := 30) [tK, eM, sg, nb, validC, validV, tyF, tyN, eB]
