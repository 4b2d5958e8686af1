section
set_option maxHeartbeats 1600000
/-! the reference: names in expressions -/
theorem named_g5 {C : rCx} (hC : cOK C) (B T A : Int32) (c0 : Nat) {σ : rS}  {Q : Int32 → rS → Prop} (hp : eQ σ B T A c0 0 ∧ rd σ 5 (σ.1 10) = 1 ∧ (σ.1 46 ≠ 0 → ∃ st' a' W', eOp (σ.2.2.1 5) (σ.2.2.1 7) (σ.2.2.1 39) (σ.1 10) (eW σ) st' a' W')) (h : ∀ (v : Int32) (σ' : rS), ((((∀ k, k ≠ 10 → k ≠ 11 → k ≠ 12 → k ≠ 13 → k ≠ 48 → k ≠ 49 → σ'.1 k = σ.1 k) ∧ (∀ k,  σ'.2.1 k = σ.2.1 k) ∧ (∀ k, k ≠ 39 → k ≠ 50 → k ≠ 51 → k ≠ 52 → σ'.2.2.1 k = σ.2.2.1 k) ∧ (∀ k j, k ≠ 39 → k ≠ 50 → k ≠ 51 → k ≠ 52 → σ'.2.2.1 k j = σ.2.2.1 k j) ∧ (∀ k j,  σ'.2.2.2 k j = σ.2.2.2 k j)) ∧ tK σ' B T ∧ nb v ∧ (σ.1 46 ≠ 0 → σ'.1 11 = 0 ∧ σ'.2.2.1 39 = σ.2.2.1 39) ∧ (∀ j, j ≠ (σ.1 10).toNatClampNeg → σ'.2.2.1 39 j = σ.2.2.1 39 j) ∧ (σ'.1 11 = 0 → eOp (σ'.2.2.1 5) (σ'.2.2.1 7) (σ'.2.2.1 39) (σ.1 10) (eW σ) v (σ'.1 10) (eW σ') ∧ eI (σ'.1 48) (σ'.1 49) (eW σ') v (σ'.1 10 - A) ∧ eO (σ'.1 13) (eW σ') c0)) ∧ g5_named σ = (σ', v)) → Q v σ') : cI C 4 m_named [.ref (co C)] σ Q := by
  refine m_named_run hC ?_
  unfold w_named_0
  obtain ⟨⟨hK, hL, hM, hF, hN, hA, h11, h47, hI, hO⟩, hs1, hm⟩ := hp
  have h66 := eI_66 hI
  have hm2 := fun e => eOp_at1 (hm e) hs1
  have hj79 : ∀ (l1 : Int32) (l2 : Int32) (τ : rS), ((((∀ k, k ≠ 10 → k ≠ 11 → k ≠ 12 → τ.1 k = σ.1 k) ∧ (∀ k,  τ.2.1 k = σ.2.1 k) ∧ (∀ k, k ≠ 39 → τ.2.2.1 k = σ.2.2.1 k) ∧ (∀ k j, k ≠ 39 → τ.2.2.1 k j = σ.2.2.1 k j) ∧ (∀ k j,  τ.2.2.2 k j = σ.2.2.2 k j)) ∧ tK τ B T ∧ l1 = σ.1 10 ∧ (σ.1 46 ≠ 0 → τ.1 11 = 0 ∧ τ.2.2.1 39 = σ.2.2.1 39) ∧ (∀ j, j ≠ (σ.1 10).toNatClampNeg → τ.2.2.1 39 j = σ.2.2.1 39 j) ∧ (τ.1 11 = 0 → τ.1 10 = σ.1 10 + 1 ∧ rd σ 5 (σ.1 10 + 1) ≠ 4 ∧ ¬ sg (σ.2.2.1 5) (σ.2.2.1 7) (σ.1 10 + 1) 40 ∧ (l2 ≠ 0 ↔ sg (σ.2.2.1 5) (σ.2.2.1 7) (σ.1 10 + 1) 91) ∧ (l2 ≠ 0 → validC (rd τ 39 (σ.1 10))) ∧ (l2 = 0 → validV (rd τ 39 (σ.1 10))))) ∧ g5_named σ = g5_named_79 l1 l2 τ) → w_named_79 C Q  l1 l2 τ := by
    rintro y79_1 y79_2 τ79 ⟨j79, hE⟩
    unfold w_named_79
    refine isRight_g5 hC  (fun r1 q3 => ?_)
    obtain ⟨q3, z9⟩ := q3
    replace hE := rb_p5 hE z9
    clear z9
    refine ⟨fun c4 => ?_, fun c4 => ?_⟩
    · skip
      replace hE := rb_f5 hE c4
      refine ⟨fun c5 => ?_, fun c5 => ?_⟩
      · skip
        replace hE := rb_t5 hE c5
        refine ⟨fun c6 => ?_, fun c6 => ?_⟩
        · skip
          replace hE := rb_f5 hE c6
          refine ⟨ib_131074.mpr ?_, ?_⟩
          · clear h hE; grind (splits := 30) [tK, eM, sg, nb, validC, validV, tyF, tyN, eB]  -- b1
          refine valueOf_g5 hC  ?_ (fun r7 q9 => ?_)
          · clear h hE; grind (splits := 30) [tK, eM, sg, nb, validC, validV, tyF, tyN, eB]  -- p2
          obtain ⟨q9, z9⟩ := q9
          replace hE := rb_p5 hE z9
          clear z9
          refine push_g5 hC  ?_ (fun σ_10 q11 => ?_)
          · clear h hE; grind (splits := 30) [tK, eM, sg, nb, validC, validV, tyF, tyN, eB]  -- p3
          obtain ⟨q11, z9⟩ := q11
          replace hE := rb_p5 hE z9.symm
          clear z9
          refine h _ _ ?_
          · refine and_5 ?_ (fun o9 => hE)  -- q4
            clear h hE; have m5 : σ_10.2.2.1 5 = σ.2.2.1 5 := by grind
            have m7 : σ_10.2.2.1 7 = σ.2.2.1 7 := by grind
            have m39 : σ_10.2.2.1 39 = τ79.2.2.1 39 := by grind
            have mW : eW σ_10 = turnW (eW σ) := by grind
            have ma : σ_10.1 10 = σ.1 10 + 1 ∧ σ_10.1 11 = 0 ∧ 0 ≤ σ_10.1 48 ∧ σ_10.1 48 ≤ σ.1 48 ∧ σ_10.1 49 = σ.1 49 + 1 ∧ σ_10.1 13 = σ.1 13 := by grind
            have mv : validV (rd τ79 39 (σ.1 10)) ∧ ¬ sg (σ.2.2.1 5) (σ.2.2.1 7) (σ.1 10 + 1) 40 ∧ ¬ sg (σ.2.2.1 5) (σ.2.2.1 7) (σ.1 10 + 1) 91 ∧ rd σ 5 (σ.1 10 + 1) ≠ 4 := by grind
            have mT : tK σ_10 B T := by grind [tK]
            refine ⟨by grind, mT, nb_1, by grind, by grind, fun _ => ⟨?_, ?_, ?_⟩⟩
            · rw [m5, m7, m39]; exact eOp_name hs1 mv.2.1 mv.2.2.1 mv.1 mv.2.2.2 ma.1 mW
            · rw [mW, ma.2.2.2.2.1, ma.1]
              have u := pL_up hL (k := 1) (Or.inl rfl) (by rw [← ma.1]; exact mT.2.2.2.2.2)
              exact eI_push hI ma.2.2.1 ma.2.2.2.1 u.1 u.2.1
            · rw [mW, ma.2.2.2.2.2]; exact eO_turn hO
        · skip
          replace hE := rb_t5 hE c6
          refine push_g5 hC  ?_ (fun σ_12 q13 => ?_)
          · clear h hE; grind (splits := 30) [tK, eM, sg, nb, validC, validV, tyF, tyN, eB]  -- p5
          obtain ⟨q13, z9⟩ := q13
          replace hE := rb_p5 hE z9.symm
          clear z9
          refine h _ _ ?_
          · refine and_5 ?_ (fun o9 => hE)  -- q6
            clear h hE; have m5 : σ_12.2.2.1 5 = σ.2.2.1 5 := by grind
            have m7 : σ_12.2.2.1 7 = σ.2.2.1 7 := by grind
            have m39 : σ_12.2.2.1 39 = τ79.2.2.1 39 := by grind
            have mW : eW σ_12 = turnW (eW σ) := by grind
            have ma : σ_12.1 10 = σ.1 10 + 1 ∧ σ_12.1 11 = 0 ∧ 0 ≤ σ_12.1 48 ∧ σ_12.1 48 ≤ σ.1 48 ∧ σ_12.1 49 = σ.1 49 + 1 ∧ σ_12.1 13 = σ.1 13 := by grind
            have mv : validV (rd τ79 39 (σ.1 10)) ∧ ¬ sg (σ.2.2.1 5) (σ.2.2.1 7) (σ.1 10 + 1) 40 ∧ ¬ sg (σ.2.2.1 5) (σ.2.2.1 7) (σ.1 10 + 1) 91 ∧ rd σ 5 (σ.1 10 + 1) ≠ 4 := by grind
            have mT : tK σ_12 B T := by grind [tK]
            refine ⟨by grind, mT, nb_1, by grind, by grind, fun _ => ⟨?_, ?_, ?_⟩⟩
            · rw [m5, m7, m39]; exact eOp_name hs1 mv.2.1 mv.2.2.1 mv.1 mv.2.2.2 ma.1 mW
            · rw [mW, ma.2.2.2.2.1, ma.1]
              have u := pL_up hL (k := 1) (Or.inl rfl) (by rw [← ma.1]; exact mT.2.2.2.2.2)
              exact eI_push hI ma.2.2.1 ma.2.2.2.1 u.1 u.2.1
            · rw [mW, ma.2.2.2.2.2]; exact eO_turn hO
      · skip
        replace hE := rb_f5 hE c5
        refine open_g5 hC B T ?_ (fun σ_14 q15 => ?_)
        · clear h hE; grind (splits := 30) [tK, eM, sg, nb, validC, validV, tyF, tyN, eB]  -- p7
        obtain ⟨q15, z9⟩ := q15
        replace hE := rb_p5 hE z9.symm
        clear z9
        refine ⟨ib_131074.mpr ?_, ?_⟩
        · clear h hE; grind (splits := 30) [tK, eM, sg, nb, validC, validV, tyF, tyN, eB]  -- b8
        refine hold_g5 hC  ?_ (fun σ_16 q17 => ?_)
        · clear h hE; grind (splits := 30) [tK, eM, sg, nb, validC, validV, tyF, tyN, eB]  -- p9
        obtain ⟨q17, z9⟩ := q17
        replace hE := rb_p5 hE z9.symm
        clear z9
        refine h _ _ ?_
        · refine and_5 ?_ (fun o9 => hE)  -- q10
          clear h hE; have m5 : σ_16.2.2.1 5 = σ.2.2.1 5 := by grind
          have m7 : σ_16.2.2.1 7 = σ.2.2.1 7 := by grind
          have m39 : σ_16.2.2.1 39 = τ79.2.2.1 39 := by grind
          have m0 : τ79.1 11 = 0 := by grind
          have mv : sg (σ.2.2.1 5) (σ.2.2.1 7) (σ.1 10 + 1) 91 ∧ validC (rd τ79 39 (σ.1 10)) ∧ τ79.1 10 = σ.1 10 + 1 := by grind
          have mW : eW σ_16 = (91, rd τ79 39 (σ.1 10)) :: eW σ := by grind
          have mo : σ_14.1 11 = 0 ↔ rd σ 5 (σ.1 10 + 2) ≠ 4 ∧ σ.1 13 ≠ 40 := by grind [sg]
          have k0 : σ.1 46 ≠ 0 → σ_14.1 11 = 0 := by
            intro hm'
            have k1 := eOp_at1 (hm hm') hs1
            have k2 : σ.1 13 ≠ 40 := by
              have : c0 = 0 := by rcases hM with q | q; exact absurd q hm'; exact q.2.2.2
              subst this
              exact eO_40 hO (k1.2.2.1 mv.1).1
            exact mo.mpr ⟨(k1.2.2.1 mv.1).2.2, k2⟩
          have mT : tK σ_16 B T := by grind [tK]
          have ma : σ_14.1 11 = 0 → σ_16.1 10 = σ.1 10 + 2 ∧ σ_16.1 48 = σ.1 48 + 1 ∧ σ_16.1 49 = σ.1 49 ∧ σ_16.1 13 = σ.1 13 + 1 := by grind
          have m11 : σ_16.1 11 = σ_14.1 11 := by grind
          refine ⟨by grind, mT, nb_0, by grind, by grind, fun hf => ?_⟩
          rw [m11] at hf
          have k6 := eO_open (s := 91) (f := rd τ79 39 (σ.1 10)) hO (mo.mp hf).2 (Or.inr rfl)
          refine ⟨?_, ?_, ?_⟩
          · rw [m5, m7, m39]; exact eOp_cell hs1 mv.1 k6.2 mv.2.1 (mo.mp hf).1 (ma hf).1 mW
          · rw [mW, (ma hf).2.1, (ma hf).2.2.1, (ma hf).1]
            have u := pL_up hL (k := 2) (Or.inr rfl) (by rw [← (ma hf).1]; exact mT.2.2.2.2.2)
            exact eI_hold0 hI (Or.inr (Or.inr ⟨rfl, mv.2.1⟩)) u.1 u.2.1
          · rw [mW, (ma hf).2.2.2]; exact k6.1
    · skip
      replace hE := rb_t5 hE c4
      refine h _ _ ?_
      · refine and_5 ?_ (fun o9 => hE)  -- q11
        clear h hE; grind (splits := 30) [tK, eM, sg, nb, validC, validV, tyF, tyN, eB]
  have hj34 : ∀ (l1 : Int32) (τ : rS), ((((∀ k, k ≠ 10 → k ≠ 11 → k ≠ 12 → τ.1 k = σ.1 k) ∧ τ.2 = σ.2) ∧ tK τ B T ∧ l1 = σ.1 10 ∧ (σ.1 46 ≠ 0 → τ.1 11 = 0) ∧ (τ.1 11 = 0 → τ.1 10 = σ.1 10 + 1 ∧ rd σ 5 (σ.1 10 + 1) ≠ 4 ∧ ¬ sg (σ.2.2.1 5) (σ.2.2.1 7) (σ.1 10 + 1) 40)) ∧ g5_named σ = g5_named_34 l1 τ) → w_named_34 C Q  l1 τ := by
    rintro y34_1 τ34 ⟨j34, hE⟩
    unfold w_named_34
    refine isRight_g5 hC  (fun r18 q20 => ?_)
    obtain ⟨q20, z9⟩ := q20
    replace hE := rb_p5 hE z9
    clear z9
    refine ⟨fun c21 => ?_, fun c21 => ?_⟩
    · skip
      replace hE := rb_f5 hE c21
      refine isAt_g5 hC  ?_ (fun r22 q24 => ?_)
      · clear h hE; grind (splits := 30) [tK, eM, sg, nb, validC, validV, tyF, tyN, eB]  -- p12
      obtain ⟨q24, z9⟩ := q24
      replace hE := rb_p5 hE z9
      clear z9
      refine ⟨fun c25 => ?_, fun c25 => ?_⟩
      · skip
        replace hE := rb_f5 hE c25
        refine hj79 _ _ _ ?_
        · refine and_5 ?_ (fun o9 => hE)  -- k13
          clear h hE; grind (splits := 30) [tK, eM, sg, nb, validC, validV, tyF, tyN, eB]
      · skip
        replace hE := rb_t5 hE c25
        refine ⟨fun c26 => ?_, fun c26 => ?_⟩
        · skip
          replace hE := rb_t5 hE c26
          refine variableOf_g5 hC  ?_ (fun r27 q29 => ?_)
          · clear h hE; grind (splits := 30) [tK, eM, sg, nb, validC, validV, tyF, tyN, eB]  -- p14
          obtain ⟨q29, z9⟩ := q29
          replace hE := rb_p5 hE z9
          clear z9
          refine look_g5 hC  ?_ (fun σ_30 q31 => ?_)
          · clear h hE; grind (splits := 30) [tK, eM, sg, nb, validC, validV, tyF, tyN, eB]  -- p15
          obtain ⟨q31, z9⟩ := q31
          replace hE := rb_p5 hE z9.symm
          clear z9
          refine hj79 _ _ _ ?_
          · refine and_5 ?_ (fun o9 => hE)  -- k16
            clear h hE; grind (splits := 30) [tK, eM, sg, nb, validC, validV, tyF, tyN, eB]
        · skip
          replace hE := rb_f5 hE c26
          refine arrayOf_g5 hC  ?_ (fun r32 q34 => ?_)
          · clear h hE; grind (splits := 30) [tK, eM, sg, nb, validC, validV, tyF, tyN, eB]  -- p17
          obtain ⟨q34, z9⟩ := q34
          replace hE := rb_p5 hE z9
          clear z9
          refine look_g5 hC  ?_ (fun σ_35 q36 => ?_)
          · clear h hE; grind (splits := 30) [tK, eM, sg, nb, validC, validV, tyF, tyN, eB]  -- p18
          obtain ⟨q36, z9⟩ := q36
          replace hE := rb_p5 hE z9.symm
          clear z9
          refine hj79 _ _ _ ?_
          · refine and_5 ?_ (fun o9 => hE)  -- k19
            clear h hE; grind (splits := 30) [tK, eM, sg, nb, validC, validV, tyF, tyN, eB]
    · skip
      replace hE := rb_t5 hE c21
      refine h _ _ ?_
      · refine and_5 ?_ (fun o9 => hE)  -- q20
        clear h hE; grind (splits := 30) [tK, eM, sg, nb, validC, validV, tyF, tyN, eB]
  have hE : g5_named σ = g5_named σ := rfl
  intro x37 hx37
  replace hE := rb_p5 hE hx37
  refine go_g5 hC B T ?_ (fun σ_38 q39 => ?_)
  · clear h hE; grind (splits := 30) [tK, eM, sg, nb, validC, validV, tyF, tyN, eB]  -- p21
  obtain ⟨q39, z9⟩ := q39
  replace hE := rb_p5 hE z9.symm
  clear z9
  refine isRight_g5 hC  (fun r40 q42 => ?_)
  obtain ⟨q42, z9⟩ := q42
  replace hE := rb_p5 hE z9
  clear z9
  refine ⟨fun c43 => ?_, fun c43 => ?_⟩
  · skip
    replace hE := rb_t5 hE c43
    refine hj34 _ _ ?_
    · refine and_5 ?_ (fun o9 => hE)  -- k22
      clear h hE; grind (splits := 30) [tK, eM, sg, nb, validC, validV, tyF, tyN, eB]
  · skip
    replace hE := rb_f5 hE c43
    refine isAt_g5 hC  ?_ (fun r44 q46 => ?_)
    · clear h hE; grind (splits := 30) [tK, eM, sg, nb, validC, validV, tyF, tyN, eB]  -- p23
    obtain ⟨q46, z9⟩ := q46
    replace hE := rb_p5 hE z9
    clear z9
    refine ⟨fun c47 => ?_, fun c47 => ?_⟩
    · skip
      replace hE := rb_t5 hE c47
      refine hj34 _ _ ?_
      · refine and_5 ?_ (fun o9 => hE)  -- k24
        clear h hE; grind (splits := 30) [tK, eM, sg, nb, validC, validV, tyF, tyN, eB]
    · skip
      replace hE := rb_f5 hE c47
      refine flaw_g5 hC  ?_ (fun σ_48 q49 => ?_)
      · clear h hE; grind (splits := 30) [tK, eM, sg, nb, validC, validV, tyF, tyN, eB]  -- p25
      obtain ⟨q49, z9⟩ := q49
      replace hE := rb_p5 hE z9.symm
      clear z9
      refine hj34 _ _ ?_
      · refine and_5 ?_ (fun o9 => hE)  -- k26
        clear h hE; grind (splits := 30) [tK, eM, sg, nb, validC, validV, tyF, tyN, eB]

end
section
set_option maxHeartbeats 1600000
/-! the reference: operands -/
theorem operand_g5 {C : rCx} (hC : cOK C) (B T A : Int32) (c0 : Nat) {σ : rS}  {Q : Int32 → rS → Prop} (hp : eQ σ B T A c0 0 ∧ (σ.1 46 ≠ 0 → ∃ st' a' W', eOp (σ.2.2.1 5) (σ.2.2.1 7) (σ.2.2.1 39) (σ.1 10) (eW σ) st' a' W')) (h : ∀ (v : Int32) (σ' : rS), ((((∀ k, k ≠ 10 → k ≠ 11 → k ≠ 12 → k ≠ 13 → k ≠ 48 → k ≠ 49 → σ'.1 k = σ.1 k) ∧ (∀ k,  σ'.2.1 k = σ.2.1 k) ∧ (∀ k, k ≠ 39 → k ≠ 50 → k ≠ 51 → k ≠ 52 → σ'.2.2.1 k = σ.2.2.1 k) ∧ (∀ k j, k ≠ 39 → k ≠ 50 → k ≠ 51 → k ≠ 52 → σ'.2.2.1 k j = σ.2.2.1 k j) ∧ (∀ k j,  σ'.2.2.2 k j = σ.2.2.2 k j)) ∧ tK σ' B T ∧ nb v ∧ (σ.1 46 ≠ 0 → σ'.1 11 = 0 ∧ σ'.2.2.1 39 = σ.2.2.1 39) ∧ (∀ j, j ≠ (σ.1 10).toNatClampNeg → σ'.2.2.1 39 j = σ.2.2.1 39 j) ∧ (σ'.1 11 = 0 → eOp (σ'.2.2.1 5) (σ'.2.2.1 7) (σ'.2.2.1 39) (σ.1 10) (eW σ) v (σ'.1 10) (eW σ') ∧ eI (σ'.1 48) (σ'.1 49) (eW σ') v (σ'.1 10 - A) ∧ eO (σ'.1 13) (eW σ') c0)) ∧ g5_operand σ = (σ', v)) → Q v σ') : cI C 5 m_operand [.ref (co C)] σ Q := by
  refine m_operand_run hC ?_
  unfold w_operand_0
  obtain ⟨⟨hK, hL, hM, hF, hN, hA, h11, h47, hI, hO⟩, hm⟩ := hp
  have h66 := eI_66 hI
  have hm2 := fun e => eOp_inv (hm e)
  have hj37 : ∀ (s1 : Int32) (τ : rS), ((σ = τ ∧ ((s1 = 1000 ∧ sg (σ.2.2.1 5) (σ.2.2.1 7) (σ.1 10) 33) ∨ (s1 = 1001 ∧ sg (σ.2.2.1 5) (σ.2.2.1 7) (σ.1 10) 45))) ∧ g5_operand σ = g5_operand_37 s1 τ) → w_operand_37 C Q  s1 τ := by
    rintro y37_s1 _ ⟨⟨rfl, j37⟩, hE⟩
    unfold w_operand_37
    refine hold_g5 hC  ?_ (fun σ_1 q2 => ?_)
    · clear h hE; grind (splits := 30) [tK, eM, sg, nb, isU]  -- p1
    obtain ⟨q2, z9⟩ := q2
    replace hE := rb_p5 hE z9.symm
    clear z9
    refine go_g5 hC B T ?_ (fun σ_3 q4 => ?_)
    · clear h hE; grind (splits := 30) [tK, eM, sg, nb, isU]  -- p2
    obtain ⟨q4, z9⟩ := q4
    replace hE := rb_p5 hE z9.symm
    clear z9
    refine h _ _ ?_
    · refine and_5 ?_ (fun o9 => hE)  -- q3
      clear h hE; have m5 : σ_3.2.2.1 5 = σ.2.2.1 5 := by grind
      have m7 : σ_3.2.2.1 7 = σ.2.2.1 7 := by grind
      have m39 : σ_3.2.2.1 39 = σ.2.2.1 39 := by grind
      have mW : eW σ_3 = (y37_s1, 0) :: eW σ := by grind
      have mT : tK σ_3 B T := by grind [tK]
      have m11 : σ_3.1 11 = 0 ↔ rd σ 5 (σ.1 10 + 1) ≠ 4 := by grind
      have ma : σ_3.1 10 = σ.1 10 + 1 ∧ σ_3.1 48 = σ.1 48 + 1 ∧ σ_3.1 49 = σ.1 49 ∧ σ_3.1 13 = σ.1 13 := by grind
      refine ⟨by grind, mT, nb_0, fun e => ⟨m11.mpr ((hm2 e).2.1 (by grind [sg])), m39⟩, by grind, fun hf => ⟨?_, ?_, ?_⟩⟩
      · rw [m5, m7, m39]
        rcases j37 with ⟨rfl, q⟩ | ⟨rfl, q⟩
        · exact eOp_not q (m11.mp hf) ma.1 mW
        · exact eOp_less q (m11.mp hf) ma.1 mW
      · rw [mW, ma.2.1, ma.2.2.1, ma.1]
        have u := pL_up hL (k := 1) (Or.inl rfl) (by rw [← ma.1]; exact mT.2.2.2.2.2)
        exact eI_hold0 hI (Or.inr (Or.inl (by rcases j37 with ⟨rfl, q⟩ | ⟨rfl, q⟩; exact Or.inl rfl; exact Or.inr rfl))) u.1 u.2.1
      · rw [mW, ma.2.2.2]
        exact eO_U hO (by rcases j37 with ⟨rfl, -⟩ | ⟨rfl, -⟩ <;> decide)
  have hj18 : ∀  (τ : rS), ((σ = τ ∧ (sg (σ.2.2.1 5) (σ.2.2.1 7) (σ.1 10) 33 ∨ sg (σ.2.2.1 5) (σ.2.2.1 7) (σ.1 10) 45)) ∧ g5_operand σ = g5_operand_18 τ) → w_operand_18 C Q   τ := by
    rintro  _ ⟨⟨rfl, j18⟩, hE⟩
    unfold w_operand_18
    refine isAt_g5 hC  ?_ (fun r5 q7 => ?_)
    · clear h hE; grind (splits := 30) [tK, eM, sg, nb, isU]  -- p4
    obtain ⟨q7, z9⟩ := q7
    replace hE := rb_p5 hE z9
    clear z9
    refine ⟨fun c8 => ?_, fun c8 => ?_⟩
    · skip
      replace hE := rb_t5 hE c8
      refine hj37 _ _ ?_
      · refine and_5 ?_ (fun o9 => hE)  -- k5
        clear h hE; grind (splits := 30) [tK, eM, sg, nb, isU]
    · skip
      replace hE := rb_f5 hE c8
      refine hj37 _ _ ?_
      · refine and_5 ?_ (fun o9 => hE)  -- k6
        clear h hE; grind (splits := 30) [tK, eM, sg, nb, isU]
  have hE : g5_operand σ = g5_operand σ := rfl
  refine isAt_g5 hC  ?_ (fun r9 q11 => ?_)
  · clear h hE; grind (splits := 30) [tK, eM, sg, nb, isU]  -- p7
  obtain ⟨q11, z9⟩ := q11
  replace hE := rb_p5 hE z9
  clear z9
  refine ⟨fun c12 => ?_, fun c12 => ?_⟩
  · skip
    replace hE := rb_f5 hE c12
    refine hj18 _ ?_
    · refine and_5 ?_ (fun o9 => hE)  -- k8
      clear h hE; grind (splits := 30) [tK, eM, sg, nb, isU]
  · skip
    replace hE := rb_t5 hE c12
    refine isAt_g5 hC  ?_ (fun r13 q15 => ?_)
    · clear h hE; grind (splits := 30) [tK, eM, sg, nb, isU]  -- p9
    obtain ⟨q15, z9⟩ := q15
    replace hE := rb_p5 hE z9
    clear z9
    refine ⟨fun c16 => ?_, fun c16 => ?_⟩
    · skip
      replace hE := rb_t5 hE c16
      refine isAt_g5 hC  ?_ (fun r17 q19 => ?_)
      · clear h hE; grind (splits := 30) [tK, eM, sg, nb, isU]  -- p10
      obtain ⟨q19, z9⟩ := q19
      replace hE := rb_p5 hE z9
      clear z9
      refine ⟨fun c20 => ?_, fun c20 => ?_⟩
      · skip
        replace hE := rb_t5 hE c20
        refine ⟨ib_131074.mpr ?_, ?_⟩
        · clear h hE; grind (splits := 30) [tK, eM, sg, nb, isU]  -- b11
        refine ⟨fun c21 => ?_, fun c21 => ?_⟩
        · skip
          replace hE := rb_f5 hE c21
          refine ⟨ib_131074.mpr ?_, ?_⟩
          · clear h hE; grind (splits := 30) [tK, eM, sg, nb, isU]  -- b12
          refine ⟨fun c22 => ?_, fun c22 => ?_⟩
          · skip
            replace hE := rb_t5 hE c22
            refine named_g5 hC B T A c0 ?_ (fun r23 σ_24 q25 => ?_)
            · clear h hE; exact ⟨⟨hK, hL, hM, hF, hN, hA, h11, h47, hI, hO⟩, c22, hm⟩  -- p13
            obtain ⟨q25, z9⟩ := q25
            replace hE := rb_m5 hE z9
            clear z9
            refine ⟨?_, h _ _ ?_⟩
            · clear h hE; exact q25.2.2.1  -- b14
            · refine and_5 ?_ (fun o9 => hE)  -- q15
              clear h hE; exact q25
          · skip
            replace hE := rb_f5 hE c22
            refine flaw_g5 hC  ?_ (fun σ_26 q27 => ?_)
            · clear h hE; grind (splits := 30) [tK, eM, sg, nb, isU]  -- p16
            obtain ⟨q27, z9⟩ := q27
            replace hE := rb_p5 hE z9.symm
            clear z9
            refine h _ _ ?_
            · refine and_5 ?_ (fun o9 => hE)  -- q17
              clear h hE; grind (splits := 30) [tK, eM, sg, nb, isU]
        · skip
          replace hE := rb_t5 hE c21
          refine ⟨ib_131074.mpr ?_, ?_⟩
          · clear h hE; grind (splits := 30) [tK, eM, sg, nb, isU]  -- b18
          intro x28 hx28
          replace hE := rb_p5 hE hx28
          refine go_g5 hC B T ?_ (fun σ_29 q30 => ?_)
          · clear h hE; grind (splits := 30) [tK, eM, sg, nb, isU]  -- p19
          obtain ⟨q30, z9⟩ := q30
          replace hE := rb_p5 hE z9.symm
          clear z9
          refine push_g5 hC  ?_ (fun σ_31 q32 => ?_)
          · clear h hE; grind (splits := 30) [tK, eM, sg, nb, isU]  -- p20
          obtain ⟨q32, z9⟩ := q32
          replace hE := rb_p5 hE z9.symm
          clear z9
          refine h _ _ ?_
          · refine and_5 ?_ (fun o9 => hE)  -- q21
            clear h hE; have m5 : σ_31.2.2.1 5 = σ.2.2.1 5 := by grind
            have m7 : σ_31.2.2.1 7 = σ.2.2.1 7 := by grind
            have m39 : σ_31.2.2.1 39 = σ.2.2.1 39 := by grind
            have mW : eW σ_31 = turnW (eW σ) := by grind
            have mT : tK σ_31 B T := by grind [tK]
            have m11 : σ_31.1 11 = 0 ↔ rd σ 5 (σ.1 10 + 1) ≠ 4 := by grind
            have ma : σ_31.1 10 = σ.1 10 + 1 ∧ 0 ≤ σ_31.1 48 ∧ σ_31.1 48 ≤ σ.1 48 ∧ σ_31.1 49 = σ.1 49 + 1 ∧ σ_31.1 13 = σ.1 13 := by grind
            refine ⟨by grind, mT, nb_1, fun e => ⟨m11.mpr ((hm2 e).2.1 (by grind)), m39⟩, by grind, fun hf => ⟨?_, ?_, ?_⟩⟩
            · rw [m5, m7, m39]; exact eOp_num c21 (m11.mp hf) ma.1 mW
            · rw [mW, ma.2.2.2.1, ma.1]
              have u := pL_up hL (k := 1) (Or.inl rfl) (by rw [← ma.1]; exact mT.2.2.2.2.2)
              exact eI_push hI ma.2.1 ma.2.2.1 u.1 u.2.1
            · rw [mW, ma.2.2.2.2]; exact eO_turn hO
      · skip
        replace hE := rb_f5 hE c20
        refine open_g5 hC B T ?_ (fun σ_33 q34 => ?_)
        · clear h hE; grind (splits := 30) [tK, eM, sg, nb, isU]  -- p22
        obtain ⟨q34, z9⟩ := q34
        replace hE := rb_p5 hE z9.symm
        clear z9
        refine hold_g5 hC  ?_ (fun σ_35 q36 => ?_)
        · clear h hE; grind (splits := 30) [tK, eM, sg, nb, isU]  -- p23
        obtain ⟨q36, z9⟩ := q36
        replace hE := rb_p5 hE z9.symm
        clear z9
        refine h _ _ ?_
        · refine and_5 ?_ (fun o9 => hE)  -- q24
          clear h hE; have m5 : σ_35.2.2.1 5 = σ.2.2.1 5 := by grind
          have m7 : σ_35.2.2.1 7 = σ.2.2.1 7 := by grind
          have m39 : σ_35.2.2.1 39 = σ.2.2.1 39 := by grind
          have mW : eW σ_35 = (40, 0) :: eW σ := by grind
          have mT : tK σ_35 B T := by grind [tK]
          have ms : sg (σ.2.2.1 5) (σ.2.2.1 7) (σ.1 10) 40 := by grind [sg]
          have mo : σ_33.1 11 = 0 ↔ rd σ 5 (σ.1 10 + 1) ≠ 4 ∧ σ.1 13 ≠ 40 := by grind [sg]
          have m11 : σ_35.1 11 = σ_33.1 11 := by grind
          have ma : σ_33.1 11 = 0 → σ_35.1 10 = σ.1 10 + 1 ∧ σ_35.1 48 = σ.1 48 + 1 ∧ σ_35.1 49 = σ.1 49 ∧ σ_35.1 13 = σ.1 13 + 1 := by grind
          have k0 : σ.1 46 ≠ 0 → σ_35.1 11 = 0 := by
            intro hm'
            have k2 : σ.1 13 ≠ 40 := by
              have : c0 = 0 := by rcases hM with q | q; exact absurd q hm'; exact q.2.2.2
              subst this
              exact eO_40 hO ((hm2 hm').2.2 ms)
            exact m11.trans (mo.mpr ⟨(hm2 hm').2.1 (by grind [sg]), k2⟩)
          refine ⟨by grind, mT, nb_0, fun e => ⟨k0 e, m39⟩, by grind, fun hf => ?_⟩
          rw [m11] at hf
          have k6 := eO_open (s := 40) (f := 0) hO (mo.mp hf).2 (Or.inl rfl)
          refine ⟨?_, ?_, ?_⟩
          · rw [m5, m7, m39]; exact eOp_par ms k6.2 (mo.mp hf).1 (ma hf).1 mW
          · rw [mW, (ma hf).2.1, (ma hf).2.2.1, (ma hf).1]
            have u := pL_up hL (k := 1) (Or.inl rfl) (by rw [← (ma hf).1]; exact mT.2.2.2.2.2)
            exact eI_hold0 hI (Or.inl rfl) u.1 u.2.1
          · rw [mW, (ma hf).2.2.2]; exact k6.1
    · skip
      replace hE := rb_f5 hE c16
      refine hj18 _ ?_
      · refine and_5 ?_ (fun o9 => hE)  -- k25
        clear h hE; grind (splits := 30) [tK, eM, sg, nb, isU]

end
section
set_option maxHeartbeats 1600000
/-! the reference: behind an operand -/
theorem behind_g5 {C : rCx} (hC : cOK C) (B T A : Int32) (c0 : Nat) {σ : rS}  {Q : Int32 → rS → Prop} (hp : eQ σ B T A c0 1 ∧ (σ.1 46 ≠ 0 → ∃ st' a' W', eBh (σ.2.2.1 5) (σ.2.2.1 7) (σ.1 10) (eW σ) st' a' W')) (h : ∀ (v : Int32) (σ' : rS), ((((∀ k, k ≠ 10 → k ≠ 11 → k ≠ 12 → k ≠ 13 → k ≠ 47 → k ≠ 48 → k ≠ 49 → σ'.1 k = σ.1 k) ∧ (∀ k,  σ'.2.1 k = σ.2.1 k) ∧ (∀ k, k ≠ 50 → k ≠ 51 → k ≠ 52 → σ'.2.2.1 k = σ.2.2.1 k) ∧ (∀ k j, k ≠ 50 → k ≠ 51 → k ≠ 52 → σ'.2.2.1 k j = σ.2.2.1 k j) ∧ (∀ k j,  σ'.2.2.2 k j = σ.2.2.2 k j)) ∧ tK σ' B T ∧ (v = 0 ∨ v = 1 ∨ v = 2) ∧ (σ.1 46 = 0 → σ'.1 47 = 0) ∧ (σ.1 46 ≠ 0 → σ'.1 47 = 0 → σ'.1 11 = 0) ∧ (σ'.1 11 = 0 → σ'.1 47 = 0 → eBh (σ.2.2.1 5) (σ.2.2.1 7) (σ.1 10) (eW σ) v (σ'.1 10) (eW σ') ∧ (v ≠ 2 → eI (σ'.1 48) (σ'.1 49) (eW σ') v (σ'.1 10 - A)) ∧ eO (σ'.1 13) (eW σ') c0)) ∧ g5_behind σ = (σ', v)) → Q v σ') : cI C 5 m_behind [.ref (co C)] σ Q := by
  refine m_behind_run hC ?_
  unfold w_behind_0
  obtain ⟨⟨hK, hL, hM, hF, hN, hA, h11, h47, hI, hO⟩, hm⟩ := hp
  have h66 := eI_66 hI
  have hm2 := fun e => eBh_inv (hm e)
  have hj245 : ∀  (τ : rS), ((((∀ k, k ≠ 10 → k ≠ 11 → k ≠ 12 → k ≠ 13 → k ≠ 47 → k ≠ 48 → k ≠ 49 → τ.1 k = σ.1 k) ∧ (∀ k,  τ.2.1 k = σ.2.1 k) ∧ (∀ k, k ≠ 52 → τ.2.2.1 k = σ.2.2.1 k) ∧ (∀ k j, k ≠ 52 → τ.2.2.1 k j = σ.2.2.1 k j) ∧ (∀ k j,  τ.2.2.2 k j = σ.2.2.2 k j)) ∧ tK τ B T ∧ 0 ≤ τ.1 48 ∧ τ.1 48 ≤ 65600 ∧ 1 ≤ τ.1 49 ∧ τ.1 49 ≤ 65600 ∧ (σ.1 46 = 0 → τ.1 47 = 0) ∧ (σ.1 46 ≠ 0 → τ.1 47 = 0 → τ.1 11 = 0) ∧ (τ.1 11 = 0 → τ.1 47 = 0 → ¬ eGo (eRk (σ.2.2.1 5) (σ.2.2.1 7) (σ.1 10)) (eP1 (σ.2.2.1 5) (σ.2.2.1 7) (σ.1 10) (eW σ)) ∧ sg (σ.2.2.1 5) (σ.2.2.1 7) (σ.1 10) 93 ∧ rd σ 5 (σ.1 10 + 1) ≠ 4 ∧ τ.1 10 = σ.1 10 + 1 ∧ τ.1 13 = σ.1 13 - 1 ∧ ∃ f, popW 1 (eP1 (σ.2.2.1 5) (σ.2.2.1 7) (σ.1 10) (eW σ)) = (91, f) :: eW τ ∧ eI (τ.1 48 + 1) (τ.1 49) ((91, f) :: eW τ) 1 (σ.1 10 - A))) ∧ g5_behind σ = g5_behind_245 τ) → w_behind_245 C Q   τ := by
    rintro  τ245 ⟨j245, hE⟩
    unfold w_behind_245
    refine goesOn_g5 hC  (fun r1 q3 => ?_)
    obtain ⟨q3, z9⟩ := q3
    replace hE := rb_p5 hE z9
    clear z9
    refine ⟨fun c4 => ?_, fun c4 => ?_⟩
    · skip
      replace hE := rb_t5 hE c4
      refine h _ _ ?_
      · refine and_5 ?_ (fun o9 => hE)  -- q1
        clear h hE; (try clear hj245); (try clear hj216); (try clear hj93); (try clear hj73); (try clear hj50); (try clear hj29); grind (splits := 30) [tK, eM, sg, nb, isU]
    · skip
      replace hE := rb_f5 hE c4
      refine turn_g5 hC  ?_ (fun σ_5 q6 => ?_)
      · clear h hE; (try clear hj245); (try clear hj216); (try clear hj93); (try clear hj73); (try clear hj50); (try clear hj29); grind (splits := 30) [tK, eM, sg, nb, isU]  -- p2
      obtain ⟨q6, z9⟩ := q6
      replace hE := rb_p5 hE z9.symm
      clear z9
      refine h _ _ ?_
      · refine and_5 ?_ (fun o9 => hE)  -- q3
        clear h hE; (try clear hj245); (try clear hj216); (try clear hj93); (try clear hj73); (try clear hj50); (try clear hj29); obtain ⟨jf, jT, j1, j2, j3, j4, j5, j6, j7⟩ := j245
        have g : τ245.1 11 = 0 ∧ τ245.1 47 = 0 := by grind
        obtain ⟨n1, n2, n3, n4, n5, f, n6, n7⟩ := j7 g.1 g.2
        have mW : eW σ_5 = turnW (eW τ245) := q6.2.1
        have ma : σ_5.1 10 = σ.1 10 + 1 ∧ σ_5.1 49 = τ245.1 49 ∧ σ_5.1 13 = σ.1 13 - 1 ∧ 0 ≤ σ_5.1 48 ∧ σ_5.1 48 ≤ τ245.1 48 + 1 := by clear j7 n7 hm hm2 hI hO; grind
        have mT : tK σ_5 B T := by grind [tK]
        have u := pL_up hL (k := 1) (Or.inl rfl) (by rw [← ma.1]; exact mT.2.2.2.2.2)
        refine ⟨by grind, mT, Or.inr (Or.inl rfl), by grind, by grind, fun _ _ => ⟨eBh_91 n1 n6 n2 n3 ma.1 mW, fun _ => ?_, ?_⟩⟩
        · rw [mW, ma.2.1, ma.1]
          exact eI_close n7 (Or.inr rfl) ma.2.2.2.1 ma.2.2.2.2 (Int32.le_of_lt u.1) u.2.1
        · rw [mW, ma.2.2.1]
          have o := eO_pop2 (l := 1) (m := eLv (eRk (σ.2.2.1 5) (σ.2.2.1 7) (σ.1 10))) hO
          rw [n6] at o
          exact eO_close o (Or.inr rfl)
  have hj216 : ∀ (l3 : Int32) (s1 : Int32) (τ : rS), ((((l3 = -1 ∨ (0 ≤ l3 ∧ l3 < 34)) ∧ 0 ≤ s1) ∧ σ.1 46 ≠ 0 ∧ ((∀ k, k ≠ 10 → k ≠ 11 → k ≠ 12 → k ≠ 13 → k ≠ 47 → k ≠ 48 → k ≠ 49 → τ.1 k = σ.1 k) ∧ (∀ k,  τ.2.1 k = σ.2.1 k) ∧ (∀ k, k ≠ 52 → τ.2.2.1 k = σ.2.2.1 k) ∧ (∀ k j, k ≠ 52 → τ.2.2.1 k j = σ.2.2.1 k j) ∧ (∀ k j,  τ.2.2.2 k j = σ.2.2.2 k j)) ∧ tK τ B T ∧ 0 ≤ τ.1 48 ∧ τ.1 48 ≤ 65600 ∧ 1 ≤ τ.1 49 ∧ τ.1 49 ≤ 65600 ∧ (τ.1 47 = 0 → τ.1 11 = 0) ∧ τ.1 47 = 0 ∧ (τ.1 11 = 0 → τ.1 47 = 0 → ¬ eGo (eRk (σ.2.2.1 5) (σ.2.2.1 7) (σ.1 10)) (eP1 (σ.2.2.1 5) (σ.2.2.1 7) (σ.1 10) (eW σ)) ∧ sg (σ.2.2.1 5) (σ.2.2.1 7) (σ.1 10) 93 ∧ rd σ 5 (σ.1 10 + 1) ≠ 4 ∧ τ.1 10 = σ.1 10 + 1 ∧ τ.1 13 = σ.1 13 - 1 ∧ ∃ f, popW 1 (eP1 (σ.2.2.1 5) (σ.2.2.1 7) (σ.1 10) (eW σ)) = (91, f) :: eW τ ∧ eI (τ.1 48 + 1) (τ.1 49) ((91, f) :: eW τ) 1 (σ.1 10 - A))) ∧ g5_behind σ = g5_behind_216 l3 s1 τ) → w_behind_216 C Q  l3 s1 τ := by
    rintro y216_3 y216_s1 τ216 ⟨j216, hE⟩
    unfold w_behind_216
    intro σ_7 hσ_7
    replace hE := rb_p5 hE hσ_7
    refine ⟨fun c8 => ?_, fun c8 => ?_⟩
    · skip
      replace hE := rb_f5 hE c8
      refine ⟨ib_34.mpr ?_, ?_⟩
      · clear h hE; (try clear hj245); (try clear hj216); (try clear hj93); (try clear hj73); (try clear hj50); (try clear hj29); grind (splits := 30) [tK, eM, sg, nb, isU]  -- b4
      refine ⟨ib_66000.mpr ?_, ?_⟩
      · clear h hE; (try clear hj245); (try clear hj216); (try clear hj93); (try clear hj73); (try clear hj50); (try clear hj29); grind [si1, ri1]  -- b5
      intro σ_9 hσ_9
      replace hE := rb_p5 hE hσ_9
      refine hj245 _ ?_
      · refine and_5 ?_ (fun o9 => hE)  -- k6
        clear h hE; (try clear hj245); (try clear hj216); (try clear hj93); (try clear hj73); (try clear hj50); (try clear hj29); obtain ⟨jl, jm, jf, jT, j1, j2, j3, j4, j5, j6, j7⟩ := j216
        have mW : eW σ_9 = eW τ216 := by grind [si1, si2, ri1, ri3]
        have me : σ_9.1 48 = τ216.1 48 ∧ σ_9.1 49 = τ216.1 49 ∧ σ_9.1 10 = τ216.1 10 ∧ σ_9.1 13 = τ216.1 13 ∧ σ_9.1 11 = τ216.1 11 := by grind [si1, si2, ri1]
        refine ⟨by grind [si1, si2, ri1, ri2, ri3, ri34, ri5], by grind [tK, si1, si2, ri1, ri34], by rw [me.1]; exact j1, by rw [me.1]; exact j2, by rw [me.2.1]; exact j3, by rw [me.2.1]; exact j4, fun e => absurd e jm, fun _ _ => by rw [me.2.2.2.2]; exact j5 j6, fun e1 _ => ?_⟩
        rw [mW, me.1, me.2.1, me.2.2.1, me.2.2.2.1]
        exact j7 (by rw [← me.2.2.2.2]; exact e1) j6
    · skip
      replace hE := rb_t5 hE c8
      refine ⟨ib_66000.mpr ?_, ?_⟩
      · clear h hE; (try clear hj245); (try clear hj216); (try clear hj93); (try clear hj73); (try clear hj50); (try clear hj29); grind [si1, ri1]  -- b7
      intro σ_10 hσ_10
      replace hE := rb_p5 hE hσ_10
      refine hj245 _ ?_
      · refine and_5 ?_ (fun o9 => hE)  -- k8
        clear h hE; (try clear hj245); (try clear hj216); (try clear hj93); (try clear hj73); (try clear hj50); (try clear hj29); obtain ⟨jl, jm, jf, jT, j1, j2, j3, j4, j5, j6, j7⟩ := j216
        have mW : eW σ_10 = eW τ216 := by grind [si1, si2, ri1, ri3]
        have me : σ_10.1 48 = τ216.1 48 ∧ σ_10.1 49 = τ216.1 49 ∧ σ_10.1 10 = τ216.1 10 ∧ σ_10.1 13 = τ216.1 13 ∧ σ_10.1 11 = τ216.1 11 := by grind [si1, si2, ri1]
        refine ⟨by grind [si1, si2, ri1, ri2, ri3, ri34, ri5], by grind [tK, si1, si2, ri1, ri34], by rw [me.1]; exact j1, by rw [me.1]; exact j2, by rw [me.2.1]; exact j3, by rw [me.2.1]; exact j4, fun e => absurd e jm, fun _ _ => by rw [me.2.2.2.2]; exact j5 j6, fun e1 _ => ?_⟩
        rw [mW, me.1, me.2.1, me.2.2.1, me.2.2.2.1]
        exact j7 (by rw [← me.2.2.2.2]; exact e1) j6
  have hj93 : ∀  (τ : rS), ((((∀ k, k ≠ 47 → k ≠ 48 → k ≠ 49 → τ.1 k = σ.1 k) ∧ (∀ k,  τ.2.1 k = σ.2.1 k) ∧ (∀ k, k ≠ 52 → τ.2.2.1 k = σ.2.2.1 k) ∧ (∀ k j, k ≠ 52 → τ.2.2.1 k j = σ.2.2.1 k j) ∧ (∀ k j,  τ.2.2.2 k j = σ.2.2.2 k j)) ∧ eI (τ.1 48) (τ.1 49) (eW τ) 1 (σ.1 10 - A) ∧ ((σ.1 46 = 0 → τ.1 47 = 0) ∧ 0 ≤ τ.1 47) ∧ (τ.1 47 = 0 → eW τ = eP1 (σ.2.2.1 5) (σ.2.2.1 7) (σ.1 10) (eW σ) ∧ ¬ eGo (eRk (σ.2.2.1 5) (σ.2.2.1 7) (σ.1 10)) (eW τ))) ∧ g5_behind σ = g5_behind_93 τ) → w_behind_93 C Q   τ := by
    rintro  τ93 ⟨j93, hE⟩
    unfold w_behind_93
    refine settle_g5 hC (σ.1 10 - A) ?_ (fun σ_11 q12 => ?_)
    · clear h hE; (try clear hj245); (try clear hj216); (try clear hj93); (try clear hj73); (try clear hj50); (try clear hj29); exact ⟨by decide, j93.2.1⟩  -- p9
    obtain ⟨q12, z9⟩ := q12
    replace hE := rb_p5 hE z9.symm
    clear z9
    refine goesOn_g5 hC  (fun r13 q15 => ?_)
    obtain ⟨q15, z9⟩ := q15
    replace hE := rb_p5 hE z9
    clear z9
    refine ⟨fun c16 => ?_, fun c16 => ?_⟩
    · skip
      replace hE := rb_t5 hE c16
      refine h _ _ ?_
      · refine and_5 ?_ (fun o9 => hE)  -- q10
        clear h hE; (try clear hj245); (try clear hj216); (try clear hj93); (try clear hj73); (try clear hj50); (try clear hj29); grind (splits := 30) [tK, eM, sg, nb, isU]
    · skip
      replace hE := rb_f5 hE c16
      refine ⟨fun c17 => ?_, fun c17 => ?_⟩
      · skip
        replace hE := rb_f5 hE c17
        refine top_g5 hC  ?_ (fun r18 q20 => ?_)
        · clear h hE; (try clear hj245); (try clear hj216); (try clear hj93); (try clear hj73); (try clear hj50); (try clear hj29); have := eI_66 q12.2.1
          clear hm hm2 hI hO; grind
        obtain ⟨q20, z9⟩ := q20
        replace hE := rb_p5 hE z9
        clear z9
        have g : σ_11.1 11 = 0 ∧ σ_11.1 47 = 0 := by clear h hE; (try clear hj245); (try clear hj216); (try clear hj93); (try clear hj73); (try clear hj50); (try clear hj29); grind
        have g2 : τ93.1 47 = 0 := by
          by_cases e : τ93.1 47 = 0
          · exact e
          · have e2 := q12.2.2.2.2.1 e
            rw [e2] at g
            exact absurd g.2 e
        obtain ⟨g3, g4⟩ := j93.2.2.2 g2
        rw [g3] at g4
        have g5 : eW σ_11 = popW 1 (eP1 (σ.2.2.1 5) (σ.2.2.1 7) (σ.1 10) (eW σ)) := by rw [← g3]; exact q12.2.2.2.1 (by clear h hE; (try clear hj245); (try clear hj216); (try clear hj93); (try clear hj73); (try clear hj50); (try clear hj29); grind) g.2
        have g66 := eI_66 q12.2.1
        have g6 : 0 < σ_11.1 48 := by clear h hE; (try clear hj245); (try clear hj216); (try clear hj93); (try clear hj73); (try clear hj50); (try clear hj29); grind
        have g7 := eLst_cons (n := σ_11.1 48) (w := σ_11.2.2.1 50) (r := σ_11.2.2.1 51) g6 (by clear h hE; (try clear hj245); (try clear hj216); (try clear hj93); (try clear hj73); (try clear hj50); (try clear hj29); grind)
        have g8 : rk (tp (eW σ_11)) ≤ 0 := by rw [g5]; exact pop_rk (by decide)
        have g9 : eI (σ_11.1 48) (σ_11.1 49) ((rd σ_11 50 (σ_11.1 48 - 1), rd σ_11 51 (σ_11.1 48 - 1)) :: eLst (σ_11.1 48 - 1).toNatClampNeg (σ_11.2.2.1 50) (σ_11.2.2.1 51)) 1 (σ.1 10 - A) := by rw [← g7]; exact q12.2.1
        have g8' : rk (tp (eLst (σ_11.1 48).toNatClampNeg (σ_11.2.2.1 50) (σ_11.2.2.1 51))) ≤ 0 := g8
        have g10 := eI_br g9 (by rw [g7] at g8'; exact g8')
        have g11 : r18 = rd σ_11 50 (σ_11.1 48 - 1) := by rw [q20]; show tp (eLst (σ_11.1 48).toNatClampNeg (σ_11.2.2.1 50) (σ_11.2.2.1 51)) = _; rw [g7]; rfl
        have g12 : 1 ≤ σ_11.1 49 := cn_one (n := nbn (eW σ_11)) q12.2.1.2.2.2.2.2.1
        have g13 : popW 1 (eP1 (σ.2.2.1 5) (σ.2.2.1 7) (σ.1 10) (eW σ)) = (rd σ_11 50 (σ_11.1 48 - 1), rd σ_11 51 (σ_11.1 48 - 1)) :: eLst (σ_11.1 48 - 1).toNatClampNeg (σ_11.2.2.1 50) (σ_11.2.2.1 51) := by rw [← g5]; exact g7
        have g14 := fun e => (hm2 e).2 g4 _ _ g13
        have g15 : σ_11.1 10 = σ.1 10 ∧ σ_11.1 13 = σ.1 13 ∧ σ_11.2.2.1 5 = σ.2.2.1 5 ∧ σ_11.2.2.1 7 = σ.2.2.1 7 ∧ σ_11.1 46 = σ.1 46 := by clear h hE; (try clear hj245); (try clear hj216); (try clear hj93); (try clear hj73); (try clear hj50); (try clear hj29); grind
        clear g5 g7 g8 g8' g3 g2
        refine ⟨fun c21 => ?_, fun c21 => ?_⟩
        · skip
          replace hE := rb_f5 hE c21
          refine close_g5 hC B T ?_ (fun σ_22 q23 => ?_)
          · clear h hE; (try clear hj245); (try clear hj216); (try clear hj93); (try clear hj73); (try clear hj50); (try clear hj29); grind (splits := 30) [tK, eM, sg, nb, isU]  -- p12
          obtain ⟨q23, z9⟩ := q23
          replace hE := rb_p5 hE z9.symm
          clear z9
          have m1 : σ_22.1 11 = 0 ↔ sg (σ.2.2.1 5) (σ.2.2.1 7) (σ.1 10) 93 ∧ rd σ 5 (σ.1 10 + 1) ≠ 4 := by clear h hE; (try clear hj245); (try clear hj216); (try clear hj93); (try clear hj73); (try clear hj50); (try clear hj29); clear hm hm2 hI hO g9 g10 g13 g14; grind [sg]
          have m0 : rd σ_11 50 (σ_11.1 48 - 1) ≠ 40 := by rw [← g11]; exact c21
          have m2 : σ.1 46 ≠ 0 → σ_22.1 11 = 0 := fun e => m1.mpr ⟨(g14 e).2.1 m0, (g14 e).2.2⟩
          have m3 : rd σ_11 50 (σ_11.1 48 - 1) = 91 ∧ validC (rd σ_11 51 (σ_11.1 48 - 1)) := by rcases g10 with q | q; exact absurd q m0; exact q
          clear hm hm2 g14 g10
          refine ⟨ib_66000.mpr ?_, ?_⟩
          · clear h hE; (try clear hj245); (try clear hj216); (try clear hj93); (try clear hj73); (try clear hj50); (try clear hj29); grind (splits := 30) [tK, eM, sg, nb, isU]  -- b13
          intro x24 hx24
          replace hE := rb_p5 hE hx24
          intro σ_25 hσ_25
          replace hE := rb_p5 hE hσ_25
          have m4 : eW σ_25 = eLst (σ_11.1 48 - 1).toNatClampNeg (σ_11.2.2.1 50) (σ_11.2.2.1 51) := by clear h hE; (try clear hj245); (try clear hj216); (try clear hj93); (try clear hj73); (try clear hj50); (try clear hj29); clear hI hO g9 g13; grind [si1, si2]
          have m5 : σ_25.1 11 = σ_22.1 11 ∧ σ_25.1 47 = 0 ∧ σ_25.1 48 = σ_11.1 48 - 1 ∧ σ_25.1 49 = σ_11.1 49 ∧ σ_25.1 46 = σ.1 46 := by clear h hE; (try clear hj245); (try clear hj216); (try clear hj93); (try clear hj73); (try clear hj50); (try clear hj29); clear hI hO g9 g13 m1; grind [si1, si2]
          have m6 : σ_22.1 11 = 0 → σ_25.1 10 = σ.1 10 + 1 ∧ σ_25.1 13 = σ.1 13 - 1 := by clear h hE; (try clear hj245); (try clear hj216); (try clear hj93); (try clear hj73); (try clear hj50); (try clear hj29); clear hI hO g9 g13; grind [si1, si2]
          have m7 : tK σ_25 B T := by clear h hE; (try clear hj245); (try clear hj216); (try clear hj93); (try clear hj73); (try clear hj50); (try clear hj29); clear hI hO g9 g13; grind [si1, si2, tK]
          have m8 : σ_25.1 48 + 1 = σ_11.1 48 := by rw [m5.2.2.1]; clear h hE hI hO g9 g13; grind
          have m9 : ((∀ k, k ≠ 10 → k ≠ 11 → k ≠ 12 → k ≠ 13 → k ≠ 47 → k ≠ 48 → k ≠ 49 → σ_25.1 k = σ.1 k) ∧ (∀ k,  σ_25.2.1 k = σ.2.1 k) ∧ (∀ k, k ≠ 52 → σ_25.2.2.1 k = σ.2.2.1 k) ∧ (∀ k j, k ≠ 52 → σ_25.2.2.1 k j = σ.2.2.1 k j) ∧ (∀ k j,  σ_25.2.2.2 k j = σ.2.2.2 k j)) := by clear h hE; (try clear hj245); (try clear hj216); (try clear hj93); (try clear hj73); (try clear hj50); (try clear hj29); clear hI hO g9 g13; grind [si1, si2]
          have m10 : x24 = rd σ_11 51 (σ_11.1 48 - 1) := by clear h hE; (try clear hj245); (try clear hj216); (try clear hj93); (try clear hj73); (try clear hj50); (try clear hj29); clear hI hO g9 g13; grind
          have m11 : 0 ≤ σ_25.1 48 ∧ σ_25.1 48 ≤ 65600 ∧ 1 ≤ σ_25.1 49 ∧ σ_25.1 49 ≤ 65600 := by clear h hE; (try clear hj245); (try clear hj216); (try clear hj93); (try clear hj73); (try clear hj50); (try clear hj29); clear hI hO g9 g13; grind
          have m12 : σ_25.1 11 = 0 → σ_25.1 47 = 0 → ¬ eGo (eRk (σ.2.2.1 5) (σ.2.2.1 7) (σ.1 10)) (eP1 (σ.2.2.1 5) (σ.2.2.1 7) (σ.1 10) (eW σ)) ∧ sg (σ.2.2.1 5) (σ.2.2.1 7) (σ.1 10) 93 ∧ rd σ 5 (σ.1 10 + 1) ≠ 4 ∧ σ_25.1 10 = σ.1 10 + 1 ∧ σ_25.1 13 = σ.1 13 - 1 ∧ ∃ f, popW 1 (eP1 (σ.2.2.1 5) (σ.2.2.1 7) (σ.1 10) (eW σ)) = (91, f) :: eW σ_25 ∧ eI (σ_25.1 48 + 1) (σ_25.1 49) ((91, f) :: eW σ_25) 1 (σ.1 10 - A) := by
            intro e1 _
            rw [m5.1] at e1
            refine ⟨g4, (m1.mp e1).1, (m1.mp e1).2, (m6 e1).1, (m6 e1).2, rd σ_11 51 (σ_11.1 48 - 1), ?_, ?_⟩
            · rw [m4, ← m3.1]; exact g13
            · rw [m8, m5.2.2.2.1, m4, ← m3.1]; exact g9
          refine goesOn_g5 hC  (fun r26 q28 => ?_)
          obtain ⟨q28, z9⟩ := q28
          replace hE := rb_p5 hE z9
          clear z9
          refine ⟨fun c29 => ?_, fun c29 => ?_⟩
          · skip
            replace hE := rb_t5 hE c29
            refine hj245 _ ?_
            · refine and_5 ?_ (fun o9 => hE)  -- k14
              clear h hE; (try clear hj245); (try clear hj216); (try clear hj93); (try clear hj73); (try clear hj50); (try clear hj29); exact ⟨m9, m7, m11.1, m11.2.1, m11.2.2.1, m11.2.2.2, fun _ => m5.2.1, fun e _ => by rw [m5.1]; exact m2 e, m12⟩
          · skip
            replace hE := rb_f5 hE c29
            refine ⟨fun c30 => ?_, fun c30 => ?_⟩
            · skip
              replace hE := rb_f5 hE c30
              refine hj245 _ ?_
              · refine and_5 ?_ (fun o9 => hE)  -- k15
                clear h hE; (try clear hj245); (try clear hj216); (try clear hj93); (try clear hj73); (try clear hj50); (try clear hj29); exact ⟨m9, m7, m11.1, m11.2.1, m11.2.2.1, m11.2.2.2, fun _ => m5.2.1, fun e _ => by rw [m5.1]; exact m2 e, m12⟩
            · skip
              replace hE := rb_t5 hE c30
              refine ⟨ib_66000.mpr ?_, ?_⟩
              · clear h hE; (try clear hj245); (try clear hj216); (try clear hj93); (try clear hj73); (try clear hj50); (try clear hj29); clear hI hO g9 g13 m12; grind  -- b16
              refine cellOf_g5 hC  ?_ (fun r31 q33 => ?_)
              · clear h hE; (try clear hj245); (try clear hj216); (try clear hj93); (try clear hj73); (try clear hj50); (try clear hj29); exact ⟨by rw [m10]; exact m3.2, by clear hI hO g9 g13 m12; grind, by clear hI hO g9 g13 m12; grind⟩  -- p17
              obtain ⟨q33, z9⟩ := q33
              replace hE := rb_p5 hE z9
              clear z9
              refine ⟨fun c34 => ?_, fun c34 => ?_⟩
              · skip
                replace hE := rb_f5 hE c34
                refine hj216 _ _ _ ?_
                · refine and_5 ?_ (fun o9 => hE)  -- k18
                  clear h hE; (try clear hj245); (try clear hj216); (try clear hj93); (try clear hj73); (try clear hj50); (try clear hj29); exact ⟨⟨q33, by decide⟩, by rw [← m5.2.2.2.2, c30]; decide, m9, m7, m11.1, m11.2.1, m11.2.2.1, m11.2.2.2, fun _ => by rw [m5.1]; exact m2 (by rw [← m5.2.2.2.2, c30]; decide), m5.2.1, m12⟩
              · skip
                replace hE := rb_t5 hE c34
                refine hj216 _ _ _ ?_
                · refine and_5 ?_ (fun o9 => hE)  -- k19
                  clear h hE; (try clear hj245); (try clear hj216); (try clear hj93); (try clear hj73); (try clear hj50); (try clear hj29); exact ⟨⟨q33, by decide⟩, by rw [← m5.2.2.2.2, c30]; decide, m9, m7, m11.1, m11.2.1, m11.2.2.1, m11.2.2.2, fun _ => by rw [m5.1]; exact m2 (by rw [← m5.2.2.2.2, c30]; decide), m5.2.1, m12⟩
        · skip
          replace hE := rb_t5 hE c21
          refine close_g5 hC B T ?_ (fun σ_35 q36 => ?_)
          · clear h hE; (try clear hj245); (try clear hj216); (try clear hj93); (try clear hj73); (try clear hj50); (try clear hj29); grind (splits := 30) [tK, eM, sg, nb, isU]  -- p20
          obtain ⟨q36, z9⟩ := q36
          replace hE := rb_p5 hE z9.symm
          clear z9
          intro σ_37 hσ_37
          replace hE := rb_p5 hE hσ_37
          refine turn_g5 hC  ?_ (fun σ_38 q39 => ?_)
          · clear h hE; (try clear hj245); (try clear hj216); (try clear hj93); (try clear hj73); (try clear hj50); (try clear hj29); clear hm hm2 hI hO g9 g13 g14 g10; grind [si1, si2]  -- p21
          obtain ⟨q39, z9⟩ := q39
          replace hE := rb_p5 hE z9.symm
          clear z9
          refine h _ _ ?_
          · refine and_5 ?_ (fun o9 => hE)  -- q22
            clear h hE; (try clear hj245); (try clear hj216); (try clear hj93); (try clear hj73); (try clear hj50); (try clear hj29); have m0 : rd σ_11 50 (σ_11.1 48 - 1) = 40 := by rw [← g11]; exact c21
            have m1 : σ_35.1 11 = 0 ↔ sg (σ.2.2.1 5) (σ.2.2.1 7) (σ.1 10) 41 ∧ rd σ 5 (σ.1 10 + 1) ≠ 4 := by clear hm hm2 hI hO g9 g10 g13 g14; grind [sg]
            have m2 : σ.1 46 ≠ 0 → σ_35.1 11 = 0 := fun e => m1.mpr ⟨(g14 e).1 m0, (g14 e).2.2⟩
            clear hm hm2 g14 g10
            have m4 : eW σ_38 = turnW (eLst (σ_11.1 48 - 1).toNatClampNeg (σ_11.2.2.1 50) (σ_11.2.2.1 51)) := by clear hI hO g9 g13; grind [si1, si2]
            have m5 : σ_38.1 11 = σ_35.1 11 ∧ σ_38.1 47 = 0 ∧ σ_38.1 49 = σ_11.1 49 ∧ 0 ≤ σ_38.1 48 ∧ σ_38.1 48 ≤ σ_11.1 48 := by clear hI hO g9 g13 m1; grind [si1, si2]
            have m6 : σ_35.1 11 = 0 → σ_38.1 10 = σ.1 10 + 1 ∧ σ_38.1 13 = σ.1 13 - 1 := by clear hI hO g9 g13; grind [si1, si2]
            have m7 : tK σ_38 B T := by clear hI hO g9 g13; grind [si1, si2, tK]
            have m9 : ((∀ k, k ≠ 10 → k ≠ 11 → k ≠ 12 → k ≠ 13 → k ≠ 47 → k ≠ 48 → k ≠ 49 → σ_38.1 k = σ.1 k) ∧ (∀ k,  σ_38.2.1 k = σ.2.1 k) ∧ (∀ k, k ≠ 50 → k ≠ 51 → k ≠ 52 → σ_38.2.2.1 k = σ.2.2.1 k) ∧ (∀ k j, k ≠ 50 → k ≠ 51 → k ≠ 52 → σ_38.2.2.1 k j = σ.2.2.1 k j) ∧ (∀ k j,  σ_38.2.2.2 k j = σ.2.2.2 k j)) := by clear hI hO g9 g13; grind [si1, si2]
            refine ⟨m9, m7, Or.inr (Or.inl rfl), fun _ => m5.2.1, fun e _ => by rw [m5.1]; exact m2 e, fun e1 _ => ?_⟩
            rw [m5.1] at e1
            have u := pL_up hL (k := 1) (Or.inl rfl) (by rw [← (m6 e1).1]; exact m7.2.2.2.2.2)
            rw [m0] at g13 g9
            refine ⟨eBh_40 g4 g13 (m1.mp e1).1 (m1.mp e1).2 (m6 e1).1 m4, fun _ => ?_, ?_⟩
            · rw [m4, m5.2.2.1, (m6 e1).1]
              exact eI_close g9 (Or.inl rfl) m5.2.2.2.1 m5.2.2.2.2 (Int32.le_of_lt u.1) u.2.1
            · rw [m4, (m6 e1).2]
              have o := eO_pop2 (l := 1) (m := eLv (eRk (σ.2.2.1 5) (σ.2.2.1 7) (σ.1 10))) hO
              rw [g13] at o
              exact eO_close o (Or.inl rfl)
      · skip
        replace hE := rb_t5 hE c17
        refine h _ _ ?_
        · refine and_5 ?_ (fun o9 => hE)  -- q23
          clear h hE; (try clear hj245); (try clear hj216); (try clear hj93); (try clear hj73); (try clear hj50); (try clear hj29); have g : σ_11.1 11 = 0 ∧ σ_11.1 47 = 0 := by grind
          have g2 : τ93.1 47 = 0 := by
            by_cases e : τ93.1 47 = 0
            · exact e
            · have e2 := q12.2.2.2.2.1 e
              rw [e2] at g
              exact absurd g.2 e
          obtain ⟨g3, g4⟩ := j93.2.2.2 g2
          rw [g3] at g4
          have g5 : eW σ_11 = popW 1 (eP1 (σ.2.2.1 5) (σ.2.2.1 7) (σ.1 10) (eW σ)) := by rw [← g3]; exact q12.2.2.2.1 (by grind) g.2
          have g6 : eW σ_11 = [] := eLst_nil (by rw [c17]; decide)
          have m9 : ((∀ k, k ≠ 10 → k ≠ 11 → k ≠ 12 → k ≠ 13 → k ≠ 47 → k ≠ 48 → k ≠ 49 → σ_11.1 k = σ.1 k) ∧ (∀ k,  σ_11.2.1 k = σ.2.1 k) ∧ (∀ k, k ≠ 50 → k ≠ 51 → k ≠ 52 → σ_11.2.2.1 k = σ.2.2.1 k) ∧ (∀ k j, k ≠ 50 → k ≠ 51 → k ≠ 52 → σ_11.2.2.1 k j = σ.2.2.1 k j) ∧ (∀ k j,  σ_11.2.2.2 k j = σ.2.2.2 k j)) := by clear hm hm2 hI hO; grind
          refine ⟨m9, by clear hm hm2 hI hO; grind [tK], Or.inr (Or.inr rfl), fun _ => g.2, fun _ _ => g.1, fun _ _ => ⟨eBh_end g4 (by rw [← g5, g6]) (by clear hm hm2 hI hO; grind) g6, fun e => absurd rfl e, ?_⟩⟩
          have o := eO_pop2 (l := 1) (m := eLv (eRk (σ.2.2.1 5) (σ.2.2.1 7) (σ.1 10))) hO
          rw [g5, show σ_11.1 13 = σ.1 13 from by clear hm hm2 hI hO; grind]
          exact o
  have hj73 : ∀  (τ : rS), ((((∀ k, k ≠ 47 → k ≠ 48 → k ≠ 49 → τ.1 k = σ.1 k) ∧ (∀ k,  τ.2.1 k = σ.2.1 k) ∧ (∀ k, k ≠ 52 → τ.2.2.1 k = σ.2.2.1 k) ∧ (∀ k j, k ≠ 52 → τ.2.2.1 k j = σ.2.2.1 k j) ∧ (∀ k j,  τ.2.2.2 k j = σ.2.2.2 k j)) ∧ eI (τ.1 48) (τ.1 49) (eW τ) 1 (σ.1 10 - A) ∧ ((σ.1 46 = 0 → τ.1 47 = 0) ∧ 0 ≤ τ.1 47) ∧ 0 < eRk (σ.2.2.1 5) (σ.2.2.1 7) (σ.1 10) ∧ (τ.1 47 = 0 → eW τ = eP1 (σ.2.2.1 5) (σ.2.2.1 7) (σ.1 10) (eW σ) ∧ eGo (eRk (σ.2.2.1 5) (σ.2.2.1 7) (σ.1 10)) (eW τ))) ∧ g5_behind σ = g5_behind_73 τ) → w_behind_73 C Q   τ := by
    rintro  τ73 ⟨j73, hE⟩
    unfold w_behind_73
    refine ⟨ib_131074.mpr ?_, ?_⟩
    · clear h hE; (try clear hj245); (try clear hj216); (try clear hj93); (try clear hj73); (try clear hj50); (try clear hj29); grind (splits := 30) [tK, eM, sg, nb, isU]  -- b24
    refine hold_g5 hC  ?_ (fun σ_40 q41 => ?_)
    · clear h hE; (try clear hj245); (try clear hj216); (try clear hj93); (try clear hj73); (try clear hj50); (try clear hj29); have := eI_66 j73.2.1
      clear hm hm2 hI hO; grind
    obtain ⟨q41, z9⟩ := q41
    replace hE := rb_p5 hE z9.symm
    clear z9
    refine go_g5 hC B T ?_ (fun σ_42 q43 => ?_)
    · clear h hE; (try clear hj245); (try clear hj216); (try clear hj93); (try clear hj73); (try clear hj50); (try clear hj29); have := eRk_pos j73.2.2.2.1
      clear hm hm2 hI hO; grind [tK]
    obtain ⟨q43, z9⟩ := q43
    replace hE := rb_p5 hE z9.symm
    clear z9
    refine h _ _ ?_
    · refine and_5 ?_ (fun o9 => hE)  -- q27
      clear h hE; (try clear hj245); (try clear hj216); (try clear hj93); (try clear hj73); (try clear hj50); (try clear hj29); have k3 := eRk_pos j73.2.2.2.1
      have m1 : σ_42.1 11 = 0 ↔ rd σ 5 (σ.1 10 + 1) ≠ 4 := by clear hm hm2 hI hO; grind
      have m4 : eW σ_42 = (rd σ 7 (σ.1 10), 0) :: eW τ73 := by clear hm hm2 hI hO; grind
      have m5 : σ_42.1 47 = τ73.1 47 ∧ σ_42.1 48 = τ73.1 48 + 1 ∧ σ_42.1 49 = τ73.1 49 ∧ σ_42.1 10 = σ.1 10 + 1 ∧ σ_42.1 13 = σ.1 13 := by clear hm hm2 hI hO; grind
      have m7 : tK σ_42 B T := by clear hm hm2 hI hO; grind [tK]
      have m9 : ((∀ k, k ≠ 10 → k ≠ 11 → k ≠ 12 → k ≠ 13 → k ≠ 47 → k ≠ 48 → k ≠ 49 → σ_42.1 k = σ.1 k) ∧ (∀ k,  σ_42.2.1 k = σ.2.1 k) ∧ (∀ k, k ≠ 50 → k ≠ 51 → k ≠ 52 → σ_42.2.2.1 k = σ.2.2.1 k) ∧ (∀ k j, k ≠ 50 → k ≠ 51 → k ≠ 52 → σ_42.2.2.1 k j = σ.2.2.1 k j) ∧ (∀ k j,  σ_42.2.2.2 k j = σ.2.2.2 k j)) := by clear hm hm2 hI hO; grind
      refine ⟨m9, m7, Or.inl rfl, fun e => by rw [m5.1]; exact j73.2.2.1.1 e, fun e e1 => ?_, fun e1 e2 => ?_⟩
      · rw [m5.1] at e1
        obtain ⟨z1, z2⟩ := j73.2.2.2.2 e1
        rw [z1] at z2
        exact m1.mpr ((hm2 e).1 z2)
      · rw [m5.1] at e2
        obtain ⟨z1, z2⟩ := j73.2.2.2.2 e2
        have u := pL_up hL (k := 1) (Or.inl rfl) (by rw [← m5.2.2.2.1]; exact m7.2.2.2.2.2)
        refine ⟨eBh_go (by rw [← z1]; exact z2) (m1.mp e1) m5.2.2.2.1 (by rw [m4, z1]), fun _ => ?_, ?_⟩
        · rw [m4, m5.2.1, m5.2.2.1, m5.2.2.2.1]
          exact eI_bin j73.2.1 k3.2 u.1 u.2.1
        · rw [m4, m5.2.2.2.2, z1]
          exact eO_U (eO_pop hO) (rk_br k3.2)
  have hj50 : ∀ (l1 : Int32) (s1 : Int32) (τ : rS), ((σ = τ ∧ l1 = eRk (σ.2.2.1 5) (σ.2.2.1 7) (σ.1 10) ∧ s1 = eLv l1) ∧ g5_behind σ = g5_behind_50 l1 s1 τ) → w_behind_50 C Q  l1 s1 τ := by
    rintro y50_1 y50_s1 _ ⟨⟨rfl, j50⟩, hE⟩
    unfold w_behind_50
    refine settle_g5 hC (σ.1 10 - A) ?_ (fun σ_44 q45 => ?_)
    · clear h hE; (try clear hj245); (try clear hj216); (try clear hj93); (try clear hj73); (try clear hj50); (try clear hj29); exact ⟨by rw [j50.2]; exact eLv_pos, hI⟩  -- p28
    obtain ⟨q45, z9⟩ := q45
    replace hE := rb_p5 hE z9.symm
    clear z9
    refine ⟨fun c46 => ?_, fun c46 => ?_⟩
    · skip
      replace hE := rb_t5 hE c46
      refine hj93 _ ?_
      · refine and_5 ?_ (fun o9 => hE)  -- k29
        clear h hE; (try clear hj245); (try clear hj216); (try clear hj93); (try clear hj73); (try clear hj50); (try clear hj29); clear hm hm2 hI hO; grind [eGo]
    · skip
      replace hE := rb_f5 hE c46
      refine ⟨fun c47 => ?_, fun c47 => ?_⟩
      · skip
        replace hE := rb_f5 hE c47
        refine hj73 _ ?_
        · refine and_5 ?_ (fun o9 => hE)  -- k30
          clear h hE; (try clear hj245); (try clear hj216); (try clear hj93); (try clear hj73); (try clear hj50); (try clear hj29); clear hm hm2 hI hO; grind [eGo]
      · skip
        replace hE := rb_t5 hE c47
        refine top_g5 hC  ?_ (fun r48 q50 => ?_)
        · clear h hE; (try clear hj245); (try clear hj216); (try clear hj93); (try clear hj73); (try clear hj50); (try clear hj29); have := eI_66 q45.2.1
          clear hm hm2 hI hO; grind
        obtain ⟨q50, z9⟩ := q50
        replace hE := rb_p5 hE z9
        clear z9
        refine rank_g5 hC  (fun r51 q53 => ?_)
        obtain ⟨q53, z9⟩ := q53
        replace hE := rb_p5 hE z9
        clear z9
        refine ⟨fun c54 => ?_, fun c54 => ?_⟩
        · skip
          replace hE := rb_t5 hE c54
          refine hj93 _ ?_
          · refine and_5 ?_ (fun o9 => hE)  -- k32
            clear h hE; (try clear hj245); (try clear hj216); (try clear hj93); (try clear hj73); (try clear hj50); (try clear hj29); clear hm hm2 hI hO; grind [eGo]
        · skip
          replace hE := rb_f5 hE c54
          refine hj73 _ ?_
          · refine and_5 ?_ (fun o9 => hE)  -- k33
            clear h hE; (try clear hj245); (try clear hj216); (try clear hj93); (try clear hj73); (try clear hj50); (try clear hj29); clear hm hm2 hI hO; grind [eGo]
  have hj29 : ∀ (s0 : Int32) (τ : rS), ((σ = τ ∧ s0 = eRk (σ.2.2.1 5) (σ.2.2.1 7) (σ.1 10)) ∧ g5_behind σ = g5_behind_29 s0 τ) → w_behind_29 C Q  s0 τ := by
    rintro y29_s0 _ ⟨⟨rfl, j29⟩, hE⟩
    unfold w_behind_29
    refine ⟨fun c55 => ?_, fun c55 => ?_⟩
    · skip
      replace hE := rb_f5 hE c55
      refine ⟨fun c56 => ?_, fun c56 => ?_⟩
      · skip
        replace hE := rb_t5 hE c56
        refine hj50 _ _ _ ?_
        · refine and_5 ?_ (fun o9 => hE)  -- k34
          clear h hE; (try clear hj245); (try clear hj216); (try clear hj93); (try clear hj73); (try clear hj50); (try clear hj29); clear hm hm2 hI hO; grind [eLv]
      · skip
        replace hE := rb_f5 hE c56
        refine hj50 _ _ _ ?_
        · refine and_5 ?_ (fun o9 => hE)  -- k35
          clear h hE; (try clear hj245); (try clear hj216); (try clear hj93); (try clear hj73); (try clear hj50); (try clear hj29); clear hm hm2 hI hO; grind [eLv]
    · skip
      replace hE := rb_t5 hE c55
      refine hj50 _ _ _ ?_
      · refine and_5 ?_ (fun o9 => hE)  -- k36
        clear h hE; (try clear hj245); (try clear hj216); (try clear hj93); (try clear hj73); (try clear hj50); (try clear hj29); clear hm hm2 hI hO; grind [eLv]
  have hE : g5_behind σ = g5_behind σ := rfl
  refine ⟨ib_131074.mpr ?_, ?_⟩
  · clear h hE; (try clear hj245); (try clear hj216); (try clear hj93); (try clear hj73); (try clear hj50); (try clear hj29); grind (splits := 30) [tK, eM, sg, nb, isU]  -- b37
  refine ⟨fun c57 => ?_, fun c57 => ?_⟩
  · skip
    replace hE := rb_f5 hE c57
    refine hj29 _ _ ?_
    · refine and_5 ?_ (fun o9 => hE)  -- k38
      clear h hE; (try clear hj245); (try clear hj216); (try clear hj93); (try clear hj73); (try clear hj50); (try clear hj29); clear hm hm2 hI hO; grind [eRk]
  · skip
    replace hE := rb_t5 hE c57
    refine ⟨ib_131074.mpr ?_, ?_⟩
    · clear h hE; (try clear hj245); (try clear hj216); (try clear hj93); (try clear hj73); (try clear hj50); (try clear hj29); grind (splits := 30) [tK, eM, sg, nb, isU]  -- b39
    refine rank_g5 hC  (fun r58 q60 => ?_)
    obtain ⟨q60, z9⟩ := q60
    replace hE := rb_p5 hE z9
    clear z9
    refine hj29 _ _ ?_
    · refine and_5 ?_ (fun o9 => hE)  -- k40
      clear h hE; (try clear hj245); (try clear hj216); (try clear hj93); (try clear hj73); (try clear hj50); (try clear hj29); clear hm hm2 hI hO; grind [eRk]

end
section
set_option maxHeartbeats 1600000
/-! the reference: expressions -/
theorem expression_g5 {C : rCx} (hC : cOK C) (B T : Int32) (c0 : Nat) {σ : rS}  {Q : Int32 → rS → Prop} (hp : tK σ B T ∧ pL B T (σ.1 10) (σ.1 10) ∧ eM (σ.1 46) (σ.1 58) c0 ∧ tF σ ∧ tN σ ∧ tA σ ∧ eO (σ.1 13) [] c0 ∧ (σ.1 46 = 0 → σ.1 47 = 0) ∧ (σ.1 46 ≠ 0 → σ.1 11 = 0 ∧ σ.1 47 = 0 ∧ ∃ e, ePa (σ.2.2.1 5) (σ.2.2.1 7) (σ.2.2.1 39) (σ.1 10) e)) (h : ∀ (v : Int32) (σ' : rS), ((((∀ k, k ≠ 10 → k ≠ 11 → k ≠ 12 → k ≠ 13 → k ≠ 47 → k ≠ 48 → k ≠ 49 → σ'.1 k = σ.1 k) ∧ (∀ k,  σ'.2.1 k = σ.2.1 k) ∧ (∀ k, k ≠ 39 → k ≠ 50 → k ≠ 51 → k ≠ 52 → σ'.2.2.1 k = σ.2.2.1 k) ∧ (∀ k j, k ≠ 39 → k ≠ 50 → k ≠ 51 → k ≠ 52 → σ'.2.2.1 k j = σ.2.2.1 k j) ∧ (∀ k j,  σ'.2.2.2 k j = σ.2.2.2 k j)) ∧ tK σ' B T ∧ (σ.1 46 = 0 → σ'.1 47 = 0) ∧ (σ.1 46 ≠ 0 → σ'.2.2.1 39 = σ.2.2.1 39 ∧ (σ'.1 47 = 0 → σ'.1 11 = 0 ∧ ∀ e, ePa (σ.2.2.1 5) (σ.2.2.1 7) (σ.2.2.1 39) (σ.1 10) e → σ'.1 10 = e)) ∧ (∀ t : Int32, 0 ≤ t → t < σ.1 10 → rd σ' 39 t = rd σ 39 t) ∧ (σ'.1 11 = 0 → σ'.1 47 = 0 → σ.1 11 = 0 ∧ pL B T (σ.1 10) (σ'.1 10) ∧ ePa (σ.2.2.1 5) (σ.2.2.1 7) (σ'.2.2.1 39) (σ.1 10) (σ'.1 10) ∧ eO (σ'.1 13) [] c0) ∧ (∀ t : Int32, T < t → rd σ' 39 t = rd σ 39 t)) ∧ g5_expression σ = (σ', v)) → Q v σ') : cI C 6 m_expression [.ref (co C)] σ Q := by
  refine m_expression_run hC ?_
  unfold w_expression_0
  obtain ⟨hK, hL, hM, hF, hN, hA, hO, h0, h1⟩ := hp
  have hj51 : ∀  (τ : rS), ((((∀ k, k ≠ 10 → k ≠ 11 → k ≠ 12 → k ≠ 13 → k ≠ 47 → k ≠ 48 → k ≠ 49 → τ.1 k = σ.1 k) ∧ (∀ k,  τ.2.1 k = σ.2.1 k) ∧ (∀ k, k ≠ 39 → k ≠ 50 → k ≠ 51 → k ≠ 52 → τ.2.2.1 k = σ.2.2.1 k) ∧ (∀ k j, k ≠ 39 → k ≠ 50 → k ≠ 51 → k ≠ 52 → τ.2.2.1 k j = σ.2.2.1 k j) ∧ (∀ k j,  τ.2.2.2 k j = σ.2.2.2 k j)) ∧ tK τ B T ∧ (τ.1 11 = 0 → τ.1 47 = 0 → pL B T (σ.1 10) (τ.1 10)) ∧ (σ.1 11 ≠ 0 → τ.1 11 ≠ 0) ∧ ∃ st, (τ.1 11 = 0 → τ.1 47 = 0 → st = 2) ∧ eJ (σ.1 46) (τ.1 13) (τ.1 11) (τ.1 47) (τ.1 10) (τ.1 48) (τ.1 49) st (σ.1 10) T (eW τ) (σ.2.2.1 5) (σ.2.2.1 7) (τ.2.2.1 39) (σ.2.2.1 39) c0) ∧ g5_expression σ = g5_expression_51 τ) → w_expression_51 C Q   τ := by
    rintro  τ51 ⟨j51, hE⟩
    unfold w_expression_51
    refine ⟨ib_66000.mpr ?_, ?_⟩
    · clear h hE; exact ⟨by decide, by decide⟩  -- b1
    refine h _ _ ?_
    · refine and_5 ?_ (fun o9 => hE)  -- q2
      clear h hE; obtain ⟨jF, jT, jL, jf, st, js, e1, e2, e3, e4, e5⟩ := j51
      refine ⟨jF, jT, e1, fun hm => ⟨(e2 hm).1, fun hf => ⟨(e2 hm).2 hf, fun e he => ?_⟩⟩, e3, fun f1 f2 => ?_, e5⟩
      · have f1 := (e2 hm).2 hf
        obtain ⟨⟨m, hm'⟩, -⟩ := e4 f1 hf
        rw [js f1 hf, (e2 hm).1] at hm'
        exact eTo_end he hm'
      · have s2 := js f1 f2
        obtain ⟨⟨m, hm'⟩, -, e6, e7⟩ := e4 f1 f2
        rw [s2, e7 s2] at hm'
        rw [e7 s2] at e6
        exact ⟨Decidable.byContradiction (fun z => jf z f1), jL f1 f2, ⟨m, hm'⟩, e6⟩
  have hE : g5_expression σ = g5_expression σ := rfl
  intro σ_1 hσ_1
  replace hE := rb_p5 hE hσ_1
  intro σ_2 hσ_2
  replace hE := rb_p5 hE hσ_2
  unfold w_expression_12
  refine ⟨fun n l1 τ => n = eMs (τ.1 11) (τ.1 47) l1 (τ.1 10) T ∧ ((((∀ k, k ≠ 10 → k ≠ 11 → k ≠ 12 → k ≠ 13 → k ≠ 47 → k ≠ 48 → k ≠ 49 → τ.1 k = σ.1 k) ∧ (∀ k,  τ.2.1 k = σ.2.1 k) ∧ (∀ k, k ≠ 39 → k ≠ 50 → k ≠ 51 → k ≠ 52 → τ.2.2.1 k = σ.2.2.1 k) ∧ (∀ k j, k ≠ 39 → k ≠ 50 → k ≠ 51 → k ≠ 52 → τ.2.2.1 k j = σ.2.2.1 k j) ∧ (∀ k j,  τ.2.2.2 k j = σ.2.2.2 k j)) ∧ tK τ B T ∧ (τ.1 11 = 0 → τ.1 47 = 0 → pL B T (σ.1 10) (τ.1 10)) ∧ (l1 = 0 ∨ l1 = 1 ∨ l1 = 2) ∧ (σ.1 11 ≠ 0 → τ.1 11 ≠ 0) ∧ eJ (σ.1 46) (τ.1 13) (τ.1 11) (τ.1 47) (τ.1 10) (τ.1 48) (τ.1 49) l1 (σ.1 10) T (eW τ) (σ.2.2.1 5) (σ.2.2.1 7) (τ.2.2.1 39) (σ.2.2.1 39) c0) ∧ ∃ m5, n < m5 ∧ g5_expression σ = g5_expression_12 m5 l1 τ), ⟨_, rfl, ?_⟩, ?_⟩
  · refine and_5 ?_ (fun o9 => ⟨fu5, by first | exact eMs_5 | (clear h hE; unfold fu5; omega), hE⟩)  -- j3
    clear h hE; have k48 : σ_2.1 48 = 0 := by rw [hσ_2, si1, if_neg (by decide), hσ_1, si1, if_pos rfl]
    have k49 : σ_2.1 49 = 0 := by rw [hσ_2, si1, if_pos rfl]
    have mW : eW σ_2 = [] := eLst_nil (by rw [k48]; decide)
    have k2 : σ_2.2 = σ.2 := by rw [hσ_2, si2, hσ_1, si2]
    have kf : ∀ k, k ≠ 48 → k ≠ 49 → σ_2.1 k = σ.1 k := fun k z1 z2 => by rw [hσ_2, si1, if_neg z2, hσ_1, si1, if_neg z1]
    have k10 := kf 10 (by decide) (by decide)
    have k11 := kf 11 (by decide) (by decide)
    have k13 := kf 13 (by decide) (by decide)
    have k47 := kf 47 (by decide) (by decide)
    refine ⟨by clear h1; grind, by clear h1; grind [tK], fun _ _ => by rw [k10]; exact hL, Or.inl rfl, fun z => by rw [k11]; exact z, ⟨by rw [k47]; exact h0, fun hm => ⟨by rw [k2], fun _ => by rw [k11]; exact (h1 hm).1⟩, fun t _ _ => by rw [k2], fun f1 f2 => ⟨⟨0, rfl, k10, mW⟩, fun _ => ?_, by rw [mW, k13]; exact hO, fun _ => mW⟩, fun t _ => by rw [k2]⟩⟩
    rw [mW, k48, k49, k10, Int32.sub_self]
    exact ⟨by decide, by decide, by decide, by decide, by decide, rfl, trivial, fun e => absurd e (by decide)⟩
  rintro n12 x12_1 σ12 ⟨hn12, i12, m12, hm12, hE⟩
  obtain ⟨m12, rfl⟩ : ∃ m9, m12 = m9 + 1 := ⟨m12 - 1, by clear h hE; omega⟩
  refine goesOn_g5 hC  (fun r3 q5 => ?_)
  obtain ⟨q5, z9⟩ := q5
  replace hE := rb_p5 hE z9
  clear z9
  refine ⟨fun c6 => ?_, fun c6 => ?_⟩
  · skip
    replace hE := rb_t5 hE c6
    refine hj51 _ ?_
    · refine and_5 ?_ (fun o9 => hE)  -- k4
      clear h hE; exact ⟨i12.1, i12.2.1, i12.2.2.1, i12.2.2.2.2.1, x12_1, fun f1 f2 => absurd c6 (q5.2.mpr ⟨f1, f2⟩), i12.2.2.2.2.2⟩
  · skip
    replace hE := rb_f5 hE c6
    refine ⟨fun c7 => ?_, fun c7 => ?_⟩
    · skip
      replace hE := rb_t5 hE c7
      refine hj51 _ ?_
      · refine and_5 ?_ (fun o9 => hE)  -- k5
        clear h hE; exact ⟨i12.1, i12.2.1, i12.2.2.1, i12.2.2.2.2.1, x12_1, fun f1 f2 => by rcases i12.2.2.2.1 with z | z | z; exact absurd c7 (by rw [z]; decide); exact absurd c7 (by rw [z]; decide); exact z, i12.2.2.2.2.2⟩
    · skip
      replace hE := rb_f5 hE c7
      have g : σ12.1 11 = 0 ∧ σ12.1 47 = 0 := q5.2.mp c6
      obtain ⟨iF, iT, iL, ist, ifl, i1, i2, i3, i4, i5⟩ := i12
      obtain ⟨⟨m, e1⟩, e2, e3, e4⟩ := i4 g.1 g.2
      have r5 : σ12.2.2.1 5 = σ.2.2.1 5 := iF.2.2.1 5 (by decide) (by decide) (by decide) (by decide)
      have r7 : σ12.2.2.1 7 = σ.2.2.1 7 := iF.2.2.1 7 (by decide) (by decide) (by decide) (by decide)
      have r46 : σ12.1 46 = σ.1 46 := iF.1 46 (by decide) (by decide) (by decide) (by decide) (by decide) (by decide) (by decide)
      have r58 : σ12.1 58 = σ.1 58 := iF.1 58 (by decide) (by decide) (by decide) (by decide) (by decide) (by decide) (by decide)
      have tf : tF σ12 := by clear h hE; clear h1 e1 e2 e3 e4 i4; grind
      have tn : tN σ12 := by clear h hE; clear h1 e1 e2 e3 e4 i4; grind
      have ta : tA σ12 := by clear h hE; clear h1 e1 e2 e3 e4 i4; grind
      have hx : ¬ x12_1 = 2 := fun z => c7 (by rw [z]; decide)
      have A0 : 0 ≤ σ.1 10 := Int32.le_trans hL.1 hL.2.1
      have a0 : 0 ≤ σ12.1 10 := Int32.le_trans A0 (iL g.1 g.2).2.2.1
      have em : eM (σ12.1 46) (σ12.1 58) c0 := by rw [r46, r58]; exact hM
      have nx : σ12.1 46 ≠ 0 → ∃ s1 a1 W1, eStep (σ12.2.2.1 5) (σ12.2.2.1 7) (σ12.2.2.1 39) x12_1 (σ12.1 10) (eW σ12) s1 a1 W1 := by
        intro hm
        rw [r46] at hm
        obtain ⟨e, he⟩ := (h1 hm).2.2
        rw [(i2 hm).1] at e1
        rw [r5, r7, (i2 hm).1]
        exact eTo_next he e1 hx
      clear h1
      refine ⟨fun c8 => ?_, fun c8 => ?_⟩
      · skip
        replace hE := rb_f5 hE c8
        refine behind_g5 hC B T (σ.1 10) c0 ?_ (fun r9 σ_10 q11 => ?_)
        · clear h hE; have x1 : x12_1 = 1 := by rcases ist with z | z | z; exact absurd z c8; exact z; exact absurd z hx
          refine ⟨⟨iT, iL g.1 g.2, em, tf, tn, ta, g.1, g.2, x1 ▸ e2 hx, e3⟩, fun hm => ?_⟩
          obtain ⟨s1, a1, W1, z⟩ := nx hm
          rcases z with ⟨z, -⟩ | ⟨-, z⟩
          · exact absurd z c8
          · exact ⟨s1, a1, W1, z⟩
        obtain ⟨q11, z9⟩ := q11
        replace hE := rb_m5 hE z9
        clear z9
        refine lp_b5 ?_ (fun d9 => ⟨rfl, ?_⟩)
        · clear h hE; rw [hn12, g.1, g.2]
          refine eMs_lt hx (fun f1 f2 hr => ?_) a0 q11.2.1.2.2.2.2.2
          rcases eBh_up (q11.2.2.2.2.2 f1 f2).1 with z | z
          · exact up_lt a0 iT.2.2.2.2.2 iT.2.2.1 (Or.inl z.2)
          · exact absurd z.1 hr
        · refine and_5 ?_ (fun o9 => ⟨m12, Nat.lt_of_lt_of_le d9 (Nat.le_of_lt_succ hm12), hE⟩)  -- i8
          clear h hE d9 hm12; have x1 : x12_1 = 1 := by rcases ist with z | z | z; exact absurd z c8; exact z; exact absurd z hx
          have r39 : σ_10.2.2.1 39 = σ12.2.2.1 39 := q11.1.2.2.1 39 (by decide) (by decide) (by decide)
          have pl : σ_10.1 11 = 0 → σ_10.1 47 = 0 → pL B T (σ.1 10) (σ_10.1 10) := by
            intro f1 f2
            rcases eBh_up (q11.2.2.2.2.2 f1 f2).1 with z | z
            · rw [z.2]; exact (pL_up (iL g.1 g.2) (Or.inl rfl) (by rw [← z.2]; exact q11.2.1.2.2.2.2.2)).2.2
            · rw [z.2.1]; exact iL g.1 g.2
          refine ⟨by clear e1 e2 e3 e4 i4 nx; grind, q11.2.1, pl, q11.2.2.1, fun z => absurd g.1 (ifl z), ⟨fun z => q11.2.2.2.1 (by rw [r46]; exact z), fun hm => ⟨r39.trans (i2 hm).1, fun z => q11.2.2.2.2.1 (by rw [r46]; exact hm) z⟩, fun t ht ht2 => by rw [r39]; exact i3 t ht ht2, fun f1 f2 => ?_, fun t ht => by rw [r39]; exact i5 t ht⟩⟩
          obtain ⟨z1, z2, z3⟩ := q11.2.2.2.2.2 f1 f2
          rw [r5, r7] at z1
          refine ⟨⟨m + 1, x12_1, σ12.1 10, eW σ12, by rw [r39]; exact e1, Or.inr ⟨x1, z1⟩, ?_⟩, z2, z3, fun z => ?_⟩
          · rcases eBh_up z1 with z | z
            · exact Or.inl (up_lt a0 iT.2.2.2.2.2 iT.2.2.1 (Or.inl z.2))
            · exact Or.inr ⟨z.1, z.2.1.symm⟩
          · rcases eBh_up z1 with z' | z'
            · exact absurd z z'.1
            · exact z'.2.2
      · skip
        replace hE := rb_t5 hE c8
        refine operand_g5 hC B T (σ.1 10) c0 ?_ (fun r12 σ_13 q14 => ?_)
        · clear h hE; have x1 : x12_1 = 0 := c8
          refine ⟨⟨iT, iL g.1 g.2, em, tf, tn, ta, g.1, g.2, x1 ▸ e2 hx, e3⟩, fun hm => ?_⟩
          obtain ⟨s1, a1, W1, z⟩ := nx hm
          rcases z with ⟨-, z⟩ | ⟨z, -⟩
          · exact ⟨s1, a1, W1, z⟩
          · rw [x1] at z; exact absurd z (by decide)
        obtain ⟨q14, z9⟩ := q14
        replace hE := rb_m5 hE z9
        clear z9
        refine ⟨fun c15 => ?_, fun c15 => ?_⟩
        · skip
          replace hE := rb_t5 hE c15
          refine lp_b5 ?_ (fun d9 => ⟨rfl, ?_⟩)
          · clear h hE; have x1 : x12_1 = 0 := c8
            have f47 : σ_13.1 47 = 0 := by rw [← g.2]; exact q14.1.1 47 (by decide) (by decide) (by decide) (by decide) (by decide) (by decide)
            show eMs (σ_13.1 11) (σ_13.1 47) 0 (σ_13.1 10) T < n12
            rw [hn12, g.1, g.2]
            exact eMs_lt hx (fun f1 f2 hr => up_lt a0 iT.2.2.2.2.2 iT.2.2.1 (eOp_up (q14.2.2.2.2.2 f1).1).1) a0 q14.2.1.2.2.2.2.2
          · refine and_5 ?_ (fun o9 => ⟨m12, Nat.lt_of_lt_of_le d9 (Nat.le_of_lt_succ hm12), hE⟩)  -- i11
            clear h hE d9 hm12; have x1 : x12_1 = 0 := c8
            have f47 : σ_13.1 47 = 0 := by rw [← g.2]; exact q14.1.1 47 (by decide) (by decide) (by decide) (by decide) (by decide) (by decide)
            have rs5 : σ_13.2.2.1 5 = σ.2.2.1 5 := by rw [← r5]; exact q14.1.2.2.1 5 (by decide) (by decide) (by decide) (by decide)
            have rs7 : σ_13.2.2.1 7 = σ.2.2.1 7 := by rw [← r7]; exact q14.1.2.2.1 7 (by decide) (by decide) (by decide) (by decide)
            have rr : r12 = 0 := by rcases q14.2.2.1 with z | z; exact z; exact absurd c15 (by rw [z]; decide)
            have pl : σ_13.1 11 = 0 → pL B T (σ.1 10) (σ_13.1 10) := by
              intro f1
              have u := (eOp_up (q14.2.2.2.2.2 f1).1).1
              rcases u with u | u
              · rw [u]; exact (pL_up (iL g.1 g.2) (Or.inl rfl) (by rw [← u]; exact q14.2.1.2.2.2.2.2)).2.2
              · rw [u]; exact (pL_up (iL g.1 g.2) (Or.inr rfl) (by rw [← u]; exact q14.2.1.2.2.2.2.2)).2.2
            have low : ∀ t : Int32, 0 ≤ t → t < σ12.1 10 → σ_13.2.2.1 39 t.toNatClampNeg = σ12.2.2.1 39 t.toNatClampNeg := fun t ht ht2 => q14.2.2.2.2.1 _ (cn_ne ht ht2)
            refine ⟨by clear e1 e2 e3 e4 i4; grind, q14.2.1, fun f1 _ => pl f1, Or.inl rfl, fun z => absurd g.1 (ifl z), ⟨fun _ => f47, fun hm => ?_, fun t ht ht2 => ?_, fun f1 f2 => ?_, fun t ht => (q14.2.2.2.2.1 _ (cn_ne a0 (Int32.lt_of_le_of_lt iT.2.2.2.2.2 ht)).symm).trans (i5 t ht)⟩⟩
            · have := q14.2.2.2.1 (by rw [r46]; exact hm)
              exact ⟨this.2.trans (i2 hm).1, fun _ => this.1⟩
            · rw [low t ht (Int32.lt_of_lt_of_le ht2 (iL g.1 g.2).2.2.1)]; exact i3 t ht ht2
            · obtain ⟨z1, z2, z3⟩ := q14.2.2.2.2.2 f1
              rw [rs5, rs7, rr] at z1
              rw [rr] at z2
              refine ⟨⟨m + 1, x12_1, σ12.1 10, eW σ12, eTo_R e1 (fun t ht ht2 _ => low t (Int32.le_trans A0 ht) ht2), Or.inl ⟨x1, z1⟩, Or.inl (up_lt a0 iT.2.2.2.2.2 iT.2.2.1 (eOp_up z1).1)⟩, fun _ => z2, z3, fun z => absurd z (by decide)⟩
        · skip
          replace hE := rb_f5 hE c15
          refine lp_b5 ?_ (fun d9 => ⟨rfl, ?_⟩)
          · clear h hE; have x1 : x12_1 = 0 := c8
            have f47 : σ_13.1 47 = 0 := by rw [← g.2]; exact q14.1.1 47 (by decide) (by decide) (by decide) (by decide) (by decide) (by decide)
            show eMs (σ_13.1 11) (σ_13.1 47) 1 (σ_13.1 10) T < n12
            rw [hn12, g.1, g.2]
            exact eMs_lt hx (fun f1 f2 hr => up_lt a0 iT.2.2.2.2.2 iT.2.2.1 (eOp_up (q14.2.2.2.2.2 f1).1).1) a0 q14.2.1.2.2.2.2.2
          · refine and_5 ?_ (fun o9 => ⟨m12, Nat.lt_of_lt_of_le d9 (Nat.le_of_lt_succ hm12), hE⟩)  -- i13
            clear h hE d9 hm12; have x1 : x12_1 = 0 := c8
            have f47 : σ_13.1 47 = 0 := by rw [← g.2]; exact q14.1.1 47 (by decide) (by decide) (by decide) (by decide) (by decide) (by decide)
            have rs5 : σ_13.2.2.1 5 = σ.2.2.1 5 := by rw [← r5]; exact q14.1.2.2.1 5 (by decide) (by decide) (by decide) (by decide)
            have rs7 : σ_13.2.2.1 7 = σ.2.2.1 7 := by rw [← r7]; exact q14.1.2.2.1 7 (by decide) (by decide) (by decide) (by decide)
            have rr : r12 = 1 := by rcases q14.2.2.1 with z | z; exact absurd z c15; exact z
            have pl : σ_13.1 11 = 0 → pL B T (σ.1 10) (σ_13.1 10) := by
              intro f1
              have u := (eOp_up (q14.2.2.2.2.2 f1).1).1
              rcases u with u | u
              · rw [u]; exact (pL_up (iL g.1 g.2) (Or.inl rfl) (by rw [← u]; exact q14.2.1.2.2.2.2.2)).2.2
              · rw [u]; exact (pL_up (iL g.1 g.2) (Or.inr rfl) (by rw [← u]; exact q14.2.1.2.2.2.2.2)).2.2
            have low : ∀ t : Int32, 0 ≤ t → t < σ12.1 10 → σ_13.2.2.1 39 t.toNatClampNeg = σ12.2.2.1 39 t.toNatClampNeg := fun t ht ht2 => q14.2.2.2.2.1 _ (cn_ne ht ht2)
            refine ⟨by clear e1 e2 e3 e4 i4; grind, q14.2.1, fun f1 _ => pl f1, Or.inr (Or.inl rfl), fun z => absurd g.1 (ifl z), ⟨fun _ => f47, fun hm => ?_, fun t ht ht2 => ?_, fun f1 f2 => ?_, fun t ht => (q14.2.2.2.2.1 _ (cn_ne a0 (Int32.lt_of_le_of_lt iT.2.2.2.2.2 ht)).symm).trans (i5 t ht)⟩⟩
            · have := q14.2.2.2.1 (by rw [r46]; exact hm)
              exact ⟨this.2.trans (i2 hm).1, fun _ => this.1⟩
            · rw [low t ht (Int32.lt_of_lt_of_le ht2 (iL g.1 g.2).2.2.1)]; exact i3 t ht ht2
            · obtain ⟨z1, z2, z3⟩ := q14.2.2.2.2.2 f1
              rw [rs5, rs7, rr] at z1
              rw [rr] at z2
              refine ⟨⟨m + 1, x12_1, σ12.1 10, eW σ12, eTo_R e1 (fun t ht ht2 _ => low t (Int32.le_trans A0 ht) ht2), Or.inl ⟨x1, z1⟩, Or.inl (up_lt a0 iT.2.2.2.2.2 iT.2.2.1 (eOp_up z1).1)⟩, fun _ => z2, z3, fun z => absurd z (by decide)⟩

end
section
set_option maxHeartbeats 1600000
/-! expressions while a text is read -/
theorem fu_s5 : ∃ m, fu5 = m + 1 := ⟨4294967295, rfl⟩
theorem g5_ir_5 {σ : rS} (h : σ.1 11 ≠ 0) : g5_isRight σ = 0 := if_neg h
theorem g5_ir_05 {σ : rS} (h : σ.1 11 = 0) : g5_isRight σ = 1 := if_pos h
theorem g5_go_5 {σ : rS} (h : σ.1 11 ≠ 0) : g5_goesOn σ = 0 := by
  unfold g5_goesOn pb5
  rw [g5_ir_5 h]
  rfl
theorem expression_f5 {C : rCx} (hC : cOK C) {σ : rS} {Q : Int32 → rS → Prop} (hp : σ.1 11 ≠ 0) (h : ∀ (v : Int32) (σ' : rS), (((∀ k, k ≠ 48 → k ≠ 49 → σ'.1 k = σ.1 k) ∧ σ'.2 = σ.2) ∧ g5_expression σ = (σ', v)) → Q v σ') : cI C 6 m_expression [.ref (co C)] σ Q := by
  refine m_expression_run hC ?_
  unfold w_expression_0
  intro σ_1 hσ_1 σ_2 hσ_2
  have hf : σ_2.1 11 ≠ 0 := by rw [hσ_2, si1, if_neg (by decide), hσ_1, si1, if_neg (by decide)]; exact hp
  unfold w_expression_12
  refine ⟨fun n l τ => σ_2 = τ ∧ l = 0, ⟨0, rfl, rfl⟩, ?_⟩
  rintro n l _ ⟨rfl, rfl⟩
  refine goesOn_c hC (fun r q => ⟨fun c => ?_, fun c => absurd (q.2.mp c).1 hf⟩)
  unfold w_expression_51
  refine ⟨ib_66000.mpr ⟨by decide, by decide⟩, h _ _ ⟨?_, ?_⟩⟩
  · grind [si1, si2]
  · obtain ⟨m, e⟩ := fu_s5
    have e1 : g5_expression σ = g5_expression_12 fu5 0 σ_2 := by rw [hσ_2, hσ_1]; rfl
    rw [e1, e]
    unfold g5_expression_12
    rw [g5_go_5 hf]
    rfl
theorem expr0_g5 {C : rCx} (hC : cOK C) (B T : Int32) {σ : rS} {Q : Int32 → rS → Prop} (hp : p0 σ B T ∧ (σ.1 11 = 0 → 0 ≤ σ.1 13 ∧ σ.1 13 ≤ 40)) (h : ∀ (v : Int32) (σ' : rS), ((((∀ k, k ≠ 10 → k ≠ 11 → k ≠ 12 → k ≠ 13 → k ≠ 48 → k ≠ 49 → σ'.1 k = σ.1 k) ∧ (∀ k,  σ'.2.1 k = σ.2.1 k) ∧ (∀ k, k ≠ 39 → k ≠ 50 → k ≠ 51 → k ≠ 52 → σ'.2.2.1 k = σ.2.2.1 k) ∧ (∀ k j, k ≠ 39 → k ≠ 50 → k ≠ 51 → k ≠ 52 → σ'.2.2.1 k j = σ.2.2.1 k j) ∧ (∀ k j,  σ'.2.2.2 k j = σ.2.2.2 k j)) ∧ p0 σ' B T ∧ (σ.1 11 ≠ 0 → σ'.1 11 ≠ 0 ∧ σ'.2 = σ.2) ∧ rLo (σ.2.2.1 39) (σ'.2.2.1 39) (σ.1 10) ∧ (σ'.1 11 = 0 → σ.1 11 = 0 ∧ σ.1 10 ≤ σ'.1 10 ∧ σ'.1 13 = σ.1 13 ∧ ePa (σ.2.2.1 5) (σ.2.2.1 7) (σ'.2.2.1 39) (σ.1 10) (σ'.1 10)) ∧ rHi (σ.2.2.1 39) (σ'.2.2.1 39) T) ∧ g5_expression σ = (σ', v)) → Q v σ') : cI C 6 m_expression [.ref (co C)] σ Q := by
  obtain ⟨hP, ho⟩ := hp
  by_cases e : σ.1 11 = 0
  · obtain ⟨hK, hB, hF, hN, hA, h46, h47⟩ := hP
    have ho := ho e
    refine expression_g5 hC B T (σ.1 13).toNatClampNeg ⟨hK, ⟨hK.1, hK.2.2.2.2.1, Int32.le_refl _, hK.2.2.2.2.2, hK.2.2.1, hB⟩, Or.inl h46, hF, hN, hA, ⟨ho.1, ho.2, rfl⟩, fun _ => h47, fun z => absurd h46 z⟩ (fun v σ' q => h v σ' (and_5 ?_ (fun _ => q.2)))
    replace q := q.1
    obtain ⟨q1, q2, q3, q4, q5, q6, q7⟩ := q
    have f47 : σ'.1 47 = 0 := q3 h46
    have hfr : ∀ k, k ≠ 10 → k ≠ 11 → k ≠ 12 → k ≠ 13 → k ≠ 48 → k ≠ 49 → σ'.1 k = σ.1 k := by
      intro k z1 z2 z3 z4 z5 z6
      by_cases e7 : k = 47
      · subst e7; rw [f47, h47]
      · exact q1.1 k z1 z2 z3 z4 e7 z5 z6
    refine ⟨⟨hfr, q1.2⟩, p0_fr ⟨hK, hB, hF, hN, hA, h46, h47⟩ q2 hfr q1.2.2.1, fun z => absurd e z, q5, fun f1 => ?_, q7⟩
    obtain ⟨z1, z2, z3, z4⟩ := q6 f1 f47
    exact ⟨z1, z2.2.2.1, cn_inj z4.1 ho.1 (by rw [z4.2.2]; rfl), z3⟩
  · refine expression_f5 hC e (fun v σ' q => h v σ' (and_5 ?_ (fun _ => q.2)))
    replace q := q.1
    have hfr : ∀ k, k ≠ 10 → k ≠ 11 → k ≠ 12 → k ≠ 13 → k ≠ 48 → k ≠ 49 → σ'.1 k = σ.1 k := fun k _ _ _ _ z5 z6 => q.1 k z5 z6
    have e11 : σ'.1 11 = σ.1 11 := q.1 11 (by decide) (by decide)
    refine ⟨⟨hfr, fun k => by rw [q.2], fun k _ _ _ _ => by rw [q.2], fun k j _ _ _ _ => by rw [q.2], fun k j => by rw [q.2]⟩, p0_fr hP ?_ hfr (fun k _ _ _ _ => by rw [q.2]), fun _ => ⟨by rw [e11]; exact e, q.2⟩, by rw [q.2]; exact rLo_refl, fun z => absurd z (by rw [e11]; exact e), by rw [q.2]; exact rHi_refl⟩
    have := hP.1
    grind [tK]

end
