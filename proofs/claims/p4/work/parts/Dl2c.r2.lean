set_option maxHeartbeats 1600000
/-! the reference: operands -/
theorem operand_g5 {C : rCx} (hC : cOK C) (B T A : Int32) (c0 : Nat) {σ : rS}  {Q : Int32 → rS → Prop} (hp : eQ σ B T A c0 0 ∧ (σ.1 46 ≠ 0 → ∃ st' a' W', eOp (σ.2.2.1 5) (σ.2.2.1 7) (σ.2.2.1 39) (σ.1 10) (eW σ) st' a' W')) (h : ∀ (v : Int32) (σ' : rS), ((((∀ k, k ≠ 10 → k ≠ 11 → k ≠ 12 → k ≠ 13 → k ≠ 48 → k ≠ 49 → σ'.1 k = σ.1 k) ∧ (∀ k,  σ'.2.1 k = σ.2.1 k) ∧ (∀ k, k ≠ 39 → k ≠ 50 → k ≠ 51 → k ≠ 52 → σ'.2.2.1 k = σ.2.2.1 k) ∧ (∀ k j, k ≠ 39 → k ≠ 50 → k ≠ 51 → k ≠ 52 → σ'.2.2.1 k j = σ.2.2.1 k j) ∧ (∀ k j,  σ'.2.2.2 k j = σ.2.2.2 k j)) ∧ tK σ' B T ∧ nb v ∧ (σ.1 46 ≠ 0 → σ'.1 11 = 0 ∧ σ'.2.2.1 39 = σ.2.2.1 39) ∧ (∀ j, j ≠ (σ.1 10).toNatClampNeg → σ'.2.2.1 39 j = σ.2.2.1 39 j) ∧ (σ'.1 11 = 0 → eOp (σ'.2.2.1 5) (σ'.2.2.1 7) (σ'.2.2.1 39) (σ.1 10) (eW σ) v (σ'.1 10) (eW σ') ∧ eI (σ'.1 48) (σ'.1 49) (eW σ') v (σ'.1 10 - A) ∧ eO (σ'.1 13) (eW σ') c0)) ∧ g5_operand σ = (σ', v)) → Q v σ') : cI C 5 m_operand [.ref (co C)] σ Q := by
  refine m_operand_run hC ?_
  unfold w_operand_0
  obtain ⟨⟨hK, hL, hM, hF, hN, hA, h11, h47, hI, hO⟩, hm⟩ := hp
  have h66 := eI_66 hI
  have hm2 := fun e => eOp_inv (hm e)
  have hj37 : ∀ (s1 : Int32) (τ : rS), ((σ = τ ∧ ((s1 = 1000 ∧ sg (σ.2.2.1 5) (σ.2.2.1 7) (σ.1 10) 33) ∨ (s1 = 1001 ∧ sg (σ.2.2.1 5) (σ.2.2.1 7) (σ.1 10) 45))) ∧ g5_operand σ = g5_operand_37 s1 τ) → w_operand_37 C Q  s1 τ := by
    rintro y37_s1 _ ⟨⟨rfl, j37⟩, hE⟩
    unfold w_operand_37
    refine hold_g5 hC  ?_ (fun σ_1 q2 => ?_)
    · clear h hE; grind (splits := 30) [tK, eM, sg, nb, isU]  -- p1
    obtain ⟨q2, z9⟩ := q2
    replace hE := rb_p5 hE z9.symm
    clear z9
    refine go_g5 hC B T ?_ (fun σ_3 q4 => ?_)
    · clear h hE; grind (splits := 30) [tK, eM, sg, nb, isU]  -- p2
    obtain ⟨q4, z9⟩ := q4
    replace hE := rb_p5 hE z9.symm
    clear z9
    refine h _ _ ?_
    · refine and_5 ?_ (fun o9 => hE)  -- q3
      clear h hE; have m5 : σ_3.2.2.1 5 = σ.2.2.1 5 := by grind
      have m7 : σ_3.2.2.1 7 = σ.2.2.1 7 := by grind
      have m39 : σ_3.2.2.1 39 = σ.2.2.1 39 := by grind
      have mW : eW σ_3 = (y37_s1, 0) :: eW σ := by grind
      have mT : tK σ_3 B T := by grind [tK]
      have m11 : σ_3.1 11 = 0 ↔ rd σ 5 (σ.1 10 + 1) ≠ 4 := by grind
      have ma : σ_3.1 10 = σ.1 10 + 1 ∧ σ_3.1 48 = σ.1 48 + 1 ∧ σ_3.1 49 = σ.1 49 ∧ σ_3.1 13 = σ.1 13 := by grind
      refine ⟨by grind, mT, nb_0, fun e => ⟨m11.mpr ((hm2 e).2.1 (by grind [sg])), m39⟩, by grind, fun hf => ⟨?_, ?_, ?_⟩⟩
      · rw [m5, m7, m39]
        rcases j37 with ⟨rfl, q⟩ | ⟨rfl, q⟩
        · exact eOp_not q (m11.mp hf) ma.1 mW
        · exact eOp_less q (m11.mp hf) ma.1 mW
      · rw [mW, ma.2.1, ma.2.2.1, ma.1]
        have u := pL_up hL (k := 1) (Or.inl rfl) (by rw [← ma.1]; exact mT.2.2.2.2.2)
        exact eI_hold0 hI (Or.inr (Or.inl (by rcases j37 with ⟨rfl, q⟩ | ⟨rfl, q⟩; exact Or.inl rfl; exact Or.inr rfl))) u.1 u.2.1
      · rw [mW, ma.2.2.2]
        exact eO_U hO (by rcases j37 with ⟨rfl, -⟩ | ⟨rfl, -⟩ <;> decide)
  have hj18 : ∀  (τ : rS), ((σ = τ ∧ (sg (σ.2.2.1 5) (σ.2.2.1 7) (σ.1 10) 33 ∨ sg (σ.2.2.1 5) (σ.2.2.1 7) (σ.1 10) 45)) ∧ g5_operand σ = g5_operand_18 τ) → w_operand_18 C Q   τ := by
    rintro  _ ⟨⟨rfl, j18⟩, hE⟩
    unfold w_operand_18
    refine isAt_g5 hC  ?_ (fun r5 q7 => ?_)
    · clear h hE; grind (splits := 30) [tK, eM, sg, nb, isU]  -- p4
    obtain ⟨q7, z9⟩ := q7
    replace hE := rb_p5 hE z9
    clear z9
    refine ⟨fun c8 => ?_, fun c8 => ?_⟩
    · skip
      replace hE := rb_t5 hE c8
      refine hj37 _ _ ?_
      · refine and_5 ?_ (fun o9 => hE)  -- k5
        clear h hE; grind (splits := 30) [tK, eM, sg, nb, isU]
    · skip
      replace hE := rb_f5 hE c8
      refine hj37 _ _ ?_
      · refine and_5 ?_ (fun o9 => hE)  -- k6
        clear h hE; grind (splits := 30) [tK, eM, sg, nb, isU]
  have hE : g5_operand σ = g5_operand σ := rfl
  refine isAt_g5 hC  ?_ (fun r9 q11 => ?_)
  · clear h hE; grind (splits := 30) [tK, eM, sg, nb, isU]  -- p7
  obtain ⟨q11, z9⟩ := q11
  replace hE := rb_p5 hE z9
  clear z9
  refine ⟨fun c12 => ?_, fun c12 => ?_⟩
  · skip
    replace hE := rb_f5 hE c12
    refine hj18 _ ?_
    · refine and_5 ?_ (fun o9 => hE)  -- k8
      clear h hE; grind (splits := 30) [tK, eM, sg, nb, isU]
  · skip
    replace hE := rb_t5 hE c12
    refine isAt_g5 hC  ?_ (fun r13 q15 => ?_)
    · clear h hE; grind (splits := 30) [tK, eM, sg, nb, isU]  -- p9
    obtain ⟨q15, z9⟩ := q15
    replace hE := rb_p5 hE z9
    clear z9
    refine ⟨fun c16 => ?_, fun c16 => ?_⟩
    · skip
      replace hE := rb_t5 hE c16
      refine isAt_g5 hC  ?_ (fun r17 q19 => ?_)
      · clear h hE; grind (splits := 30) [tK, eM, sg, nb, isU]  -- p10
      obtain ⟨q19, z9⟩ := q19
      replace hE := rb_p5 hE z9
      clear z9
      refine ⟨fun c20 => ?_, fun c20 => ?_⟩
      · skip
        replace hE := rb_t5 hE c20
        refine ⟨ib_131074.mpr ?_, ?_⟩
        · clear h hE; grind (splits := 30) [tK, eM, sg, nb, isU]  -- b11
        refine ⟨fun c21 => ?_, fun c21 => ?_⟩
        · skip
          replace hE := rb_f5 hE c21
          refine ⟨ib_131074.mpr ?_, ?_⟩
          · clear h hE; grind (splits := 30) [tK, eM, sg, nb, isU]  -- b12
          refine ⟨fun c22 => ?_, fun c22 => ?_⟩
          · skip
            replace hE := rb_t5 hE c22
            refine named_g5 hC B T A c0 ?_ (fun r23 σ_24 q25 => ?_)
            · clear h hE; exact ⟨⟨hK, hL, hM, hF, hN, hA, h11, h47, hI, hO⟩, c22, hm⟩  -- p13
            obtain ⟨q25, z9⟩ := q25
            replace hE := rb_m5 hE z9
            clear z9
            refine ⟨?_, h _ _ ?_⟩
            · clear h hE; exact q25.2.2.1  -- b14
            · refine and_5 ?_ (fun o9 => hE)  -- q15
              clear h hE; exact q25
          · skip
            replace hE := rb_f5 hE c22
            refine flaw_g5 hC  ?_ (fun σ_26 q27 => ?_)
            · clear h hE; grind (splits := 30) [tK, eM, sg, nb, isU]  -- p16
            obtain ⟨q27, z9⟩ := q27
            replace hE := rb_p5 hE z9.symm
            clear z9
            refine h _ _ ?_
            · refine and_5 ?_ (fun o9 => hE)  -- q17
              clear h hE; grind (splits := 30) [tK, eM, sg, nb, isU]
        · skip
          replace hE := rb_t5 hE c21
          refine ⟨ib_131074.mpr ?_, ?_⟩
          · clear h hE; grind (splits := 30) [tK, eM, sg, nb, isU]  -- b18
          intro x28 hx28
          replace hE := rb_p5 hE hx28
          refine go_g5 hC B T ?_ (fun σ_29 q30 => ?_)
          · clear h hE; grind (splits := 30) [tK, eM, sg, nb, isU]  -- p19
          obtain ⟨q30, z9⟩ := q30
          replace hE := rb_p5 hE z9.symm
          clear z9
          refine push_g5 hC  ?_ (fun σ_31 q32 => ?_)
          · clear h hE; grind (splits := 30) [tK, eM, sg, nb, isU]  -- p20
          obtain ⟨q32, z9⟩ := q32
          replace hE := rb_p5 hE z9.symm
          clear z9
          refine h _ _ ?_
          · refine and_5 ?_ (fun o9 => hE)  -- q21
            clear h hE; have m5 : σ_31.2.2.1 5 = σ.2.2.1 5 := by grind
            have m7 : σ_31.2.2.1 7 = σ.2.2.1 7 := by grind
            have m39 : σ_31.2.2.1 39 = σ.2.2.1 39 := by grind
            have mW : eW σ_31 = turnW (eW σ) := by grind
            have mT : tK σ_31 B T := by grind [tK]
            have m11 : σ_31.1 11 = 0 ↔ rd σ 5 (σ.1 10 + 1) ≠ 4 := by grind
            have ma : σ_31.1 10 = σ.1 10 + 1 ∧ 0 ≤ σ_31.1 48 ∧ σ_31.1 48 ≤ σ.1 48 ∧ σ_31.1 49 = σ.1 49 + 1 ∧ σ_31.1 13 = σ.1 13 := by grind
            refine ⟨by grind, mT, nb_1, fun e => ⟨m11.mpr ((hm2 e).2.1 (by grind)), m39⟩, by grind, fun hf => ⟨?_, ?_, ?_⟩⟩
            · rw [m5, m7, m39]; exact eOp_num c21 (m11.mp hf) ma.1 mW
            · rw [mW, ma.2.2.2.1, ma.1]
              have u := pL_up hL (k := 1) (Or.inl rfl) (by rw [← ma.1]; exact mT.2.2.2.2.2)
              exact eI_push hI ma.2.1 ma.2.2.1 u.1 u.2.1
            · rw [mW, ma.2.2.2.2]; exact eO_turn hO
      · skip
        replace hE := rb_f5 hE c20
        refine open_g5 hC B T ?_ (fun σ_33 q34 => ?_)
        · clear h hE; grind (splits := 30) [tK, eM, sg, nb, isU]  -- p22
        obtain ⟨q34, z9⟩ := q34
        replace hE := rb_p5 hE z9.symm
        clear z9
        refine hold_g5 hC  ?_ (fun σ_35 q36 => ?_)
        · clear h hE; grind (splits := 30) [tK, eM, sg, nb, isU]  -- p23
        obtain ⟨q36, z9⟩ := q36
        replace hE := rb_p5 hE z9.symm
        clear z9
        refine h _ _ ?_
        · refine and_5 ?_ (fun o9 => hE)  -- q24
          clear h hE; have m5 : σ_35.2.2.1 5 = σ.2.2.1 5 := by grind
          have m7 : σ_35.2.2.1 7 = σ.2.2.1 7 := by grind
          have m39 : σ_35.2.2.1 39 = σ.2.2.1 39 := by grind
          have mW : eW σ_35 = (40, 0) :: eW σ := by grind
          have mT : tK σ_35 B T := by grind [tK]
          have ms : sg (σ.2.2.1 5) (σ.2.2.1 7) (σ.1 10) 40 := by grind [sg]
          have mo : σ_33.1 11 = 0 ↔ rd σ 5 (σ.1 10 + 1) ≠ 4 ∧ σ.1 13 ≠ 40 := by grind [sg]
          have m11 : σ_35.1 11 = σ_33.1 11 := by grind
          have ma : σ_33.1 11 = 0 → σ_35.1 10 = σ.1 10 + 1 ∧ σ_35.1 48 = σ.1 48 + 1 ∧ σ_35.1 49 = σ.1 49 ∧ σ_35.1 13 = σ.1 13 + 1 := by grind
          have k0 : σ.1 46 ≠ 0 → σ_35.1 11 = 0 := by
            intro hm'
            have k2 : σ.1 13 ≠ 40 := by
              have : c0 = 0 := by rcases hM with q | q; exact absurd q hm'; exact q.2.2.2
              subst this
              exact eO_40 hO ((hm2 hm').2.2 ms)
            exact m11.trans (mo.mpr ⟨(hm2 hm').2.1 (by grind [sg]), k2⟩)
          refine ⟨by grind, mT, nb_0, fun e => ⟨k0 e, m39⟩, by grind, fun hf => ?_⟩
          rw [m11] at hf
          have k6 := eO_open (s := 40) (f := 0) hO (mo.mp hf).2 (Or.inl rfl)
          refine ⟨?_, ?_, ?_⟩
          · rw [m5, m7, m39]; exact eOp_par ms k6.2 (mo.mp hf).1 (ma hf).1 mW
          · rw [mW, (ma hf).2.1, (ma hf).2.2.1, (ma hf).1]
            have u := pL_up hL (k := 1) (Or.inl rfl) (by rw [← (ma hf).1]; exact mT.2.2.2.2.2)
            exact eI_hold0 hI (Or.inl rfl) u.1 u.2.1
          · rw [mW, (ma hf).2.2.2]; exact k6.1
    · skip
      replace hE := rb_f5 hE c16
      refine hj18 _ ?_
      · refine and_5 ?_ (fun o9 => hE)  -- k25
        clear h hE; grind (splits := 30) [tK, eM, sg, nb, isU]
