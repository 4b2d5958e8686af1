set_option maxHeartbeats 1600000
/-! the reference: an operand -/
theorem eOp_inv {S N R : Nat → Int32} {a : Int32} {W : eL} (h : ∃ st' a' W', eOp S N R a W st' a' W') : (sg S N a 33 ∨ sg S N a 45 ∨ sg S N a 40 ∨ S a.toNatClampNeg = 2 ∨ S a.toNatClampNeg = 1) ∧ (S a.toNatClampNeg ≠ 1 → S (a + 1).toNatClampNeg ≠ 4) ∧ (sg S N a 40 → nbr W < 40) := by
  obtain ⟨st', a', W', h4, ho⟩ := h
  rcases ho with ⟨q, -, rfl, -⟩ | ⟨q, -, rfl, -⟩ | ⟨q, q2, -, rfl, -⟩ | ⟨q, -, rfl, -⟩ | ⟨q, -⟩ | ⟨q, -⟩
  · exact ⟨Or.inl q, fun _ => h4, fun e => absurd (q.2.symm.trans e.2) (by decide)⟩
  · exact ⟨Or.inr (Or.inl q), fun _ => h4, fun e => absurd (q.2.symm.trans e.2) (by decide)⟩
  · exact ⟨Or.inr (Or.inr (Or.inl q)), fun _ => h4, fun _ => q2⟩
  · exact ⟨Or.inr (Or.inr (Or.inr (Or.inl q))), fun _ => h4, fun e => absurd (q.symm.trans e.1) (by decide)⟩
  · exact ⟨Or.inr (Or.inr (Or.inr (Or.inr q))), fun e => absurd q e, fun e => absurd (q.symm.trans e.1) (by decide)⟩
  · exact ⟨Or.inr (Or.inr (Or.inr (Or.inr q))), fun e => absurd q e, fun e => absurd (q.symm.trans e.1) (by decide)⟩
theorem operand_c {C : rCx} (hC : cOK C) (B T A : Int32) (c0 : Nat) {σ : rS}  {Q : Int32 → rS → Prop} (hp : eQ σ B T A c0 0 ∧ (σ.1 46 ≠ 0 → ∃ st' a' W', eOp (σ.2.2.1 5) (σ.2.2.1 7) (σ.2.2.1 39) (σ.1 10) (eW σ) st' a' W')) (h : ∀ (v : Int32) (σ' : rS), (((∀ k, k ≠ 10 → k ≠ 11 → k ≠ 12 → k ≠ 13 → k ≠ 48 → k ≠ 49 → σ'.1 k = σ.1 k) ∧ (∀ k,  σ'.2.1 k = σ.2.1 k) ∧ (∀ k, k ≠ 39 → k ≠ 50 → k ≠ 51 → k ≠ 52 → σ'.2.2.1 k = σ.2.2.1 k) ∧ (∀ k j, k ≠ 39 → k ≠ 50 → k ≠ 51 → k ≠ 52 → σ'.2.2.1 k j = σ.2.2.1 k j) ∧ (∀ k j,  σ'.2.2.2 k j = σ.2.2.2 k j)) ∧ tK σ' B T ∧ nb v ∧ (σ.1 46 ≠ 0 → σ'.1 11 = 0 ∧ σ'.2.2.1 39 = σ.2.2.1 39) ∧ (∀ j, j ≠ (σ.1 10).toNatClampNeg → σ'.2.2.1 39 j = σ.2.2.1 39 j) ∧ (σ'.1 11 = 0 → eOp (σ'.2.2.1 5) (σ'.2.2.1 7) (σ'.2.2.1 39) (σ.1 10) (eW σ) v (σ'.1 10) (eW σ') ∧ eI (σ'.1 48) (σ'.1 49) (eW σ') v (σ'.1 10 - A) ∧ eO (σ'.1 13) (eW σ') c0)) → Q v σ') : cI C 5 m_operand [.ref (co C)] σ Q := by
  refine m_operand_run hC ?_
  unfold w_operand_0
  obtain ⟨⟨hK, hL, hM, hF, hN, hA, h11, h47, hI, hO⟩, hm⟩ := hp
  have h66 := eI_66 hI
  have hm2 := fun e => eOp_inv (hm e)
  have hj37 : ∀ (s1 : Int32) (τ : rS), (σ = τ ∧ ((s1 = 1000 ∧ sg (σ.2.2.1 5) (σ.2.2.1 7) (σ.1 10) 33) ∨ (s1 = 1001 ∧ sg (σ.2.2.1 5) (σ.2.2.1 7) (σ.1 10) 45))) → w_operand_37 C Q  s1 τ := by
    rintro y37_s1 _ ⟨rfl, j37⟩
    unfold w_operand_37
    refine hold_c hC  ?_ (fun σ_1 q2 => ?_)
    · clear h; grind (splits := 30) [tK, eM, sg, nb, isU]  -- p1
    refine go_c hC B T ?_ (fun σ_3 q4 => ?_)
    · clear h; grind (splits := 30) [tK, eM, sg, nb, isU]  -- p2
    refine h _ _ ?_
    · clear h; have m5 : σ_3.2.2.1 5 = σ.2.2.1 5 := by grind
      have m7 : σ_3.2.2.1 7 = σ.2.2.1 7 := by grind
      have m39 : σ_3.2.2.1 39 = σ.2.2.1 39 := by grind
      have mW : eW σ_3 = (y37_s1, 0) :: eW σ := by grind
      have mT : tK σ_3 B T := by grind [tK]
      have m11 : σ_3.1 11 = 0 ↔ rd σ 5 (σ.1 10 + 1) ≠ 4 := by grind
      have ma : σ_3.1 10 = σ.1 10 + 1 ∧ σ_3.1 48 = σ.1 48 + 1 ∧ σ_3.1 49 = σ.1 49 ∧ σ_3.1 13 = σ.1 13 := by grind
      refine ⟨by grind, mT, nb_0, fun e => ⟨m11.mpr ((hm2 e).2.1 (by grind [sg])), m39⟩, by grind, fun hf => ⟨?_, ?_, ?_⟩⟩
      · rw [m5, m7, m39]
        rcases j37 with ⟨rfl, q⟩ | ⟨rfl, q⟩
        · exact eOp_not q (m11.mp hf) ma.1 mW
        · exact eOp_less q (m11.mp hf) ma.1 mW
      · rw [mW, ma.2.1, ma.2.2.1, ma.1]
        have u := pL_up hL (k := 1) (Or.inl rfl) (by rw [← ma.1]; exact mT.2.2.2.2.2)
        exact eI_hold0 hI (Or.inr (Or.inl (by rcases j37 with ⟨rfl, q⟩ | ⟨rfl, q⟩; exact Or.inl rfl; exact Or.inr rfl))) u.1 u.2.1
      · rw [mW, ma.2.2.2]
        exact eO_U hO (by rcases j37 with ⟨rfl, -⟩ | ⟨rfl, -⟩ <;> decide)
  have hj18 : ∀  (τ : rS), (σ = τ ∧ (sg (σ.2.2.1 5) (σ.2.2.1 7) (σ.1 10) 33 ∨ sg (σ.2.2.1 5) (σ.2.2.1 7) (σ.1 10) 45)) → w_operand_18 C Q   τ := by
    rintro  _ ⟨rfl, j18⟩
    unfold w_operand_18
    refine isAt_c hC  ?_ (fun r5 q7 => ?_)
    · clear h; grind (splits := 30) [tK, eM, sg, nb, isU]  -- p4
    refine ⟨fun c8 => ?_, fun c8 => ?_⟩
    · skip
      refine hj37 _ _ ?_
      · clear h; grind (splits := 30) [tK, eM, sg, nb, isU]  -- k5
    · skip
      refine hj37 _ _ ?_
      · clear h; grind (splits := 30) [tK, eM, sg, nb, isU]  -- k6
  refine isAt_c hC  ?_ (fun r9 q11 => ?_)
  · clear h; grind (splits := 30) [tK, eM, sg, nb, isU]  -- p7
  refine ⟨fun c12 => ?_, fun c12 => ?_⟩
  · skip
    refine hj18 _ ?_
    · clear h; grind (splits := 30) [tK, eM, sg, nb, isU]  -- k8
  · skip
    refine isAt_c hC  ?_ (fun r13 q15 => ?_)
    · clear h; grind (splits := 30) [tK, eM, sg, nb, isU]  -- p9
    refine ⟨fun c16 => ?_, fun c16 => ?_⟩
    · skip
      refine isAt_c hC  ?_ (fun r17 q19 => ?_)
      · clear h; grind (splits := 30) [tK, eM, sg, nb, isU]  -- p10
      refine ⟨fun c20 => ?_, fun c20 => ?_⟩
      · skip
        refine ⟨ib_131074.mpr ?_, ?_⟩
        · clear h; grind (splits := 30) [tK, eM, sg, nb, isU]  -- b11
        refine ⟨fun c21 => ?_, fun c21 => ?_⟩
        · skip
          refine ⟨ib_131074.mpr ?_, ?_⟩
          · clear h; grind (splits := 30) [tK, eM, sg, nb, isU]  -- b12
          refine ⟨fun c22 => ?_, fun c22 => ?_⟩
          · skip
            refine named_c hC B T A c0 ?_ (fun r23 σ_24 q25 => ?_)
            · clear h; exact ⟨⟨hK, hL, hM, hF, hN, hA, h11, h47, hI, hO⟩, c22, hm⟩  -- p13
            refine ⟨?_, h _ _ ?_⟩
            · clear h; exact q25.2.2.1  -- b14
            · clear h; exact q25  -- q15
          · skip
            refine flaw_c hC  ?_ (fun σ_26 q27 => ?_)
            · clear h; grind (splits := 30) [tK, eM, sg, nb, isU]  -- p16
            refine h _ _ ?_
            · clear h; grind (splits := 30) [tK, eM, sg, nb, isU]  -- q17
        · skip
          refine ⟨ib_131074.mpr ?_, ?_⟩
          · clear h; grind (splits := 30) [tK, eM, sg, nb, isU]  -- b18
          intro x28 hx28
          refine go_c hC B T ?_ (fun σ_29 q30 => ?_)
          · clear h; grind (splits := 30) [tK, eM, sg, nb, isU]  -- p19
          refine push_c hC  ?_ (fun σ_31 q32 => ?_)
          · clear h; grind (splits := 30) [tK, eM, sg, nb, isU]  -- p20
          refine h _ _ ?_
          · clear h; have m5 : σ_31.2.2.1 5 = σ.2.2.1 5 := by grind
            have m7 : σ_31.2.2.1 7 = σ.2.2.1 7 := by grind
            have m39 : σ_31.2.2.1 39 = σ.2.2.1 39 := by grind
            have mW : eW σ_31 = turnW (eW σ) := by grind
            have mT : tK σ_31 B T := by grind [tK]
            have m11 : σ_31.1 11 = 0 ↔ rd σ 5 (σ.1 10 + 1) ≠ 4 := by grind
            have ma : σ_31.1 10 = σ.1 10 + 1 ∧ 0 ≤ σ_31.1 48 ∧ σ_31.1 48 ≤ σ.1 48 ∧ σ_31.1 49 = σ.1 49 + 1 ∧ σ_31.1 13 = σ.1 13 := by grind
            refine ⟨by grind, mT, nb_1, fun e => ⟨m11.mpr ((hm2 e).2.1 (by grind)), m39⟩, by grind, fun hf => ⟨?_, ?_, ?_⟩⟩
            · rw [m5, m7, m39]; exact eOp_num c21 (m11.mp hf) ma.1 mW
            · rw [mW, ma.2.2.2.1, ma.1]
              have u := pL_up hL (k := 1) (Or.inl rfl) (by rw [← ma.1]; exact mT.2.2.2.2.2)
              exact eI_push hI ma.2.1 ma.2.2.1 u.1 u.2.1
            · rw [mW, ma.2.2.2.2]; exact eO_turn hO
      · skip
        refine open_c hC B T ?_ (fun σ_33 q34 => ?_)
        · clear h; grind (splits := 30) [tK, eM, sg, nb, isU]  -- p22
        refine hold_c hC  ?_ (fun σ_35 q36 => ?_)
        · clear h; grind (splits := 30) [tK, eM, sg, nb, isU]  -- p23
        refine h _ _ ?_
        · clear h; have m5 : σ_35.2.2.1 5 = σ.2.2.1 5 := by grind
          have m7 : σ_35.2.2.1 7 = σ.2.2.1 7 := by grind
          have m39 : σ_35.2.2.1 39 = σ.2.2.1 39 := by grind
          have mW : eW σ_35 = (40, 0) :: eW σ := by grind
          have mT : tK σ_35 B T := by grind [tK]
          have ms : sg (σ.2.2.1 5) (σ.2.2.1 7) (σ.1 10) 40 := by grind [sg]
          have mo : σ_33.1 11 = 0 ↔ rd σ 5 (σ.1 10 + 1) ≠ 4 ∧ σ.1 13 ≠ 40 := by grind [sg]
          have m11 : σ_35.1 11 = σ_33.1 11 := by grind
          have ma : σ_33.1 11 = 0 → σ_35.1 10 = σ.1 10 + 1 ∧ σ_35.1 48 = σ.1 48 + 1 ∧ σ_35.1 49 = σ.1 49 ∧ σ_35.1 13 = σ.1 13 + 1 := by grind
          have k0 : σ.1 46 ≠ 0 → σ_35.1 11 = 0 := by
            intro hm'
            have k2 : σ.1 13 ≠ 40 := by
              have : c0 = 0 := by rcases hM with q | q; exact absurd q hm'; exact q.2.2.2
              subst this
              exact eO_40 hO ((hm2 hm').2.2 ms)
            exact m11.trans (mo.mpr ⟨(hm2 hm').2.1 (by grind [sg]), k2⟩)
          refine ⟨by grind, mT, nb_0, fun e => ⟨k0 e, m39⟩, by grind, fun hf => ?_⟩
          rw [m11] at hf
          have k6 := eO_open (s := 40) (f := 0) hO (mo.mp hf).2 (Or.inl rfl)
          refine ⟨?_, ?_, ?_⟩
          · rw [m5, m7, m39]; exact eOp_par ms k6.2 (mo.mp hf).1 (ma hf).1 mW
          · rw [mW, (ma hf).2.1, (ma hf).2.2.1, (ma hf).1]
            have u := pL_up hL (k := 1) (Or.inl rfl) (by rw [← (ma hf).1]; exact mT.2.2.2.2.2)
            exact eI_hold0 hI (Or.inl rfl) u.1 u.2.1
          · rw [mW, (ma hf).2.2.2]; exact k6.1
    · skip
      refine hj18 _ ?_
      · clear h; grind (splits := 30) [tK, eM, sg, nb, isU]  -- k25
