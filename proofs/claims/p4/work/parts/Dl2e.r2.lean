set_option maxHeartbeats 1600000
/-! the reference: expressions -/
theorem expression_g5 {C : rCx} (hC : cOK C) (B T : Int32) (c0 : Nat) {σ : rS}  {Q : Int32 → rS → Prop} (hp : tK σ B T ∧ pL B T (σ.1 10) (σ.1 10) ∧ eM (σ.1 46) (σ.1 58) c0 ∧ tF σ ∧ tN σ ∧ tA σ ∧ eO (σ.1 13) [] c0 ∧ (σ.1 46 = 0 → σ.1 47 = 0) ∧ (σ.1 46 ≠ 0 → σ.1 11 = 0 ∧ σ.1 47 = 0 ∧ ∃ e, ePa (σ.2.2.1 5) (σ.2.2.1 7) (σ.2.2.1 39) (σ.1 10) e)) (h : ∀ (v : Int32) (σ' : rS), ((((∀ k, k ≠ 10 → k ≠ 11 → k ≠ 12 → k ≠ 13 → k ≠ 47 → k ≠ 48 → k ≠ 49 → σ'.1 k = σ.1 k) ∧ (∀ k,  σ'.2.1 k = σ.2.1 k) ∧ (∀ k, k ≠ 39 → k ≠ 50 → k ≠ 51 → k ≠ 52 → σ'.2.2.1 k = σ.2.2.1 k) ∧ (∀ k j, k ≠ 39 → k ≠ 50 → k ≠ 51 → k ≠ 52 → σ'.2.2.1 k j = σ.2.2.1 k j) ∧ (∀ k j,  σ'.2.2.2 k j = σ.2.2.2 k j)) ∧ tK σ' B T ∧ (σ.1 46 = 0 → σ'.1 47 = 0) ∧ (σ.1 46 ≠ 0 → σ'.2.2.1 39 = σ.2.2.1 39 ∧ (σ'.1 47 = 0 → σ'.1 11 = 0 ∧ ∀ e, ePa (σ.2.2.1 5) (σ.2.2.1 7) (σ.2.2.1 39) (σ.1 10) e → σ'.1 10 = e)) ∧ (∀ t : Int32, 0 ≤ t → t < σ.1 10 → rd σ' 39 t = rd σ 39 t) ∧ (σ'.1 11 = 0 → σ'.1 47 = 0 → σ.1 11 = 0 ∧ pL B T (σ.1 10) (σ'.1 10) ∧ ePa (σ.2.2.1 5) (σ.2.2.1 7) (σ'.2.2.1 39) (σ.1 10) (σ'.1 10) ∧ eO (σ'.1 13) [] c0) ∧ (∀ t : Int32, T < t → rd σ' 39 t = rd σ 39 t)) ∧ g5_expression σ = (σ', v)) → Q v σ') : cI C 6 m_expression [.ref (co C)] σ Q := by
  refine m_expression_run hC ?_
  unfold w_expression_0
  obtain ⟨hK, hL, hM, hF, hN, hA, hO, h0, h1⟩ := hp
  have hj51 : ∀  (τ : rS), ((((∀ k, k ≠ 10 → k ≠ 11 → k ≠ 12 → k ≠ 13 → k ≠ 47 → k ≠ 48 → k ≠ 49 → τ.1 k = σ.1 k) ∧ (∀ k,  τ.2.1 k = σ.2.1 k) ∧ (∀ k, k ≠ 39 → k ≠ 50 → k ≠ 51 → k ≠ 52 → τ.2.2.1 k = σ.2.2.1 k) ∧ (∀ k j, k ≠ 39 → k ≠ 50 → k ≠ 51 → k ≠ 52 → τ.2.2.1 k j = σ.2.2.1 k j) ∧ (∀ k j,  τ.2.2.2 k j = σ.2.2.2 k j)) ∧ tK τ B T ∧ (τ.1 11 = 0 → τ.1 47 = 0 → pL B T (σ.1 10) (τ.1 10)) ∧ (σ.1 11 ≠ 0 → τ.1 11 ≠ 0) ∧ ∃ st, (τ.1 11 = 0 → τ.1 47 = 0 → st = 2) ∧ eJ (σ.1 46) (τ.1 13) (τ.1 11) (τ.1 47) (τ.1 10) (τ.1 48) (τ.1 49) st (σ.1 10) T (eW τ) (σ.2.2.1 5) (σ.2.2.1 7) (τ.2.2.1 39) (σ.2.2.1 39) c0) ∧ g5_expression σ = g5_expression_51 τ) → w_expression_51 C Q   τ := by
    rintro  τ51 ⟨j51, hE⟩
    unfold w_expression_51
    refine ⟨ib_66000.mpr ?_, ?_⟩
    · clear h hE; exact ⟨by decide, by decide⟩  -- b1
    refine h _ _ ?_
    · refine and_5 ?_ (fun o9 => hE)  -- q2
      clear h hE; obtain ⟨jF, jT, jL, jf, st, js, e1, e2, e3, e4, e5⟩ := j51
      refine ⟨jF, jT, e1, fun hm => ⟨(e2 hm).1, fun hf => ⟨(e2 hm).2 hf, fun e he => ?_⟩⟩, e3, fun f1 f2 => ?_, e5⟩
      · have f1 := (e2 hm).2 hf
        obtain ⟨⟨m, hm'⟩, -⟩ := e4 f1 hf
        rw [js f1 hf, (e2 hm).1] at hm'
        exact eTo_end he hm'
      · have s2 := js f1 f2
        obtain ⟨⟨m, hm'⟩, -, e6, e7⟩ := e4 f1 f2
        rw [s2, e7 s2] at hm'
        rw [e7 s2] at e6
        exact ⟨Decidable.byContradiction (fun z => jf z f1), jL f1 f2, ⟨m, hm'⟩, e6⟩
  have hE : g5_expression σ = g5_expression σ := rfl
  intro σ_1 hσ_1
  replace hE := rb_p5 hE hσ_1
  intro σ_2 hσ_2
  replace hE := rb_p5 hE hσ_2
  unfold w_expression_12
  refine ⟨fun n l1 τ => n = eMs (τ.1 11) (τ.1 47) l1 (τ.1 10) T ∧ ((((∀ k, k ≠ 10 → k ≠ 11 → k ≠ 12 → k ≠ 13 → k ≠ 47 → k ≠ 48 → k ≠ 49 → τ.1 k = σ.1 k) ∧ (∀ k,  τ.2.1 k = σ.2.1 k) ∧ (∀ k, k ≠ 39 → k ≠ 50 → k ≠ 51 → k ≠ 52 → τ.2.2.1 k = σ.2.2.1 k) ∧ (∀ k j, k ≠ 39 → k ≠ 50 → k ≠ 51 → k ≠ 52 → τ.2.2.1 k j = σ.2.2.1 k j) ∧ (∀ k j,  τ.2.2.2 k j = σ.2.2.2 k j)) ∧ tK τ B T ∧ (τ.1 11 = 0 → τ.1 47 = 0 → pL B T (σ.1 10) (τ.1 10)) ∧ (l1 = 0 ∨ l1 = 1 ∨ l1 = 2) ∧ (σ.1 11 ≠ 0 → τ.1 11 ≠ 0) ∧ eJ (σ.1 46) (τ.1 13) (τ.1 11) (τ.1 47) (τ.1 10) (τ.1 48) (τ.1 49) l1 (σ.1 10) T (eW τ) (σ.2.2.1 5) (σ.2.2.1 7) (τ.2.2.1 39) (σ.2.2.1 39) c0) ∧ ∃ m5, n < m5 ∧ g5_expression σ = g5_expression_12 m5 l1 τ), ⟨_, rfl, ?_⟩, ?_⟩
  · refine and_5 ?_ (fun o9 => ⟨fu5, by first | exact eMs_5 | (clear h hE; unfold fu5; omega), hE⟩)  -- j3
    clear h hE; have k48 : σ_2.1 48 = 0 := by rw [hσ_2, si1, if_neg (by decide), hσ_1, si1, if_pos rfl]
    have k49 : σ_2.1 49 = 0 := by rw [hσ_2, si1, if_pos rfl]
    have mW : eW σ_2 = [] := eLst_nil (by rw [k48]; decide)
    have k2 : σ_2.2 = σ.2 := by rw [hσ_2, si2, hσ_1, si2]
    have kf : ∀ k, k ≠ 48 → k ≠ 49 → σ_2.1 k = σ.1 k := fun k z1 z2 => by rw [hσ_2, si1, if_neg z2, hσ_1, si1, if_neg z1]
    have k10 := kf 10 (by decide) (by decide)
    have k11 := kf 11 (by decide) (by decide)
    have k13 := kf 13 (by decide) (by decide)
    have k47 := kf 47 (by decide) (by decide)
    refine ⟨by clear h1; grind, by clear h1; grind [tK], fun _ _ => by rw [k10]; exact hL, Or.inl rfl, fun z => by rw [k11]; exact z, ⟨by rw [k47]; exact h0, fun hm => ⟨by rw [k2], fun _ => by rw [k11]; exact (h1 hm).1⟩, fun t _ _ => by rw [k2], fun f1 f2 => ⟨⟨0, rfl, k10, mW⟩, fun _ => ?_, by rw [mW, k13]; exact hO, fun _ => mW⟩, fun t _ => by rw [k2]⟩⟩
    rw [mW, k48, k49, k10, Int32.sub_self]
    exact ⟨by decide, by decide, by decide, by decide, by decide, rfl, trivial, fun e => absurd e (by decide)⟩
  rintro n12 x12_1 σ12 ⟨hn12, i12, m12, hm12, hE⟩
  obtain ⟨m12, rfl⟩ : ∃ m9, m12 = m9 + 1 := ⟨m12 - 1, by clear h hE; omega⟩
  refine goesOn_g5 hC  (fun r3 q5 => ?_)
  obtain ⟨q5, z9⟩ := q5
  replace hE := rb_p5 hE z9
  clear z9
  refine ⟨fun c6 => ?_, fun c6 => ?_⟩
  · skip
    replace hE := rb_t5 hE c6
    refine hj51 _ ?_
    · refine and_5 ?_ (fun o9 => hE)  -- k4
      clear h hE; exact ⟨i12.1, i12.2.1, i12.2.2.1, i12.2.2.2.2.1, x12_1, fun f1 f2 => absurd c6 (q5.2.mpr ⟨f1, f2⟩), i12.2.2.2.2.2⟩
  · skip
    replace hE := rb_f5 hE c6
    refine ⟨fun c7 => ?_, fun c7 => ?_⟩
    · skip
      replace hE := rb_t5 hE c7
      refine hj51 _ ?_
      · refine and_5 ?_ (fun o9 => hE)  -- k5
        clear h hE; exact ⟨i12.1, i12.2.1, i12.2.2.1, i12.2.2.2.2.1, x12_1, fun f1 f2 => by rcases i12.2.2.2.1 with z | z | z; exact absurd c7 (by rw [z]; decide); exact absurd c7 (by rw [z]; decide); exact z, i12.2.2.2.2.2⟩
    · skip
      replace hE := rb_f5 hE c7
      have g : σ12.1 11 = 0 ∧ σ12.1 47 = 0 := q5.2.mp c6
      obtain ⟨iF, iT, iL, ist, ifl, i1, i2, i3, i4, i5⟩ := i12
      obtain ⟨⟨m, e1⟩, e2, e3, e4⟩ := i4 g.1 g.2
      have r5 : σ12.2.2.1 5 = σ.2.2.1 5 := iF.2.2.1 5 (by decide) (by decide) (by decide) (by decide)
      have r7 : σ12.2.2.1 7 = σ.2.2.1 7 := iF.2.2.1 7 (by decide) (by decide) (by decide) (by decide)
      have r46 : σ12.1 46 = σ.1 46 := iF.1 46 (by decide) (by decide) (by decide) (by decide) (by decide) (by decide) (by decide)
      have r58 : σ12.1 58 = σ.1 58 := iF.1 58 (by decide) (by decide) (by decide) (by decide) (by decide) (by decide) (by decide)
      have tf : tF σ12 := by clear h hE; clear h1 e1 e2 e3 e4 i4; grind
      have tn : tN σ12 := by clear h hE; clear h1 e1 e2 e3 e4 i4; grind
      have ta : tA σ12 := by clear h hE; clear h1 e1 e2 e3 e4 i4; grind
      have hx : ¬ x12_1 = 2 := fun z => c7 (by rw [z]; decide)
      have A0 : 0 ≤ σ.1 10 := Int32.le_trans hL.1 hL.2.1
      have a0 : 0 ≤ σ12.1 10 := Int32.le_trans A0 (iL g.1 g.2).2.2.1
      have em : eM (σ12.1 46) (σ12.1 58) c0 := by rw [r46, r58]; exact hM
      have nx : σ12.1 46 ≠ 0 → ∃ s1 a1 W1, eStep (σ12.2.2.1 5) (σ12.2.2.1 7) (σ12.2.2.1 39) x12_1 (σ12.1 10) (eW σ12) s1 a1 W1 := by
        intro hm
        rw [r46] at hm
        obtain ⟨e, he⟩ := (h1 hm).2.2
        rw [(i2 hm).1] at e1
        rw [r5, r7, (i2 hm).1]
        exact eTo_next he e1 hx
      clear h1
      refine ⟨fun c8 => ?_, fun c8 => ?_⟩
      · skip
        replace hE := rb_f5 hE c8
        refine behind_g5 hC B T (σ.1 10) c0 ?_ (fun r9 σ_10 q11 => ?_)
        · clear h hE; have x1 : x12_1 = 1 := by rcases ist with z | z | z; exact absurd z c8; exact z; exact absurd z hx
          refine ⟨⟨iT, iL g.1 g.2, em, tf, tn, ta, g.1, g.2, x1 ▸ e2 hx, e3⟩, fun hm => ?_⟩
          obtain ⟨s1, a1, W1, z⟩ := nx hm
          rcases z with ⟨z, -⟩ | ⟨-, z⟩
          · exact absurd z c8
          · exact ⟨s1, a1, W1, z⟩
        obtain ⟨q11, z9⟩ := q11
        replace hE := rb_m5 hE z9
        clear z9
        refine lp_b5 ?_ (fun d9 => ⟨rfl, ?_⟩)
        · clear h hE; rw [hn12, g.1, g.2]
          refine eMs_lt hx (fun f1 f2 hr => ?_) a0 q11.2.1.2.2.2.2.2
          rcases eBh_up (q11.2.2.2.2.2 f1 f2).1 with z | z
          · exact up_lt a0 iT.2.2.2.2.2 iT.2.2.1 (Or.inl z.2)
          · exact absurd z.1 hr
        · refine and_5 ?_ (fun o9 => ⟨m12, Nat.lt_of_lt_of_le d9 (Nat.le_of_lt_succ hm12), hE⟩)  -- i8
          clear h hE d9 hm12; have x1 : x12_1 = 1 := by rcases ist with z | z | z; exact absurd z c8; exact z; exact absurd z hx
          have r39 : σ_10.2.2.1 39 = σ12.2.2.1 39 := q11.1.2.2.1 39 (by decide) (by decide) (by decide)
          have pl : σ_10.1 11 = 0 → σ_10.1 47 = 0 → pL B T (σ.1 10) (σ_10.1 10) := by
            intro f1 f2
            rcases eBh_up (q11.2.2.2.2.2 f1 f2).1 with z | z
            · rw [z.2]; exact (pL_up (iL g.1 g.2) (Or.inl rfl) (by rw [← z.2]; exact q11.2.1.2.2.2.2.2)).2.2
            · rw [z.2.1]; exact iL g.1 g.2
          refine ⟨by clear e1 e2 e3 e4 i4 nx; grind, q11.2.1, pl, q11.2.2.1, fun z => absurd g.1 (ifl z), ⟨fun z => q11.2.2.2.1 (by rw [r46]; exact z), fun hm => ⟨r39.trans (i2 hm).1, fun z => q11.2.2.2.2.1 (by rw [r46]; exact hm) z⟩, fun t ht ht2 => by rw [r39]; exact i3 t ht ht2, fun f1 f2 => ?_, fun t ht => by rw [r39]; exact i5 t ht⟩⟩
          obtain ⟨z1, z2, z3⟩ := q11.2.2.2.2.2 f1 f2
          rw [r5, r7] at z1
          refine ⟨⟨m + 1, x12_1, σ12.1 10, eW σ12, by rw [r39]; exact e1, Or.inr ⟨x1, z1⟩, ?_⟩, z2, z3, fun z => ?_⟩
          · rcases eBh_up z1 with z | z
            · exact Or.inl (up_lt a0 iT.2.2.2.2.2 iT.2.2.1 (Or.inl z.2))
            · exact Or.inr ⟨z.1, z.2.1.symm⟩
          · rcases eBh_up z1 with z' | z'
            · exact absurd z z'.1
            · exact z'.2.2
      · skip
        replace hE := rb_t5 hE c8
        refine operand_g5 hC B T (σ.1 10) c0 ?_ (fun r12 σ_13 q14 => ?_)
        · clear h hE; have x1 : x12_1 = 0 := c8
          refine ⟨⟨iT, iL g.1 g.2, em, tf, tn, ta, g.1, g.2, x1 ▸ e2 hx, e3⟩, fun hm => ?_⟩
          obtain ⟨s1, a1, W1, z⟩ := nx hm
          rcases z with ⟨-, z⟩ | ⟨z, -⟩
          · exact ⟨s1, a1, W1, z⟩
          · rw [x1] at z; exact absurd z (by decide)
        obtain ⟨q14, z9⟩ := q14
        replace hE := rb_m5 hE z9
        clear z9
        refine ⟨fun c15 => ?_, fun c15 => ?_⟩
        · skip
          replace hE := rb_t5 hE c15
          refine lp_b5 ?_ (fun d9 => ⟨rfl, ?_⟩)
          · clear h hE; have x1 : x12_1 = 0 := c8
            have f47 : σ_13.1 47 = 0 := by rw [← g.2]; exact q14.1.1 47 (by decide) (by decide) (by decide) (by decide) (by decide) (by decide)
            show eMs (σ_13.1 11) (σ_13.1 47) 0 (σ_13.1 10) T < n12
            rw [hn12, g.1, g.2]
            exact eMs_lt hx (fun f1 f2 hr => up_lt a0 iT.2.2.2.2.2 iT.2.2.1 (eOp_up (q14.2.2.2.2.2 f1).1).1) a0 q14.2.1.2.2.2.2.2
          · refine and_5 ?_ (fun o9 => ⟨m12, Nat.lt_of_lt_of_le d9 (Nat.le_of_lt_succ hm12), hE⟩)  -- i11
            clear h hE d9 hm12; have x1 : x12_1 = 0 := c8
            have f47 : σ_13.1 47 = 0 := by rw [← g.2]; exact q14.1.1 47 (by decide) (by decide) (by decide) (by decide) (by decide) (by decide)
            have rs5 : σ_13.2.2.1 5 = σ.2.2.1 5 := by rw [← r5]; exact q14.1.2.2.1 5 (by decide) (by decide) (by decide) (by decide)
            have rs7 : σ_13.2.2.1 7 = σ.2.2.1 7 := by rw [← r7]; exact q14.1.2.2.1 7 (by decide) (by decide) (by decide) (by decide)
            have rr : r12 = 0 := by rcases q14.2.2.1 with z | z; exact z; exact absurd c15 (by rw [z]; decide)
            have pl : σ_13.1 11 = 0 → pL B T (σ.1 10) (σ_13.1 10) := by
              intro f1
              have u := (eOp_up (q14.2.2.2.2.2 f1).1).1
              rcases u with u | u
              · rw [u]; exact (pL_up (iL g.1 g.2) (Or.inl rfl) (by rw [← u]; exact q14.2.1.2.2.2.2.2)).2.2
              · rw [u]; exact (pL_up (iL g.1 g.2) (Or.inr rfl) (by rw [← u]; exact q14.2.1.2.2.2.2.2)).2.2
            have low : ∀ t : Int32, 0 ≤ t → t < σ12.1 10 → σ_13.2.2.1 39 t.toNatClampNeg = σ12.2.2.1 39 t.toNatClampNeg := fun t ht ht2 => q14.2.2.2.2.1 _ (cn_ne ht ht2)
            refine ⟨by clear e1 e2 e3 e4 i4; grind, q14.2.1, fun f1 _ => pl f1, Or.inl rfl, fun z => absurd g.1 (ifl z), ⟨fun _ => f47, fun hm => ?_, fun t ht ht2 => ?_, fun f1 f2 => ?_, fun t ht => (q14.2.2.2.2.1 _ (cn_ne a0 (Int32.lt_of_le_of_lt iT.2.2.2.2.2 ht)).symm).trans (i5 t ht)⟩⟩
            · have := q14.2.2.2.1 (by rw [r46]; exact hm)
              exact ⟨this.2.trans (i2 hm).1, fun _ => this.1⟩
            · rw [low t ht (Int32.lt_of_lt_of_le ht2 (iL g.1 g.2).2.2.1)]; exact i3 t ht ht2
            · obtain ⟨z1, z2, z3⟩ := q14.2.2.2.2.2 f1
              rw [rs5, rs7, rr] at z1
              rw [rr] at z2
              refine ⟨⟨m + 1, x12_1, σ12.1 10, eW σ12, eTo_R e1 (fun t ht ht2 _ => low t (Int32.le_trans A0 ht) ht2), Or.inl ⟨x1, z1⟩, Or.inl (up_lt a0 iT.2.2.2.2.2 iT.2.2.1 (eOp_up z1).1)⟩, fun _ => z2, z3, fun z => absurd z (by decide)⟩
        · skip
          replace hE := rb_f5 hE c15
          refine lp_b5 ?_ (fun d9 => ⟨rfl, ?_⟩)
          · clear h hE; have x1 : x12_1 = 0 := c8
            have f47 : σ_13.1 47 = 0 := by rw [← g.2]; exact q14.1.1 47 (by decide) (by decide) (by decide) (by decide) (by decide) (by decide)
            show eMs (σ_13.1 11) (σ_13.1 47) 1 (σ_13.1 10) T < n12
            rw [hn12, g.1, g.2]
            exact eMs_lt hx (fun f1 f2 hr => up_lt a0 iT.2.2.2.2.2 iT.2.2.1 (eOp_up (q14.2.2.2.2.2 f1).1).1) a0 q14.2.1.2.2.2.2.2
          · refine and_5 ?_ (fun o9 => ⟨m12, Nat.lt_of_lt_of_le d9 (Nat.le_of_lt_succ hm12), hE⟩)  -- i13
            clear h hE d9 hm12; have x1 : x12_1 = 0 := c8
            have f47 : σ_13.1 47 = 0 := by rw [← g.2]; exact q14.1.1 47 (by decide) (by decide) (by decide) (by decide) (by decide) (by decide)
            have rs5 : σ_13.2.2.1 5 = σ.2.2.1 5 := by rw [← r5]; exact q14.1.2.2.1 5 (by decide) (by decide) (by decide) (by decide)
            have rs7 : σ_13.2.2.1 7 = σ.2.2.1 7 := by rw [← r7]; exact q14.1.2.2.1 7 (by decide) (by decide) (by decide) (by decide)
            have rr : r12 = 1 := by rcases q14.2.2.1 with z | z; exact absurd z c15; exact z
            have pl : σ_13.1 11 = 0 → pL B T (σ.1 10) (σ_13.1 10) := by
              intro f1
              have u := (eOp_up (q14.2.2.2.2.2 f1).1).1
              rcases u with u | u
              · rw [u]; exact (pL_up (iL g.1 g.2) (Or.inl rfl) (by rw [← u]; exact q14.2.1.2.2.2.2.2)).2.2
              · rw [u]; exact (pL_up (iL g.1 g.2) (Or.inr rfl) (by rw [← u]; exact q14.2.1.2.2.2.2.2)).2.2
            have low : ∀ t : Int32, 0 ≤ t → t < σ12.1 10 → σ_13.2.2.1 39 t.toNatClampNeg = σ12.2.2.1 39 t.toNatClampNeg := fun t ht ht2 => q14.2.2.2.2.1 _ (cn_ne ht ht2)
            refine ⟨by clear e1 e2 e3 e4 i4; grind, q14.2.1, fun f1 _ => pl f1, Or.inr (Or.inl rfl), fun z => absurd g.1 (ifl z), ⟨fun _ => f47, fun hm => ?_, fun t ht ht2 => ?_, fun f1 f2 => ?_, fun t ht => (q14.2.2.2.2.1 _ (cn_ne a0 (Int32.lt_of_le_of_lt iT.2.2.2.2.2 ht)).symm).trans (i5 t ht)⟩⟩
            · have := q14.2.2.2.1 (by rw [r46]; exact hm)
              exact ⟨this.2.trans (i2 hm).1, fun _ => this.1⟩
            · rw [low t ht (Int32.lt_of_lt_of_le ht2 (iL g.1 g.2).2.2.1)]; exact i3 t ht ht2
            · obtain ⟨z1, z2, z3⟩ := q14.2.2.2.2.2 f1
              rw [rs5, rs7, rr] at z1
              rw [rr] at z2
              refine ⟨⟨m + 1, x12_1, σ12.1 10, eW σ12, eTo_R e1 (fun t ht ht2 _ => low t (Int32.le_trans A0 ht) ht2), Or.inl ⟨x1, z1⟩, Or.inl (up_lt a0 iT.2.2.2.2.2 iT.2.2.1 (eOp_up z1).1)⟩, fun _ => z2, z3, fun z => absurd z (by decide)⟩
