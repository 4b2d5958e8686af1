section
set_option maxHeartbeats 1600000
/-! the reference: endings, nexts -/
theorem endingNumber_g5 {C : rCx} (hC : cOK C)  {σ : rS}  {Q : Int32 → rS → Prop} (hp : 0 ≤ σ.1 71 ∧ σ.1 71 ≤ 1000) (h : ∀ (v : Int32) (σ' : rS), ((frG [71] [75] σ σ' ∧ (0 ≤ σ'.1 71 ∧ σ.1 71 ≤ σ'.1 71 ∧ σ'.1 71 ≤ 1000) ∧ (v = -1 ∨ (0 ≤ v ∧ v < σ'.1 71))) ∧ g5_endingNumber σ = (σ', v)) → Q v σ') : cI C 0 m_endingNumber [.ref (co C)] σ Q := by
  refine m_endingNumber_run hC ?_
  unfold w_endingNumber_0
  have hE : g5_endingNumber σ = g5_endingNumber σ := rfl
  unfold w_endingNumber_2
  refine ⟨fun n l1 τ => n = (σ.1 71 - l1).toNatClampNeg ∧ ((σ = τ ∧ 0 ≤ l1 ∧ l1 ≤ σ.1 71) ∧ ∃ m5, n < m5 ∧ g5_endingNumber σ = g5_endingNumber_2 m5 l1 τ), ⟨_, rfl, ?_⟩, ?_⟩
  · refine and_5 ?_ (fun o9 => ⟨fu5, cnb5, hE⟩)  -- j1
    clear h hE; exact ⟨rfl, by decide, hp.1⟩
  rintro n2 x2_1 _ ⟨hn2, ⟨rfl, i2⟩, mF2, hmF2, hE⟩
  obtain ⟨mF2, rfl⟩ : ∃ m9, mF2 = m9 + 1 := ⟨mF2 - 1, by clear h hE; omega⟩
  have hj78 : ∀ (l1 : Int32) (l2 : Int32) (τ : rS), ((σ = τ ∧ l1 = x2_1 ∧ ¬ σ.1 71 ≤ x2_1) ∧ g5_endingNumber σ = g5_endingNumber_78 (g5_endingNumber_2 mF2) l1 l2 τ) → w_endingNumber_78 C Q (fun l1' τ => ∃ k < n2, (fun n l1 τ => n = (σ.1 71 - l1).toNatClampNeg ∧ ((σ = τ ∧ 0 ≤ l1 ∧ l1 ≤ σ.1 71) ∧ ∃ m5, n < m5 ∧ g5_endingNumber σ = g5_endingNumber_2 m5 l1 τ)) k l1' τ) l1 l2 τ := by
    clear hE
    rintro y78_1 y78_2 _ ⟨⟨rfl, j78⟩, hE⟩
    unfold w_endingNumber_78
    have u := uk i2.1 j78.2 hp.2
    refine ⟨fun c1 => ?_, fun c1 => ?_⟩
    · skip
      replace hE := rb_t5 hE c1
      intro x2 hx2
      replace hE := rb_p5 hE hx2
      refine lp_b5 (cn_lt2 hn2 ?_ ?_) (fun d9 => ⟨rfl, ?_⟩)
      · clear h hE; rw [hx2, j78.1]; exact u.1  -- d2
      · clear h hE; rw [hx2, j78.1]; exact u.2.1  -- d3
      · refine and_5 ?_ (fun o9 => ⟨mF2, Nat.lt_of_lt_of_le d9 (Nat.le_of_lt_succ hmF2), hE⟩)  -- i4
        clear h hE d9 hmF2; rw [hx2, j78.1]; exact ⟨rfl, u.2.2.1, u.2.2.2.1⟩
    · skip
      replace hE := rb_f5 hE c1
      refine h _ _ ?_
      · refine and_5 ?_ (fun o9 => hE)  -- q5
        clear h hE; rw [j78.1]; exact ⟨frG_refl, ⟨hp.1, Int32.le_refl _, hp.2⟩, Or.inr ⟨i2.1, u.2.2.2.2.1⟩⟩
  have hj31 : ∀ (l1 : Int32) (s0 : Int32) (τ : rS), ((σ = τ ∧ l1 = x2_1 ∧ ¬ σ.1 71 ≤ x2_1 ∧ nb s0) ∧ g5_endingNumber σ = g5_endingNumber_31 (g5_endingNumber_2 mF2) l1 s0 τ) → w_endingNumber_31 C Q (fun l1' τ => ∃ k < n2, (fun n l1 τ => n = (σ.1 71 - l1).toNatClampNeg ∧ ((σ = τ ∧ 0 ≤ l1 ∧ l1 ≤ σ.1 71) ∧ ∃ m5, n < m5 ∧ g5_endingNumber σ = g5_endingNumber_2 m5 l1 τ)) k l1' τ) l1 s0 τ := by
    clear hE
    rintro y31_1 y31_s0 _ ⟨⟨rfl, j31⟩, hE⟩
    unfold w_endingNumber_31
    unfold w_endingNumber_34
    refine ⟨fun n l1 l2 l3 τ => n = (34 - l3).toNatClampNeg ∧ ((σ = τ ∧ l1 = x2_1 ∧ nb l2 ∧ 0 ≤ l3 ∧ l3 ≤ 34) ∧ ∃ m5, n < m5 ∧ g5_endingNumber σ = g5_endingNumber_34 (g5_endingNumber_2 mF2) m5 l1 l2 l3 τ), ⟨_, rfl, ?_⟩, ?_⟩
    · refine and_5 ?_ (fun o9 => ⟨fu5, cnb5, hE⟩)  -- j6
      clear h hE; exact ⟨rfl, j31.1, j31.2.2, by decide, by decide⟩
    rintro n34 x34_1 x34_2 x34_3 _ ⟨hn34, ⟨rfl, i34⟩, mF34, hmF34, hE⟩
    obtain ⟨mF34, rfl⟩ : ∃ m9, mF34 = m9 + 1 := ⟨mF34 - 1, by clear h hE; omega⟩
    have hj71 : ∀ (l1 : Int32) (l3 : Int32) (s0 : Int32) (τ : rS), ((σ = τ ∧ l1 = x2_1 ∧ l3 = x34_3 ∧ ¬ 34 ≤ x34_3 ∧ nb s0) ∧ g5_endingNumber σ = g5_endingNumber_71 (g5_endingNumber_2 mF2) (g5_endingNumber_34 (g5_endingNumber_2 mF2) mF34) l1 l3 s0 τ) → w_endingNumber_71 C Q (fun l1' τ => ∃ k < n2, (fun n l1 τ => n = (σ.1 71 - l1).toNatClampNeg ∧ ((σ = τ ∧ 0 ≤ l1 ∧ l1 ≤ σ.1 71) ∧ ∃ m5, n < m5 ∧ g5_endingNumber σ = g5_endingNumber_2 m5 l1 τ)) k l1' τ) (fun l1' l2' l3' τ => ∃ k < n34, (fun n l1 l2 l3 τ => n = (34 - l3).toNatClampNeg ∧ ((σ = τ ∧ l1 = x2_1 ∧ nb l2 ∧ 0 ≤ l3 ∧ l3 ≤ 34) ∧ ∃ m5, n < m5 ∧ g5_endingNumber σ = g5_endingNumber_34 (g5_endingNumber_2 mF2) m5 l1 l2 l3 τ)) k l1' l2' l3' τ) l1 l3 s0 τ := by
      clear hE
      rintro y71_1 y71_3 y71_s0 _ ⟨⟨rfl, j71⟩, hE⟩
      unfold w_endingNumber_71
      intro x3 hx3
      replace hE := rb_p5 hE hx3
      have u := up34 i34.2.2.1 j71.2.2.1
      refine lp_b5 (cn_lt2 hn34 ?_ ?_) (fun d9 => ⟨rfl, ?_⟩)
      · clear h hE; rw [hx3, j71.2.1]; exact u.1  -- d7
      · clear h hE; rw [hx3, j71.2.1]; exact u.2.1  -- d8
      · refine and_5 ?_ (fun o9 => ⟨mF34, Nat.lt_of_lt_of_le d9 (Nat.le_of_lt_succ hmF34), hE⟩)  -- i9
        clear h hE d9 hmF34; rw [hx3, j71.2.1]; exact ⟨rfl, j71.1, j71.2.2.2, u.2.2.1, u.2.2.2.1⟩
    refine ⟨fun c4 => ?_, fun c4 => ?_⟩
    · skip
      replace hE := rb_t5 hE c4
      refine hj78 _ _ _ ?_
      · refine and_5 ?_ (fun o9 => hE)  -- k10
        clear h hE; exact ⟨rfl, i34.1, j31.2.1⟩
    · skip
      replace hE := rb_f5 hE c4
      refine ⟨fun c5 => ?_, fun c5 => ?_⟩
      · skip
        replace hE := rb_t5 hE c5
        refine hj78 _ _ _ ?_
        · refine and_5 ?_ (fun o9 => hE)  -- k11
          clear h hE; exact ⟨rfl, i34.1, j31.2.1⟩
      · skip
        replace hE := rb_f5 hE c5
        have u := up34 i34.2.2.1 c4
        have z := xe i2.1 (uk i2.1 j31.2.1 hp.2).2.2.2.2.2 i34.2.2.1 u.2.2.2.2
        refine ⟨ib_35000.mpr ?_, ?_⟩
        · clear h hE; rw [i34.1]; exact z.1  -- b12
        refine ⟨ib_34.mpr ?_, ?_⟩
        · clear h hE; exact ⟨i34.2.2.1, u.2.2.2.2⟩  -- b13
        refine ⟨fun c6 => ?_, fun c6 => ?_⟩
        · skip
          replace hE := rb_f5 hE c6
          refine hj71 _ _ _ _ ?_
          · refine and_5 ?_ (fun o9 => hE)  -- k14
            clear h hE; exact ⟨rfl, i34.1, rfl, c4, nb_0⟩
        · skip
          replace hE := rb_t5 hE c6
          refine hj71 _ _ _ _ ?_
          · refine and_5 ?_ (fun o9 => hE)  -- k15
            clear h hE; exact ⟨rfl, i34.1, rfl, c4, nb_1⟩
  refine ⟨fun c7 => ?_, fun c7 => ?_⟩
  · skip
    replace hE := rb_t5 hE c7
    refine ⟨fun c8 => ?_, fun c8 => ?_⟩
    · skip
      replace hE := rb_f5 hE c8
      refine ⟨ib_35000.mpr ?_, ?_⟩
      · clear h hE; have lt := le_ne hp.1 hp.2 (by decide) c8
        exact (xe hp.1 lt.1 (Int32.le_refl 0) (by decide)).2
      intro σ_9 hσ_9
      replace hE := rb_p5 hE hσ_9
      unfold w_endingNumber_120
      refine ⟨fun n l1 τ => n = (34 - l1).toNatClampNeg ∧ ((frG [] [75] σ τ ∧ 0 ≤ l1 ∧ l1 ≤ 34) ∧ ∃ m5, n < m5 ∧ g5_endingNumber σ = g5_endingNumber_120 m5 l1 τ), ⟨_, rfl, ?_⟩, ?_⟩
      · refine and_5 ?_ (fun o9 => ⟨fu5, cnb5, hE⟩)  -- j17
        clear h hE; exact ⟨by rw [hσ_9]; exact frG_1 (by decide), by decide, by decide⟩
      rintro n120 x120_1 σ120 ⟨hn120, i120, mF120, hmF120, hE⟩
      obtain ⟨mF120, rfl⟩ : ∃ m9, mF120 = m9 + 1 := ⟨mF120 - 1, by clear h hE; omega⟩
      refine ⟨fun c10 => ?_, fun c10 => ?_⟩
      · skip
        replace hE := rb_t5 hE c10
        intro σ_11 hσ_11
        replace hE := rb_p5 hE hσ_11
        refine h _ _ ?_
        · refine and_5 ?_ (fun o9 => hE)  -- q18
          clear h hE; have lt := le_ne hp.1 hp.2 (by decide) c8
          have e71 : σ_11.1 71 = σ.1 71 + 1 := by rw [hσ_11, si1, if_pos rfl, i120.1.1 71 (by decide)]
          rw [e71, lt.2.2.2.2.1]
          exact ⟨frG_tr (frG_mono i120.1 (by decide) (by decide)) (by rw [hσ_11]; exact frG_0 (by decide)), ⟨lt.2.1, lt.2.2.1, lt.2.2.2.1⟩, Or.inr ⟨hp.1, lt.2.2.2.2.2⟩⟩
      · skip
        replace hE := rb_f5 hE c10
        have u := up34 i120.2.1 c10
        refine ⟨ib_34.mpr ?_, ?_⟩
        · clear h hE; exact ⟨i120.2.1, u.2.2.2.2⟩  -- b19
        refine ⟨ib_35000.mpr ?_, ?_⟩
        · clear h hE; have lt := le_ne hp.1 hp.2 (by decide) c8
          rw [i120.1.1 71 (by decide)]; exact (xe hp.1 lt.1 i120.2.1 u.2.2.2.2).1
        intro σ_12 hσ_12
        replace hE := rb_p5 hE hσ_12
        intro x13 hx13
        replace hE := rb_p5 hE hx13
        refine lp_b5 (cn_lt2 hn120 ?_ ?_) (fun d9 => ⟨rfl, ?_⟩)
        · clear h hE; rw [hx13]; exact u.1  -- d21
        · clear h hE; rw [hx13]; exact u.2.1  -- d22
        · refine and_5 ?_ (fun o9 => ⟨mF120, Nat.lt_of_lt_of_le d9 (Nat.le_of_lt_succ hmF120), hE⟩)  -- i23
          clear h hE d9 hmF120; rw [hx13]; exact ⟨frG_tr i120.1 (by rw [hσ_12]; exact frG_1 (by decide)), u.2.2.1, u.2.2.2.1⟩
    · skip
      replace hE := rb_t5 hE c8
      refine h _ _ ?_
      · refine and_5 ?_ (fun o9 => hE)  -- q24
        clear h hE; exact ⟨frG_refl, ⟨hp.1, Int32.le_refl _, hp.2⟩, Or.inl rfl⟩
  · skip
    replace hE := rb_f5 hE c7
    refine ⟨ib_35000.mpr ?_, ?_⟩
    · clear h hE; exact (xe i2.1 (uk i2.1 c7 hp.2).2.2.2.2.2 (Int32.le_refl 0) (by decide)).2  -- b25
    refine ⟨fun c14 => ?_, fun c14 => ?_⟩
    · skip
      replace hE := rb_f5 hE c14
      refine hj31 _ _ _ ?_
      · refine and_5 ?_ (fun o9 => hE)  -- k26
        clear h hE; exact ⟨rfl, rfl, c7, nb_0⟩
    · skip
      replace hE := rb_t5 hE c14
      refine hj31 _ _ _ ?_
      · refine and_5 ?_ (fun o9 => hE)  -- k27
        clear h hE; exact ⟨rfl, rfl, c7, nb_1⟩

theorem addNext_g5 {C : rCx} (hC : cOK C)  {σ : rS} {a1 : Int32} {a2 : Int32} {a3 : Int32} {a4 : Int32} {Q : Int32 → rS → Prop} (hp : exRR9 σ ∧ (a1 = 0 ∨ a1 = 1 ∨ a1 = 2 ∨ a1 = 3) ∧ (a1 = 0 → csF σ) ∧ 0 ≤ a4 ∧ a4 ≤ σ.1 72 ∧ 1 ≤ a2 ∧ (∀ i, a4.toNatClampNeg ≤ i → i < (σ.1 72).toNatClampNeg → 1 ≤ σ.2.2.1 79 i) ∧ wOf (σ.2.2.1 79) a4.toNatClampNeg ((σ.1 72).toNatClampNeg - a4.toNatClampNeg) + a2.toInt ≤ 8000000) (h : ∀ (v : Int32) (σ' : rS), ((frG anF anR σ σ' ∧ exRR9 σ' ∧ (σ.1 70 ≤ σ'.1 70 ∧ σ.1 71 ≤ σ'.1 71 ∧ σ.1 72 ≤ σ'.1 72) ∧ rwKR9 σ σ' ∧ nb v ∧ (v ≠ 0 → anQ σ σ' a4 a2 a3)) ∧ g5_addNext a1 a2 a3 a4 σ = (σ', v)) → Q v σ') : cI C 3 m_addNext [.ref (co C), .int a1, .int a2, .int a3, .int a4] σ Q := by
  refine m_addNext_run hC ?_
  unfold w_addNext_0
  obtain ⟨hR, hh, hc, h0, h1, hw, hg, hs⟩ := hp
  have hj110 : ∀ (l1 : Int32) (l2 : Int32) (l5 : Int32) (τ : rS), ((l1 = a1 ∧ l2 = a2 ∧ anS σ τ a1 l5) ∧ g5_addNext a1 a2 a3 a4 σ = g5_addNext_110 l1 l2 l5 τ) → w_addNext_110 C Q  l1 l2 l5 τ := by
    rintro y110_1 y110_2 y110_5 τ110 ⟨j110, hE⟩
    unfold w_addNext_110
    obtain ⟨z1, z2, z3⟩ := j110
    have b72 : 0 ≤ τ110.1 72 ∧ τ110.1 72 < 20000 → True := fun _ => trivial
    refine ⟨fun c1 => ?_, fun c1 => ?_⟩
    · skip
      replace hE := rb_f5 hE c1
      refine ⟨ib_20000.mpr ?_, ?_⟩
      · clear h hE; exact ⟨z3.2.1.2.2.1, (le_ne z3.2.1.2.2.1 z3.2.1.2.2.2 (by decide) c1).1⟩  -- b1
      intro σ_2 hσ_2
      replace hE := rb_p5 hE hσ_2
      refine ⟨ib_20000.mpr ?_, ?_⟩
      · clear h hE; rw [hσ_2, ri1]; exact ⟨z3.2.1.2.2.1, (le_ne z3.2.1.2.2.1 z3.2.1.2.2.2 (by decide) c1).1⟩  -- b2
      intro σ_3 hσ_3
      replace hE := rb_p5 hE hσ_3
      refine ⟨ib_20000.mpr ?_, ?_⟩
      · clear h hE; rw [hσ_3, ri1, hσ_2, ri1]; exact ⟨z3.2.1.2.2.1, (le_ne z3.2.1.2.2.1 z3.2.1.2.2.2 (by decide) c1).1⟩  -- b3
      intro σ_4 hσ_4
      replace hE := rb_p5 hE hσ_4
      intro σ_5 hσ_5
      replace hE := rb_p5 hE hσ_5
      refine h _ _ ?_
      · refine and_5 ?_ (fun o9 => hE)  -- q4
        clear h hE; have e5 : ∀ k, k ≠ 72 → σ_5.1 k = τ110.1 k := fun k hk => by rw [hσ_5, si1, if_neg hk, hσ_4, ri1, hσ_3, ri1, hσ_2, ri1]
        have e72 : σ_5.1 72 = τ110.1 72 + 1 := by rw [hσ_5, si1, if_pos rfl, hσ_4, ri1, hσ_3, ri1, hσ_2, ri1]
        have r77 : σ_5.2.2.1 77 = upd (τ110.2.2.1 77) (τ110.1 72).toNatClampNeg a1 := by rw [hσ_5, si2, hσ_4, ri3 (by decide), hσ_3, ri3 (by decide), hσ_2, ri_row, z1]
        have r78 : σ_5.2.2.1 78 = upd (τ110.2.2.1 78) (τ110.1 72).toNatClampNeg y110_5 := by rw [hσ_5, si2, hσ_4, ri3 (by decide), hσ_3, ri_row, hσ_2, ri1, ri3 (by decide)]
        have r79 : σ_5.2.2.1 79 = upd (τ110.2.2.1 79) (τ110.1 72).toNatClampNeg a2 := by rw [hσ_5, si2, hσ_4, ri_row, hσ_3, ri1, ri3 (by decide), hσ_2, ri1, ri3 (by decide), z2]
        have w := an_app (j := a3) z3 hh h0 h1 hw hg c1 e5 e72 r77 r78 r79
        have fr : frG anF anR τ110 σ_5 := by rw [hσ_5, hσ_4, hσ_3, hσ_2]; exact frG_tr (frG_tr (frG_tr (frG_1 (by decide)) (frG_1 (by decide))) (frG_1 (by decide))) (frG_0 (by decide))
        exact ⟨frG_tr (frG_mono z3.1 (by decide) (by decide)) fr, w.1, ⟨by rw [e5 70 (by decide)]; exact z3.2.2.1.1, by rw [e5 71 (by decide)]; exact z3.2.2.1.2, w.2.1⟩, rw_o z3.2.2.2.1 (by rw [hσ_5, si2, hσ_4, ri3 (by decide), hσ_3, ri3 (by decide), hσ_2, ri3 (by decide)]) (by rw [hσ_5, si2, hσ_4, ri3 (by decide), hσ_3, ri3 (by decide), hσ_2, ri3 (by decide)]) (e5 19 (by decide)) (e5 70 (by decide)), nb_1, fun _ => w.2.2⟩
    · skip
      replace hE := rb_t5 hE c1
      refine h _ _ ?_
      · refine and_5 ?_ (fun o9 => hE)  -- q5
        clear h hE; exact ⟨frG_mono z3.1 (by decide) (by decide), z3.2.1, ⟨z3.2.2.1.1, z3.2.2.1.2, by rw [z3.1.1 72 (by decide)]; exact Int32.le_refl _⟩, z3.2.2.2.1, nb_0, fun z => absurd rfl z⟩
  have hh55 : ∀ (l1 : Int32) (l2 : Int32) (l3 : Int32) (l5 : Int32) (l6 : Int32) (τ : rS), ((l1 = a1 ∧ l2 = a2 ∧ l3 = a3 ∧ anS σ τ a1 l5 ∧ a4 ≤ l6 ∧ l6 ≤ σ.1 72) ∧ ∃ m5, (τ.1 72 - l6).toNatClampNeg < m5 ∧ g5_addNext a1 a2 a3 a4 σ = g5_addNext_55 m5 l1 l2 l3 l5 l6 τ) → w_addNext_55 C Q  l1 l2 l3 l5 l6 τ := by
    intro z1 z2 z3 z5 z6 τi hinit
    unfold w_addNext_55
    refine ⟨fun n l1 l2 l3 l5 l6 τ => n = (τ.1 72 - l6).toNatClampNeg ∧ ((l1 = a1 ∧ l2 = a2 ∧ l3 = a3 ∧ anS σ τ a1 l5 ∧ a4 ≤ l6 ∧ l6 ≤ σ.1 72) ∧ ∃ m5, n < m5 ∧ g5_addNext a1 a2 a3 a4 σ = g5_addNext_55 m5 l1 l2 l3 l5 l6 τ), ⟨_, rfl, hinit⟩, ?_⟩
    clear hinit
    rintro n55 x55_1 x55_2 x55_3 x55_5 x55_6 σ55 ⟨hn55, i55, mF55, hmF55, hE⟩
    obtain ⟨mF55, rfl⟩ : ∃ m9, mF55 = m9 + 1 := ⟨mF55 - 1, by clear h hE; omega⟩
    obtain ⟨z1, z2, z3, y1, y2, y3⟩ := i55
    have e72 : σ55.1 72 = σ.1 72 := y1.1.1 72 (by decide)
    have p0 : 0 ≤ x55_6 := Int32.le_trans h0 y2
    refine ⟨fun c6 => ?_, fun c6 => ?_⟩
    · skip
      replace hE := rb_t5 hE c6
      refine hj110 _ _ _ _ ?_
      · refine and_5 ?_ (fun o9 => hE)  -- k6
        clear h hE; exact ⟨z1, z2, y1⟩
    · skip
      replace hE := rb_f5 hE c6
      refine ⟨fun c7 => ?_, fun c7 => ?_⟩
      · skip
        replace hE := rb_t5 hE c7
        refine hj110 _ _ _ _ ?_
        · refine and_5 ?_ (fun o9 => hE)  -- k7
          clear h hE; exact ⟨z1, z2, y1⟩
      · skip
        replace hE := rb_f5 hE c7
        have u := u2 p0 c6 y1.2.1.2.2.2
        refine ⟨ib_20000.mpr ?_, ?_⟩
        · clear h hE; exact ⟨p0, u.2.2.2.2.2.2⟩  -- b8
        refine ⟨fun c8 => ?_, fun c8 => ?_⟩
        · skip
          replace hE := rb_f5 hE c8
          intro x9 hx9
          replace hE := rb_p5 hE hx9
          refine lp_b5 (cn_lt2 hn55 ?_ ?_) (fun d9 => ⟨rfl, ?_⟩)
          · clear h hE; rw [hx9]; exact u.1  -- d9
          · clear h hE; rw [hx9]; exact u.2.1  -- d10
          · refine and_5 ?_ (fun o9 => ⟨mF55, Nat.lt_of_lt_of_le d9 (Nat.le_of_lt_succ hmF55), hE⟩)  -- i11
            clear h hE d9 hmF55; rw [hx9]; exact ⟨z1, z2, z3, y1, Int32.le_trans y2 u.2.2.2.1, by rw [← e72]; exact u.2.2.2.2.1⟩
        · skip
          replace hE := rb_t5 hE c8
          refine ⟨ib_20000.mpr ?_, ?_⟩
          · clear h hE; exact ⟨p0, u.2.2.2.2.2.2⟩  -- b12
          refine ⟨fun c10 => ?_, fun c10 => ?_⟩
          · skip
            replace hE := rb_f5 hE c10
            intro x11 hx11
            replace hE := rb_p5 hE hx11
            refine lp_b5 (cn_lt2 hn55 ?_ ?_) (fun d9 => ⟨rfl, ?_⟩)
            · clear h hE; rw [hx11]; exact u.1  -- d13
            · clear h hE; rw [hx11]; exact u.2.1  -- d14
            · refine and_5 ?_ (fun o9 => ⟨mF55, Nat.lt_of_lt_of_le d9 (Nat.le_of_lt_succ hmF55), hE⟩)  -- i15
              clear h hE d9 hmF55; rw [hx11]; exact ⟨z1, z2, z3, y1, Int32.le_trans y2 u.2.2.2.1, by rw [← e72]; exact u.2.2.2.2.1⟩
          · skip
            replace hE := rb_t5 hE c10
            refine ⟨ib_20000.mpr ?_, ?_⟩
            · clear h hE; exact ⟨p0, u.2.2.2.2.2.2⟩  -- b16
            refine ⟨ib_20000.mpr ?_, ?_⟩
            · clear h hE; exact ⟨p0, u.2.2.2.2.2.2⟩  -- b17
            intro σ_12 hσ_12
            replace hE := rb_p5 hE hσ_12
            refine h _ _ ?_
            · refine and_5 ?_ (fun o9 => hE)  -- q18
              clear h hE; have e12 : ∀ k, σ_12.1 k = σ55.1 k := fun k => by rw [hσ_12, ri1]
              have w := an_join (j := a3) y1 h0 h1 hw hg hs y2 (by rw [← e72]; exact u.2.2.2.2.2.1) (by rw [← z3]; exact c7) e12 (by rw [hσ_12, ri3 (by decide)]) (by rw [hσ_12, ri3 (by decide)]) (by rw [hσ_12, ri_row, z2])
              exact ⟨frG_tr (frG_mono y1.1 (by decide) (by decide)) (by rw [hσ_12]; exact frG_1 (by decide)), w.1, ⟨by rw [e12]; exact y1.2.2.1.1, by rw [e12]; exact y1.2.2.1.2, w.2.1⟩, rw_o y1.2.2.2.1 (by rw [hσ_12, ri3 (by decide)]) (by rw [hσ_12, ri3 (by decide)]) (e12 19) (e12 70), nb_1, fun _ => w.2.2⟩
  have hj36 : ∀ (l1 : Int32) (l2 : Int32) (l3 : Int32) (l4 : Int32) (s0 : Int32) (τ : rS), ((l1 = a1 ∧ l2 = a2 ∧ l3 = a3 ∧ l4 = a4 ∧ frG [70, 71] [73, 74, 75, 84] σ τ ∧ exRR9 τ ∧ (σ.1 70 ≤ τ.1 70 ∧ σ.1 71 ≤ τ.1 71) ∧ rwKR9 σ τ ∧ (a1 = 0 → s0 = -1 ∨ (0 ≤ s0 ∧ s0 < τ.1 70)) ∧ (a1 = 1 → s0 = -1 ∨ (0 ≤ s0 ∧ s0 < τ.1 71))) ∧ g5_addNext a1 a2 a3 a4 σ = g5_addNext_36 l1 l2 l3 l4 s0 τ) → w_addNext_36 C Q  l1 l2 l3 l4 s0 τ := by
    rintro y36_1 y36_2 y36_3 y36_4 y36_s0 τ36 ⟨j36, hE⟩
    unfold w_addNext_36
    obtain ⟨z1, z2, z3, z4, y1, y2, y3, y4, y5, y6⟩ := j36
    refine ⟨fun c13 => ?_, fun c13 => ?_⟩
    · skip
      replace hE := rb_f5 hE c13
      refine hh55 _ _ _ _ _ _ ?_
      · refine and_5 ?_ (fun o9 => ⟨fu5, cnb5, hE⟩)  -- j19
        clear h hE; exact ⟨z1, z2, z3, ⟨y1, y2, y3, y4, fun z => Or.resolve_left (y5 z) c13, fun z => Or.resolve_left (y6 z) c13⟩, by rw [z4]; exact Int32.le_refl _, by rw [z4]; exact h1⟩
    · skip
      replace hE := rb_t5 hE c13
      refine ⟨fun c14 => ?_, fun c14 => ?_⟩
      · skip
        replace hE := rb_t5 hE c14
        refine hh55 _ _ _ _ _ _ ?_
        · refine and_5 ?_ (fun o9 => ⟨fu5, cnb5, hE⟩)  -- j20
          clear h hE; rw [z1] at c14
          exact ⟨z1, z2, z3, ⟨y1, y2, y3, y4, fun z => absurd c14 (by rw [z]; decide), fun z => absurd c14 (by rw [z]; decide)⟩, by rw [z4]; exact Int32.le_refl _, by rw [z4]; exact h1⟩
      · skip
        replace hE := rb_f5 hE c14
        refine h _ _ ?_
        · refine and_5 ?_ (fun o9 => hE)  -- q21
          clear h hE; exact ⟨frG_mono y1 (by decide) (by decide), y2, ⟨y3.1, y3.2, by rw [y1.1 72 (by decide)]; exact Int32.le_refl _⟩, y4, nb_0, fun z => absurd rfl z⟩
  have hE : g5_addNext a1 a2 a3 a4 σ = g5_addNext a1 a2 a3 a4 σ := rfl
  have self : rwKR9 σ σ := ⟨fun _ _ _ r => r, fun k _ k1 k2 => absurd k2 (Int32.not_lt.mpr k1)⟩
  refine ⟨fun c15 => ?_, fun c15 => ?_⟩
  · skip
    replace hE := rb_f5 hE c15
    refine ⟨fun c16 => ?_, fun c16 => ?_⟩
    · skip
      replace hE := rb_f5 hE c16
      refine ⟨fun c17 => ?_, fun c17 => ?_⟩
      · skip
        replace hE := rb_f5 hE c17
        refine hj36 _ _ _ _ _ _ ?_
        · refine and_5 ?_ (fun o9 => hE)  -- k22
          clear h hE; exact ⟨rfl, rfl, rfl, rfl, frG_refl, hR, ⟨Int32.le_refl _, Int32.le_refl _⟩, self, fun z => absurd z c15, fun z => absurd z c16⟩
      · skip
        replace hE := rb_t5 hE c17
        refine hj36 _ _ _ _ _ _ ?_
        · refine and_5 ?_ (fun o9 => hE)  -- k23
          clear h hE; exact ⟨rfl, rfl, rfl, rfl, frG_refl, hR, ⟨Int32.le_refl _, Int32.le_refl _⟩, self, fun z => absurd z c15, fun z => absurd z c16⟩
    · skip
      replace hE := rb_t5 hE c16
      refine endingNumber_g5 hC  ?_ (fun r18 σ_19 q20 => ?_)
      · clear h hE; exact hR.2.1  -- p24
      obtain ⟨q20, z9⟩ := q20
      replace hE := rb_m5 hE z9
      clear z9
      refine hj36 _ _ _ _ _ _ ?_
      · refine and_5 ?_ (fun o9 => hE)  -- k25
        clear h hE; have e := fun k hk => q20.1.1 k hk
        exact ⟨rfl, rfl, rfl, rfl, frG_mono q20.1 (by decide) (by decide), ⟨by rw [e 70 (by decide), e 85 (by decide)]; exact hR.1, ⟨q20.2.1.1, q20.2.1.2.2⟩, by rw [e 72 (by decide)]; exact hR.2.2⟩, ⟨by rw [e 70 (by decide)]; exact Int32.le_refl _, q20.2.1.2.1⟩, rw_o self (q20.1.2.2.1 73 (by decide)) (q20.1.2.2.1 30 (by decide)) (e 19 (by decide)) (e 70 (by decide)), fun z => absurd z c15, fun _ => q20.2.2⟩
  · skip
    replace hE := rb_t5 hE c15
    refine stateNumber_g5 hC  ?_ (fun r21 σ_22 q23 => ?_)
    · clear h hE; exact ⟨hc c15, hR.1⟩  -- p26
    obtain ⟨q23, z9⟩ := q23
    replace hE := rb_m5 hE z9
    clear z9
    refine hj36 _ _ _ _ _ _ ?_
    · refine and_5 ?_ (fun o9 => hE)  -- k27
      clear h hE; have e := fun k hk => q23.1.1 k hk
      exact ⟨rfl, rfl, rfl, rfl, frG_mono q23.1 (by decide) (by decide), ⟨⟨q23.2.1.1, by rw [e 85 (by decide)]; exact q23.2.1.2.2, by rw [e 85 (by decide)]; exact hR.1.2.2⟩, by rw [e 71 (by decide)]; exact hR.2.1, by rw [e 72 (by decide)]; exact hR.2.2⟩, ⟨q23.2.1.2.1, by rw [e 71 (by decide)]; exact Int32.le_refl _⟩, ⟨q23.2.2.2.1, q23.2.2.2.2⟩, fun _ => q23.2.2.1, fun z => absurd (c15.symm.trans z) (by decide)⟩

theorem expand_g5 {C : rCx} (hC : cOK C) (B T : Int32) {σ : rS} {a1 : Int32} {Q : Int32 → rS → Prop} (hp : exV σ B T a1 ∧ a1 < σ.1 70) (h : ∀ (v : Int32) (σ' : rS), ((frG exFR9 exRr σ σ' ∧ exKR9 σ σ' B T ∧ nb v ∧ (v ≠ 0 → exV σ' B T (a1 + 1))) ∧ g5_expand a1 σ = (σ', v)) → Q v σ') : cI C 10 m_expand [.ref (co C), .int a1] σ Q := by
  refine m_expand_run hC ?_
  unfold w_expand_0
  obtain ⟨⟨hI, hR, hrow, hnx, hk, hst, hz, hns⟩, hlt⟩ := hp
  have k1 : a1 < 1000 := Int32.lt_of_lt_of_le hlt (Int32.le_trans hR.1.2.1 hR.1.2.2)
  have hj176 : ∀ (l1 : Int32) (l4 : Int32) (τ : rS), ((l1 = a1 ∧ frG exFR9 exRr σ τ ∧ exKR9 σ τ B T ∧ nb l4 ∧ (l4 ≠ 0 → ∃ h, (h < 4 ∨ ouV h τ) ∧ (h < 4 ∨ h = 4 ∨ h = 5) ∧ exU τ a1 (σ.1 72) h (τ.1 63))) ∧ g5_expand a1 σ = g5_expand_176 l1 l4 τ) → w_expand_176 C Q  l1 l4 τ := by
    rintro y176_1 y176_4 τ176 ⟨j176, hE⟩
    unfold w_expand_176
    obtain ⟨e1, jf, jK, jn, jU⟩ := j176
    have kk := k1001 hk.1 k1
    refine ⟨ib_1001.mpr ?_, ?_⟩
    · clear h hE; rw [e1]; exact ⟨kk.1, kk.2.1⟩  -- b1
    intro σ_1 hσ_1
    replace hE := rb_p5 hE hσ_1
    refine ⟨?_, h _ _ ?_⟩
    · clear h hE; exact jn  -- b2
    · refine and_5 ?_ (fun o9 => hE)  -- q3
      clear h hE; have e11 : ∀ k, σ_1.1 k = τ176.1 k := fun k => by rw [hσ_1, ri1]
      have r11 : ∀ k, k ≠ 76 → σ_1.2.2.1 k = τ176.2.2.1 k := fun k hk => by rw [hσ_1, ri3 hk]
      have r76 : σ_1.2.2.1 76 = upd (τ176.2.2.1 76) (a1 + 1).toNatClampNeg (τ176.1 72) := by rw [hσ_1, ri_row, e1]
      have f1 : frG exFR9 exRr τ176 σ_1 := by rw [hσ_1]; exact frG_1 (by decide)
      have K1 : exKR9 σ σ_1 B T := exK_o jK f1 (e11 70) (e11 71) (e11 72) (r11 73 (by decide))
      refine ⟨frG_tr jf f1, K1, jn, fun z => ?_⟩
      obtain ⟨hw, ou, hh, U⟩ := jU z
      have U1 := U.1
      obtain ⟨w1, w2, w3, w4, w5, w6⟩ := U1
      have ra : ∀ j : Int32, 0 ≤ j → j ≠ a1 + 1 → rd σ_1 76 j = rd τ176 76 j := fun j j0 jn => by rw [rd, r76, upd_ne (cn_d j0 kk.1 jn)]
      have rb : rd σ_1 76 (a1 + 1) = τ176.1 72 := by rw [rd, r76, upd_eq]
      refine ⟨K1.1, K1.2.1, K1.2.2.2, fun i hi => ?_, ⟨kk.1, ?_⟩, fun j j0 j1 => ?_, fun y => absurd y kk.2.2.2.2.2, fun _ => by rw [rb, e11]⟩
      · rw [e11] at hi
        exact nx_mono (w1 i hi) (by rw [r11 77 (by decide)]) (by rw [r11 78 (by decide)]) (by rw [e11]; exact Int32.le_refl _) (by rw [e11]; exact Int32.le_refl _)
      · exact Int32.le_trans (k_s hk.1 hlt (Int32.le_trans hR.1.2.1 hR.1.2.2)) K1.2.2.1.1
      · rcases l1k hk.1 k1 j1 with y | y
        · rw [y]
          exact st_new U ou hh (by rw [ra a1 hk.1 kk.2.2.2.2.1]; exact w3) rb (e11 72) (r11 79 (by decide)) (by rw [rd, r11 80 (by decide)]) (by rw [rd, r11 81 (by decide)])
        · have x := j_kn j0 k1 y
          exact stOK_m (w2 j j0 y).1 (ra j j0 x.1) (ra (j + 1) x.2.2.1 x.2.1) (by rw [rd, r11 80 (by decide)]) (by rw [rd, r11 81 (by decide)]) (by rw [e11]; exact Int32.le_refl _) (fun i _ => by rw [r11 79 (by decide)])
  have hh106 : ∀ (l1 : Int32) (l2 : Int32) (l3 : Int32) (l4 : Int32) (l5 : Int32) (τ : rS), ((l1 = a1 ∧ frG exFR9 exRr σ τ ∧ exKR9 σ τ B T ∧ l2 = σ.1 72 ∧ nb l4 ∧ 0 ≤ l5 ∧ l5 ≤ 64 ∧ (l3 < 4 ∨ l3 = 4 ∨ l3 = 5) ∧ (¬ l3 < 4 → ouV l3 τ ∧ l5 ≤ τ.1 63) ∧ (l4 ≠ 0 → exU τ a1 (σ.1 72) l3 l5)) ∧ ∃ m5, (64 - l5).toNatClampNeg < m5 ∧ g5_expand a1 σ = g5_expand_106 m5 l1 l2 l3 l4 l5 τ) → w_expand_106 C Q  l1 l2 l3 l4 l5 τ := by
    intro z1 z2 z3 z4 z5 τi hinit
    unfold w_expand_106
    refine ⟨fun n l1 l2 l3 l4 l5 τ => n = (64 - l5).toNatClampNeg ∧ ((l1 = a1 ∧ frG exFR9 exRr σ τ ∧ exKR9 σ τ B T ∧ l2 = σ.1 72 ∧ nb l4 ∧ 0 ≤ l5 ∧ l5 ≤ 64 ∧ (l3 < 4 ∨ l3 = 4 ∨ l3 = 5) ∧ (¬ l3 < 4 → ouV l3 τ ∧ l5 ≤ τ.1 63) ∧ (l4 ≠ 0 → exU τ a1 (σ.1 72) l3 l5)) ∧ ∃ m5, n < m5 ∧ g5_expand a1 σ = g5_expand_106 m5 l1 l2 l3 l4 l5 τ), ⟨_, rfl, hinit⟩, ?_⟩
    clear hinit
    rintro n106 x106_1 x106_2 x106_3 x106_4 x106_5 σ106 ⟨hn106, i106, mF106, hmF106, hE⟩
    obtain ⟨mF106, rfl⟩ : ∃ m9, mF106 = m9 + 1 := ⟨mF106 - 1, by clear h hE; omega⟩
    have hj164 : ∀ (l1 : Int32) (l2 : Int32) (l3 : Int32) (l5 : Int32) (s1 : Int32) (s2 : Int32) (s3 : Int32) (τ : rS), ((l1 = a1 ∧ frG exFR9 exRr σ τ ∧ exKR9 σ τ B T ∧ l2 = σ.1 72 ∧ l3 = x106_3 ∧ l5 = x106_5 ∧ ¬ x106_3 < 4 ∧ ouV x106_3 τ ∧ ¬ τ.1 63 ≤ x106_5 ∧ exU τ a1 (σ.1 72) x106_3 x106_5 ∧ ((s1 = 0 ∧ csF τ) ∨ s1 = 1) ∧ s2 = rd τ 65 x106_5 ∧ ¬ s2 ≤ 0 ∧ (x106_3 = 5 → s3 = 0)) ∧ g5_expand a1 σ = g5_expand_164 (g5_expand_106 mF106) l1 l2 l3 l5 s1 s2 s3 τ) → w_expand_164 C Q (fun l1' l2' l3' l4' l5' τ => ∃ k < n106, (fun n l1 l2 l3 l4 l5 τ => n = (64 - l5).toNatClampNeg ∧ ((l1 = a1 ∧ frG exFR9 exRr σ τ ∧ exKR9 σ τ B T ∧ l2 = σ.1 72 ∧ nb l4 ∧ 0 ≤ l5 ∧ l5 ≤ 64 ∧ (l3 < 4 ∨ l3 = 4 ∨ l3 = 5) ∧ (¬ l3 < 4 → ouV l3 τ ∧ l5 ≤ τ.1 63) ∧ (l4 ≠ 0 → exU τ a1 (σ.1 72) l3 l5)) ∧ ∃ m5, n < m5 ∧ g5_expand a1 σ = g5_expand_106 m5 l1 l2 l3 l4 l5 τ)) k l1' l2' l3' l4' l5' τ) l1 l2 l3 l5 s1 s2 s3 τ := by
      clear hE
      rintro y164_1 y164_2 y164_3 y164_5 y164_s1 y164_s2 y164_s3 τ164 ⟨j164, hE⟩
      unfold w_expand_164
      obtain ⟨e1, g1, g2, g3, g4, g5, g6, g7, g8, g9, ga, gb, gc, gd⟩ := j164
      have x50 : 0 ≤ x106_5 := i106.2.2.2.2.2.1
      have u := up_n x50 g8 g7.2.2.1
      have u64 := up_n x50 (Int32.not_le.mpr u.2.2.2.2.2) (by decide : (64 : Int32) ≤ 64)
      have x51 : x106_5 < 1000000 := Int32.lt_trans u.2.2.2.2.2 (by decide)
      have es : wsum (τ164.2.2.1 65) (x106_5 + 1).toNatClampNeg = wsum (τ164.2.2.1 65) x106_5.toNatClampNeg + y164_s2.toInt := by rw [cn_succ x50 x51, gb]; rfl
      have ws : wsum (τ164.2.2.1 65) (x106_5 + 1).toNatClampNeg ≤ 8000000 := Int.le_trans (wsum_mono (fun i hi => t0 (g7.2.2.2.1 i hi)) (cn_l u.2.2.2.1 u.2.2.1)) g7.2.2.2.2.2.1
      refine addNext_g5 hC  ?_ (fun r2 σ_3 q4 => ?_)
      · clear h hE; refine ⟨g2.2.1, ?_, fun z => ?_, by rw [g3]; exact g9.1.2.2.2.2.1, by rw [g3]; exact g9.1.2.2.2.1, pos1 gc, by rw [g3]; exact g9.1.2.2.2.2.2, by rw [g3, (g9.2.2.2 g6).1, ← es]; exact ws⟩
        · rcases ga with y | y
          · exact Or.inl y.1
          · exact Or.inr (Or.inl y)
        · rcases ga with y | y
          · exact y.2
          · exact absurd (z.symm.trans y) (by decide)
      obtain ⟨q4, z9⟩ := q4
      replace hE := rb_m5 hE z9
      clear z9
      intro x5 hx5
      replace hE := rb_p5 hE hx5
      refine lp_b5 (cn_lt2 hn106 ?_ ?_) (fun d9 => ⟨rfl, ?_⟩)
      · clear h hE; rw [hx5, g5]; exact u64.1  -- d5
      · clear h hE; rw [hx5, g5]; exact u64.2.1  -- d6
      · refine and_5 ?_ (fun o9 => ⟨mF106, Nat.lt_of_lt_of_le d9 (Nat.le_of_lt_succ hmF106), hE⟩)  -- i7
        clear h hE d9 hmF106; refine ⟨e1, frG_tr g1 (frG_mono q4.1 (by decide) (by decide)), exK_an g2 q4.1 q4.2.1 q4.2.2.1 q4.2.2.2.1, g3, q4.2.2.2.2.1, by rw [hx5, g5]; exact u64.2.2.1, by rw [hx5, g5]; exact u64.2.2.2.1, by rw [g4]; exact i106.2.2.2.2.2.2.2.1, fun z => ⟨by rw [g4]; exact ou_o g7 (q4.1.1 67 (by decide)) (q4.1.1 63 (by decide)) (q4.1.1 66 (by decide)) (q4.1.2.2.1 65 (by decide)), by rw [hx5, g5, q4.1.1 63 (by decide)]; exact u.2.2.2.1⟩, fun z => ?_⟩
        have A := q4.2.2.2.2.2 z
        rw [g3] at A
        rw [g4, hx5, g5]
        have U4 := g9.2.2.2 g6
        refine ⟨exW_an g9.1 q4.1 q4.2.2.1 A, by rw [rd, q4.1.2.2.1 81 (by decide)]; exact g9.2.1, fun y => absurd y g6, fun _ => ⟨?_, fun h4 => ?_, fun h5 => ?_⟩⟩
        · rw [A.2.2.2.2.1, U4.1, q4.1.2.2.1 65 (by decide), es]
        · rw [rd, q4.1.2.2.1 80 (by decide), q4.1.1 66 (by decide)]; exact U4.2.1 h4
        · rw [A.2.2.2.2.2.2 (gd h5)]; exact fx1 (U4.2.2 h5)
    obtain ⟨e1, o1, o2, o3, o4, o5, o6, o7, o8, o9⟩ := i106
    refine ⟨fun c6 => ?_, fun c6 => ?_⟩
    · skip
      replace hE := rb_t5 hE c6
      refine hj176 _ _ _ ?_
      · refine and_5 ?_ (fun o9 => hE)  -- k8
        clear h hE; exact ⟨e1, o1, o2, o4, fun z => ⟨x106_3, Or.inl c6, o7, exU_lt (o9 z) c6⟩⟩
    · skip
      replace hE := rb_f5 hE c6
      refine ⟨fun c7 => ?_, fun c7 => ?_⟩
      · skip
        replace hE := rb_t5 hE c7
        refine hj176 _ _ _ ?_
        · refine and_5 ?_ (fun o9 => hE)  -- k9
          clear h hE; have e : x106_5 = σ106.1 63 := Int32.le_antisymm (o8 c6).2 c7
          refine ⟨e1, o1, o2, o4, fun z => ⟨x106_3, Or.inr (o8 c6).1, o7, ?_⟩⟩
          have w := o9 z
          rw [e] at w
          exact w
      · skip
        replace hE := rb_f5 hE c7
        refine ⟨fun c8 => ?_, fun c8 => ?_⟩
        · skip
          replace hE := rb_t5 hE c8
          refine hj176 _ _ _ ?_
          · refine and_5 ?_ (fun o9 => hE)  -- k10
            clear h hE; exact ⟨e1, o1, o2, o4, fun z => absurd c8 z⟩
        · skip
          replace hE := rb_f5 hE c8
          have ou := (o8 c6).1
          have u := up_n o5 c7 ou.2.2.1
          have u64 := up_n o5 (Int32.not_le.mpr u.2.2.2.2.2) (by decide : (64 : Int32) ≤ 64)
          have lt5 := cn_lt o5 u.2.2.2.2.1
          have U := o9 c8
          have U4 := U.2.2.2 c6
          refine ⟨ib_64.mpr ?_, ?_⟩
          · clear h hE; exact ⟨o5, u.2.2.2.2.2⟩  -- b11
          refine ⟨fun c9 => ?_, fun c9 => ?_⟩
          · skip
            replace hE := rb_t5 hE c9
            intro x10 hx10
            replace hE := rb_p5 hE hx10
            refine lp_b5 (cn_lt2 hn106 ?_ ?_) (fun d9 => ⟨rfl, ?_⟩)
            · clear h hE; rw [hx10]; exact u64.1  -- d12
            · clear h hE; rw [hx10]; exact u64.2.1  -- d13
            · refine and_5 ?_ (fun o9 => ⟨mF106, Nat.lt_of_lt_of_le d9 (Nat.le_of_lt_succ hmF106), hE⟩)  -- i14
              clear h hE d9 hmF106; rw [hx10]
              have w0 : σ106.2.2.1 65 x106_5.toNatClampNeg = 0 := le0 c9 (ou.2.2.2.1 _ lt5)
              refine ⟨e1, o1, o2, o3, o4, u64.2.2.1, u64.2.2.2.1, o7, fun z => ⟨ou, u.2.2.2.1⟩, fun z => ⟨U.1, U.2.1, fun y => absurd y c6, fun y => ⟨?_, U4.2.1, fun h5 => ?_⟩⟩⟩
              · rw [cn_succ o5 (Int32.lt_trans u.2.2.2.2.2 (by decide))]
                show _ = wsum (σ106.2.2.1 65) x106_5.toNatClampNeg + (σ106.2.2.1 65 x106_5.toNatClampNeg).toInt
                rw [w0, Int32.toInt_zero, Int.add_zero]
                exact U4.1
              · have := (ou.2.2.2.2.2.2.2 h5).2 _ lt5
                rw [w0] at this
                exact absurd this (by decide)
          · skip
            replace hE := rb_f5 hE c9
            refine unpack_g5 hC  ?_ (fun σ_11 q12 => ?_)
            · clear h hE; rw [e1]; exact ⟨hk.1, k1, o2.2.2.2 a1 hk.1 (Int32.lt_of_lt_of_le hlt o2.2.2.1.1)⟩  -- p15
            obtain ⟨q12, z9⟩ := q12
            replace hE := rb_p5 hE z9.symm
            clear z9
            have f11 : frG exFR9 exRr σ106 σ_11 := frG_mono q12.1 (by decide) (by decide)
            have K11 : exKR9 σ σ_11 B T := exK_o o2 f11 (q12.1.1 70 (by decide)) (q12.1.1 71 (by decide)) (q12.1.1 72 (by decide)) (q12.1.2.2.1 73 (by decide))
            refine get_g5 hC B T ?_ (fun r13 σ_14 q15 => ?_)
            · clear h hE; exact ⟨K11.1, q12.2, by rw [q12.1.1 67 (by decide)]; exact ou.1, o5, u.2.2.2.2.2⟩  -- p16
            obtain ⟨q15, z9⟩ := q15
            replace hE := rb_m5 hE z9
            clear z9
            have f15 : frG exFR9 exRr σ_11 σ_14 := frG_mono q15.1 (by decide) (by decide)
            have K14 : exKR9 σ σ_14 B T := exK_o K11 f15 (q15.1.1 70 (by decide)) (q15.1.1 71 (by decide)) (q15.1.1 72 (by decide)) (q15.1.2.2.1 73 (by decide))
            have ff : ∀ k, k = 63 ∨ k = 66 ∨ k = 67 ∨ k = 70 ∨ k = 71 ∨ k = 72 → σ_14.1 k = σ106.1 k := fun k hk => by
              rw [q15.1.1 k (by rcases hk with rfl | rfl | rfl | rfl | rfl | rfl <;> decide), q12.1.1 k (by rcases hk with rfl | rfl | rfl | rfl | rfl | rfl <;> decide)]
            have rr : ∀ k, k = 65 ∨ k = 76 ∨ k = 77 ∨ k = 78 ∨ k = 79 ∨ k = 80 ∨ k = 81 → σ_14.2.2.1 k = σ106.2.2.1 k := fun k hk => by
              rw [q15.1.2.2.1 k (by rcases hk with rfl | rfl | rfl | rfl | rfl | rfl | rfl <;> decide), q12.1.2.2.1 k (by rcases hk with rfl | rfl | rfl | rfl | rfl | rfl | rfl <;> decide)]
            have fin : ∀ s3 : Int32, (x106_3 = 5 → s3 = 0) → x106_1 = a1 ∧ frG exFR9 exRr σ σ_14 ∧ exKR9 σ σ_14 B T ∧ x106_2 = σ.1 72 ∧ x106_3 = x106_3 ∧ x106_5 = x106_5 ∧ ¬ x106_3 < 4 ∧ ouV x106_3 σ_14 ∧ ¬ σ_14.1 63 ≤ x106_5 ∧ exU σ_14 a1 (σ.1 72) x106_3 x106_5 ∧ ((r13 = 0 ∧ csF σ_14) ∨ r13 = 1) ∧ σ_14.2.2.1 65 x106_5.toNatClampNeg = rd σ_14 65 x106_5 ∧ ¬ σ_14.2.2.1 65 x106_5.toNatClampNeg ≤ 0 ∧ (x106_3 = 5 → s3 = 0) := fun s3 h3 => ⟨e1, frG_tr o1 (frG_tr f11 f15), K14, o3, rfl, rfl, c6, ou_o ou (ff 67 (by decide)) (ff 63 (by decide)) (ff 66 (by decide)) (rr 65 (by decide)), by rw [ff 63 (by decide)]; exact c7, exU_o U k1 (ff 66 (by decide)) (ff 70 (by decide)) (ff 71 (by decide)) (ff 72 (by decide)) rr, q15.2, rfl, by rw [rr 65 (by decide)]; exact c9, h3⟩
            refine ⟨ib_64.mpr ?_, ?_⟩
            · clear h hE; exact ⟨o5, u.2.2.2.2.2⟩  -- b17
            refine ⟨fun c16 => ?_, fun c16 => ?_⟩
            · skip
              replace hE := rb_f5 hE c16
              refine hj164 _ _ _ _ _ _ _ _ ?_
              · refine and_5 ?_ (fun o9 => hE)  -- k18
                clear h hE; exact fin _ (fun _ => rfl)
            · skip
              replace hE := rb_t5 hE c16
              refine hj164 _ _ _ _ _ _ _ _ ?_
              · refine and_5 ?_ (fun o9 => hE)  -- k19
                clear h hE; exact fin _ (fun z => absurd (c16.symm.trans z) (by decide))
  have hj84 : ∀ (l1 : Int32) (l2 : Int32) (l3 : Int32) (s1 : Int32) (s2 : Int32) (τ : rS), ((l1 = a1 ∧ frG exFR9 exRr σ τ ∧ exKR9 σ τ B T ∧ l2 = σ.1 72 ∧ s1 = a1 ∧ acQ l3 τ ∧ exWR9 τ a1 (σ.1 72) ∧ τ.1 72 = σ.1 72 ∧ rd τ 81 a1 = (if l3 = 5 then 1 else 0) ∧ (l3 < 4 → s2 = 1) ∧ (l3 = 4 → s2 = τ.1 66)) ∧ g5_expand a1 σ = g5_expand_84 l1 l2 l3 s1 s2 τ) → w_expand_84 C Q  l1 l2 l3 s1 s2 τ := by
    rintro y84_1 y84_2 y84_3 y84_s1 y84_s2 τ84 ⟨j84, hE⟩
    unfold w_expand_84
    obtain ⟨e1, g1, g2, g3, g4, g5, g6, g7, g8, g9, ga⟩ := j84
    refine ⟨ib_1000.mpr ?_, ?_⟩
    · clear h hE; rw [g4]; exact ⟨hk.1, k1⟩  -- b20
    intro σ_17 hσ_17
    replace hE := rb_p5 hE hσ_17
    have e17 : ∀ k, σ_17.1 k = τ84.1 k := fun k => by rw [hσ_17, ri1]
    have r17 : ∀ k, k ≠ 80 → σ_17.2.2.1 k = τ84.2.2.1 k := fun k hk => by rw [hσ_17, ri3 hk]
    have r80 : σ_17.2.2.1 80 = upd (τ84.2.2.1 80) a1.toNatClampNeg y84_s2 := by rw [hσ_17, ri_row, g4]
    have f17 : frG exFR9 exRr τ84 σ_17 := by rw [hσ_17]; exact frG_1 (by decide)
    have K17 : exKR9 σ σ_17 B T := exK_o g2 f17 (e17 70) (e17 71) (e17 72) (r17 73 (by decide))
    have W17 : exWR9 σ_17 a1 (σ.1 72) := exW_o g6 k1 (e17 70) (e17 71) (e17 72) (r17 76 (by decide)) (r17 77 (by decide)) (r17 78 (by decide)) (r17 79 (by decide)) (fun j j0 j1 => by rw [rd, r80, upd_ne (cn_d j0 hk.1 (j_k j0 j1 k1).2.2.1)]) (fun j _ _ => by rw [rd, r17 81 (by decide)])
    have v80 : rd σ_17 80 a1 = y84_s2 := by rw [rd, r80, upd_eq]
    have c72 : σ_17.1 72 = σ.1 72 := (e17 72).trans g7
    have v81 : rd σ_17 81 a1 = (if y84_3 = 5 then 1 else 0) := by rw [rd, r17 81 (by decide)]; exact g8
    have A17 : acQ y84_3 σ_17 := ac_o g5 (fun k _ => e17 k) (fun k hk => r17 k (by rcases hk with rfl | rfl | rfl <;> decide))
    have a3 := ac_3 A17
    refine ⟨fun c18 => ?_, fun c18 => ?_⟩
    · skip
      replace hE := rb_t5 hE c18
      refine hh106 _ _ _ _ _ _ ?_
      · refine and_5 ?_ (fun o9 => ⟨fu5, cnb5, hE⟩)  -- j21
        clear h hE; have n4 : ¬ y84_3 < 4 := Int32.not_lt.mpr c18
        refine ⟨e1, frG_tr g1 f17, K17, g3, nb_1, by decide, by decide, a3.1, fun z => ⟨ou_of A17 z, Int32.le_trans (by decide) (ou_of A17 z).2.1⟩, fun _ => ⟨W17, v81, fun y => absurd y n4, fun _ => ⟨by rw [wOf_0 (by rw [c72])]; rfl, fun h4 => by rw [v80, ga h4, e17], fun h5 => by rw [c72]; exact fx0⟩⟩⟩
    · skip
      replace hE := rb_f5 hE c18
      refine addNext_g5 hC  ?_ (fun r19 σ_20 q21 => ?_)
      · clear h hE; refine ⟨K17.2.1, (a3.2 c18).1, (a3.2 c18).2, by rw [g3]; exact hR.2.2.1, by rw [g3, c72]; exact Int32.le_refl _, by decide, fun i a b => ?_, ?_⟩
        · rw [g3] at a
          rw [c72] at b
          omega
        · rw [g3, wOf_0 (by rw [c72])]; decide
      obtain ⟨q21, z9⟩ := q21
      replace hE := rb_m5 hE z9
      clear z9
      refine hh106 _ _ _ _ _ _ ?_
      · refine and_5 ?_ (fun o9 => ⟨fu5, cnb5, hE⟩)  -- j23
        clear h hE; have lt4 : y84_3 < 4 := nle4.mp c18
        refine ⟨e1, frG_tr g1 (frG_tr f17 (frG_mono q21.1 (by decide) (by decide))), exK_an K17 q21.1 q21.2.1 q21.2.2.1 q21.2.2.2.1, g3, q21.2.2.2.2.1, by decide, by decide, a3.1, fun z => absurd lt4 z, fun z => ?_⟩
        have A := q21.2.2.2.2.2 z
        rw [g3] at A
        refine ⟨exW_an W17 q21.1 q21.2.2.1 A, by rw [rd, q21.1.2.2.1 81 (by decide)]; exact v81, fun _ => ⟨A.2.2.2.2.2.1, ?_, ?_⟩, fun y => absurd lt4 y⟩
        · rw [rd, q21.1.2.2.1 80 (by decide)]; exact v80.trans (g9 lt4)
        · rw [A.2.2.2.2.1, wOf_0 (by rw [c72])]; rfl
  have hj56 : ∀ (l1 : Int32) (l2 : Int32) (l3 : Int32) (s1 : Int32) (s2 : Int32) (τ : rS), ((l1 = a1 ∧ frG exFR9 exRr σ τ ∧ exKR9 σ τ B T ∧ l2 = σ.1 72 ∧ s1 = a1 ∧ acQ l3 τ ∧ exWR9 τ a1 (σ.1 72) ∧ τ.1 72 = σ.1 72 ∧ rd τ 81 a1 = (if l3 = 5 then 1 else 0)) ∧ g5_expand a1 σ = g5_expand_56 l1 l2 l3 s1 s2 τ) → w_expand_56 C Q  l1 l2 l3 s1 s2 τ := by
    rintro y56_1 y56_2 y56_3 y56_s1 y56_s2 τ56 ⟨j56, hE⟩
    unfold w_expand_56
    obtain ⟨e1, g1, g2, g3, g4, g5, g6, g7, g8⟩ := j56
    refine ⟨ib_1000.mpr ?_, ?_⟩
    · clear h hE; rw [g4]; exact ⟨hk.1, k1⟩  -- b24
    intro σ_22 hσ_22
    replace hE := rb_p5 hE hσ_22
    have e22 : ∀ k, σ_22.1 k = τ56.1 k := fun k => by rw [hσ_22, ri1]
    have r22 : ∀ k, k ≠ 82 → σ_22.2.2.1 k = τ56.2.2.1 k := fun k hk => by rw [hσ_22, ri3 hk]
    have f22 : frG exFR9 exRr τ56 σ_22 := by rw [hσ_22]; exact frG_1 (by decide)
    have fin : ∀ s2 : Int32, (y56_3 < 4 → s2 = 1) → (y56_3 = 4 → s2 = σ_22.1 66) → y56_1 = a1 ∧ frG exFR9 exRr σ σ_22 ∧ exKR9 σ σ_22 B T ∧ y56_2 = σ.1 72 ∧ y56_1 = a1 ∧ acQ y56_3 σ_22 ∧ exWR9 σ_22 a1 (σ.1 72) ∧ σ_22.1 72 = σ.1 72 ∧ rd σ_22 81 a1 = (if y56_3 = 5 then 1 else 0) ∧ (y56_3 < 4 → s2 = 1) ∧ (y56_3 = 4 → s2 = σ_22.1 66) := fun s2 h1 h2 => ⟨e1, frG_tr g1 f22, exK_o g2 f22 (e22 70) (e22 71) (e22 72) (r22 73 (by decide)), g3, e1, ac_o g5 (fun k _ => e22 k) (fun k hk => r22 k (by rcases hk with rfl | rfl | rfl <;> decide)), exW_o g6 k1 (e22 70) (e22 71) (e22 72) (r22 76 (by decide)) (r22 77 (by decide)) (r22 78 (by decide)) (r22 79 (by decide)) (fun j _ _ => by rw [rd, r22 80 (by decide)]) (fun j _ _ => by rw [rd, r22 81 (by decide)]), (e22 72).trans g7, by rw [rd, r22 81 (by decide)]; exact g8, h1, h2⟩
    refine ⟨fun c23 => ?_, fun c23 => ?_⟩
    · skip
      replace hE := rb_f5 hE c23
      refine ⟨fun c24 => ?_, fun c24 => ?_⟩
      · skip
        replace hE := rb_f5 hE c24
        refine hj84 _ _ _ _ _ _ ?_
        · refine and_5 ?_ (fun o9 => hE)  -- k25
          clear h hE; exact fin _ (fun _ => rfl) (fun z => absurd z c23)
      · skip
        replace hE := rb_t5 hE c24
        refine hj84 _ _ _ _ _ _ ?_
        · refine and_5 ?_ (fun o9 => hE)  -- k26
          clear h hE; exact fin _ (fun z => by rw [c24] at z; exact absurd z (by decide)) (fun z => absurd z c23)
    · skip
      replace hE := rb_t5 hE c23
      refine hj84 _ _ _ _ _ _ ?_
      · refine and_5 ?_ (fun o9 => hE)  -- k27
        clear h hE; exact fin _ (fun z => by rw [c23] at z; exact absurd z (by decide)) (fun _ => rfl)
  have hj37 : ∀ (l1 : Int32) (l2 : Int32) (l3 : Int32) (s1 : Int32) (s2 : Int32) (τ : rS), ((l1 = a1 ∧ frG exFR9 exRr σ τ ∧ exKR9 σ τ B T ∧ l2 = σ.1 72 ∧ s1 = a1 ∧ acQ l3 τ ∧ exWR9 τ a1 (σ.1 72) ∧ τ.1 72 = σ.1 72 ∧ s2 = (if l3 = 5 then 1 else 0)) ∧ g5_expand a1 σ = g5_expand_37 l1 l2 l3 s1 s2 τ) → w_expand_37 C Q  l1 l2 l3 s1 s2 τ := by
    rintro y37_1 y37_2 y37_3 y37_s1 y37_s2 τ37 ⟨j37, hE⟩
    unfold w_expand_37
    obtain ⟨e1, g1, g2, g3, g4, g5, g6, g7, g8⟩ := j37
    refine ⟨ib_1000.mpr ?_, ?_⟩
    · clear h hE; rw [g4]; exact ⟨hk.1, k1⟩  -- b28
    intro σ_25 hσ_25
    replace hE := rb_p5 hE hσ_25
    have e25 : ∀ k, σ_25.1 k = τ37.1 k := fun k => by rw [hσ_25, ri1]
    have r25 : ∀ k, k ≠ 81 → σ_25.2.2.1 k = τ37.2.2.1 k := fun k hk => by rw [hσ_25, ri3 hk]
    have r81 : σ_25.2.2.1 81 = upd (τ37.2.2.1 81) a1.toNatClampNeg (if y37_3 = 5 then 1 else 0) := by rw [hσ_25, ri_row, g4, g8, vbo]
    have f25 : frG exFR9 exRr τ37 σ_25 := by rw [hσ_25]; exact frG_1 (by decide)
    have fin : y37_1 = a1 ∧ frG exFR9 exRr σ σ_25 ∧ exKR9 σ σ_25 B T ∧ y37_2 = σ.1 72 ∧ y37_1 = a1 ∧ acQ y37_3 σ_25 ∧ exWR9 σ_25 a1 (σ.1 72) ∧ σ_25.1 72 = σ.1 72 ∧ rd σ_25 81 a1 = (if y37_3 = 5 then 1 else 0) := ⟨e1, frG_tr g1 f25, exK_o g2 f25 (e25 70) (e25 71) (e25 72) (r25 73 (by decide)), g3, e1, ac_o g5 (fun k _ => e25 k) (fun k hk => r25 k (by rcases hk with rfl | rfl | rfl <;> decide)), exW_o g6 k1 (e25 70) (e25 71) (e25 72) (r25 76 (by decide)) (r25 77 (by decide)) (r25 78 (by decide)) (r25 79 (by decide)) (fun j _ _ => by rw [rd, r25 80 (by decide)]) (fun j j0 j1 => by rw [rd, r81, upd_ne (cn_d j0 hk.1 (j_k j0 j1 k1).2.2.1)]), (e25 72).trans g7, by rw [rd, r81, upd_eq]⟩
    refine ⟨fun c26 => ?_, fun c26 => ?_⟩
    · skip
      replace hE := rb_f5 hE c26
      refine hj56 _ _ _ _ _ _ ?_
      · refine and_5 ?_ (fun o9 => hE)  -- k29
        clear h hE; exact fin
    · skip
      replace hE := rb_t5 hE c26
      refine hj56 _ _ _ _ _ _ ?_
      · refine and_5 ?_ (fun o9 => hE)  -- k30
        clear h hE; exact fin
  have hE : g5_expand a1 σ = g5_expand a1 σ := rfl
  intro x27 hx27
  replace hE := rb_p5 hE hx27
  refine ⟨ib_1001.mpr ?_, ?_⟩
  · clear h hE; exact ⟨hk.1, (k1001 hk.1 k1).2.2.1⟩  -- b31
  intro σ_28 hσ_28
  replace hE := rb_p5 hE hσ_28
  have e28 : ∀ k, σ_28.1 k = σ.1 k := fun k => by rw [hσ_28, ri1]
  have r28 : ∀ k, k ≠ 76 → σ_28.2.2.1 k = σ.2.2.1 k := fun k hk => by rw [hσ_28, ri3 hk]
  have f28 : frG exFR9 exRr σ σ_28 := by rw [hσ_28]; exact frG_1 (by decide)
  have K0 : exKR9 σ σ B T := ⟨hI, hR, ⟨Int32.le_refl _, Int32.le_refl _, Int32.le_refl _⟩, hrow⟩
  have K28 : exKR9 σ σ_28 B T := exK_o K0 f28 (e28 70) (e28 71) (e28 72) (r28 73 (by decide))
  have W28 : exWR9 σ_28 a1 (σ.1 72) := exW_0 ⟨hI, hR, hrow, hnx, hk, hst, hz, hns⟩ k1 (e28 70) (e28 71) (e28 72) (by rw [hσ_28, ri_row, hx27]) (fun k hk => r28 k (by rcases hk with rfl | rfl | rfl | rfl | rfl <;> decide))
  refine unpack_g5 hC  ?_ (fun σ_29 q30 => ?_)
  · clear h hE; exact ⟨hk.1, k1, K28.2.2.2 a1 hk.1 (by rw [e28]; exact hlt)⟩  -- p32
  obtain ⟨q30, z9⟩ := q30
  replace hE := rb_p5 hE z9.symm
  clear z9
  have f29 : frG exFR9 exRr σ_28 σ_29 := frG_mono q30.1 (by decide) (by decide)
  have K29 : exKR9 σ σ_29 B T := exK_o K28 f29 (q30.1.1 70 (by decide)) (q30.1.1 71 (by decide)) (q30.1.1 72 (by decide)) (q30.1.2.2.1 73 (by decide))
  refine act_g5 hC B T ?_ (fun r31 σ_32 q33 => ?_)
  · clear h hE; exact ⟨K29.1, q30.2⟩  -- p33
  obtain ⟨q33, z9⟩ := q33
  replace hE := rb_m5 hE z9
  clear z9
  have f32 : frG exFR9 exRr σ_29 σ_32 := frG_mono q33.1 (by decide) (by decide)
  have K32 : exKR9 σ σ_32 B T := exK_o K29 f32 (q33.1.1 70 (by decide)) (q33.1.1 71 (by decide)) (q33.1.1 72 (by decide)) (q33.1.2.2.1 73 (by decide))
  have ff : ∀ k, k = 70 ∨ k = 71 ∨ k = 72 → σ_32.1 k = σ_28.1 k := fun k hk => by
    rw [q33.1.1 k (by rcases hk with rfl | rfl | rfl <;> decide), q30.1.1 k (by rcases hk with rfl | rfl | rfl <;> decide)]
  have rr : ∀ k, k = 76 ∨ k = 77 ∨ k = 78 ∨ k = 79 ∨ k = 80 ∨ k = 81 → σ_32.2.2.1 k = σ_28.2.2.1 k := fun k hk => by
    rw [q33.1.2.2.1 k (by rcases hk with rfl | rfl | rfl | rfl | rfl | rfl <;> decide), q30.1.2.2.1 k (by rcases hk with rfl | rfl | rfl | rfl | rfl | rfl <;> decide)]
  have W32 : exWR9 σ_32 a1 (σ.1 72) := exW_o W28 k1 (ff 70 (by decide)) (ff 71 (by decide)) (ff 72 (by decide)) (rr 76 (by decide)) (rr 77 (by decide)) (rr 78 (by decide)) (rr 79 (by decide)) (fun j _ _ => by rw [rd, rr 80 (by decide)]) (fun j _ _ => by rw [rd, rr 81 (by decide)])
  have fin : ∀ s2 : Int32, s2 = (if r31 = 5 then 1 else 0) → a1 = a1 ∧ frG exFR9 exRr σ σ_32 ∧ exKR9 σ σ_32 B T ∧ x27 = σ.1 72 ∧ a1 = a1 ∧ acQ r31 σ_32 ∧ exWR9 σ_32 a1 (σ.1 72) ∧ σ_32.1 72 = σ.1 72 ∧ s2 = (if r31 = 5 then 1 else 0) := fun s2 h2 => ⟨rfl, frG_tr f28 (frG_tr f29 f32), K32, hx27, rfl, q33.2, W32, (ff 72 (by decide)).trans (e28 72), h2⟩
  refine ⟨fun c34 => ?_, fun c34 => ?_⟩
  · skip
    replace hE := rb_f5 hE c34
    refine hj37 _ _ _ _ _ _ ?_
    · refine and_5 ?_ (fun o9 => hE)  -- k34
      clear h hE; exact fin _ (by rw [if_neg c34])
  · skip
    replace hE := rb_t5 hE c34
    refine hj37 _ _ _ _ _ _ ?_
    · refine and_5 ?_ (fun o9 => hE)  -- k35
      clear h hE; exact fin _ (by rw [if_pos c34])

end
section
set_option maxHeartbeats 1600000
/-! the reference's tables of states: a state's key -/
theorem mul_n6 {a b : Nat} (h : a * b ≤ 67108864) (ha : a ≤ 67108864) (hb : b ≤ 67108864) : Int32.ofNat a * Int32.ofNat b = Int32.ofNat (a * b) := by
  have l1 := ofn_i (n := a) ha
  have l2 := ofn_i (n := b) hb
  have e : ((a : Int) * b) = ((a * b : Nat) : Int) := by simp
  exact Int32.toInt_inj.mp (by rw [mul_i (by rw [l1, l2, e]; omega) (by rw [l1, l2, e]; omega), l1, l2, ofn_i h, e])
/-- one row alone is changed -/
def OR6 (f : Nat) (σ τ : rS) : Prop := τ.1 = σ.1 ∧ τ.2.1 = σ.2.1 ∧ (∀ g, g ≠ f → τ.2.2.1 g = σ.2.2.1 g) ∧ τ.2.2.2 = σ.2.2.2
theorem OR_r6 {f : Nat} {σ : rS} : OR6 f σ σ := ⟨rfl, rfl, fun _ _ => rfl, rfl⟩
theorem OR_t6 {f : Nat} {a b c : rS} (h : OR6 f a b) (k : OR6 f b c) : OR6 f a c := ⟨k.1.trans h.1, k.2.1.trans h.2.1, fun g q => (k.2.2.1 g q).trans (h.2.2.1 g q), k.2.2.2.trans h.2.2.2⟩
theorem OR_u6 {f i : Nat} {x : Int32} {σ : rS} : OR6 f σ (riU σ f i x) := ⟨rfl, rfl, fun g q => ri_o6 q, rfl⟩
/-- what stands for a state -/
def key6 (d : Nat) (σ : rS) (i : Nat) : Int32 := if i = 0 then Int32.ofNat d else if i < 35 then σ.2.2.1 57 (i - 1) else if (i - 35) / 9 < d then (if (i - 35) % 9 = 0 then σ.2.2.1 59 ((i - 35) / 9) else σ.2.2.1 60 (8 * ((i - 35) / 9) + (i - 35) % 9 - 1)) else 0
def hh6 (q : Nat → Int32) : Nat → Int32
  | 0 => 0
  | n + 1 => 31 * hh6 q n + q n
theorem hh_e6 {p q : Nat → Int32} : ∀ {n : Nat}, (∀ i, i < n → p i = q i) → hh6 p n = hh6 q n
  | 0, _ => rfl
  | n + 1, h => by
    rw [hh6, hh6, hh_e6 (fun i hi => h i (by omega)), h n (by omega)]
theorem pk2_6 : ∀ (n m t : Nat) (σ : rS), t + n = 143 → n < m → ∃ τ, g5_pack_2 m (Int32.ofNat t) σ = g5_pack_34 fu5 0 (riU τ 84 0 (τ.1 58)) ∧ OR6 84 σ τ ∧ ∀ j, τ.2.2.1 84 j = if t ≤ j ∧ j < 143 then 0 else σ.2.2.1 84 j
  | 0, m, t, σ, ht, hm => by
    obtain ⟨m, rfl⟩ : ∃ q, m = q + 1 := ⟨m - 1, by omega⟩
    rw [g5_pack_2, if_pos (show (143 : Int32) ≤ Int32.ofNat t by rw [lei, ofn_i (by omega), show (143 : Int32).toInt = 143 from rfl]; omega), pb_e5, show (0 : Int32).toNatClampNeg = 0 from rfl]
    exact ⟨σ, rfl, OR_r6, fun j => by rw [if_neg (by omega)]⟩
  | n + 1, m, t, σ, ht, hm => by
    obtain ⟨m, rfl⟩ : ∃ q, m = q + 1 := ⟨m - 1, by omega⟩
    rw [g5_pack_2, if_neg (show ¬ (143 : Int32) ≤ Int32.ofNat t by rw [lei, ofn_i (by omega), show (143 : Int32).toInt = 143 from rfl]; omega), pb_e5, pb_e5, on_15 (by omega), cl_5 (by omega)]
    obtain ⟨τ, u1, u2, u3⟩ := pk2_6 n m (t + 1) (riU σ 84 t 0) (by omega) (by omega)
    refine ⟨τ, u1, OR_t6 OR_u6 u2, fun j => ?_⟩
    rw [u3, ri_s6]
    by_cases q : j = t
    · rw [if_neg (by omega), if_pos q, if_pos (by omega)]
    · by_cases q2 : t + 1 ≤ j ∧ j < 143
      · rw [if_pos q2, if_pos (by omega)]
      · rw [if_neg q2, if_neg q, if_neg (by omega)]
theorem pk34_6 : ∀ (n m t : Nat) (σ : rS), t + n = 34 → n < m → ∃ τ, g5_pack_34 m (Int32.ofNat t) σ = g5_pack_62 fu5 0 τ ∧ OR6 84 σ τ ∧ ∀ j, τ.2.2.1 84 j = if 1 + t ≤ j ∧ j < 35 then σ.2.2.1 57 (j - 1) else σ.2.2.1 84 j
  | 0, m, t, σ, ht, hm => by
    obtain ⟨m, rfl⟩ : ∃ q, m = q + 1 := ⟨m - 1, by omega⟩
    rw [g5_pack_34, if_pos (show (34 : Int32) ≤ Int32.ofNat t by rw [lei, ofn_i (by omega), show (34 : Int32).toInt = 34 from rfl]; omega)]
    exact ⟨σ, rfl, OR_r6, fun j => by rw [if_neg (by omega)]⟩
  | n + 1, m, t, σ, ht, hm => by
    obtain ⟨m, rfl⟩ : ∃ q, m = q + 1 := ⟨m - 1, by omega⟩
    have c1 : ((1 : Int32) + Int32.ofNat t).toNatClampNeg = 1 + t := by rw [show (1 : Int32) = Int32.ofNat 1 from rfl, on_5 (by omega), cl_5 (by omega)]
    rw [g5_pack_34, if_neg (show ¬ (34 : Int32) ≤ Int32.ofNat t by rw [lei, ofn_i (by omega), show (34 : Int32).toInt = 34 from rfl]; omega), pb_e5, pb_e5, on_15 (by omega), c1, cl_5 (by omega)]
    obtain ⟨τ, u1, u2, u3⟩ := pk34_6 n m (t + 1) (riU σ 84 (1 + t) (σ.2.2.1 57 t)) (by omega) (by omega)
    refine ⟨τ, u1, OR_t6 OR_u6 u2, fun j => ?_⟩
    rw [u3, ri_s6, ri_o6 (by decide)]
    by_cases q : j = 1 + t
    · rw [if_neg (by omega), if_pos q, if_pos (by omega), show j - 1 = t by omega]
    · by_cases q2 : 1 + (t + 1) ≤ j ∧ j < 35
      · rw [if_pos q2, if_pos (by omega)]
      · rw [if_neg q2, if_neg q, if_neg (by omega)]
theorem i84_6 {c t : Nat} (hc : c ≤ 12) (ht : t ≤ 8) : ((36 : Int32) + (9 : Int32) * Int32.ofNat c + Int32.ofNat t).toNatClampNeg = 36 + 9 * c + t ∧ ((8 : Int32) * Int32.ofNat c + Int32.ofNat t).toNatClampNeg = 8 * c + t ∧ ((35 : Int32) + (9 : Int32) * Int32.ofNat c).toNatClampNeg = 35 + 9 * c := by
  have e9 : (9 : Int32) * Int32.ofNat c = Int32.ofNat (9 * c) := mul_n6 (a := 9) (by omega) (by omega) (by omega)
  have e8 : (8 : Int32) * Int32.ofNat c = Int32.ofNat (8 * c) := mul_n6 (a := 8) (by omega) (by omega) (by omega)
  refine ⟨?_, ?_, ?_⟩
  · rw [e9, show (36 : Int32) = Int32.ofNat 36 from rfl, on_5 (by omega), on_5 (by omega), cl_5 (by omega)]
  · rw [e8, on_5 (by omega), cl_5 (by omega)]
  · rw [e9, show (35 : Int32) = Int32.ofNat 35 from rfl, on_5 (by omega), cl_5 (by omega)]
theorem pk90_6 {B : Int32 → rS → rS × Int32} {c : Nat} (hc : c < 12) : ∀ (n m t : Nat) (σ : rS), t + n = 8 → n < m → ∃ τ, g5_pack_90 B m (Int32.ofNat c) (Int32.ofNat t) σ = B (Int32.ofNat (c + 1)) τ ∧ OR6 84 σ τ ∧ ∀ j, τ.2.2.1 84 j = if 36 + 9 * c + t ≤ j ∧ j < 44 + 9 * c then σ.2.2.1 60 (8 * c + (j - (36 + 9 * c))) else σ.2.2.1 84 j
  | 0, m, t, σ, ht, hm => by
    obtain ⟨m, rfl⟩ : ∃ q, m = q + 1 := ⟨m - 1, by omega⟩
    rw [g5_pack_90, if_pos (show (8 : Int32) ≤ Int32.ofNat t by rw [lei, ofn_i (by omega), show (8 : Int32).toInt = 8 from rfl]; omega), pb_e5, on_15 (by omega)]
    exact ⟨σ, rfl, OR_r6, fun j => by rw [if_neg (by omega)]⟩
  | n + 1, m, t, σ, ht, hm => by
    obtain ⟨m, rfl⟩ : ∃ q, m = q + 1 := ⟨m - 1, by omega⟩
    obtain ⟨c1, c2, _⟩ := i84_6 (c := c) (t := t) (by omega) (by omega)
    rw [g5_pack_90, if_neg (show ¬ (8 : Int32) ≤ Int32.ofNat t by rw [lei, ofn_i (by omega), show (8 : Int32).toInt = 8 from rfl]; omega), pb_e5, pb_e5, on_15 (by omega), c1, c2]
    obtain ⟨τ, u1, u2, u3⟩ := pk90_6 hc n m (t + 1) (riU σ 84 (36 + 9 * c + t) (σ.2.2.1 60 (8 * c + t))) (by omega) (by omega)
    refine ⟨τ, u1, OR_t6 OR_u6 u2, fun j => ?_⟩
    rw [u3, ri_s6, ri_o6 (by decide)]
    by_cases q : j = 36 + 9 * c + t
    · rw [if_neg (by omega), if_pos q, if_pos (by omega), show j - (36 + 9 * c) = t by omega]
    · by_cases q2 : 36 + 9 * c + (t + 1) ≤ j ∧ j < 44 + 9 * c
      · rw [if_pos q2, if_pos (by omega)]
      · rw [if_neg q2, if_neg q, if_neg (by omega)]
theorem pk62_6 {d : Nat} (hd : d ≤ 12) : ∀ (n m c : Nat) (σ : rS), c + n = d → n < m → σ.1 58 = Int32.ofNat d → ∃ τ, g5_pack_62 m (Int32.ofNat c) σ = g5_pack_137 fu5 0 0 τ ∧ OR6 84 σ τ ∧ ∀ j, τ.2.2.1 84 j = if 35 + 9 * c ≤ j ∧ j < 35 + 9 * d then (if (j - 35) % 9 = 0 then σ.2.2.1 59 ((j - 35) / 9) else σ.2.2.1 60 (8 * ((j - 35) / 9) + (j - 35) % 9 - 1)) else σ.2.2.1 84 j
  | 0, m, c, σ, hc, hm, h58 => by
    obtain ⟨m, rfl⟩ : ∃ q, m = q + 1 := ⟨m - 1, by omega⟩
    rw [g5_pack_62, h58, if_pos (show Int32.ofNat d ≤ Int32.ofNat c by rw [lei, ofn_i (by omega), ofn_i (by omega)]; omega)]
    exact ⟨σ, rfl, OR_r6, fun j => by rw [if_neg (by omega)]⟩
  | n + 1, m, c, σ, hc, hm, h58 => by
    obtain ⟨m, rfl⟩ : ∃ q, m = q + 1 := ⟨m - 1, by omega⟩
    obtain ⟨_, _, c3⟩ := i84_6 (c := c) (t := 0) (by omega) (by omega)
    rw [g5_pack_62, h58, if_neg (show ¬ Int32.ofNat d ≤ Int32.ofNat c by rw [lei, ofn_i (by omega), ofn_i (by omega)]; omega), pb_e5, c3, cl_5 (by omega)]
    obtain ⟨τ, u1, u2, u3⟩ := pk90_6 (B := g5_pack_62 m) (c := c) (by omega) 8 fu5 0 (riU σ 84 (35 + 9 * c) (σ.2.2.1 59 c)) (by omega) (by unfold fu5; omega)
    have u1 : g5_pack_90 (g5_pack_62 m) fu5 (Int32.ofNat c) 0 (riU σ 84 (35 + 9 * c) (σ.2.2.1 59 c)) = g5_pack_62 m (Int32.ofNat (c + 1)) τ := u1
    rw [u1]
    have O : OR6 84 σ τ := OR_t6 OR_u6 u2
    obtain ⟨υ, v1, v2, v3⟩ := pk62_6 hd n m (c + 1) τ (by omega) (by omega) (by rw [O.1]; exact h58)
    refine ⟨υ, v1, OR_t6 O v2, fun j => ?_⟩
    rw [v3, O.2.2.1 59 (by decide), O.2.2.1 60 (by decide), u3, ri_s6, ri_o6 (by decide)]
    by_cases q : 35 + 9 * c ≤ j ∧ j < 44 + 9 * c
    · have q1 : (j - 35) / 9 = c := by omega
      rw [if_neg (show ¬ (35 + 9 * (c + 1) ≤ j ∧ j < 35 + 9 * d) by omega), if_pos (show 35 + 9 * c ≤ j ∧ j < 35 + 9 * d by omega), q1]
      by_cases q2 : j = 35 + 9 * c
      · rw [if_neg (show ¬ (36 + 9 * c + 0 ≤ j ∧ j < 44 + 9 * c) by omega), if_pos q2, if_pos (show (j - 35) % 9 = 0 by omega)]
      · rw [if_pos (show 36 + 9 * c + 0 ≤ j ∧ j < 44 + 9 * c by omega), if_neg (show ¬ (j - 35) % 9 = 0 by omega), show 8 * c + (j - (36 + 9 * c)) = 8 * c + (j - 35) % 9 - 1 by omega]
    · rw [if_neg (show ¬ (36 + 9 * c + 0 ≤ j ∧ j < 44 + 9 * c) by omega), if_neg (show ¬ j = 35 + 9 * c by omega)]
      by_cases q3 : 35 + 9 * (c + 1) ≤ j ∧ j < 35 + 9 * d
      · rw [if_pos q3, if_pos (show 35 + 9 * c ≤ j ∧ j < 35 + 9 * d by omega)]
      · rw [if_neg q3, if_neg (show ¬ (35 + 9 * c ≤ j ∧ j < 35 + 9 * d) by omega)]
theorem pk137_6 : ∀ (n m t : Nat) (σ : rS), t + n = 143 → n < m → g5_pack_137 m (hh6 (σ.2.2.1 84) t) (Int32.ofNat t) σ = (σ, hh6 (σ.2.2.1 84) 143)
  | 0, m, t, σ, ht, hm => by
    obtain ⟨m, rfl⟩ : ∃ q, m = q + 1 := ⟨m - 1, by omega⟩
    rw [g5_pack_137, if_pos (show (143 : Int32) ≤ Int32.ofNat t by rw [lei, ofn_i (by omega), show (143 : Int32).toInt = 143 from rfl]; omega), show t = 143 by omega]
  | n + 1, m, t, σ, ht, hm => by
    obtain ⟨m, rfl⟩ : ∃ q, m = q + 1 := ⟨m - 1, by omega⟩
    rw [g5_pack_137, if_neg (show ¬ (143 : Int32) ≤ Int32.ofNat t by rw [lei, ofn_i (by omega), show (143 : Int32).toInt = 143 from rfl]; omega), pb_e5, pb_e5, on_15 (by omega), cl_5 (by omega)]
    exact pk137_6 n m (t + 1) σ (by omega) (by omega)
theorem pack_6 {d : Nat} {σ : rS} (hd : d ≤ 12) (h58 : σ.1 58 = Int32.ofNat d) : ∃ τ, g5_pack σ = (τ, hh6 (key6 d σ) 143) ∧ OR6 84 σ τ ∧ ∀ i, i < 143 → τ.2.2.1 84 i = key6 d σ i := by
  obtain ⟨τ1, a1, a2, a3⟩ := pk2_6 143 fu5 0 σ (by omega) (by unfold fu5; omega)
  obtain ⟨τ2, b1, b2, b3⟩ := pk34_6 34 fu5 0 (riU τ1 84 0 (τ1.1 58)) (by omega) (by unfold fu5; omega)
  have O2 : OR6 84 σ τ2 := OR_t6 (OR_t6 a2 OR_u6) b2
  obtain ⟨τ3, c1, c2, c3⟩ := pk62_6 hd d fu5 0 τ2 (by omega) (by unfold fu5; omega) (by rw [O2.1]; exact h58)
  have O3 : OR6 84 σ τ3 := OR_t6 O2 c2
  have kk : ∀ i, i < 143 → τ3.2.2.1 84 i = key6 d σ i := fun i hi => by
    rw [c3, O2.2.2.1 59 (by decide), O2.2.2.1 60 (by decide), b3, ri_s6, ri_o6 (by decide), a3, a2.2.2.1 57 (by decide), a2.1, h58]
    unfold key6
    by_cases i0 : i = 0
    · rw [if_neg (show ¬ (35 + 9 * 0 ≤ i ∧ i < 35 + 9 * d) by omega), if_neg (show ¬ (1 + 0 ≤ i ∧ i < 35) by omega), if_pos i0, if_pos i0]
    · rw [if_neg i0, if_neg i0]
      by_cases i1 : i < 35
      · rw [if_neg (show ¬ (35 + 9 * 0 ≤ i ∧ i < 35 + 9 * d) by omega), if_pos (show 1 + 0 ≤ i ∧ i < 35 by omega), if_pos i1]
      · rw [if_neg (show ¬ (1 + 0 ≤ i ∧ i < 35) by omega), if_neg i1]
        by_cases i2 : (i - 35) / 9 < d
        · rw [if_pos (show 35 + 9 * 0 ≤ i ∧ i < 35 + 9 * d by omega), if_pos i2]
        · rw [if_neg (show ¬ (35 + 9 * 0 ≤ i ∧ i < 35 + 9 * d) by omega), if_neg i2, if_pos (show 0 ≤ i ∧ i < 143 by omega)]
  refine ⟨τ3, ?_, O3, kk⟩
  have a1 : g5_pack σ = g5_pack_34 fu5 0 (riU τ1 84 0 (τ1.1 58)) := a1
  have b1 : g5_pack_34 fu5 0 (riU τ1 84 0 (τ1.1 58)) = g5_pack_62 fu5 0 τ2 := b1
  have c1 : g5_pack_62 fu5 0 τ2 = g5_pack_137 fu5 0 0 τ3 := c1
  have d1 : g5_pack_137 fu5 0 0 τ3 = (τ3, hh6 (τ3.2.2.1 84) 143) := pk137_6 143 fu5 0 τ3 (by omega) (by unfold fu5; omega)
  rw [a1, b1, c1, d1, hh_e6 kk]

end
section
set_option maxHeartbeats 1600000
/-! the reference's tables: a state looked for, entered, unpacked -/
def KQ6 (σ : rS) (j : Nat) (q : Nat → Int32) : Prop := ∀ i, i < 143 → σ.2.2.1 73 (143 * j + i) = q i
def HT6 (n : Nat) (σ : rS) : Prop := ∀ j, j < n → σ.2.2.1 74 j = hh6 (fun i => σ.2.2.1 73 (143 * j + i)) 143
theorem i143_6 {g t : Nat} (hg : g ≤ 1000) (ht : t ≤ 143) : ((143 : Int32) * Int32.ofNat g + Int32.ofNat t).toNatClampNeg = 143 * g + t := by
  rw [show (143 : Int32) * Int32.ofNat g = Int32.ofNat (143 * g) from mul_n6 (a := 143) (by omega) (by omega) (by omega), on_5 (by omega), cl_5 (by omega)]
theorem ik4_6 {g : Nat} {σ : rS} (hg : g ≤ 1000) : ∀ (n m t : Nat), t + n = 143 → n < m → (g5_isKey_4 m (Int32.ofNat g) 1 (Int32.ofNat t) σ = 1 ∧ ∀ i, t ≤ i → i < 143 → σ.2.2.1 73 (143 * g + i) = σ.2.2.1 84 i) ∨ (g5_isKey_4 m (Int32.ofNat g) 1 (Int32.ofNat t) σ = 0 ∧ ¬ ∀ i, t ≤ i → i < 143 → σ.2.2.1 73 (143 * g + i) = σ.2.2.1 84 i)
  | 0, m, t, ht, hm => by
    obtain ⟨m, rfl⟩ : ∃ q, m = q + 1 := ⟨m - 1, by omega⟩
    rw [g5_isKey_4, if_pos (show (143 : Int32) ≤ Int32.ofNat t by rw [lei, ofn_i (by omega), show (143 : Int32).toInt = 143 from rfl]; omega)]
    exact Or.inl ⟨rfl, fun i h1 h2 => by omega⟩
  | n + 1, m, t, ht, hm => by
    obtain ⟨m, rfl⟩ : ∃ q, m = q + 2 := ⟨m - 2, by omega⟩
    rw [g5_isKey_4, if_neg (show ¬ (143 : Int32) ≤ Int32.ofNat t by rw [lei, ofn_i (by omega), show (143 : Int32).toInt = 143 from rfl]; omega), if_neg (show ¬ (1 : Int32) = 0 by decide), i143_6 hg (by omega), cl_5 (by omega)]
    have st : ∀ x : Int32, g5_isKey_41 (g5_isKey_4 (m + 1)) (Int32.ofNat g) (Int32.ofNat t) x σ = g5_isKey_4 (m + 1) (Int32.ofNat g) x (Int32.ofNat (t + 1)) σ := fun x => by
      unfold g5_isKey_41
      rw [pb_e5, on_15 (by omega)]
    by_cases q : σ.2.2.1 73 (143 * g + t) = σ.2.2.1 84 t
    · rw [if_pos q, st]
      rcases ik4_6 hg n (m + 1) (t + 1) (by omega) (by omega) with ⟨u1, u2⟩ | ⟨u1, u2⟩
      · refine Or.inl ⟨u1, fun i h1 h2 => ?_⟩
        by_cases y : i = t
        · rw [y]; exact q
        · exact u2 i (by omega) h2
      · exact Or.inr ⟨u1, fun h => u2 (fun i h1 h2 => h i (by omega) h2)⟩
    · rw [if_neg q, st, g5_isKey_4]
      refine Or.inr ⟨?_, fun h => q (h t (Nat.le_refl _) (by omega))⟩
      by_cases y : (143 : Int32) ≤ Int32.ofNat (t + 1)
      · rw [if_pos y]
      · rw [if_neg y, if_pos rfl]
theorem isKey_6 {g : Nat} {σ : rS} (hg : g ≤ 1000) : (g5_isKey (Int32.ofNat g) σ = 1 ∧ KQ6 σ g (σ.2.2.1 84)) ∨ (g5_isKey (Int32.ofNat g) σ = 0 ∧ ¬ KQ6 σ g (σ.2.2.1 84)) := by
  rcases ik4_6 (σ := σ) hg 143 fu5 0 (by omega) (by unfold fu5; omega) with ⟨u1, u2⟩ | ⟨u1, u2⟩
  · exact Or.inl ⟨u1, fun i hi => u2 i (by omega) hi⟩
  · exact Or.inr ⟨u1, fun h => u2 (fun i _ hi => h i hi)⟩
theorem sn7_6 {n : Nat} {σ : rS} (hn : n ≤ 1000) (h70 : σ.1 70 = Int32.ofNat n) (HT : HT6 n σ) : ∀ (k m t : Nat), t + k = n → k < m → (∃ g, t ≤ g ∧ g < n ∧ KQ6 σ g (σ.2.2.1 84) ∧ (∀ j, t ≤ j → j < g → ¬ KQ6 σ j (σ.2.2.1 84)) ∧ g5_stateNow_7 m (hh6 (σ.2.2.1 84) 143) (Int32.ofNat t) σ = (σ, Int32.ofNat g)) ∨ ((∀ j, t ≤ j → j < n → ¬ KQ6 σ j (σ.2.2.1 84)) ∧ g5_stateNow_7 m (hh6 (σ.2.2.1 84) 143) (Int32.ofNat t) σ = (σ, -1))
  | 0, m, t, ht, hm => by
    obtain ⟨m, rfl⟩ : ∃ q, m = q + 1 := ⟨m - 1, by omega⟩
    rw [g5_stateNow_7, h70, if_pos (show Int32.ofNat n ≤ Int32.ofNat t by rw [lei, ofn_i (by omega), ofn_i (by omega)]; omega)]
    exact Or.inr ⟨fun j h1 h2 => by omega, rfl⟩
  | k + 1, m, t, ht, hm => by
    obtain ⟨m, rfl⟩ : ∃ q, m = q + 1 := ⟨m - 1, by omega⟩
    rw [g5_stateNow_7, h70, if_neg (show ¬ Int32.ofNat n ≤ Int32.ofNat t by rw [lei, ofn_i (by omega), ofn_i (by omega)]; omega), cl_5 (by omega)]
    have ih := sn7_6 hn h70 HT k m (t + 1) (by omega) (by omega)
    have go : ¬ KQ6 σ t (σ.2.2.1 84) → (∃ g, t ≤ g ∧ g < n ∧ KQ6 σ g (σ.2.2.1 84) ∧ (∀ j, t ≤ j → j < g → ¬ KQ6 σ j (σ.2.2.1 84)) ∧ pb5 (Int32.ofNat t + 1) (fun v2_1 => g5_stateNow_7 m (hh6 (σ.2.2.1 84) 143) v2_1 σ) = (σ, Int32.ofNat g)) ∨ ((∀ j, t ≤ j → j < n → ¬ KQ6 σ j (σ.2.2.1 84)) ∧ pb5 (Int32.ofNat t + 1) (fun v2_1 => g5_stateNow_7 m (hh6 (σ.2.2.1 84) 143) v2_1 σ) = (σ, -1)) := fun q => by
      rw [pb_e5, on_15 (by omega)]
      rcases ih with ⟨g, g1, g2, g3, g4, g5⟩ | ⟨g1, g2⟩
      · refine Or.inl ⟨g, by omega, g2, g3, fun j h1 h2 => ?_, g5⟩
        by_cases y : j = t
        · rw [y]; exact q
        · exact g4 j (by omega) h2
      · refine Or.inr ⟨fun j h1 h2 => ?_, g2⟩
        by_cases y : j = t
        · rw [y]; exact q
        · exact g1 j (by omega) h2
    by_cases q : σ.2.2.1 74 t = hh6 (σ.2.2.1 84) 143
    · rw [if_pos q, pb_e5]
      rcases isKey_6 (g := t) (σ := σ) (by omega) with ⟨u1, u2⟩ | ⟨u1, u2⟩
      · rw [u1, if_neg (show ¬ (1 : Int32) = 0 by decide)]
        exact Or.inl ⟨t, Nat.le_refl _, by omega, u2, fun j h1 h2 => by omega, rfl⟩
      · rw [u1, if_pos rfl]
        exact go u2
    · rw [if_neg q]
      refine go (fun h => q ?_)
      rw [HT t (by omega)]
      exact hh_e6 h
theorem sn38_6 {n : Nat} (hn : n < 1000) : ∀ (k m t : Nat) (σ : rS), t + k = 143 → k < m → σ.1 70 = Int32.ofNat n → ∃ τ, g5_stateNumber_38 m (Int32.ofNat t) σ = (siU τ 70 (Int32.ofNat (n + 1)), Int32.ofNat n) ∧ OR6 73 σ τ ∧ ∀ j, τ.2.2.1 73 j = if 143 * n + t ≤ j ∧ j < 143 * n + 143 then σ.2.2.1 84 (j - 143 * n) else σ.2.2.1 73 j
  | 0, m, t, σ, ht, hm, h70 => by
    obtain ⟨m, rfl⟩ : ∃ q, m = q + 1 := ⟨m - 1, by omega⟩
    have e1 : σ.1 70 + 1 = Int32.ofNat (n + 1) := by rw [h70, on_15 (by omega)]
    rw [g5_stateNumber_38, if_pos (show (143 : Int32) ≤ Int32.ofNat t by rw [lei, ofn_i (by omega), show (143 : Int32).toInt = 143 from rfl]; omega), pb_e5, e1]
    have e2 : (siU σ 70 (Int32.ofNat (n + 1))).1 70 - 1 = Int32.ofNat n := of_s5 (b := n) rfl (by omega)
    rw [e2]
    exact ⟨σ, rfl, OR_r6, fun j => by rw [if_neg (by omega)]⟩
  | k + 1, m, t, σ, ht, hm, h70 => by
    obtain ⟨m, rfl⟩ : ∃ q, m = q + 1 := ⟨m - 1, by omega⟩
    have i1 : ((143 : Int32) * σ.1 70 + Int32.ofNat t).toNatClampNeg = 143 * n + t := by rw [h70]; exact i143_6 (by omega) (by omega)
    rw [g5_stateNumber_38, if_neg (show ¬ (143 : Int32) ≤ Int32.ofNat t by rw [lei, ofn_i (by omega), show (143 : Int32).toInt = 143 from rfl]; omega), pb_e5, pb_e5, on_15 (by omega), i1, cl_5 (by omega)]
    obtain ⟨τ, u1, u2, u3⟩ := sn38_6 hn k m (t + 1) (riU σ 73 (143 * n + t) (σ.2.2.1 84 t)) (by omega) (by omega) h70
    refine ⟨τ, u1, OR_t6 OR_u6 u2, fun j => ?_⟩
    rw [u3, ri_s6, ri_o6 (by decide)]
    by_cases q : j = 143 * n + t
    · rw [if_neg (by omega), if_pos q, if_pos (by omega), show j - 143 * n = t by omega]
    · by_cases q2 : 143 * n + (t + 1) ≤ j ∧ j < 143 * n + 143
      · rw [if_pos q2, if_pos (by omega)]
      · rw [if_neg q2, if_neg q, if_neg (by omega)]
theorem key_o6 {d : Nat} {σ τ : rS} (h57 : τ.2.2.1 57 = σ.2.2.1 57) (h59 : τ.2.2.1 59 = σ.2.2.1 59) (h60 : τ.2.2.1 60 = σ.2.2.1 60) : key6 d τ = key6 d σ := by
  funext i
  unfold key6
  rw [h57, h59, h60]
theorem KQ_o6 {σ τ : rS} {j : Nat} {p q : Nat → Int32} (h73 : τ.2.2.1 73 = σ.2.2.1 73) (h : ∀ i, i < 143 → p i = q i) : KQ6 τ j p ↔ KQ6 σ j q := by
  unfold KQ6
  rw [h73]
  exact ⟨fun k i hi => (k i hi).trans (h i hi), fun k i hi => (k i hi).trans (h i hi).symm⟩
/-- a state entered -/
def SN6 (n : Nat) (q : Nat → Int32) (σ τ : rS) : Prop := τ.1 70 = Int32.ofNat (n + 1) ∧ (∀ g, g ≠ 70 → τ.1 g = σ.1 g) ∧ (∀ g, g ≠ 73 → g ≠ 74 → g ≠ 84 → τ.2.2.1 g = σ.2.2.1 g) ∧ τ.2.2.2 = σ.2.2.2 ∧ (∀ j, τ.2.2.1 73 j = if 143 * n ≤ j ∧ j < 143 * n + 143 then q (j - 143 * n) else σ.2.2.1 73 j) ∧ ∀ j, τ.2.2.1 74 j = if j = n then hh6 q 143 else σ.2.2.1 74 j
theorem stn_6 {n lim d : Nat} {σ : rS} (hd : d ≤ 12) (h58 : σ.1 58 = Int32.ofNat d) (h70 : σ.1 70 = Int32.ofNat n) (h85 : σ.1 85 = Int32.ofNat lim) (nl : n ≤ lim) (l1 : lim ≤ 1000) (HT : HT6 n σ) :
    (∃ g τ, g < n ∧ KQ6 σ g (key6 d σ) ∧ (∀ j, j < g → ¬ KQ6 σ j (key6 d σ)) ∧ g5_stateNumber σ = (τ, Int32.ofNat g) ∧ OR6 84 σ τ) ∨
    ((∀ j, j < n → ¬ KQ6 σ j (key6 d σ)) ∧ ((n = lim ∧ ∃ τ, g5_stateNumber σ = (τ, -1) ∧ OR6 84 σ τ) ∨ (n < lim ∧ ∃ τ, g5_stateNumber σ = (τ, Int32.ofNat n) ∧ SN6 n (key6 d σ) σ τ))) := by
  obtain ⟨τ1, a1, a2, a3⟩ := pack_6 hd h58
  have h70' : τ1.1 70 = Int32.ofNat n := by rw [a2.1]; exact h70
  have HT1 : HT6 n τ1 := fun j hj => by
    rw [a2.2.2.1 74 (by decide), a2.2.2.1 73 (by decide)]
    exact HT j hj
  have eh : hh6 (τ1.2.2.1 84) 143 = hh6 (key6 d σ) 143 := hh_e6 a3
  have kq : ∀ j, KQ6 τ1 j (τ1.2.2.1 84) ↔ KQ6 σ j (key6 d σ) := fun j => KQ_o6 (a2.2.2.1 73 (by decide)) a3
  have eN : g5_stateNow σ = g5_stateNow_7 fu5 (hh6 (key6 d σ) 143) 0 τ1 := by
    unfold g5_stateNow
    rw [a1, pm_e5]
  have s7 := sn7_6 (by omega) h70' HT1 n fu5 0 (by omega) (by unfold fu5; omega)
  rw [eh] at s7
  rcases s7 with ⟨g, _, g2, g3, g4, g5⟩ | ⟨g1, g2⟩
  · have g5 : g5_stateNow_7 fu5 (hh6 (key6 d σ) 143) 0 τ1 = (τ1, Int32.ofNat g) := g5
    refine Or.inl ⟨g, τ1, g2, (kq g).mp g3, fun j hj h => g4 j (by omega) hj ((kq j).mpr h), ?_, a2⟩
    unfold g5_stateNumber
    rw [eN, g5, pm_e5, if_neg (show ¬ Int32.ofNat g = -1 from fun z => by
      have z := congrArg Int32.toInt z
      rw [ofn_i (by omega), show (-1 : Int32).toInt = -1 from rfl] at z
      omega)]
  · have g2 : g5_stateNow_7 fu5 (hh6 (key6 d σ) 143) 0 τ1 = (τ1, -1) := g2
    refine Or.inr ⟨fun j hj h => g1 j (by omega) hj ((kq j).mpr h), ?_⟩
    have h85' : τ1.1 85 = Int32.ofNat lim := by rw [a2.1]; exact h85
    by_cases q : n = lim
    · refine Or.inl ⟨q, τ1, ?_, a2⟩
      unfold g5_stateNumber
      rw [eN, g2, pm_e5, if_pos rfl]
      dsimp only
      rw [h70', h85', q, if_pos rfl]
    · refine Or.inr ⟨by omega, ?_⟩
      obtain ⟨τ2, b1, b2, b3⟩ := pack_6 (σ := τ1) hd (by rw [a2.1]; exact h58)
      have ek : key6 d τ1 = key6 d σ := key_o6 (a2.2.2.1 57 (by decide)) (a2.2.2.1 59 (by decide)) (a2.2.2.1 60 (by decide))
      rw [ek] at b1 b3
      have O2 : OR6 84 σ τ2 := OR_t6 a2 b2
      obtain ⟨τ3, c1, c2, c3⟩ := sn38_6 (n := n) (by omega) 143 fu5 0 (riU τ2 74 n (hh6 (key6 d σ) 143)) (by omega) (by unfold fu5; omega) (by show τ2.1 70 = _; rw [O2.1]; exact h70)
      have c1 : g5_stateNumber_38 fu5 0 (riU τ2 74 n (hh6 (key6 d σ) 143)) = (siU τ3 70 (Int32.ofNat (n + 1)), Int32.ofNat n) := c1
      refine ⟨siU τ3 70 (Int32.ofNat (n + 1)), ?_, rfl, fun g hg => ?_, fun g w1 w2 w3 => ?_, ?_, fun j => ?_, fun j => ?_⟩
      · unfold g5_stateNumber
        rw [eN, g2, pm_e5, if_pos rfl]
        dsimp only
        rw [h70', h85', if_neg (show ¬ Int32.ofNat n = Int32.ofNat lim from fun z => by
          have z := congrArg Int32.toInt z
          rw [ofn_i (by omega), ofn_i (by omega)] at z
          exact q (by omega)), b1, pm_e5, pb_e5, cl_5 (by omega)]
        exact c1
      · rw [si1, if_neg hg, c2.1]
        show τ2.1 g = _
        rw [O2.1]
      · show τ3.2.2.1 g = _
        rw [c2.2.2.1 g w1, ri_o6 w2, O2.2.2.1 g w3]
      · show τ3.2.2.2 = _
        rw [c2.2.2.2]
        exact O2.2.2.2
      · show τ3.2.2.1 73 j = _
        rw [c3, ri_o6 (by decide), ri_o6 (by decide), O2.2.2.1 73 (by decide)]
        by_cases y : 143 * n + 0 ≤ j ∧ j < 143 * n + 143
        · rw [if_pos y, if_pos (by omega), b3 _ (by omega)]
        · rw [if_neg y, if_neg (by omega)]
      · show τ3.2.2.1 74 j = _
        rw [c2.2.2.1 74 (by decide), ri_s6, O2.2.2.1 74 (by decide)]
/-- a state unpacked -/
theorem up18_6 {g : Nat} (hg : g ≤ 1000) : ∀ (n m t : Nat) (σ : rS), t + n = 34 → n < m → ∃ τ, g5_unpack_18 m (Int32.ofNat (143 * g)) (Int32.ofNat t) σ = g5_unpack_48 fu5 (Int32.ofNat (143 * g)) 0 τ ∧ OR6 57 σ τ ∧ ∀ j, τ.2.2.1 57 j = if t ≤ j ∧ j < 34 then σ.2.2.1 73 (143 * g + 1 + j) else σ.2.2.1 57 j
  | 0, m, t, σ, ht, hm => by
    obtain ⟨m, rfl⟩ : ∃ q, m = q + 1 := ⟨m - 1, by omega⟩
    rw [g5_unpack_18, if_pos (show (34 : Int32) ≤ Int32.ofNat t by rw [lei, ofn_i (by omega), show (34 : Int32).toInt = 34 from rfl]; omega)]
    exact ⟨σ, rfl, OR_r6, fun j => by rw [if_neg (by omega)]⟩
  | n + 1, m, t, σ, ht, hm => by
    obtain ⟨m, rfl⟩ : ∃ q, m = q + 1 := ⟨m - 1, by omega⟩
    have i1 : (Int32.ofNat (143 * g) + 1 + Int32.ofNat t).toNatClampNeg = 143 * g + 1 + t := by rw [on_15 (by omega), on_5 (by omega), cl_5 (by omega)]
    rw [g5_unpack_18, if_neg (show ¬ (34 : Int32) ≤ Int32.ofNat t by rw [lei, ofn_i (by omega), show (34 : Int32).toInt = 34 from rfl]; omega), pb_e5, pb_e5, on_15 (by omega), i1, cl_5 (by omega)]
    obtain ⟨τ, u1, u2, u3⟩ := up18_6 hg n m (t + 1) (riU σ 57 t (σ.2.2.1 73 (143 * g + 1 + t))) (by omega) (by omega)
    refine ⟨τ, u1, OR_t6 OR_u6 u2, fun j => ?_⟩
    rw [u3, ri_s6, ri_o6 (by decide)]
    by_cases q : j = t
    · rw [if_neg (by omega), if_pos q, if_pos (by omega), q]
    · by_cases q2 : t + 1 ≤ j ∧ j < 34
      · rw [if_pos q2, if_pos (by omega)]
      · rw [if_neg q2, if_neg q, if_neg (by omega)]
theorem up79_6 {B : Int32 → Int32 → rS → rS} {g c : Nat} (hg : g ≤ 1000) (hc : c < 12) : ∀ (n m t : Nat) (σ : rS), t + n = 8 → n < m → ∃ τ, g5_unpack_79 B m (Int32.ofNat (143 * g)) (Int32.ofNat c) (Int32.ofNat t) σ = B (Int32.ofNat (143 * g)) (Int32.ofNat (c + 1)) τ ∧ OR6 60 σ τ ∧ ∀ j, τ.2.2.1 60 j = if 8 * c + t ≤ j ∧ j < 8 * c + 8 then σ.2.2.1 73 (143 * g + 36 + 9 * c + (j - 8 * c)) else σ.2.2.1 60 j
  | 0, m, t, σ, ht, hm => by
    obtain ⟨m, rfl⟩ : ∃ q, m = q + 1 := ⟨m - 1, by omega⟩
    rw [g5_unpack_79, if_pos (show (8 : Int32) ≤ Int32.ofNat t by rw [lei, ofn_i (by omega), show (8 : Int32).toInt = 8 from rfl]; omega), pb_e5, on_15 (by omega)]
    exact ⟨σ, rfl, OR_r6, fun j => by rw [if_neg (by omega)]⟩
  | n + 1, m, t, σ, ht, hm => by
    obtain ⟨m, rfl⟩ : ∃ q, m = q + 1 := ⟨m - 1, by omega⟩
    have e9 : (9 : Int32) * Int32.ofNat c = Int32.ofNat (9 * c) := mul_n6 (a := 9) (by omega) (by omega) (by omega)
    have i1 : (Int32.ofNat (143 * g) + 36 + (9 : Int32) * Int32.ofNat c + Int32.ofNat t).toNatClampNeg = 143 * g + 36 + 9 * c + t := by rw [e9, show (36 : Int32) = Int32.ofNat 36 from rfl, on_5 (by omega), on_5 (by omega), on_5 (by omega), cl_5 (by omega)]
    obtain ⟨_, i2, _⟩ := i84_6 (c := c) (t := t) (by omega) (by omega)
    rw [g5_unpack_79, if_neg (show ¬ (8 : Int32) ≤ Int32.ofNat t by rw [lei, ofn_i (by omega), show (8 : Int32).toInt = 8 from rfl]; omega), pb_e5, pb_e5, on_15 (by omega), i1, i2]
    obtain ⟨τ, u1, u2, u3⟩ := up79_6 hg hc n m (t + 1) (riU σ 60 (8 * c + t) (σ.2.2.1 73 (143 * g + 36 + 9 * c + t))) (by omega) (by omega)
    refine ⟨τ, u1, OR_t6 OR_u6 u2, fun j => ?_⟩
    rw [u3, ri_s6, ri_o6 (by decide)]
    by_cases q : j = 8 * c + t
    · rw [if_neg (by omega), if_pos q, if_pos (by omega), show j - 8 * c = t by omega]
    · by_cases q2 : 8 * c + (t + 1) ≤ j ∧ j < 8 * c + 8
      · rw [if_pos q2, if_pos (by omega)]
      · rw [if_neg q2, if_neg q, if_neg (by omega)]
/-- what unpacking changes -/
def UP6 (σ τ : rS) : Prop := τ.1 = σ.1 ∧ τ.2.1 = σ.2.1 ∧ (∀ g, g ≠ 57 → g ≠ 59 → g ≠ 60 → τ.2.2.1 g = σ.2.2.1 g) ∧ τ.2.2.2 = σ.2.2.2
theorem UP_t6 {a b c : rS} (h : UP6 a b) (k : UP6 b c) : UP6 a c := ⟨k.1.trans h.1, k.2.1.trans h.2.1, fun g x y z => (k.2.2.1 g x y z).trans (h.2.2.1 g x y z), k.2.2.2.trans h.2.2.2⟩
theorem UP_o6 {f : Nat} {a b : rS} (h : OR6 f a b) (hf : f = 57 ∨ f = 59 ∨ f = 60) : UP6 a b := ⟨h.1, h.2.1, fun g x y z => h.2.2.1 g (by omega), h.2.2.2⟩
theorem up48_6 {g d : Nat} (hg : g ≤ 1000) (hd : d ≤ 12) : ∀ (n m c : Nat) (σ : rS), c + n = d → n < m → σ.1 58 = Int32.ofNat d → ∃ τ, g5_unpack_48 m (Int32.ofNat (143 * g)) (Int32.ofNat c) σ = τ ∧ UP6 σ τ ∧ τ.2.2.1 57 = σ.2.2.1 57 ∧ (∀ j, τ.2.2.1 59 j = if c ≤ j ∧ j < d then σ.2.2.1 73 (143 * g + 35 + 9 * j) else σ.2.2.1 59 j) ∧ ∀ j, τ.2.2.1 60 j = if 8 * c ≤ j ∧ j < 8 * d then σ.2.2.1 73 (143 * g + 36 + 9 * (j / 8) + j % 8) else σ.2.2.1 60 j
  | 0, m, c, σ, hc, hm, h58 => by
    obtain ⟨m, rfl⟩ : ∃ q, m = q + 1 := ⟨m - 1, by omega⟩
    rw [g5_unpack_48, h58, if_pos (show Int32.ofNat d ≤ Int32.ofNat c by rw [lei, ofn_i (by omega), ofn_i (by omega)]; omega)]
    exact ⟨σ, rfl, ⟨rfl, rfl, fun _ _ _ _ => rfl, rfl⟩, rfl, fun j => by rw [if_neg (by omega)], fun j => by rw [if_neg (by omega)]⟩
  | n + 1, m, c, σ, hc, hm, h58 => by
    obtain ⟨m, rfl⟩ : ∃ q, m = q + 1 := ⟨m - 1, by omega⟩
    have e9 : (9 : Int32) * Int32.ofNat c = Int32.ofNat (9 * c) := mul_n6 (a := 9) (by omega) (by omega) (by omega)
    have i1 : (Int32.ofNat (143 * g) + 35 + (9 : Int32) * Int32.ofNat c).toNatClampNeg = 143 * g + 35 + 9 * c := by rw [e9, show (35 : Int32) = Int32.ofNat 35 from rfl, on_5 (by omega), on_5 (by omega), cl_5 (by omega)]
    rw [g5_unpack_48, h58, if_neg (show ¬ Int32.ofNat d ≤ Int32.ofNat c by rw [lei, ofn_i (by omega), ofn_i (by omega)]; omega), pb_e5, i1, cl_5 (by omega)]
    obtain ⟨τ, u1, u2, u3⟩ := up79_6 (B := g5_unpack_48 m) (g := g) (c := c) hg (by omega) 8 fu5 0 (riU σ 59 c (σ.2.2.1 73 (143 * g + 35 + 9 * c))) (by omega) (by unfold fu5; omega)
    have u1 : g5_unpack_79 (g5_unpack_48 m) fu5 (Int32.ofNat (143 * g)) (Int32.ofNat c) 0 (riU σ 59 c (σ.2.2.1 73 (143 * g + 35 + 9 * c))) = g5_unpack_48 m (Int32.ofNat (143 * g)) (Int32.ofNat (c + 1)) τ := u1
    rw [u1]
    have O : UP6 σ τ := UP_t6 (UP_o6 (f := 59) OR_u6 (by omega)) (UP_o6 u2 (by omega))
    obtain ⟨υ, v1, v2, v3, v4, v5⟩ := up48_6 hg hd n m (c + 1) τ (by omega) (by omega) (by rw [O.1]; exact h58)
    have t57 : τ.2.2.1 57 = σ.2.2.1 57 := by rw [u2.2.2.1 57 (by decide), ri_o6 (by decide)]
    have t73 : τ.2.2.1 73 = σ.2.2.1 73 := O.2.2.1 73 (by decide) (by decide) (by decide)
    refine ⟨υ, v1, UP_t6 O v2, v3.trans t57, fun j => ?_, fun j => ?_⟩
    · rw [v4, t73, u2.2.2.1 59 (by decide), ri_s6]
      by_cases q : j = c
      · rw [if_neg (by omega), if_pos q, if_pos (by omega), q]
      · by_cases q2 : c + 1 ≤ j ∧ j < d
        · rw [if_pos q2, if_pos (by omega)]
        · rw [if_neg q2, if_neg q, if_neg (by omega)]
    · rw [v5, t73, u3, ri_o6 (by decide), ri_o6 (by decide)]
      by_cases q : 8 * c ≤ j ∧ j < 8 * c + 8
      · have q1 : j / 8 = c := by omega
        rw [if_neg (show ¬ (8 * (c + 1) ≤ j ∧ j < 8 * d) by omega), if_pos (show 8 * c + 0 ≤ j ∧ j < 8 * c + 8 by omega), if_pos (show 8 * c ≤ j ∧ j < 8 * d by omega), q1, show j - 8 * c = j % 8 by omega]
      · rw [if_neg (show ¬ (8 * c + 0 ≤ j ∧ j < 8 * c + 8) by omega)]
        by_cases q2 : 8 * (c + 1) ≤ j ∧ j < 8 * d
        · rw [if_pos q2, if_pos (by omega)]
        · rw [if_neg q2, if_neg (by omega)]
theorem unp_6 {g d : Nat} {σ : rS} (hg : g ≤ 1000) (hd : d ≤ 12) (h73 : σ.2.2.1 73 (143 * g) = Int32.ofNat d) : ∃ τ, g5_unpack (Int32.ofNat g) σ = τ ∧ τ.1 58 = Int32.ofNat d ∧ (∀ k, k ≠ 58 → τ.1 k = σ.1 k) ∧ (∀ k, k ≠ 57 → k ≠ 59 → k ≠ 60 → τ.2.2.1 k = σ.2.2.1 k) ∧ τ.2.2.2 = σ.2.2.2 ∧ (∀ j, j < 34 → τ.2.2.1 57 j = σ.2.2.1 73 (143 * g + 1 + j)) ∧ (∀ c, c < d → τ.2.2.1 59 c = σ.2.2.1 73 (143 * g + 35 + 9 * c)) ∧ ∀ c k, c < d → k < 8 → τ.2.2.1 60 (8 * c + k) = σ.2.2.1 73 (143 * g + 36 + 9 * c + k) := by
  have e1 : (143 : Int32) * Int32.ofNat g = Int32.ofNat (143 * g) := mul_n6 (a := 143) (by omega) (by omega) (by omega)
  obtain ⟨τ1, a1, a2, a3⟩ := up18_6 hg 34 fu5 0 (siU σ 58 (Int32.ofNat d)) (by omega) (by unfold fu5; omega)
  obtain ⟨τ2, b1, b2, b3, b4, b5⟩ := up48_6 hg hd d fu5 0 τ1 (by omega) (by unfold fu5; omega) (by rw [a2.1]; rfl)
  have a1 : g5_unpack_18 fu5 (Int32.ofNat (143 * g)) 0 (siU σ 58 (Int32.ofNat d)) = g5_unpack_48 fu5 (Int32.ofNat (143 * g)) 0 τ1 := a1
  have b1 : g5_unpack_48 fu5 (Int32.ofNat (143 * g)) 0 τ1 = τ2 := b1
  have t73 : τ1.2.2.1 73 = σ.2.2.1 73 := a2.2.2.1 73 (by decide)
  refine ⟨τ2, ?_, ?_, fun k q => ?_, fun k q1 q2 q3 => ?_, ?_, fun j hj => ?_, fun c hc => ?_, fun c k hc hk => ?_⟩
  · unfold g5_unpack
    rw [pb_e5, pb_e5, e1, cl_5 (by omega), h73, a1, b1]
  · rw [b2.1, a2.1]
    rfl
  · rw [b2.1, a2.1, si1, if_neg q]
  · rw [b2.2.2.1 k q1 q2 q3, a2.2.2.1 k q1]
    rfl
  · rw [b2.2.2.2, a2.2.2.2]
    rfl
  · rw [b3, a3, if_pos (by omega)]
    rfl
  · rw [b4, if_pos (by omega), t73]
  · rw [b5, if_pos (by omega), t73, show (8 * c + k) / 8 = c by omega, show (8 * c + k) % 8 = k by omega]

end
section
set_option maxHeartbeats 1600000
/-! the reference's tables: endings, nexts -/
def EQ6 (σ : rS) (g : Nat) : Prop := σ.2.2.1 75 (35 * g) = σ.1 61 ∧ ∀ i, i < 34 → σ.2.2.1 75 (35 * g + 1 + i) = σ.2.2.1 57 i
theorem i35_6 {g t : Nat} (hg : g ≤ 1000) (ht : t ≤ 35) : ((35 : Int32) * Int32.ofNat g + 1 + Int32.ofNat t).toNatClampNeg = 35 * g + 1 + t ∧ ((35 : Int32) * Int32.ofNat g).toNatClampNeg = 35 * g := by
  have e : (35 : Int32) * Int32.ofNat g = Int32.ofNat (35 * g) := mul_n6 (a := 35) (by omega) (by omega) (by omega)
  refine ⟨?_, ?_⟩
  · rw [e, on_15 (by omega), on_5 (by omega), cl_5 (by omega)]
  · rw [e, cl_5 (by omega)]
theorem e34z_6 {B : Int32 → rS → rS × Int32} {g m t : Nat} {σ : rS} (hg : g ≤ 1000) : g5_endingNumber_34 B (m + 1) (Int32.ofNat g) 0 (Int32.ofNat t) σ = B (Int32.ofNat (g + 1)) σ := by
  have e78 : g5_endingNumber_78 B (Int32.ofNat g) 0 σ = B (Int32.ofNat (g + 1)) σ := by
    unfold g5_endingNumber_78
    rw [if_pos rfl, pb_e5, on_15 (by omega)]
  rw [g5_endingNumber_34]
  by_cases q : (34 : Int32) ≤ Int32.ofNat t
  · rw [if_pos q, e78]
  · rw [if_neg q, if_pos rfl, e78]
theorem e34_6 {B : Int32 → rS → rS × Int32} {g : Nat} {σ : rS} (hg : g ≤ 1000) : ∀ (n m t : Nat), t + n = 34 → n < m → (g5_endingNumber_34 B m (Int32.ofNat g) 1 (Int32.ofNat t) σ = (σ, Int32.ofNat g) ∧ ∀ i, t ≤ i → i < 34 → σ.2.2.1 75 (35 * g + 1 + i) = σ.2.2.1 57 i) ∨ (g5_endingNumber_34 B m (Int32.ofNat g) 1 (Int32.ofNat t) σ = B (Int32.ofNat (g + 1)) σ ∧ ¬ ∀ i, t ≤ i → i < 34 → σ.2.2.1 75 (35 * g + 1 + i) = σ.2.2.1 57 i)
  | 0, m, t, ht, hm => by
    obtain ⟨m, rfl⟩ : ∃ q, m = q + 1 := ⟨m - 1, by omega⟩
    rw [g5_endingNumber_34, if_pos (show (34 : Int32) ≤ Int32.ofNat t by rw [lei, ofn_i (by omega), show (34 : Int32).toInt = 34 from rfl]; omega)]
    unfold g5_endingNumber_78
    rw [if_neg (show ¬ (1 : Int32) = 0 by decide)]
    exact Or.inl ⟨rfl, fun i h1 h2 => by omega⟩
  | n + 1, m, t, ht, hm => by
    obtain ⟨m, rfl⟩ : ∃ q, m = q + 2 := ⟨m - 2, by omega⟩
    rw [g5_endingNumber_34, if_neg (show ¬ (34 : Int32) ≤ Int32.ofNat t by rw [lei, ofn_i (by omega), show (34 : Int32).toInt = 34 from rfl]; omega), if_neg (show ¬ (1 : Int32) = 0 by decide), (i35_6 hg (by omega)).1, cl_5 (by omega)]
    have st : ∀ x : Int32, g5_endingNumber_71 B (g5_endingNumber_34 B (m + 1)) (Int32.ofNat g) (Int32.ofNat t) x σ = g5_endingNumber_34 B (m + 1) (Int32.ofNat g) x (Int32.ofNat (t + 1)) σ := fun x => by
      unfold g5_endingNumber_71
      rw [pb_e5, on_15 (by omega)]
    by_cases q : σ.2.2.1 75 (35 * g + 1 + t) = σ.2.2.1 57 t
    · rw [if_pos q, st]
      rcases e34_6 (B := B) hg n (m + 1) (t + 1) (by omega) (by omega) with ⟨u1, u2⟩ | ⟨u1, u2⟩
      · refine Or.inl ⟨u1, fun i h1 h2 => ?_⟩
        by_cases y : i = t
        · rw [y]; exact q
        · exact u2 i (by omega) h2
      · exact Or.inr ⟨u1, fun h => u2 (fun i h1 h2 => h i (by omega) h2)⟩
    · rw [if_neg q, st, e34z_6 hg]
      exact Or.inr ⟨rfl, fun h => q (h t (Nat.le_refl _) (by omega))⟩
theorem e120_6 {n : Nat} (hn : n < 1000) : ∀ (k m t : Nat) (σ : rS), t + k = 34 → k < m → σ.1 71 = Int32.ofNat n → ∃ τ, g5_endingNumber_120 m (Int32.ofNat t) σ = (siU τ 71 (Int32.ofNat (n + 1)), Int32.ofNat n) ∧ OR6 75 σ τ ∧ ∀ j, τ.2.2.1 75 j = if 35 * n + 1 + t ≤ j ∧ j < 35 * n + 35 then σ.2.2.1 57 (j - (35 * n + 1)) else σ.2.2.1 75 j
  | 0, m, t, σ, ht, hm, h71 => by
    obtain ⟨m, rfl⟩ : ∃ q, m = q + 1 := ⟨m - 1, by omega⟩
    have e1 : σ.1 71 + 1 = Int32.ofNat (n + 1) := by rw [h71, on_15 (by omega)]
    rw [g5_endingNumber_120, if_pos (show (34 : Int32) ≤ Int32.ofNat t by rw [lei, ofn_i (by omega), show (34 : Int32).toInt = 34 from rfl]; omega), pb_e5, e1]
    have e2 : (siU σ 71 (Int32.ofNat (n + 1))).1 71 - 1 = Int32.ofNat n := of_s5 (b := n) rfl (by omega)
    rw [e2]
    exact ⟨σ, rfl, OR_r6, fun j => by rw [if_neg (by omega)]⟩
  | k + 1, m, t, σ, ht, hm, h71 => by
    obtain ⟨m, rfl⟩ : ∃ q, m = q + 1 := ⟨m - 1, by omega⟩
    have i1 : ((35 : Int32) * σ.1 71 + 1 + Int32.ofNat t).toNatClampNeg = 35 * n + 1 + t := by rw [h71]; exact (i35_6 (by omega) (by omega)).1
    rw [g5_endingNumber_120, if_neg (show ¬ (34 : Int32) ≤ Int32.ofNat t by rw [lei, ofn_i (by omega), show (34 : Int32).toInt = 34 from rfl]; omega), pb_e5, pb_e5, on_15 (by omega), i1, cl_5 (by omega)]
    obtain ⟨τ, u1, u2, u3⟩ := e120_6 hn k m (t + 1) (riU σ 75 (35 * n + 1 + t) (σ.2.2.1 57 t)) (by omega) (by omega) h71
    refine ⟨τ, u1, OR_t6 OR_u6 u2, fun j => ?_⟩
    rw [u3, ri_s6, ri_o6 (by decide)]
    by_cases q : j = 35 * n + 1 + t
    · rw [if_neg (by omega), if_pos q, if_pos (by omega), show j - (35 * n + 1) = t by omega]
    · by_cases q2 : 35 * n + 1 + (t + 1) ≤ j ∧ j < 35 * n + 35
      · rw [if_pos q2, if_pos (by omega)]
      · rw [if_neg q2, if_neg q, if_neg (by omega)]
/-- an ending entered -/
def ES6 (n : Nat) (σ τ : rS) : Prop := τ.1 71 = Int32.ofNat (n + 1) ∧ (∀ g, g ≠ 71 → τ.1 g = σ.1 g) ∧ (∀ g, g ≠ 75 → τ.2.2.1 g = σ.2.2.1 g) ∧ τ.2.2.2 = σ.2.2.2 ∧ ∀ j, τ.2.2.1 75 j = if j = 35 * n then σ.1 61 else if 35 * n + 1 ≤ j ∧ j < 35 * n + 35 then σ.2.2.1 57 (j - (35 * n + 1)) else σ.2.2.1 75 j
theorem e2_6 {n : Nat} {σ : rS} (hn : n ≤ 1000) (h71 : σ.1 71 = Int32.ofNat n) : ∀ (k m t : Nat), t + k = n → k < m → (∃ g, t ≤ g ∧ g < n ∧ EQ6 σ g ∧ g5_endingNumber_2 m (Int32.ofNat t) σ = (σ, Int32.ofNat g)) ∨ ((∀ j, t ≤ j → j < n → ¬ EQ6 σ j) ∧ ((n = 1000 ∧ g5_endingNumber_2 m (Int32.ofNat t) σ = (σ, -1)) ∨ (n < 1000 ∧ ∃ τ, g5_endingNumber_2 m (Int32.ofNat t) σ = (τ, Int32.ofNat n) ∧ ES6 n σ τ)))
  | 0, m, t, ht, hm => by
    obtain ⟨m, rfl⟩ : ∃ q, m = q + 1 := ⟨m - 1, by omega⟩
    rw [g5_endingNumber_2, h71, if_pos (show Int32.ofNat n ≤ Int32.ofNat t by rw [lei, ofn_i (by omega), ofn_i (by omega)]; omega)]
    refine Or.inr ⟨fun j h1 h2 => by omega, ?_⟩
    by_cases q : n = 1000
    · rw [if_pos (show Int32.ofNat n = 1000 by rw [q]; rfl)]
      exact Or.inl ⟨q, rfl⟩
    · rw [if_neg (show ¬ Int32.ofNat n = 1000 from fun z => by
        have z := congrArg Int32.toInt z
        rw [ofn_i (by omega), show (1000 : Int32).toInt = 1000 from rfl] at z
        omega), pb_e5, (i35_6 (t := 0) hn (by omega)).2]
      obtain ⟨τ, u1, u2, u3⟩ := e120_6 (n := n) (by omega) 34 fu5 0 (riU σ 75 (35 * n) (σ.1 61)) (by omega) (by unfold fu5; omega) h71
      have u1 : g5_endingNumber_120 fu5 0 (riU σ 75 (35 * n) (σ.1 61)) = (siU τ 71 (Int32.ofNat (n + 1)), Int32.ofNat n) := u1
      refine Or.inr ⟨by omega, siU τ 71 (Int32.ofNat (n + 1)), u1, rfl, fun g hg => ?_, fun g hg => ?_, u2.2.2.2, fun j => ?_⟩
      · rw [si1, if_neg hg, u2.1]
        rfl
      · show τ.2.2.1 g = _
        rw [u2.2.2.1 g hg, ri_o6 hg]
      · show τ.2.2.1 75 j = _
        rw [u3, ri_s6, ri_o6 (by decide)]
        by_cases y : j = 35 * n
        · rw [if_neg (by omega), if_pos y, if_pos y]
        · rw [if_neg y, if_neg y]
  | k + 1, m, t, ht, hm => by
    obtain ⟨m, rfl⟩ : ∃ q, m = q + 1 := ⟨m - 1, by omega⟩
    rw [g5_endingNumber_2, h71, if_neg (show ¬ Int32.ofNat n ≤ Int32.ofNat t by rw [lei, ofn_i (by omega), ofn_i (by omega)]; omega), (i35_6 (t := 0) (by omega) (by omega)).2]
    have ih := e2_6 hn h71 k m (t + 1) (by omega) (by omega)
    have go : ¬ EQ6 σ t → ∀ x, x = g5_endingNumber_2 m (Int32.ofNat (t + 1)) σ → (∃ g, t ≤ g ∧ g < n ∧ EQ6 σ g ∧ x = (σ, Int32.ofNat g)) ∨ ((∀ j, t ≤ j → j < n → ¬ EQ6 σ j) ∧ ((n = 1000 ∧ x = (σ, -1)) ∨ (n < 1000 ∧ ∃ τ, x = (τ, Int32.ofNat n) ∧ ES6 n σ τ))) := fun q x hx => by
      rw [hx]
      rcases ih with ⟨g, g1, g2, g3, g4⟩ | ⟨g1, g2⟩
      · exact Or.inl ⟨g, by omega, g2, g3, g4⟩
      · refine Or.inr ⟨fun j h1 h2 => ?_, g2⟩
        by_cases y : j = t
        · rw [y]; exact q
        · exact g1 j (by omega) h2
    by_cases q : σ.2.2.1 75 (35 * t) = σ.1 61
    · rw [if_pos q]
      unfold g5_endingNumber_31
      rcases e34_6 (B := g5_endingNumber_2 m) (g := t) (σ := σ) (by omega) 34 fu5 0 (by omega) (by unfold fu5; omega) with ⟨u1, u2⟩ | ⟨u1, u2⟩
      · have u1 : g5_endingNumber_34 (g5_endingNumber_2 m) fu5 (Int32.ofNat t) 1 0 σ = (σ, Int32.ofNat t) := u1
        exact Or.inl ⟨t, Nat.le_refl _, by omega, ⟨q, fun i hi => u2 i (by omega) hi⟩, u1⟩
      · have u1 : g5_endingNumber_34 (g5_endingNumber_2 m) fu5 (Int32.ofNat t) 1 0 σ = g5_endingNumber_2 m (Int32.ofNat (t + 1)) σ := u1
        exact go (fun h => u2 (fun i _ hi => h.2 i hi)) _ u1
    · rw [if_neg q]
      unfold g5_endingNumber_31
      obtain ⟨mf, hmf⟩ : ∃ mf, fu5 = mf + 1 := ⟨fu5 - 1, by unfold fu5; omega⟩
      have u1 : g5_endingNumber_34 (g5_endingNumber_2 m) fu5 (Int32.ofNat t) 0 0 σ = g5_endingNumber_2 m (Int32.ofNat (t + 1)) σ := by
        rw [hmf]
        exact e34z_6 (t := 0) (by omega)
      exact go (fun h => q h.1) _ u1
theorem enn_6 {n : Nat} {σ : rS} (hn : n ≤ 1000) (h71 : σ.1 71 = Int32.ofNat n) : (∃ g, g < n ∧ EQ6 σ g ∧ g5_endingNumber σ = (σ, Int32.ofNat g)) ∨ ((∀ j, j < n → ¬ EQ6 σ j) ∧ ((n = 1000 ∧ g5_endingNumber σ = (σ, -1)) ∨ (n < 1000 ∧ ∃ τ, g5_endingNumber σ = (τ, Int32.ofNat n) ∧ ES6 n σ τ))) := by
  rcases e2_6 hn h71 n fu5 0 (by omega) (by unfold fu5; omega) with ⟨g, _, g2, g3, g4⟩ | ⟨g1, g2⟩
  · exact Or.inl ⟨g, g2, g3, g4⟩
  · exact Or.inr ⟨fun j hj => g1 j (by omega) hj, g2⟩
/-- a next told -/
def NS6b (nx : Nat) (x y z : Int32) (σ τ : rS) : Prop := τ.1 72 = Int32.ofNat (nx + 1) ∧ (∀ g, g ≠ 72 → τ.1 g = σ.1 g) ∧ (∀ g, g ≠ 77 → g ≠ 78 → g ≠ 79 → τ.2.2.1 g = σ.2.2.1 g) ∧ τ.2.2.2 = σ.2.2.2 ∧ (∀ j, τ.2.2.1 77 j = if j = nx then x else σ.2.2.1 77 j) ∧ (∀ j, τ.2.2.1 78 j = if j = nx then y else σ.2.2.1 78 j) ∧ ∀ j, τ.2.2.1 79 j = if j = nx then z else σ.2.2.1 79 j
theorem n110_6 {nx : Nat} {x y z : Int32} {σ : rS} (h72 : σ.1 72 = Int32.ofNat nx) (hn : nx ≤ 20000) : (nx = 20000 ∧ g5_addNext_110 x z y σ = (σ, 0)) ∨ (nx < 20000 ∧ ∃ τ, g5_addNext_110 x z y σ = (τ, 1) ∧ NS6b nx x y z σ τ) := by
  unfold g5_addNext_110
  by_cases q : nx = 20000
  · rw [if_pos (show σ.1 72 = 20000 by rw [h72, q]; rfl)]
    exact Or.inl ⟨q, rfl⟩
  · have cn : (σ.1 72).toNatClampNeg = nx := by rw [h72, cl_5 (by omega)]
    rw [if_neg (show ¬ σ.1 72 = 20000 from fun y => by
      rw [h72] at y
      have y := congrArg Int32.toInt y
      rw [ofn_i (by omega), show (20000 : Int32).toInt = 20000 from rfl] at y
      omega)]
    refine Or.inr ⟨by omega, siU (riU (riU (riU σ 77 nx x) 78 nx y) 79 nx z) 72 (Int32.ofNat (nx + 1)), ?_, rfl, fun g hg => by rw [si1, if_neg hg]; rfl, fun g w1 w2 w3 => ?_, rfl, fun j => ?_, fun j => ?_, fun j => ?_⟩
    · rw [pb_e5, pb_e5, pb_e5, pb_e5]
      have c2 : ((riU σ 77 (σ.1 72).toNatClampNeg x).1 72).toNatClampNeg = nx := cn
      have c3 : ((riU (riU σ 77 (σ.1 72).toNatClampNeg x) 78 ((riU σ 77 (σ.1 72).toNatClampNeg x).1 72).toNatClampNeg y).1 72).toNatClampNeg = nx := cn
      have c4 : (riU (riU (riU σ 77 (σ.1 72).toNatClampNeg x) 78 ((riU σ 77 (σ.1 72).toNatClampNeg x).1 72).toNatClampNeg y) 79 ((riU (riU σ 77 (σ.1 72).toNatClampNeg x) 78 ((riU σ 77 (σ.1 72).toNatClampNeg x).1 72).toNatClampNeg y).1 72).toNatClampNeg z).1 72 + 1 = Int32.ofNat (nx + 1) := by
        show σ.1 72 + 1 = _
        rw [h72, on_15 (by omega)]
      rw [c4, c3, c2, cn]
    · show (riU (riU (riU σ 77 nx x) 78 nx y) 79 nx z).2.2.1 g = _
      rw [ri_o6 w3, ri_o6 w2, ri_o6 w1]
    · show (riU (riU (riU σ 77 nx x) 78 nx y) 79 nx z).2.2.1 77 j = _
      rw [ri_o6 (by decide), ri_o6 (by decide), ri_s6]
    · show (riU (riU (riU σ 77 nx x) 78 nx y) 79 nx z).2.2.1 78 j = _
      rw [ri_o6 (by decide), ri_s6, ri_o6 (by decide)]
    · show (riU (riU (riU σ 77 nx x) 78 nx y) 79 nx z).2.2.1 79 j = _
      rw [ri_s6, ri_o6 (by decide), ri_o6 (by decide)]
/-- nexts that may be told together -/
theorem n55_6 {nx : Nat} {x y z c : Int32} {σ : rS} (h72 : σ.1 72 = Int32.ofNat nx) (hn : nx ≤ 20000) : ∀ (k m t : Nat), t + k = nx → k < m → (c ≠ 0 ∧ ∃ g, t ≤ g ∧ g < nx ∧ σ.2.2.1 77 g = x ∧ σ.2.2.1 78 g = y ∧ (∀ j, t ≤ j → j < g → ¬ (σ.2.2.1 77 j = x ∧ σ.2.2.1 78 j = y)) ∧ g5_addNext_55 m x z c y (Int32.ofNat t) σ = (riU σ 79 g (σ.2.2.1 79 g + z), 1)) ∨ ((c = 0 ∨ ∀ j, t ≤ j → j < nx → ¬ (σ.2.2.1 77 j = x ∧ σ.2.2.1 78 j = y)) ∧ g5_addNext_55 m x z c y (Int32.ofNat t) σ = g5_addNext_110 x z y σ)
  | 0, m, t, ht, hm => by
    obtain ⟨m, rfl⟩ : ∃ q, m = q + 1 := ⟨m - 1, by omega⟩
    rw [g5_addNext_55, h72, if_pos (show Int32.ofNat nx ≤ Int32.ofNat t by rw [lei, ofn_i (by omega), ofn_i (by omega)]; omega)]
    exact Or.inr ⟨Or.inr (fun j h1 h2 => by omega), rfl⟩
  | k + 1, m, t, ht, hm => by
    obtain ⟨m, rfl⟩ : ∃ q, m = q + 1 := ⟨m - 1, by omega⟩
    rw [g5_addNext_55, h72, if_neg (show ¬ Int32.ofNat nx ≤ Int32.ofNat t by rw [lei, ofn_i (by omega), ofn_i (by omega)]; omega), cl_5 (by omega)]
    by_cases c0 : c = 0
    · rw [if_pos c0]
      exact Or.inr ⟨Or.inl c0, rfl⟩
    · rw [if_neg c0]
      have go : ¬ (σ.2.2.1 77 t = x ∧ σ.2.2.1 78 t = y) → ∀ u, u = g5_addNext_55 m x z c y (Int32.ofNat (t + 1)) σ → (c ≠ 0 ∧ ∃ g, t ≤ g ∧ g < nx ∧ σ.2.2.1 77 g = x ∧ σ.2.2.1 78 g = y ∧ (∀ j, t ≤ j → j < g → ¬ (σ.2.2.1 77 j = x ∧ σ.2.2.1 78 j = y)) ∧ u = (riU σ 79 g (σ.2.2.1 79 g + z), 1)) ∨ ((c = 0 ∨ ∀ j, t ≤ j → j < nx → ¬ (σ.2.2.1 77 j = x ∧ σ.2.2.1 78 j = y)) ∧ u = g5_addNext_110 x z y σ) := fun q u hu => by
        rw [hu]
        rcases n55_6 (x := x) (y := y) (z := z) (c := c) h72 hn k m (t + 1) (by omega) (by omega) with ⟨u0, g, g1, g2, g3, g4, g5, g6⟩ | ⟨u1, u2⟩
        · refine Or.inl ⟨u0, g, by omega, g2, g3, g4, fun j h1 h2 => ?_, g6⟩
          by_cases w : j = t
          · rw [w]; exact q
          · exact g5 j (by omega) h2
        · refine Or.inr ⟨?_, u2⟩
          rcases u1 with u1 | u1
          · exact Or.inl u1
          · refine Or.inr (fun j h1 h2 => ?_)
            by_cases w : j = t
            · rw [w]; exact q
            · exact u1 j (by omega) h2
      by_cases q1 : σ.2.2.1 77 t = x
      · rw [if_pos q1]
        by_cases q2 : σ.2.2.1 78 t = y
        · rw [if_pos q2]
          exact Or.inl ⟨c0, t, Nat.le_refl _, by omega, q1, q2, fun j h1 h2 => by omega, rfl⟩
        · rw [if_neg q2]
          exact go (fun h => q2 h.2) _ (by rw [pb_e5, on_15 (by omega)])
      · rw [if_neg q1]
        exact go (fun h => q1 h.1) _ (by rw [pb_e5, on_15 (by omega)])
/-- where a step led to -/
def whr6 (r : Int32) (σ : rS) : rS × Int32 := if r = 0 then g5_stateNumber σ else if r = 1 then g5_endingNumber σ else if r = 2 then (σ, σ.1 61) else (σ, 0)
theorem adn_6 {r z c f : Int32} {σ : rS} : g5_addNext r z c f σ = g5_addNext_36 r z c f (whr6 r σ).2 (whr6 r σ).1 := by
  unfold g5_addNext whr6
  by_cases q0 : r = 0
  · rw [if_pos q0, if_pos q0, pm_e5]
  · rw [if_neg q0, if_neg q0]
    by_cases q1 : r = 1
    · rw [if_pos q1, if_pos q1, pm_e5]
    · rw [if_neg q1, if_neg q1]
      by_cases q2 : r = 2
      · rw [if_pos q2, if_pos q2]
      · rw [if_neg q2, if_neg q2]

end
section
set_option maxHeartbeats 1600000
/-! states of both sides: the class's rows against the reference's keys -/
def KS6 (w s d : Nat) (r30 K q : Nat → Int32) : Prop := (0 < d ∧ d ≤ 12 ∧ w ≤ 34 ∧ q 0 = Int32.ofNat d) ∧ (∀ i, i < w → K i = q (1 + i)) ∧ (∀ i, w ≤ i → i < 34 → q (1 + i) = 0) ∧ (∀ c, c < d → K (w + 9 * c) = q (35 + 9 * c)) ∧ (∀ c k, c < d → k < 8 → K (w + 9 * c + 1 + k) = q (36 + 9 * c + k)) ∧ (∀ i, 35 + 9 * d ≤ i → i < 143 → q i = 0) ∧ (∀ c, c + 1 < d → ∃ j, j < s ∧ K (w + 9 * c) = Int32.ofNat j ∧ r30 j = 5) ∧ ∃ j, j < s ∧ K (w + 9 * (d - 1)) = Int32.ofNat j
section
variable {nv w s d d' : Nat} {r30 K K' q q' : Nat → Int32} {e : E5} {σ τ : rS}
/-- both sides' memory gives a state's row and key -/
theorem KS_m6 (M : MB6 nv w s d e σ) (d0 : 0 < d) (A : AT6 w s d e σ) : KS6 w s d (σ.2.2.1 30) (e.2.1 701) (key6 d σ) := by
  obtain ⟨⟨m1, m2, m3, mz⟩, ⟨m4, m5, m6, m7, m8⟩, m9, m10, m11⟩ := M
  obtain ⟨j, j1, j2, j3⟩ := A
  have k0 : key6 d σ 0 = Int32.ofNat d := if_pos rfl
  have kg : ∀ i, i < 34 → key6 d σ (1 + i) = σ.2.2.1 57 i := fun i hi => by
    unfold key6
    rw [if_neg (by omega), if_pos (by omega), show 1 + i - 1 = i by omega]
  have kc : ∀ c, c < d → key6 d σ (35 + 9 * c) = σ.2.2.1 59 c := fun c hc => by
    unfold key6
    rw [if_neg (by omega), if_neg (by omega), if_pos (by omega), if_pos (by omega), show (35 + 9 * c - 35) / 9 = c by omega]
  have kk : ∀ c k, c < d → k < 8 → key6 d σ (36 + 9 * c + k) = σ.2.2.1 60 (8 * c + k) := fun c k hc hk => by
    unfold key6
    rw [if_neg (by omega), if_neg (by omega), if_pos (by omega), if_neg (by omega), show 8 * ((36 + 9 * c + k - 35) / 9) + (36 + 9 * c + k - 35) % 9 - 1 = 8 * c + k by omega]
  have top : ∀ c, c < d → ∃ j, j < s ∧ e.2.1 701 (w + 9 * c) = Int32.ofNat j ∧ σ.2.2.1 59 c = Int32.ofNat j := fun c hc => by
    by_cases q : c + 1 = d
    · rw [show c = d - 1 by omega]
      exact ⟨j, j1, j2, j3⟩
    · obtain ⟨k, k1, k2, k3, _⟩ := m10 c (by omega)
      exact ⟨k, k1, k2, k3⟩
  refine ⟨⟨d0, m6, m3, k0⟩, fun i hi => ?_, fun i h1 h2 => ?_, fun c hc => ?_, fun c k hc hk => ?_, fun i h1 h2 => ?_, fun c hc => ?_, ⟨j, j1, j2⟩⟩
  · rw [kg i (by omega)]; exact m9 i hi
  · rw [kg i h2]; exact mz i h1 h2
  · obtain ⟨k, _, k2, k3⟩ := top c hc
    rw [kc c hc, k2, k3]
  · rw [kk c k hc hk]; exact m11 c k hc hk
  · unfold key6
    rw [if_neg (by omega), if_neg (by omega), if_neg (by omega)]
  · obtain ⟨k, k1, k2, _, k4⟩ := m10 c hc
    exact ⟨k, k1, k2, k4⟩
theorem ofn_j6 {a b : Nat} (h : Int32.ofNat a = Int32.ofNat b) (ha : a ≤ 67108864) (hb : b ≤ 67108864) : a = b := by
  have y := congrArg Int32.toInt h
  rw [ofn_i ha, ofn_i hb] at y
  omega
/-- rows are the same where keys are, and the other way round -/
theorem KS_e6 (h : KS6 w s d r30 K q) (h' : KS6 w s d' r30 K' q') : (∀ i, i < 143 → q i = q' i) ↔ (d = d' ∧ ∀ i, i < w + 9 * d → K i = K' i) := by
  obtain ⟨⟨a1, a2, a3, a4⟩, b, bz, c, k, z, _, _⟩ := h
  obtain ⟨⟨a1', a2', a3', a4'⟩, b', bz', c', k', z', _, _⟩ := h'
  refine ⟨fun e => ?_, fun e => ?_⟩
  · have dd : d = d' := by
      have y := e 0 (by omega)
      rw [a4, a4'] at y
      exact ofn_j6 y (by omega) (by omega)
    refine ⟨dd, fun i hi => ?_⟩
    by_cases y : i < w
    · rw [b i y, b' i y, e (1 + i) (by omega)]
    · obtain ⟨u, hu⟩ : ∃ u, u = (i - w) / 9 := ⟨_, rfl⟩
      by_cases v : (i - w) % 9 = 0
      · have ei : i = w + 9 * u := by omega
        rw [ei, c u (by omega), c' u (by omega), e _ (by omega)]
      · have ei : i = w + 9 * u + 1 + ((i - w) % 9 - 1) := by omega
        rw [ei, k u _ (by omega) (by omega), k' u _ (by omega) (by omega), e _ (by omega)]
  · obtain ⟨e1, e2⟩ := e
    intro i hi
    by_cases i0 : i = 0
    · rw [i0, a4, a4', e1]
    · by_cases i1 : i < 35
      · have ei : i = 1 + (i - 1) := by omega
        by_cases y : i - 1 < w
        · rw [ei, ← b _ y, ← b' _ y, e2 _ (by omega)]
        · rw [ei, bz _ (by omega) (by omega), bz' _ (by omega) (by omega)]
      · by_cases i2 : i < 35 + 9 * d
        · obtain ⟨u, hu⟩ : ∃ u, u = (i - 35) / 9 := ⟨_, rfl⟩
          by_cases v : (i - 35) % 9 = 0
          · have ei : i = 35 + 9 * u := by omega
            rw [ei, ← c u (by omega), ← c' u (by omega), e2 _ (by omega)]
          · have ei : i = 36 + 9 * u + ((i - 35) % 9 - 1) := by omega
            rw [ei, ← k u _ (by omega) (by omega), ← k' u _ (by omega) (by omega), e2 _ (by omega)]
        · rw [z i (by omega) hi, z' i (by omega) hi]
theorem KS_q6 (h : KS6 w s d r30 K q) (e : ∀ i, i < 143 → q' i = q i) : KS6 w s d r30 K q' := by
  obtain ⟨⟨a1, a2, a3, a4⟩, b, bz, c, k, z, t1, t2⟩ := h
  refine ⟨⟨a1, a2, a3, (e 0 (by omega)).trans a4⟩, fun i hi => ?_, fun i h1 h2 => ?_, fun u hu => ?_, fun u v hu hv => ?_, fun i h1 h2 => ?_, t1, t2⟩
  · rw [e _ (by omega)]; exact b i hi
  · rw [e _ (by omega)]; exact bz i h1 h2
  · rw [e _ (by omega)]; exact c u hu
  · rw [e _ (by omega)]; exact k u v hu hv
  · rw [e _ h2]; exact z i h1 h2
theorem KS_k6 (h : KS6 w s d r30 K q) (e : ∀ i, i < w + 9 * d → K' i = K i) : KS6 w s d r30 K' q := by
  obtain ⟨⟨a1, a2, a3, a4⟩, b, bz, c, k, z, t1, t2⟩ := h
  refine ⟨⟨a1, a2, a3, a4⟩, fun i hi => ?_, bz, fun u hu => ?_, fun u v hu hv => ?_, z, fun u hu => ?_, ?_⟩
  · rw [e _ (by omega)]; exact b i hi
  · rw [e _ (by omega)]; exact c u hu
  · rw [e _ (by omega)]; exact k u v hu hv
  · obtain ⟨j, j1, j2, j3⟩ := t1 u hu
    exact ⟨j, j1, by rw [e _ (by omega)]; exact j2, j3⟩
  · obtain ⟨j, j1, j2⟩ := t2
    exact ⟨j, j1, by rw [e _ (by omega)]; exact j2⟩
/-- a state loaded, on both sides -/
theorem KS_l6 {g : Nat} (hg : g ≤ 1000) (nw : nv ≤ w) (h : KS6 w s d (σ.2.2.1 30) K (fun i => σ.2.2.1 73 (143 * g + i))) (e1 : e.1 702 = Int32.ofNat w) (e2 : e.1 703 = Int32.ofNat d) (e3 : e.1 704 = Int32.ofNat (w + 9 * (d - 1))) (e4 : e.2.2 701 = 142) (e5 : ∀ i, i < w + 9 * d → e.2.1 701 i = K i) : ∃ τ, g5_unpack (Int32.ofNat g) σ = τ ∧ MB6 nv w s d e τ ∧ AT6 w s d e τ ∧ (∀ k, k ≠ 58 → τ.1 k = σ.1 k) ∧ (∀ k, k ≠ 57 → k ≠ 59 → k ≠ 60 → τ.2.2.1 k = σ.2.2.1 k) ∧ τ.2.2.2 = σ.2.2.2 := by
  obtain ⟨⟨a1, a2, a3, a4⟩, b, bz, c, k, z, t1, j, j1, j2⟩ := h
  have a4 : σ.2.2.1 73 (143 * g) = Int32.ofNat d := a4
  obtain ⟨τ, u1, u2, u3, u4, u5, u6, u7, u8⟩ := unp_6 (σ := σ) hg a2 a4
  refine ⟨τ, u1, ⟨⟨e1, nw, a3, fun i h1 h2 => ?_⟩, ⟨e2, u2, a2, e3, e4⟩, fun i hi => ?_, fun x hx => ?_, fun x y hx hy => ?_⟩, ⟨j, j1, by rw [e5 _ (by omega)]; exact j2, ?_⟩, u3, u4, u5⟩
  · rw [u6 i h2]
    have y := bz i h1 h2
    have y : σ.2.2.1 73 (143 * g + (1 + i)) = 0 := y
    rw [← y, show 143 * g + 1 + i = 143 * g + (1 + i) by omega]
  · rw [u6 i (by omega), e5 i (by omega), b i hi]
    show σ.2.2.1 73 (143 * g + (1 + i)) = _
    rw [show 143 * g + 1 + i = 143 * g + (1 + i) by omega]
  · obtain ⟨y, y1, y2, y3⟩ := t1 x hx
    refine ⟨y, y1, by rw [e5 _ (by omega)]; exact y2, ?_, by rw [u4 30 (by decide) (by decide) (by decide)]; exact y3⟩
    rw [u7 x (by omega), ← y2, c x (by omega)]
    show _ = σ.2.2.1 73 (143 * g + (35 + 9 * x))
    rw [show 143 * g + 35 + 9 * x = 143 * g + (35 + 9 * x) by omega]
  · rw [u8 x y hx hy, e5 _ (by omega), k x y hx hy]
    show σ.2.2.1 73 (143 * g + (36 + 9 * x + y)) = _
    rw [show 143 * g + 36 + 9 * x + y = 143 * g + (36 + 9 * x + y) by omega]
  · rw [u7 (d - 1) (by omega), ← j2, c (d - 1) (by omega)]
    show _ = σ.2.2.1 73 (143 * g + (35 + 9 * (d - 1)))
    rw [show 143 * g + 35 + 9 * (d - 1) = 143 * g + (35 + 9 * (d - 1)) by omega]
end

end
section
set_option maxHeartbeats 1600000
/-! both machines: a way taken -/
/-- where both stand behind a step: on, or at the end -/
def OU6 (nv w s : Nat) (e : E5) (σ : rS) (r : Int32) : Prop := e.1 711 = r ∧ ((r = 0 ∧ ∃ d, 0 < d ∧ MB6 nv w s d e σ ∧ AT6 w s d e σ) ∨ (r = 1 ∧ e.1 712 = σ.1 61 ∧ (∀ i, i < w → e.2.1 701 i = σ.2.2.1 57 i) ∧ zt6 w σ) ∨ (r = 2 ∧ e.1 713 = σ.1 61 ∧ e.1 713 ≠ -1) ∨ r = 3)
section
variable {T : T5} {X : X5} {Bk N nv na f s w d : Nat} {Z : Int32} {e e' : E5} {σ σ' : rS}
theorem OU_e6 {r : Int32} (h : AE6 nv w s e σ r) : OU6 nv w s e σ r := by
  rcases h with ⟨h1, h2, _, h3⟩ | ⟨h1, h2, _, h3⟩ | ⟨h1, h2, h3, _, h5, _⟩ | ⟨h1, h2, _⟩
  · exact ⟨h2.trans h1.symm, Or.inl ⟨h1, h3⟩⟩
  · exact ⟨h2.trans h1.symm, Or.inr (Or.inl ⟨h1, h3⟩)⟩
  · exact ⟨h2.trans h1.symm, Or.inr (Or.inr (Or.inl ⟨h1, h3, h5⟩))⟩
  · exact ⟨h2.trans h1.symm, Or.inr (Or.inr (Or.inr h1))⟩
theorem set_6 {i n t : Nat} (hB : Bk ≤ 65537) (hN : N ≤ 65537) (F : FN6 T Bk N nv na f s e σ) (M : MB6 nv w s d e σ) (d0 : 0 < d) (A : AT6 w s d e σ) (h711 : e.1 711 = 0) (hn : n ≤ 64) (hi : i < n) (h716 : e.1 716 = Int32.ofNat n) (WY : WY6 n e σ) (h708 : e.1 708 = Int32.ofNat t) (tg : tg6 nv w d t (σ.1 67)) : ∃ e' σ' r, f5_Ma_settle (Int32.ofNat i) e = .inl (e', ()) ∧ g5_get (Int32.ofNat i) σ = (σ', r) ∧ FM6 e e' σ σ' ∧ OU6 nv w s e' σ' r ∧ ((∀ g, g < 703 ∨ 712 < g ∨ g = 708 → e'.1 g = e.1 g) ∧ ∀ g, g ≠ 701 → e'.2.1 g = e.2.1 g) ∧ (∀ g, g ≠ 58 → g ≠ 61 → σ'.1 g = σ.1 g) ∧ (∀ g, g ≠ 57 → g ≠ 59 → g ≠ 60 → σ'.2.2.1 g = σ.2.2.1 g) ∧ (r = 0 ∨ r = 1) := by
  obtain ⟨j, hj, at1, at2⟩ := A
  have s150 := F.1.2.2.2.1.2
  have mw := M.1.2
  have d12 := M.2.1.2.2.1
  have li := ofn_i (n := i) (by omega)
  have ln := ofn_i (n := n) (by omega)
  have ci : (Int32.ofNat i).toNatClampNeg = i := cl_5 (by omega)
  have cj : (Int32.ofNat j).toNatClampNeg = j := cl_5 (by omega)
  have h716' : e.1 maWays = Int32.ofNat n := h716
  have h708' : e.1 maTarget = Int32.ofNat t := h708
  have w1 : e.2.1 maValues i = σ.2.2.1 64 i := (WY i hi).1
  obtain ⟨q1, q2, q3, q4, q5, q6, q7⟩ := tst_6 (x := σ.2.2.1 64 i) M d0 tg
  have eC : f5_Ma_settle (Int32.ofNat i) e = f5_Ma_settle_26 (me6 t (σ.2.2.1 64 i) e) := by
    unfold f5_Ma_settle
    rw [h716', if_neg (show ¬ Int32.ofNat i < 0 by rw [lti, li, t0i]; omega), if_neg (show ¬ Int32.ofNat n ≤ Int32.ofNat i by rw [lei, ln, li]; omega), h708', ci, w1, pu_6 M.2.1.2.2.2.2 q1, rdl_5]
    rfl
  obtain ⟨e2, he2⟩ : ∃ e2, e2 = me6 t (σ.2.2.1 64 i) e := ⟨_, rfl⟩
  have r1 : e2.1 = e.1 := by rw [he2]; rfl
  have r2 : ∀ g, g ≠ 701 → e2.2.1 g = e.2.1 g := fun g q => by rw [he2]; exact me_o6 q
  rw [← he2] at eC q2 q3 q4
  clear he2
  unfold g5_get
  rw [ci, pb_e5]
  generalize g5_store (σ.1 67) (σ.2.2.1 64 i) σ = σ2 at q2 q3 q5 q6 q7
  have FN2 := FN_m6 F q3
  have c58 : (σ2.1 58 - 1).toNatClampNeg = d - 1 := by rw [of_s5 (b := d - 1) (by rw [q2.2.1.2.1]; congr 1; omega) (by omega), cl_5 (by omega)]
  have a2 : σ2.2.2.1 59 (d - 1) = Int32.ofNat j := by rw [q6 59 (by decide) (by decide)]; exact at2
  rw [c58, a2, cj, pmq_6]
  have cf : (e2.1 maFrame).toNatClampNeg = w + 9 * (d - 1) := cln_6 q2.2.1.2.2.2.1 (by omega)
  have vj : e2.2.1 maMemory (w + 9 * (d - 1)) = Int32.ofNat j := (q4 (d - 1) (by omega)).trans at1
  have est : e2.1 coStatements = Int32.ofNat s := FN2.1.2.2.2.1.1
  have c8 : cl5 (Int32.ofNat j) 8 e2 = σ2.2.2.1 37 j := (cl_55 (s := j) (c := 8) est (by omega) (by omega) (by decide)).trans (FN2.2.2.2.1 j hj).2.2.1.1
  have eC2 : f5_Ma_settle_26 e2 = f5_Ma_proceed (fl6 710 0 (fl6 709 (σ2.2.2.1 37 j) e2)) := by
    unfold f5_Ma_settle_26
    rw [cf, vj, pb_e5, c8, st_f6, rdl_5, st_f6, rdl_5, rb_u5]
  obtain ⟨e3, he3⟩ : ∃ e3, e3 = fl6 710 0 (fl6 709 (σ2.2.2.1 37 j) e2) := ⟨_, rfl⟩
  have FM3 : FM6 e2 e3 σ2 σ2 := by rw [he3]; exact FM_t6 (FM_k6 (by decide)) (FM_k6 (by decide))
  have M3 : MB6 nv w s d e3 σ2 := by rw [he3]; exact MB_k6 (by decide) (MB_k6 (by decide) q2)
  have b709 : e3.1 709 = σ2.2.2.1 37 j := by rw [he3]; rfl
  have b710 : e3.1 710 = 0 := by rw [he3]; rfl
  have b711 : e3.1 711 = 0 := by
    rw [he3]
    show e2.1 711 = 0
    rw [r1]; exact h711
  have b1 : ∀ g, g ≠ 709 → g ≠ 710 → e3.1 g = e.1 g := fun g z1 z2 => by rw [he3, fl_o6 z2, fl_o6 z1, r1]
  have b2 : ∀ g, g ≠ 701 → e3.2.1 g = e.2.1 g := fun g z => by rw [he3]; exact r2 g z
  rw [← he3] at eC2
  clear he3
  obtain ⟨e', σ', r, u1, u2, u3, u4, u5, u6, u7⟩ := mv_6 hB hN (FN_m6 FN2 FM3) M3 d0 b709 b710 (FN2.2.2.2.1 j hj).2.2.1.2
  refine ⟨e', σ', r, eC.trans (eC2.trans u1), u2, FM_t6 q3 (FM_t6 FM3 u3), ?_, ⟨fun g z => (u5.1 g z).trans (b1 g (by omega) (by omega)), fun g z => (u5.2 g z).trans (b2 g z)⟩, fun g z1 z2 => (u6 g z1 z2).trans (by rw [q5]), fun g z1 z2 z3 => (u7 g z1 z2 z3).trans (q6 g z1 z3), ?_⟩
  · rcases u4 with ⟨y1, y2, y3⟩ | ⟨y1, y2, y3⟩
    · exact ⟨(y2.trans b711).trans y1.symm, Or.inl ⟨y1, y3⟩⟩
    · exact ⟨y2.trans y1.symm, Or.inr (Or.inl ⟨y1, y3⟩)⟩
  · rcases u4 with ⟨y1, _⟩ | ⟨y1, _⟩
    · exact Or.inl y1
    · exact Or.inr y1
end

end
