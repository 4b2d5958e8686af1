section
set_option maxHeartbeats 1600000
/-! the reference's explore comes to gxE -/
def cd9x (σ : rS) (a1 : Int32) : Int32 := if σ.1 14 = 0 then 1 else if 1 ≤ a1 ∧ a1 ≤ 1000 then 0 else 2
def AG9 (σ' σc : rS) : Prop := (∀ g, g = 70 ∨ g = 71 ∨ g = 72 ∨ g = 85 → σ'.1 g = σc.1 g) ∧ (∀ g, g ≤ 45 ∨ (73 ≤ g ∧ g ≤ 82) → σ'.2.2.1 g = σc.2.2.1 g)
def XS6 (a1 : Int32) (σ σ' : rS) (v : Int32) : Prop := σ'.1 0 = cd9x σ a1 ∧ ((cd9x σ a1 ≠ 0 ∧ v = 0 ∧ (∀ k, k ≠ 0 → σ'.1 k = σ.1 k) ∧ σ'.2 = σ.2) ∨ (cd9x σ a1 = 0 ∧ ∃ σc r, gxE a1 σ = (σc, r) ∧ ((r = 0 ∧ v = -1 ∧ σ'.1 69 = 0) ∨ (r ≠ 0 ∧ v = σc.1 70 ∧ σ'.1 69 ≠ 0 ∧ AG9 σ' σc ∧ hl8 σc σ' (σc.1 70).toNatClampNeg))))
theorem gxe_6 {a1 r v : Int32} {σ σ1 σ2 σ3 : rS} (h : σ1 = gx0 a1 σ) (zb : g5_begin σ1 = (σ2, r)) (c : ¬ r = 0) (z : g5_endingNumber σ2 = (σ3, v)) : gxE a1 σ = gxl fu5 (if v = -1 then 0 else 1) 0 σ3 := by
  have e : gx1 σ1 = (σ3, if v = -1 then 0 else 1) := by
    unfold gx1
    rw [zb, pmp_6, if_neg c, z, pmp_6]
  unfold gxE
  rw [← h, e, pmp_6]
theorem gxs_6 {a1 r v : Int32} {σ σ1 σ2 σ3 : rS} (h : σ1 = gx0 a1 σ) (zb : g5_begin σ1 = (σ2, r)) (c : r = 0) (z : g5_stateNumber σ2 = (σ3, v)) : gxE a1 σ = gxl fu5 (if v = -1 then 0 else 1) 0 σ3 := by
  have e : gx1 σ1 = (σ3, if v = -1 then 0 else 1) := by
    unfold gx1
    rw [zb, pmp_6, if_pos c, z, pmp_6]
  unfold gxE
  rw [← h, e, pmp_6]
theorem cdx_6 {a1 : Int32} {σ : rS} (w : σ.1 14 ≠ 0 ∧ 1 ≤ a1 ∧ a1 ≤ 1000) : cd9x σ a1 = 0 := by
  unfold cd9x
  rw [if_neg w.1, if_pos w.2]
theorem gxf_6 : ((1001 : Int32) - 0).toNatClampNeg < fu5 := by
  have e : ((1001 : Int32) - 0).toNatClampNeg = 1001 := by decide
  rw [e]
  unfold fu5
  omega
theorem explore_g5 {C : rCx} (hC : cOK C)  {σ : rS} {a1 : Int32} {Q : Int32 → rS → Prop} (hp : tyAll σ ∧ (σ.1 14 ≠ 0 → ∃ T, progOK σ (σ.1 3) T) ∧ exP σ) (h : ∀ (v : Int32) (σ' : rS), ((frM xpF xpR σ σ' ∧ exP σ' ∧ tyAll σ' ∧ (σ'.1 14 ≠ 0 → ∃ T, progOK σ' (σ'.1 3) T) ∧ (((∀ k, k ≠ 0 → σ'.1 k = σ.1 k) ∧ σ'.2 = σ.2) ∨ (σ'.1 94 = 0 ∧ σ'.1 114 = 0))) ∧ (XS6 a1 σ σ' v)) → Q v σ') : cI C 11 m_explore [.ref (co C), .int a1] σ Q := by
  refine m_explore_run hC ?_
  unfold w_explore_0
  obtain ⟨hT, hP, hX⟩ := hp
  have hT' : ∃ T, σ.1 14 ≠ 0 → rI σ (σ.1 3) T := by
    by_cases z : σ.1 14 = 0
    · exact ⟨0, fun y => absurd z y⟩
    · obtain ⟨T, g⟩ := hP z
      exact ⟨T, fun _ => ⟨hT, g⟩⟩
  obtain ⟨T, hI⟩ := hT'
  have ft : ∀ υ, frM xpF xpR σ υ → tyAll υ ∧ (υ.1 14 ≠ 0 → ∃ T, progOK υ (υ.1 3) T) := fun υ f => ⟨ty_M hT f (by decide) (by decide), fun z => ⟨T, by rw [f.1 3 (by decide)]; exact (rI_M (hI (by rw [← f.1 14 (by decide)]; exact z)) f (by decide) (by decide)).2⟩⟩
  have hj136 : ∀ (l2 : Int32) (τ : rS), ((frM xpF xpR σ τ ∧ rI τ (σ.1 3) T ∧ exRR9 τ ∧ nb l2 ∧ τ.1 94 = 0 ∧ τ.1 114 = 0 ∧ τ.1 88 = σ.1 88 ∧ (l2 ≠ 0 → exV τ (σ.1 3) T (τ.1 70))) ∧ cd9x σ a1 = 0 ∧ τ.1 0 = 0 ∧ gxE a1 σ = (τ, l2)) → w_explore_136 C Q  l2 τ := by
    rintro y136_2 τ136 ⟨j136, hE⟩
    unfold w_explore_136
    obtain ⟨g1, g2, g3, g4, g5, g6, g7, g8⟩ := j136
    refine ⟨?_, ?_⟩
    · clear h; exact g4  -- b1
    intro σ_1 hσ_1
    refine ⟨fun c2 => ?_, fun c2 => ?_⟩
    · skip
      unfold w_explore_164
      refine ⟨fun n l3 τ => n = (τ.1 70 - l3).toNatClampNeg ∧ ((frM xpF xpR σ τ ∧ 0 ≤ l3 ∧ l3 ≤ τ.1 70 ∧ τ.1 94 = 0 ∧ τ.1 114 = 0 ∧ exV τ (σ.1 3) T (τ.1 70) ∧ ∀ j : Int32, 0 ≤ j → j < l3 → rd τ 83 j = 0) ∧ cd9x σ a1 = 0 ∧ τ.1 0 = 0 ∧ ∃ σc r, gxE a1 σ = (σc, r) ∧ r ≠ 0 ∧ τ.1 69 ≠ 0 ∧ AG9 τ σc), ⟨_, rfl, ?_⟩, ?_⟩
      · refine and_5 ?_ (fun o9 => ?_)  -- j2
        · clear h; have e1 : ∀ k, k ≠ 69 → σ_1.1 k = τ136.1 k := fun k hk => by rw [hσ_1, si1, if_neg hk]
          have V := g8 c2
          rw [e1 70 (by decide)]
          exact ⟨frM_tr g1 (by rw [hσ_1]; exact frM_0 (by decide)), by decide, V.2.1.1.1, by rw [e1 94 (by decide)]; exact g5, by rw [e1 114 (by decide)]; exact g6, exV_o V e1 (fun k _ => by rw [hσ_1, si2]), fun j j0 j1 => absurd j1 (Int32.not_lt.mpr j0)⟩
        · clear o9
          obtain ⟨e0, t0, g⟩ := hE
          exact ⟨e0, by rw [hσ_1, si1, if_neg (by decide)]; exact t0, τ136, y136_2, g, c2, by rw [hσ_1, si1, if_pos rfl]; exact c2, ⟨fun k q => by rw [hσ_1, si1, if_neg (by omega)], fun k _ => by rw [hσ_1, si2]⟩⟩
      rintro n164 x164_3 σ164 ⟨hn164, i164, hE⟩
      obtain ⟨w1, w2, w3, w4, w5, w6, w7⟩ := i164
      refine ⟨fun c3 => ?_, fun c3 => ?_⟩
      · skip
        refine findRings_g5 hC  ?_ (fun σ_4 q5 => ?_)
        · clear h; exact exO_V w6  -- p3
        obtain ⟨q5, z9⟩ := q5
        have zF9 := z9
        refine h _ _ ?_
        · refine and_5 ?_ (fun o9 => ?_)  -- q4
          · clear h; have e : x164_3 = σ164.1 70 := Int32.le_antisymm w3 c3
            rw [e] at w7
            have F : frM xpF xpR σ σ_4 := frM_tr w1 (frM_mono q5.1 (by decide) (by decide))
            have e70 : σ_4.1 70 = σ164.1 70 := q5.1.1 70 (by decide)
            have rr : ∀ k, k ≠ 87 → σ_4.2.2.1 k = σ164.2.2.1 k := fun k hk => q5.1.2.2.1 k (fun z => hk (by simpa using z))
            refine ⟨F, ⟨exO_o (exO_V w6) (fun k hk => q5.1.1 k (by rcases hk with rfl | rfl | rfl <;> decide)) (fun k hk => rr k (by omega)), fun j j0 j1 => ?_, fun j j0 j1 => ?_, q5.2.1, fun z a ha t => ?_⟩, (ft _ F).1, (ft _ F).2, Or.inr ⟨by rw [q5.1.1 94 (by decide)]; exact w4, by rw [q5.1.1 114 (by decide)]; exact w5⟩⟩
            · rw [e70] at j1
              obtain ⟨r1, r2, r3, -⟩ := w6.2.2.1 j j0 j1
              unfold rowR
              simp only [rd]
              rw [rr 73 (by decide)]
              exact ⟨r1, r2, fun c c0 c1 => ⟨(r3 c c0 c1).1, s150 w6.1 (r3 c c0 c1).2⟩⟩
            · rw [e70] at j1
              have sj := (w6.2.2.2.2.2.1 j j0 j1).1
              have p := w7 j j0 j1
              simp only [rd] at p sj ⊢
              rw [rr 83 (by decide), rr 76 (by decide), p]
              exact ⟨fun _ => rfl, fun _ => ⟨by decide, sub_pos sj.1 sj.2.1⟩⟩
            · rw [e70] at ha
              exact q5.2.2 z a ha (Tr_congr (fun a b e => (edN_o (fun k hk => rr k (by omega)) (by decide)).mp e) t)
          · clear o9
            obtain ⟨e0, t0, σc, r, g, r0, t69, A⟩ := hE
            refine ⟨(q5.1.1 0 (by decide)).trans (t0.trans e0.symm), Or.inr ⟨e0, σc, r, g, Or.inr ⟨r0, ?_, ?_, ?_, ?_⟩⟩⟩
            · rw [q5.1.1 70 (by decide)]; exact A.1 70 (by decide)
            · rw [q5.1.1 69 (by decide)]; exact t69
            · exact ⟨fun k q => (q5.1.1 k (by rcases q with rfl | rfl | rfl | rfl <;> decide)).trans (A.1 k q), fun k q => (q5.1.2.2.1 k (fun z => by have y : k = 87 := (by simpa using z); omega)).trans (A.2 k q)⟩
            · intro k hk
              rw [← A.1 70 (by decide)] at hk
              rw [← hp_r8 (A.1 70 (by decide)) (fun g q => A.2 g (by omega))]
              exact zF9 k hk
      · skip
        have u := uk w2 c3 (Int32.le_trans w6.2.1.1.2.1 w6.2.1.1.2.2)
        refine ⟨ib_1000.mpr ?_, ?_⟩
        · clear h; exact ⟨w2, u.2.2.2.2.2⟩  -- b5
        intro σ_6 hσ_6
        intro x7 hx7
        refine lp_b5 (cn_lt2 hn164 ?_ ?_) (fun d9 => ⟨rfl, ?_⟩)
        · clear h; rw [hx7, hσ_6, ri1]; exact u.1  -- d6
        · clear h; rw [hx7, hσ_6, ri1]; exact u.2.1  -- d7
        · refine and_5 ?_ (fun o9 => ?_)  -- i8
          · clear h; have e6 : ∀ k, σ_6.1 k = σ164.1 k := fun k => by rw [hσ_6, ri1]
            rw [hx7, e6 70]
            refine ⟨frM_tr w1 (by rw [hσ_6]; exact frM_1 (by decide)), u.2.2.1, u.2.2.2.1, by rw [e6]; exact w4, by rw [e6]; exact w5, exV_o w6 (fun k _ => e6 k) (fun k hk => by rw [hσ_6, ri3 hk]), fun j j0 j1 => ?_⟩
            rw [rd, hσ_6, ri4]
            split
            · rfl
            · rename_i ne
              refine w7 j j0 ?_
              rcases l1k w2 u.2.2.2.2.2 j1 with z | z
              · exact absurd (by rw [z]) ne
              · exact z
          · clear o9
            obtain ⟨e0, t0, σc, r, g, r0, t69, A⟩ := hE
            exact ⟨e0, by rw [hσ_6, ri1]; exact t0, σc, r, g, r0, by rw [hσ_6, ri1]; exact t69, ⟨fun k q => by rw [hσ_6, ri1]; exact A.1 k q, fun k q => by rw [hσ_6, ri3 (by omega)]; exact A.2 k q⟩⟩
    · skip
      intro σ_8 hσ_8
      intro σ_9 hσ_9
      intro σ_10 hσ_10
      refine h _ _ ?_
      · refine and_5 ?_ (fun o9 => ?_)  -- q9
        · clear h; have F : frM xpF xpR σ σ_10 := frM_tr g1 (frM_tr (by rw [hσ_1]; exact frM_0 (by decide) : frM xpF xpR τ136 σ_1) (by rw [hσ_10, hσ_9, hσ_8]; exact frM_tr (frM_tr (frM_0 (by decide)) (frM_0 (by decide))) (frM_0 (by decide))))
          have k : ∀ k, k ≠ 69 → k ≠ 70 → k ≠ 71 → k ≠ 72 → σ_10.1 k = τ136.1 k := fun k z1 z2 z3 z4 => by rw [hσ_10, si1, if_neg z4, hσ_9, si1, if_neg z3, hσ_8, si1, if_neg z2, hσ_1, si1, if_neg z1]
          exact ⟨F, exP_0 (by rw [hσ_10, si1, if_neg (by decide), hσ_9, si1, if_neg (by decide), hσ_8, si1, if_pos rfl]) (by rw [hσ_10, si1, if_neg (by decide), hσ_9, si1, if_pos rfl]) (by rw [hσ_10, si1, if_pos rfl]) (by rw [k 88 (by decide) (by decide) (by decide) (by decide), g7]; exact hX.2.2.2.1), (ft _ F).1, (ft _ F).2, Or.inr ⟨by rw [k 94 (by decide) (by decide) (by decide) (by decide)]; exact g5, by rw [k 114 (by decide) (by decide) (by decide) (by decide)]; exact g6⟩⟩
        · clear o9
          obtain ⟨e0, t0, g⟩ := hE
          refine ⟨?_, Or.inr ⟨e0, τ136, y136_2, g, Or.inl ⟨c2, rfl, ?_⟩⟩⟩
          · rw [hσ_10, si1, if_neg (by decide), hσ_9, si1, if_neg (by decide), hσ_8, si1, if_neg (by decide), hσ_1, si1, if_neg (by decide), t0, e0]
          · rw [hσ_10, si1, if_neg (by decide), hσ_9, si1, if_neg (by decide), hσ_8, si1, if_neg (by decide), hσ_1, si1, if_pos rfl]; exact c2
  have hh112 : ∀ (l2 : Int32) (l3 : Int32) (τ : rS), ((frM xpF xpR σ τ ∧ rI τ (σ.1 3) T ∧ exRR9 τ ∧ 0 ≤ l3 ∧ l3 ≤ 1000 ∧ nb l2 ∧ τ.1 94 = 0 ∧ τ.1 114 = 0 ∧ τ.1 88 = σ.1 88 ∧ (l2 ≠ 0 → exV τ (σ.1 3) T l3)) ∧ cd9x σ a1 = 0 ∧ τ.1 0 = 0 ∧ ∃ m, gxE a1 σ = gxl m l2 l3 τ ∧ (1001 - l3).toNatClampNeg < m) → w_explore_112 C Q  l2 l3 τ := by
    intro z2 z3 τi hinit
    unfold w_explore_112
    refine ⟨fun n l2 l3 τ => n = (1001 - l3).toNatClampNeg ∧ ((frM xpF xpR σ τ ∧ rI τ (σ.1 3) T ∧ exRR9 τ ∧ 0 ≤ l3 ∧ l3 ≤ 1000 ∧ nb l2 ∧ τ.1 94 = 0 ∧ τ.1 114 = 0 ∧ τ.1 88 = σ.1 88 ∧ (l2 ≠ 0 → exV τ (σ.1 3) T l3)) ∧ cd9x σ a1 = 0 ∧ τ.1 0 = 0 ∧ ∃ m, gxE a1 σ = gxl m l2 l3 τ ∧ (1001 - l3).toNatClampNeg < m), ⟨_, rfl, hinit⟩, ?_⟩
    clear hinit
    rintro n112 x112_2 x112_3 σ112 ⟨hn112, i112, hE⟩
    obtain ⟨v1, v2, v3, v4, v5, v6, v7, v8, v9, v10⟩ := i112
    refine ⟨fun c11 => ?_, fun c11 => ?_⟩
    · skip
      refine hj136 _ _ ?_
      · refine and_5 ?_ (fun o9 => ?_)  -- k10
        · clear h; refine ⟨v1, v2, v3, v6, v7, v8, v9, fun z => ?_⟩
          have V := v10 z
          have e : x112_3 = σ112.1 70 := Int32.le_antisymm V.2.2.2.2.1.2 c11
          rw [e] at V
          exact V
        · clear o9
          obtain ⟨e0, t0, m, g, hm⟩ := hE
          obtain ⟨m, rfl⟩ : ∃ m9, m = m9 + 1 := ⟨m - 1, by omega⟩
          exact ⟨e0, t0, by rw [g, gxl, if_pos c11]⟩
    · skip
      refine ⟨fun c12 => ?_, fun c12 => ?_⟩
      · skip
        refine hj136 _ _ ?_
        · refine and_5 ?_ (fun o9 => ?_)  -- k11
          · clear h; exact ⟨v1, v2, v3, v6, v7, v8, v9, fun z => absurd c12 z⟩
          · clear o9
            obtain ⟨e0, t0, m, g, hm⟩ := hE
            obtain ⟨m, rfl⟩ : ∃ m9, m = m9 + 1 := ⟨m - 1, by omega⟩
            exact ⟨e0, t0, by rw [g, gxl, if_neg c11, if_pos c12]⟩
      · skip
        refine expand_g5 hC (σ.1 3) T ?_ (fun r13 σ_14 q15 => ?_)
        · clear h; exact ⟨v10 c12, Int32.not_le.mp c11⟩  -- p12
        obtain ⟨q15, z9⟩ := q15
        intro x16 hx16
        have u := u1001 v4 (Int32.lt_of_lt_of_le (Int32.not_le.mp c11) (Int32.le_trans v3.1.2.1 v3.1.2.2))
        refine lp_b5 (cn_lt2 hn112 ?_ ?_) (fun d9 => ⟨rfl, ?_⟩)
        · clear h; rw [hx16]; exact u.1  -- d13
        · clear h; rw [hx16]; exact u.2.1  -- d14
        · refine and_5 ?_ (fun o9 => ?_)  -- i15
          · clear h; rw [hx16]; exact ⟨frM_tr v1 (frM_G q15.1 (by decide) (by decide)), q15.2.1.1, q15.2.1.2.1, u.2.2.1, u.2.2.2, q15.2.2.1, by rw [q15.1.1 94 (by decide)]; exact v7, by rw [q15.1.1 114 (by decide)]; exact v8, by rw [q15.1.1 88 (by decide)]; exact v9, q15.2.2.2⟩
          · clear o9
            obtain ⟨e0, t0, m, g, hm⟩ := hE
            obtain ⟨m, rfl⟩ : ∃ m9, m = m9 + 1 := ⟨m - 1, by omega⟩
            refine ⟨e0, (q15.1.1 0 (by decide)).trans t0, m, by rw [g, gxl, if_neg c11, if_neg c12, z9, pmp_6, hx16], by omega⟩
  have hj28 : ∀ (l1 : Int32) (s1 : Int32) (τ : rS), ((σ = τ ∧ l1 = a1 ∧ (s1 ≤ 0 → σ.1 14 ≠ 0 ∧ 1 ≤ a1 ∧ a1 ≤ 1000)) ∧ s1 = cd9x σ a1) → w_explore_28 C Q  l1 s1 τ := by
    rintro y28_1 y28_s1 _ ⟨⟨rfl, j28⟩, hE⟩
    unfold w_explore_28
    intro σ_17 hσ_17
    refine ⟨fun c18 => ?_, fun c18 => ?_⟩
    · skip
      intro σ_19 hσ_19
      intro σ_20 hσ_20
      intro σ_21 hσ_21
      intro σ_22 hσ_22
      intro σ_23 hσ_23
      intro σ_24 hσ_24
      refine begin_g5 hC (σ.1 3) T ?_ (fun r25 σ_26 q27 => ?_)
      · clear h; have e0 : σ_17.1 0 = y28_s1 := by rw [hσ_17, si1, if_pos rfl]
        have w := j28.2 (by rw [← e0]; exact c18)
        have F : frM xpF xpR σ σ_24 := by rw [hσ_24, hσ_23, hσ_22, hσ_21, hσ_20, hσ_19, hσ_17]; exact frM_tr (frM_tr (frM_tr (frM_tr (frM_tr (frM_tr (frM_0 (by decide)) (frM_0 (by decide))) (frM_0 (by decide))) (frM_0 (by decide))) (frM_0 (by decide))) (frM_0 (by decide))) (frM_0 (by decide))
        exact rI_M (hI w.1) F (by decide) (by decide)
      obtain ⟨q27, z9⟩ := q27
      have zb := z9
      have e0 : σ_17.1 0 = y28_s1 := by rw [hσ_17, si1, if_pos rfl]
      have w := j28.2 (by rw [← e0]; exact c18)
      have F24 : frM xpF xpR σ σ_24 := by rw [hσ_24, hσ_23, hσ_22, hσ_21, hσ_20, hσ_19, hσ_17]; exact frM_tr (frM_tr (frM_tr (frM_tr (frM_tr (frM_tr (frM_0 (by decide)) (frM_0 (by decide))) (frM_0 (by decide))) (frM_0 (by decide))) (frM_0 (by decide))) (frM_0 (by decide))) (frM_0 (by decide))
      have I24 : rI σ_24 (σ.1 3) T := rI_M (hI w.1) F24 (by decide) (by decide)
      have v114 : σ_24.1 114 = 0 := by rw [hσ_24, si1, if_pos rfl]
      have v94 : σ_24.1 94 = 0 := by rw [hσ_24, si1, if_neg (by decide), hσ_23, si1, if_pos rfl]
      have v72 : σ_24.1 72 = 0 := by rw [hσ_24, si1, if_neg (by decide), hσ_23, si1, if_neg (by decide), hσ_22, si1, if_pos rfl]
      have v71 : σ_24.1 71 = 0 := by rw [hσ_24, si1, if_neg (by decide), hσ_23, si1, if_neg (by decide), hσ_22, si1, if_neg (by decide), hσ_21, si1, if_pos rfl]
      have v70 : σ_24.1 70 = 0 := by rw [hσ_24, si1, if_neg (by decide), hσ_23, si1, if_neg (by decide), hσ_22, si1, if_neg (by decide), hσ_21, si1, if_neg (by decide), hσ_20, si1, if_pos rfl]
      have v85 : σ_24.1 85 = a1 := by rw [hσ_24, si1, if_neg (by decide), hσ_23, si1, if_neg (by decide), hσ_22, si1, if_neg (by decide), hσ_21, si1, if_neg (by decide), hσ_20, si1, if_neg (by decide), hσ_19, si1, if_pos rfl]; exact j28.1
      have v88 : σ_24.1 88 = σ.1 88 := by rw [hσ_24, si1, if_neg (by decide), hσ_23, si1, if_neg (by decide), hσ_22, si1, if_neg (by decide), hσ_21, si1, if_neg (by decide), hσ_20, si1, if_neg (by decide), hσ_19, si1, if_neg (by decide), hσ_17, si1, if_neg (by decide)]
      have F26 : frM xpF xpR σ σ_26 := frM_tr F24 (frM_G q27.1 (by decide) (by decide))
      have I26 : rI σ_26 (σ.1 3) T := rI_fr I24 (frG_mono q27.1 (by decide) (by decide))
      have k26 : ∀ k, k ≠ 58 → k ≠ 61 → σ_26.1 k = σ_24.1 k := fun k z1 z2 => q27.1.1 k (by simp [z1, z2])
      refine ⟨fun c28 => ?_, fun c28 => ?_⟩
      · skip
        refine endingNumber_g5 hC  ?_ (fun r29 σ_30 q31 => ?_)
        · clear h; rw [k26 71 (by decide) (by decide), v71]; exact ⟨by decide, by decide⟩  -- p17
        obtain ⟨q31, z9⟩ := q31
        have k30 : ∀ k, k ≠ 58 → k ≠ 61 → k ≠ 71 → σ_30.1 k = σ_24.1 k := fun k z1 z2 z3 => (q31.1.1 k (by simp [z3])).trans (k26 k z1 z2)
        have I30 : rI σ_30 (σ.1 3) T := rI_ex I26 (frG_mono q31.1 (by decide) (by decide))
        have R30 : exRR9 σ_30 := by
          unfold exRR9
          rw [k30 70 (by decide) (by decide) (by decide), k30 72 (by decide) (by decide) (by decide), k30 85 (by decide) (by decide) (by decide), v70, v72, v85]
          exact ⟨⟨by decide, Int32.le_trans (by decide) w.2.1, w.2.2⟩, ⟨q31.2.1.1, q31.2.1.2.2⟩, by decide, by decide⟩
        have fin : ∀ l2 : Int32, nb l2 → (l2 ≠ 0 → exV σ_30 (σ.1 3) T 0) → frM xpF xpR σ σ_30 ∧ rI σ_30 (σ.1 3) T ∧ exRR9 σ_30 ∧ (0 : Int32) ≤ 0 ∧ (0 : Int32) ≤ 1000 ∧ nb l2 ∧ σ_30.1 94 = 0 ∧ σ_30.1 114 = 0 ∧ σ_30.1 88 = σ.1 88 ∧ (l2 ≠ 0 → exV σ_30 (σ.1 3) T 0) := fun l2 h1 h2 => ⟨frM_tr F26 (frM_G q31.1 (by decide) (by decide)), I30, R30, by decide, by decide, h1, by rw [k30 94 (by decide) (by decide) (by decide)]; exact v94, by rw [k30 114 (by decide) (by decide) (by decide)]; exact v114, by rw [k30 88 (by decide) (by decide) (by decide)]; exact v88, h2⟩
        refine ⟨fun c32 => ?_, fun c32 => ?_⟩
        · skip
          refine hh112 _ _ _ ?_
          · refine and_5 ?_ (fun o9 => ?_)  -- j18
            · clear h; exact fin _ nb_0 (fun z => absurd rfl z)
            · clear o9
              have s0 := cdx_6 w
              rw [s0] at hE
              have h24 : σ_24 = gx0 a1 σ := by rw [hσ_24, hσ_23, hσ_22, hσ_21, hσ_20, hσ_19, hσ_17, hE, j28.1]; rfl
              refine ⟨s0, ?_, fu5, by rw [gxe_6 h24 zb c28 z9, if_pos c32], gxf_6⟩
              rw [k30 0 (by decide) (by decide) (by decide), h24]; rfl
        · skip
          refine hh112 _ _ _ ?_
          · refine and_5 ?_ (fun o9 => ?_)  -- j19
            · clear h; refine fin _ nb_1 (fun _ => exV_0 I30 R30 (by rw [k30 72 (by decide) (by decide) (by decide)]; exact v72) (fun j j0 j1 => ?_))
              rw [k30 70 (by decide) (by decide) (by decide), v70] at j1
              exact absurd j1 (Int32.not_lt.mpr j0)
            · clear o9
              have s0 := cdx_6 w
              rw [s0] at hE
              have h24 : σ_24 = gx0 a1 σ := by rw [hσ_24, hσ_23, hσ_22, hσ_21, hσ_20, hσ_19, hσ_17, hE, j28.1]; rfl
              refine ⟨s0, ?_, fu5, by rw [gxe_6 h24 zb c28 z9, if_neg c32], gxf_6⟩
              rw [k30 0 (by decide) (by decide) (by decide), h24]; rfl
      · skip
        refine stateNumber_g5 hC  ?_ (fun r33 σ_34 q35 => ?_)
        · clear h; refine ⟨?_, ?_, ?_, ?_⟩
          · rcases q27.2 with z | z
            · exact z.2
            · exact absurd (c28.symm.trans z) (by decide)
          · rw [k26 70 (by decide) (by decide), v70]; decide
          · rw [k26 70 (by decide) (by decide), k26 85 (by decide) (by decide), v70, v85]; exact Int32.le_trans (by decide) w.2.1
          · rw [k26 85 (by decide) (by decide), v85]; exact w.2.2
        obtain ⟨q35, z9⟩ := q35
        have k34 : ∀ k, k ≠ 58 → k ≠ 61 → k ≠ 70 → σ_34.1 k = σ_24.1 k := fun k z1 z2 z3 => (q35.1.1 k (by simp [z3])).trans (k26 k z1 z2)
        have I34 : rI σ_34 (σ.1 3) T := rI_ex I26 (frG_mono q35.1 (by decide) (by decide))
        have R34 : exRR9 σ_34 := by
          have q := q35.2.1
          rw [k26 85 (by decide) (by decide), v85] at q
          unfold exRR9
          rw [k34 71 (by decide) (by decide) (by decide), k34 72 (by decide) (by decide) (by decide), k34 85 (by decide) (by decide) (by decide), v71, v72, v85]
          exact ⟨⟨q.1, q.2.2, w.2.2⟩, by decide, by decide⟩
        have fin : ∀ l2 : Int32, nb l2 → frM xpF xpR σ σ_34 ∧ rI σ_34 (σ.1 3) T ∧ exRR9 σ_34 ∧ (0 : Int32) ≤ 0 ∧ (0 : Int32) ≤ 1000 ∧ nb l2 ∧ σ_34.1 94 = 0 ∧ σ_34.1 114 = 0 ∧ σ_34.1 88 = σ.1 88 ∧ (l2 ≠ 0 → exV σ_34 (σ.1 3) T 0) := fun l2 h1 => ⟨frM_tr F26 (frM_G q35.1 (by decide) (by decide)), I34, R34, by decide, by decide, h1, by rw [k34 94 (by decide) (by decide) (by decide)]; exact v94, by rw [k34 114 (by decide) (by decide) (by decide)]; exact v114, by rw [k34 88 (by decide) (by decide) (by decide)]; exact v88, fun _ => exV_0 I34 R34 (by rw [k34 72 (by decide) (by decide) (by decide)]; exact v72) (fun j j0 j1 => q35.2.2.2.2 j j0 (by rw [k26 70 (by decide) (by decide), v70]; exact j0) j1)⟩
        refine ⟨fun c36 => ?_, fun c36 => ?_⟩
        · skip
          refine hh112 _ _ _ ?_
          · refine and_5 ?_ (fun o9 => ?_)  -- j21
            · clear h; exact fin _ nb_0
            · clear o9
              have s0 := cdx_6 w
              rw [s0] at hE
              have h24 : σ_24 = gx0 a1 σ := by rw [hσ_24, hσ_23, hσ_22, hσ_21, hσ_20, hσ_19, hσ_17, hE, j28.1]; rfl
              refine ⟨s0, ?_, fu5, by rw [gxs_6 h24 zb c28 z9, if_pos c36], gxf_6⟩
              rw [k34 0 (by decide) (by decide) (by decide), h24]; rfl
        · skip
          refine hh112 _ _ _ ?_
          · refine and_5 ?_ (fun o9 => ?_)  -- j22
            · clear h; exact fin _ nb_1
            · clear o9
              have s0 := cdx_6 w
              rw [s0] at hE
              have h24 : σ_24 = gx0 a1 σ := by rw [hσ_24, hσ_23, hσ_22, hσ_21, hσ_20, hσ_19, hσ_17, hE, j28.1]; rfl
              refine ⟨s0, ?_, fu5, by rw [gxs_6 h24 zb c28 z9, if_neg c36], gxf_6⟩
              rw [k34 0 (by decide) (by decide) (by decide), h24]; rfl
    · skip
      refine h _ _ ?_
      · refine and_5 ?_ (fun o9 => ?_)  -- q23
        · clear h; have F : frM xpF xpR σ σ_17 := by rw [hσ_17]; exact frM_0 (by decide)
          exact ⟨F, exP_o hX (fun k hk => by rw [hσ_17, si1, if_neg (by omega)]) (fun k _ => by rw [hσ_17, si2]), (ft _ F).1, (ft _ F).2, Or.inl ⟨fun k hk => by rw [hσ_17, si1, if_neg hk], by rw [hσ_17, si2]⟩⟩
        · clear o9
          have e0 : σ_17.1 0 = y28_s1 := by rw [hσ_17, si1, if_pos rfl]
          refine ⟨e0.trans hE, Or.inl ⟨fun z => c18 ?_, rfl, fun k hk => by rw [hσ_17, si1, if_neg hk], by rw [hσ_17, si2]⟩⟩
          rw [e0, hE, z]
          exact Int32.le_refl _
  refine ⟨fun c37 => ?_, fun c37 => ?_⟩
  · skip
    refine within_c hC  (fun r38 q40 => ?_)
    refine ⟨fun c41 => ?_, fun c41 => ?_⟩
    · skip
      refine hj28 _ _ _ ?_
      · refine and_5 ?_ (fun o9 => (cdx_6 ⟨c37, q40.2.mp c41⟩).symm)  -- k24
        clear h; exact ⟨rfl, rfl, fun _ => ⟨c37, q40.2.mp c41⟩⟩
    · skip
      refine hj28 _ _ _ ?_
      · refine and_5 ?_ (fun o9 => ?_)  -- k25
        · clear h; exact ⟨rfl, rfl, fun z => absurd z (by decide)⟩
        · clear o9
          unfold cd9x
          rw [if_neg c37, if_neg (fun z => absurd (q40.2.mpr z) (by first | exact c41 | exact fun y => y c41))]
  · skip
    refine hj28 _ _ _ ?_
    · refine and_5 ?_ (fun o9 => ?_)  -- k26
      · clear h; exact ⟨rfl, rfl, fun z => absurd z (by decide)⟩
      · clear o9
        unfold cd9x
        rw [if_pos (by first | exact c37 | exact Decidable.byContradiction c37)]

end
section
set_option maxHeartbeats 1600000
/-! the class's links to what follows -/
section
variable {m : Nat} {x : Int32} {e e' : E5}
theorem lk_16 (h0 : ¬ e.1 coStatements ≤ x) (h8 : ¬ cl5 x 8 e = -1) : f5_Co_linkFollows_2 (m + 1) x e = f5_Co_linkFollows_2 m (x + 1) e := by
  rw [f5_Co_linkFollows_2, if_neg h0, pb_e5, pb_e5, if_neg h8, pb_e5]
theorem lk_26 (h0 : ¬ e.1 coStatements ≤ x) (h8 : cl5 x 8 e = -1) (h9 : cl5 x 9 e = -1) : f5_Co_linkFollows_2 (m + 1) x e = f5_Co_linkFollows_2 m (x + 1) e := by
  rw [f5_Co_linkFollows_2, if_neg h0, pb_e5, pb_e5, if_pos h8, if_pos h9, pb_e5]
theorem lk_36 (h0 : ¬ e.1 coStatements ≤ x) (h8 : cl5 x 8 e = -1) (h9 : ¬ cl5 x 9 e = -1) (h7 : cl5 (cl5 x 9 e) 0 e = 7) (hs : f5_Co_setColumn x 8 (cl5 x 9 e) e = .inl (e', ())) : f5_Co_linkFollows_2 (m + 1) x e = f5_Co_linkFollows_2 m (x + 1) e' := by
  rw [f5_Co_linkFollows_2, if_neg h0, pb_e5, pb_e5, if_pos h8, if_neg h9, pb_e5, if_pos h7, hs, rdl_5, pb_e5]
theorem lk_46 (h0 : ¬ e.1 coStatements ≤ x) (h8 : cl5 x 8 e = -1) (h9 : ¬ cl5 x 9 e = -1) (h7 : ¬ cl5 (cl5 x 9 e) 0 e = 7) (hs : f5_Co_setColumn x 8 (cl5 (cl5 x 9 e) 8 e) e = .inl (e', ())) : f5_Co_linkFollows_2 (m + 1) x e = f5_Co_linkFollows_2 m (x + 1) e' := by
  rw [f5_Co_linkFollows_2, if_neg h0, pb_e5, pb_e5, if_pos h8, if_neg h9, pb_e5, if_neg h7, pb_e5, hs, rdl_5, pb_e5]
end
def LK9 (κ τ : zS) (a0 : Nat) (l1 : Int32) : Prop := ∀ p, zT κ p = 10 → zR κ paCode p = a0 → ∃ m, f5_Co_linkFollows_2 fu5 0 (ab5 κ p) = f5_Co_linkFollows_2 m l1 (ab5 τ p) ∧ (150 - l1.toInt).toNat < m
theorem lk_p6 {κ τ : zS} {a0 p : Nat} {x : Int32} (F : zF (oneF coRows a0) κ τ) (h1 : zT κ p = 10) (h2 : zR κ paCode p = a0) (c : ¬ zI τ coStatements a0 ≤ x) : (zT τ p = 10 ∧ zR τ paCode p = a0) ∧ ¬ (ab5 τ p).1 coStatements ≤ x := by
  have r : zR τ paCode p = a0 := (F.r (fun z => absurd z.1 (by decide))).trans h2
  refine ⟨⟨F.t h1 (by decide), r⟩, ?_⟩
  show ¬ zI τ coStatements (zR τ paCode p) ≤ x
  rw [r]
  exact c
theorem Co_linkFollows_q6 {C : zC} {n0 : Nat} {a0 : Nat} {κ : zS} {Q : zS → Prop} (W : zW C n0 κ) (Ta0 : zT κ a0 = 5)  (hp : coI κ a0) (h : ∀ (κ' : zS), ((zF (oneF coRows a0) κ κ' ∧ coI κ' a0 ∧ zI κ' = zI κ) ∧ (∀ p, zT κ p = 10 → zR κ paCode p = a0 → f5_Co_linkFollows_2 fu5 0 (ab5 κ p) = .inl (ab5 κ' p, ()))) → Q κ') : zRun C 1 mCo_linkFollows [.ref a0] κ (oV Q noX) := by
  refine Co_linkFollows_run W Ta0 ?_
  replace W := W.lo (Nat.le_trans W.1.2.1 W.1.2.2) (Nat.le_refl (zn κ))
  unfold w_Co_linkFollows_0
  unfold w_Co_linkFollows_2
  refine ⟨fun n l0 l1 τ => n = (150 - l1.toInt).toNat ∧ ((a0 = l0 ∧ zF (oneF coRows a0) κ τ ∧ coI τ a0 ∧ zI τ = zI κ ∧ 0 ≤ l1.toInt) ∧ LK9 κ τ a0 l1), ⟨_, rfl, ?_⟩, ?_⟩
  · refine and_5 ?_ (fun o9 => fun p _ _ => ⟨fu5, rfl, by unfold fu5; rw [t0i]; omega⟩)  -- j1
    exact ⟨rfl, zF.rf, hp, rfl, by decide⟩
  rintro n2 _ x2_1 κ2 W2 T2_0 ⟨hn2, ⟨rfl, i2⟩, hE⟩
  obtain ⟨F, I, eI, l0⟩ := i2
  refine ⟨fun c1 => ?_, fun c1 => ?_⟩
  · skip
    refine h _ ?_
    · refine and_5 ?_ (fun o9 => ?_)  -- q2
      · exact ⟨F, I, eI⟩
      · intro p h1 h2
        obtain ⟨m, g, hm⟩ := hE p h1 h2
        obtain ⟨m, rfl⟩ : ∃ m9, m = m9 + 1 := ⟨m - 1, by omega⟩
        have r : zR κ2 paCode p = a0 := (F.r (fun z => absurd z.1 (by decide))).trans h2
        refine g.trans ?_
        rw [f5_Co_linkFollows_2, if_pos]
        show zI κ2 coStatements (zR κ2 paCode p) ≤ x2_1
        rw [r]
        exact c1
  · skip
    intro T2
    have c9 : x2_1.toInt < 150 := by
      have g := I.2.2.2.2.2.1
      rw [lei] at c1
      omega
    have e1 : (x2_1 + 1).toInt = x2_1.toInt + 1 := by rw [add_i (by rw [t1i]; omega) (by rw [t1i]; omega), t1i]
    refine Co_column_q5 W2 T2  ?_ (fun r3 q5 => ?_)
    · exact ⟨I, by decide, by decide⟩  -- p3
    obtain ⟨q5, z9⟩ := q5
    have z1 := z9
    intro W6
    intro M7
    intro T8
    refine Co_column_q5 W6 T8  ?_ (fun r9 q11 => ?_)
    · exact ⟨I, by decide, by decide⟩  -- p4
    obtain ⟨q11, z9⟩ := q11
    have z2 := z9
    intro W12
    intro M13
    refine ⟨fun c14 => ?_, fun c14 => ?_⟩
    · skip
      intro x15 hx15
      refine lp_b5 ?_ (fun d9 => ⟨rfl, ?_⟩)
      · rw [hn2, hx15, e1]; omega  -- d5
      · refine and_5 ?_ (fun o9 => ?_)  -- i6
        · exact ⟨rfl, F, I, eI, by rw [hx15, e1]; omega⟩
        · intro p h1 h2
          obtain ⟨m, g, hm⟩ := hE p h1 h2
          obtain ⟨m, rfl⟩ : ∃ m9, m = m9 + 1 := ⟨m - 1, by omega⟩
          obtain ⟨⟨p1, p2⟩, p3⟩ := lk_p6 F h1 h2 c1
          rw [hx15]
          refine ⟨m, g.trans (lk_16 p3 ?_), by rw [e1]; omega⟩
          rw [← z2 p p1 p2]
          exact c14
    · skip
      refine ⟨fun c16 => ?_, fun c16 => ?_⟩
      · skip
        intro x17 hx17
        refine lp_b5 ?_ (fun d9 => ⟨rfl, ?_⟩)
        · rw [hn2, hx17, e1]; omega  -- d7
        · refine and_5 ?_ (fun o9 => ?_)  -- i8
          · exact ⟨rfl, F, I, eI, by rw [hx17, e1]; omega⟩
          · intro p h1 h2
            obtain ⟨m, g, hm⟩ := hE p h1 h2
            obtain ⟨m, rfl⟩ : ∃ m9, m = m9 + 1 := ⟨m - 1, by omega⟩
            obtain ⟨⟨p1, p2⟩, p3⟩ := lk_p6 F h1 h2 c1
            rw [hx17]
            exact ⟨m, g.trans (lk_26 p3 ((z2 p p1 p2).symm.trans c14) ((z1 p p1 p2).symm.trans c16)), by rw [e1]; omega⟩
      · skip
        intro T18
        refine Co_column_q5 W12 T18  ?_ (fun r19 q21 => ?_)
        · exact ⟨I, by decide, by decide⟩  -- p9
        obtain ⟨q21, z9⟩ := q21
        have z3 := z9
        intro W22
        intro M23
        refine ⟨fun c24 => ?_, fun c24 => ?_⟩
        · skip
          intro T25
          refine Co_column_q5 W22 T25  ?_ (fun r26 q28 => ?_)
          · exact ⟨I, by decide, by decide⟩  -- p10
          obtain ⟨q28, z9⟩ := q28
          have z4 := z9
          intro W29
          intro M30
          intro T31
          refine Co_setColumn_q5 W29 T31  ?_ (fun κ_32 q33 => ?_)
          · exact ⟨I, by decide, by decide⟩  -- p11
          obtain ⟨q33, z9⟩ := q33
          intro W34
          intro M35
          intro x36 hx36
          refine lp_b5 ?_ (fun d9 => ⟨rfl, ?_⟩)
          · rw [hn2, hx36, e1]; omega  -- d12
          · refine and_5 ?_ (fun o9 => ?_)  -- i13
            · exact ⟨rfl, F.tr q33.1, q33.2.1, q33.2.2.1.trans eI, by rw [hx36, e1]; omega⟩
            · intro p h1 h2
              obtain ⟨m, g, hm⟩ := hE p h1 h2
              obtain ⟨m, rfl⟩ : ∃ m9, m = m9 + 1 := ⟨m - 1, by omega⟩
              obtain ⟨⟨p1, p2⟩, p3⟩ := lk_p6 F h1 h2 c1
              rw [hx36]
              have y1 := z1 p p1 p2
              have y3 := z3 p p1 p2
              have y4 := z4 p p1 p2
              have y9 := z9 p p1 p2
              rw [y4] at y9
              rw [y1] at y3 y9 c16
              exact ⟨m, g.trans (lk_46 p3 ((z2 p p1 p2).symm.trans c14) c16 (by rw [← y3]; exact c24) y9), by rw [e1]; omega⟩
        · skip
          intro T37
          refine Co_setColumn_q5 W22 T37  ?_ (fun κ_38 q39 => ?_)
          · exact ⟨I, by decide, by decide⟩  -- p14
          obtain ⟨q39, z9⟩ := q39
          intro W40
          intro M41
          intro x42 hx42
          refine lp_b5 ?_ (fun d9 => ⟨rfl, ?_⟩)
          · rw [hn2, hx42, e1]; omega  -- d15
          · refine and_5 ?_ (fun o9 => ?_)  -- i16
            · exact ⟨rfl, F.tr q39.1, q39.2.1, q39.2.2.1.trans eI, by rw [hx42, e1]; omega⟩
            · intro p h1 h2
              obtain ⟨m, g, hm⟩ := hE p h1 h2
              obtain ⟨m, rfl⟩ : ∃ m9, m = m9 + 1 := ⟨m - 1, by omega⟩
              obtain ⟨⟨p1, p2⟩, p3⟩ := lk_p6 F h1 h2 c1
              rw [hx42]
              have y1 := z1 p p1 p2
              have y3 := z3 p p1 p2
              have y9 := z9 p p1 p2
              rw [y1] at y3 y9 c16
              exact ⟨m, g.trans (lk_36 p3 ((z2 p p1 p2).symm.trans c14) c16 (y3.symm.trans c24) y9), by rw [e1]; omega⟩

theorem Co_clear_q6 {C : zC} {n0 : Nat} {a0 : Nat} {κ : zS} {Q : zS → Prop} (W : zW C n0 κ) (Ta0 : zT κ a0 = 5)  (hp : coI κ a0) (h : ∀ (κ' : zS), ((zF (objF a0) κ κ' ∧ coI κ' a0 ∧ zR κ' = zR κ ∧ (zI κ' coVars a0).toInt = 0 ∧ (zI κ' coArrays a0).toInt = 0 ∧ (zI κ' coCells a0).toInt = 0 ∧ (zI κ' coFunctions a0).toInt = 0 ∧ (zI κ' coStatements a0).toInt = 0 ∧ (zI κ' coLength a0).toInt = 0 ∧ (zI κ' coMain a0).toInt = -1) ∧ (∀ g, g < 10 → zA κ' (zR κ' coFirstStatements a0) g = -1)) → Q κ') : zRun C 1 mCo_clear [.ref a0] κ (oV Q noX) := by
  refine Co_clear_run W Ta0 ?_
  replace W := W.lo (Nat.le_trans W.1.2.1 W.1.2.2) (Nat.le_refl (zn κ))
  unfold w_Co_clear_0
  intro κ_1 hκ_1
  intro W2
  intro κ_3 hκ_3
  intro W4
  intro κ_5 hκ_5
  intro W6
  intro κ_7 hκ_7
  intro W8
  intro κ_9 hκ_9
  intro W10
  intro κ_11 hκ_11
  intro W12
  intro κ_13 hκ_13
  intro W14
  intro T15
  refine Ar_fill_c W14 T15  (fun κ_16 q17 => ?_)
  intro W18
  intro M19
  refine h _ ?_
  · refine and_5 ?_ (fun o9 => ?_)  -- q1
    · have f1 : zF (objF a0) κ κ_1 := by rw [hκ_1]; exact zF_ui rfl
      have f3 : zF (objF a0) κ_1 κ_3 := by rw [hκ_3]; exact zF_ui rfl
      have f5 : zF (objF a0) κ_3 κ_5 := by rw [hκ_5]; exact zF_ui rfl
      have f7 : zF (objF a0) κ_5 κ_7 := by rw [hκ_7]; exact zF_ui rfl
      have f9 : zF (objF a0) κ_7 κ_9 := by rw [hκ_9]; exact zF_ui rfl
      have f11 : zF (objF a0) κ_9 κ_11 := by rw [hκ_11]; exact zF_ui rfl
      have f13 : zF (objF a0) κ_11 κ_13 := by rw [hκ_13]; exact zF_ui rfl
      have F := (((((f1.tr f3).tr f5).tr f7).tr f9).tr f11).tr f13
      have T13 := F.t Ta0 (by decide)
      have F16 : zF (objF a0) κ_13 κ_16 := by rw [q17]; exact zF_uf (by rw [coRf_o W14 T13 (by decide)])
      have r13 : zR κ_13 = zR κ := by rw [hκ_13, hκ_11, hκ_9, hκ_7, hκ_5, hκ_3, hκ_1]; rfl
      have n13 : zN κ_13 = zN κ := by rw [hκ_13, hκ_11, hκ_9, hκ_7, hκ_5, hκ_3, hκ_1]; rfl
      have a13 : zA κ_13 = zA κ := by rw [hκ_13, hκ_11, hκ_9, hκ_7, hκ_5, hκ_3, hκ_1]; rfl
      have i16 : zI κ_16 = zI κ_13 := by rw [q17]; rfl
      have r16 : zR κ_16 = zR κ := by rw [q17]; exact r13
      have n16 : zN κ_16 = zN κ := by rw [q17]; exact n13
      have v1 : zI κ_13 coVars a0 = 0 := by
        have e : zI κ_13 coVars a0 = zI κ_1 coVars a0 := by rw [hκ_13, hκ_11, hκ_9, hκ_7, hκ_5, hκ_3]; rfl
        rw [e, hκ_1]; exact if_pos ⟨rfl, rfl⟩
      have v3 : zI κ_13 coArrays a0 = 0 := by
        have e : zI κ_13 coArrays a0 = zI κ_3 coArrays a0 := by rw [hκ_13, hκ_11, hκ_9, hκ_7, hκ_5]; rfl
        rw [e, hκ_3]; exact if_pos ⟨rfl, rfl⟩
      have v5 : zI κ_13 coCells a0 = 0 := by
        have e : zI κ_13 coCells a0 = zI κ_5 coCells a0 := by rw [hκ_13, hκ_11, hκ_9, hκ_7]; rfl
        rw [e, hκ_5]; exact if_pos ⟨rfl, rfl⟩
      have v7 : zI κ_13 coFunctions a0 = 0 := by
        have e : zI κ_13 coFunctions a0 = zI κ_7 coFunctions a0 := by rw [hκ_13, hκ_11, hκ_9]; rfl
        rw [e, hκ_7]; exact if_pos ⟨rfl, rfl⟩
      have v9 : zI κ_13 coStatements a0 = 0 := by
        have e : zI κ_13 coStatements a0 = zI κ_9 coStatements a0 := by rw [hκ_13, hκ_11]; rfl
        rw [e, hκ_9]; exact if_pos ⟨rfl, rfl⟩
      have v11 : zI κ_13 coMain a0 = (-1) := by
        have e : zI κ_13 coMain a0 = zI κ_11 coMain a0 := by rw [hκ_13]; rfl
        rw [e, hκ_11]; exact if_pos ⟨rfl, rfl⟩
      have v13 : zI κ_13 coLength a0 = 0 := by
        rw [hκ_13]; exact if_pos ⟨rfl, rfl⟩
      have a16 : ∀ f, f = coArrayBases ∨ f = coArraySizes → zA κ_16 (zR κ f a0) = zA κ (zR κ f a0) := fun f hf => by
        rw [q17, r13]
        refine (if_neg ?_).trans (by show zA κ_13 _ = _; rw [a13])
        rcases hf with rfl | rfl
        · exact coRf_n W Ta0 (by decide) (by decide) (by decide)
        · exact coRf_n W Ta0 (by decide) (by decide) (by decide)
      rw [i16, v1, v3, v5, v7, v9, v11, v13]
      refine ⟨F.tr F16, ?_, r16, rfl, rfl, rfl, rfl, rfl, rfl, rfl⟩
      unfold coI at *
      rw [r16, n16, i16, v1, v3, v5, v7, v9, v13, a16 coArrayBases (Or.inl rfl), a16 coArraySizes (Or.inr rfl)]
      obtain ⟨g1, g2, g3, g4, g5, g6, g7, g8, g9⟩ := hp
      exact ⟨g1, by decide, by decide, by decide, by decide, by decide, ⟨by show (11 : Int) * 0 ≤ _; omega, g7.2⟩, ⟨by decide, by show (0 : Int) ≤ _; omega, g8.2.2⟩, g9⟩
    · intro g hg
      have z3 : zA κ_16 (zR κ_13 coFirstStatements a0) = fun k => if 0 ≤ k ∧ k < zN κ_13 (zR κ_13 coFirstStatements a0) then (-1) else zA κ_13 (zR κ_13 coFirstStatements a0) k := by rw [q17]; exact if_pos rfl
      have r : zR κ_16 = zR κ_13 := by rw [q17]; rfl
      rw [r, z3]
      refine if_pos ⟨Nat.zero_le _, ?_⟩
      rw [hκ_13, hκ_11, hκ_9, hκ_7, hκ_5, hκ_3, hκ_1]
      show g < zN κ (zR κ coFirstStatements a0)
      rw [hp.1.2.2.2.1]
      exact hg

end
section
set_option maxHeartbeats 1600000
/-! the class reads a text: its code told as well -/
theorem Pa_read_q6 {C : zC} {n0 : Nat} {a0 : Nat} {a1 : Nat} {κ : zS} {Q : zS → Prop} {X : zXp} (W : zW C n0 κ) (Ta0 : zT κ a0 = 10) (Ta1 : zT κ a1 = 5) (hx5 : tx5 C) (hp : paZ κ a0 a1 ∧ (zI κ taLength (zR κ paTape a0)).toInt ≤ 10240) (h : ∀ (κ' : zS), ((rdF κ κ' a0 a1 ∧ paI κ' a0) ∧ (∃ e0, (ini5 (up5 κ (zR κ paTape a0)) e0 ∧ ∀ g, g < 10 → e0.2.1 503 g = -1) ∧ ∃ e1, rd5 e0 = .inl (e1, ()) ∧ f5_Co_linkFollows_2 fu5 0 e1 = .inl (ab5 κ' a0, ()) ∧ zI κ' coStatements (zR κ' paCode a0) = e1.1 coStatements)) → Q κ') (hx : ∀ (cls : String) (κ' : zS), ((rdX5 κ cls κ' a0 a1) ∧ ∃ e0, (ini5 (up5 κ (zR κ paTape a0)) e0 ∧ ∀ g, g < 10 → e0.2.1 503 g = -1) ∧ rd5 e0 = .inr (zI κ' paFaultCode a0, zI κ' paFaultPlace a0)) → X cls κ') : zRun C 14 mPa_read [.ref a0, .ref a1] κ (oV Q X) := by
  refine Pa_read_run W Ta0 Ta1 ?_
  replace W := W.lo (Nat.le_trans W.1.2.1 W.1.2.2) (Nat.le_refl (zn κ))
  unfold w_Pa_read_0
  have hj122 : ∀ (l0 : Nat) (τ : zS), zW C (zn κ) τ → zT τ l0 = 10 → ((a0 = l0 ∧ rdJ κ τ a0 a1) ∧ (∃ e0, (ini5 (up5 κ (zR κ paTape a0)) e0 ∧ ∀ g, g < 10 → e0.2.1 503 g = -1) ∧ rd5 e0 = f5_Pa_read_122 (ab5 τ a0))) → w_Pa_read_122 C (zn κ) Q X  l0 τ := by
    rintro _ τ122 W122 T122_0 ⟨⟨rfl, j122⟩, e0, hi0, hE⟩
    unfold w_Pa_read_122
    intro T1
    refine Pa_findCalled_q5 W122 T1 hx5 ?_ (fun κ_2 q3 => ?_) (fun cls9 κ9 q9 => hx _ _ ?_)
    · exact j122.2  -- p1
    rotate_left
    obtain ⟨q9, z9⟩ := q9
    · refine and_5 ?_ (fun o9 => ⟨e0, hi0, hE.trans z9⟩)  -- x2
      exact ⟨rd_X W122 T122_0 j122 q9.1, q9.2⟩
    obtain ⟨q3, z9⟩ := q3
    replace hE := hE.trans z9
    intro W4
    intro M5
    intro T6
    have J := rd_S W122 T122_0 j122 q3
    have T2 := q3.1.1.t T122_0 (by decide)
    refine Co_linkFollows_q6 W4 T6  ?_ (fun κ_7 q8 => ?_)
    · exact J.2.1.2.1  -- p3
    obtain ⟨q8, zl⟩ := q8
    intro W9
    intro M10
    refine h _ ?_
    · refine and_5 ?_ (fun o9 => ?_)  -- q4
      · have N := (paN_c W4 T2 J.2.1 (q8.1.mono (fun _ _ z => z.2)) q8.2.1 (by rw [q8.2.2])).1
        exact ⟨rd_F W4 T2 J.1 N.1, N.2.1⟩
      · have N := (paN_c W4 T2 J.2.1 (q8.1.mono (fun _ _ z => z.2)) q8.2.1 (by rw [q8.2.2])).1
        refine ⟨e0, hi0, ab5 κ_2 a0, hE, zl a0 T2 rfl, ?_⟩
        rw [N.1.2.2, q8.2.2]
        rfl
  intro T11
  refine Ta_split_q5 W T11 hx5 ?_ (fun κ_12 q13 => ?_)
  · exact ⟨hp.1.1.1, hp.1.1.2, hp.2⟩  -- p5
  obtain ⟨q13, z9⟩ := q13
  have z7 := z9
  intro W14
  intro M15
  intro κ_16 hκ_16
  skip
  intro W17
  intro T18
  refine Co_clear_q6 W17 T18  ?_ (fun κ_19 q20 => ?_)
  · exact rd_c W W14 Ta0 Ta1 hp.1.2.1 q13.1 hκ_16  -- p6
  obtain ⟨q20, zc⟩ := q20
  intro W21
  intro M22
  intro κ_23 hκ_23
  skip
  intro W24
  intro κ_25 hκ_25
  skip
  intro W26
  intro κ_27 hκ_27
  skip
  intro W28
  intro κ_29 hκ_29
  skip
  intro W30
  intro κ_31 hκ_31
  skip
  intro W32
  intro T33
  obtain ⟨R1, R2, R3, R4, R5⟩ := rd_0 W W14 W17 W21 W28 W30 Ta0 Ta1 hp.1 q13 hκ_16 q20 hκ_23 hκ_25 hκ_27 hκ_29 hκ_31
  refine Pa_take_q5 W32 T33  ?_ (fun κ_34 q35 => ?_)
  · exact ⟨R2, by omega, by omega⟩  -- p7
  obtain ⟨q35, z9⟩ := q35
  skip
  intro W36
  intro M37
  unfold w_Pa_read_50
  refine ⟨fun n l0 l2 τ => n = (10244 - l2.toInt).toNat ∧ ((a0 = l0 ∧ rdJ κ τ a0 a1 ∧ 0 ≤ l2.toInt) ∧ ∃ e0, (ini5 (up5 κ (zR κ paTape a0)) e0 ∧ ∀ g, g < 10 → e0.2.1 503 g = -1) ∧ ∃ m5, n < m5 ∧ rd5 e0 = f5_Pa_read_50 m5 l2 (ab5 τ a0)), ⟨_, rfl, ?_⟩, ?_⟩
  · refine and_5 ?_ (fun o9 => ?_)  -- j8
    · obtain ⟨I, F, c, t⟩ := paO_p W32 T33 q35.1 R2
      refine ⟨rfl, ⟨rd_F W32 T33 R1 F, I, q35.2.1, ?_⟩, by decide⟩
      unfold psi
      rw [q35.2.2, R3, F.2.2, c, R5]
      decide
    · refine ⟨ab5 κ_31 a0, ⟨rd_i5 W W14 W17 Ta0 Ta1 q13.1 z7 hκ_16 q20 hκ_23 hκ_25 hκ_27 hκ_29 hκ_31 R2.2.2.1, fun g hg => ?_⟩, fu5, by unfold fu5; omega, ?_⟩
      · show zA κ_31 (zR κ_31 coFirstStatements (zR κ_31 paCode a0)) g = -1
        rw [hκ_31, hκ_29, hκ_27, hκ_25, hκ_23]
        show zA κ_19 (zR κ_19 coFirstStatements (zR κ_19 paCode a0)) g = -1
        rw [show zR κ_19 paCode a0 = zR κ_16 paCode a0 by rw [q20.2.2.1]]
        exact zc g hg
      · unfold rd5
        rw [z9]
        rfl
  rintro n50 _ x50_2 κ50 W50 T50_0 ⟨hn50, ⟨rfl, i50⟩, e0, hi0, m50, hm50, hE⟩
  obtain ⟨m50, rfl⟩ : ∃ m9, m50 = m9 + 1 := ⟨m50 - 1, by omega⟩
  have hj78 : ∀ (l0 : Nat) (l2 : Int32) (τ : zS), zW C (zn κ) τ → zT τ l0 = 10 → ((a0 = l0 ∧ rdJ κ τ a0 a1 ∧ l2 = x50_2 ∧ l2.toInt ≤ 10242) ∧ (∃ e0, (ini5 (up5 κ (zR κ paTape a0)) e0 ∧ ∀ g, g < 10 → e0.2.1 503 g = -1) ∧ rd5 e0 = f5_Pa_read_78 (f5_Pa_read_50 m50) l2 (ab5 τ a0))) → w_Pa_read_78 C (zn κ) Q X (fun (l0' : Nat) (l2' : Int32) (τ : zS) => ∃ k < n50, (fun (n : Nat) (l0 : Nat) (l2 : Int32) (τ : zS) => n = (10244 - l2.toInt).toNat ∧ ((a0 = l0 ∧ rdJ κ τ a0 a1 ∧ 0 ≤ l2.toInt) ∧ ∃ e0, (ini5 (up5 κ (zR κ paTape a0)) e0 ∧ ∀ g, g < 10 → e0.2.1 503 g = -1) ∧ ∃ m5, n < m5 ∧ rd5 e0 = f5_Pa_read_50 m5 l2 (ab5 τ a0))) k l0' l2' τ) l0 l2 τ := by
    clear hE hi0
    rintro _ y78_2 τ78 W78 T78_0 ⟨⟨rfl, j78⟩, e0, hi0, hE⟩
    unfold w_Pa_read_78
    have e3 := j78.2.1
    have l3 := j78.2.2
    have l0 := i50.2
    have e1 : (y78_2 + 1).toInt = y78_2.toInt + 1 := by rw [add_i (by rw [t1i, e3]; omega) (by rw [t1i]; omega), t1i]
    refine ⟨fun c38 => ?_, fun c38 => ?_⟩
    · skip
      replace hE := rb_f5 hE c38
      refine ⟨fun c39 => ?_, fun c39 => ?_⟩
      · skip
        replace hE := rb_f5 hE c39
        intro T40
        refine Pa_addStatement_q5 W78 T40  ?_ (fun r41 κ_42 q43 => ?_) (fun cls9 κ9 q9 => hx _ _ ?_)
        · exact j78.1.2  -- p9
        rotate_left
        obtain ⟨q9, z9⟩ := q9
        · refine and_5 ?_ (fun o9 => ⟨e0, hi0, rb_x5 hE z9⟩)  -- x10
          exact ⟨rd_X W78 T78_0 j78.1 q9.1, q9.2⟩
        obtain ⟨q43, z9⟩ := q43
        replace hE := rb_i5 hE z9
        intro W44
        intro M45
        intro T46
        have J2 := rd_S W78 T78_0 j78.1 q43.1
        refine Pa_statement_q5 W44 T46  ?_ (fun κ_47 q48 => ?_) (fun cls9 κ9 q9 => hx _ _ ?_)
        · exact ⟨J2.2, by rw [q43.2.1]; exact q43.2.2⟩  -- p11
        rotate_left
        obtain ⟨q9, z9⟩ := q9
        · refine and_5 ?_ (fun o9 => ⟨e0, hi0, rb_x5 hE z9⟩)  -- x12
          exact ⟨rd_X W44 T46 J2 q9.1, q9.2⟩
        obtain ⟨q48, z9⟩ := q48
        replace hE := rb_i5 hE z9
        intro W49
        intro M50
        intro x51 hx51
        replace hE := rb_p5 hE hx51
        refine lp_b5 ?_ (fun d9 => ⟨rfl, ?_⟩)
        · rw [hn50, hx51, e1, e3]; rw [e3] at l3; omega  -- d13
        · refine and_5 ?_ (fun o9 => ⟨e0, hi0, ⟨m50, by omega, hE⟩⟩)  -- i14
          exact ⟨rfl, rd_S W44 T46 J2 q48, by rw [hx51, e1, e3]; omega⟩
      · skip
        replace hE := rb_t5 hE c39
        intro T52
        refine Pa_closeBlock_q5 W78 T52  ?_ (fun κ_53 q54 => ?_) (fun cls9 κ9 q9 => hx _ _ ?_)
        · exact j78.1.2  -- p15
        rotate_left
        obtain ⟨q9, z9⟩ := q9
        · refine and_5 ?_ (fun o9 => ⟨e0, hi0, rb_x5 hE z9⟩)  -- x16
          exact ⟨rd_X W78 T78_0 j78.1 q9.1, q9.2⟩
        obtain ⟨q54, z9⟩ := q54
        replace hE := rb_i5 hE z9
        intro W55
        intro M56
        intro x57 hx57
        replace hE := rb_p5 hE hx57
        refine lp_b5 ?_ (fun d9 => ⟨rfl, ?_⟩)
        · rw [hn50, hx57, e1, e3]; rw [e3] at l3; omega  -- d17
        · refine and_5 ?_ (fun o9 => ⟨e0, hi0, ⟨m50, by omega, hE⟩⟩)  -- i18
          exact ⟨rfl, rd_S W78 T78_0 j78.1 q54, by rw [hx57, e1, e3]; omega⟩
    · skip
      replace hE := rb_t5 hE c38
      intro T58
      refine Pa_item_q5 W78 T58  ?_ (fun κ_59 q60 => ?_) (fun cls9 κ9 q9 => hx _ _ ?_)
      · exact j78.1.2  -- p19
      rotate_left
      obtain ⟨q9, z9⟩ := q9
      · refine and_5 ?_ (fun o9 => ⟨e0, hi0, rb_x5 hE z9⟩)  -- x20
        exact ⟨rd_X W78 T78_0 j78.1 q9.1, q9.2⟩
      obtain ⟨q60, z9⟩ := q60
      replace hE := rb_i5 hE z9
      intro W61
      intro M62
      intro x63 hx63
      replace hE := rb_p5 hE hx63
      refine lp_b5 ?_ (fun d9 => ⟨rfl, ?_⟩)
      · rw [hn50, hx63, e1, e3]; rw [e3] at l3; omega  -- d21
      · refine and_5 ?_ (fun o9 => ⟨e0, hi0, ⟨m50, by omega, hE⟩⟩)  -- i22
        exact ⟨rfl, rd_S W78 T78_0 j78.1 q60, by rw [hx63, e1, e3]; omega⟩
  refine ⟨fun c64 => ?_, fun c64 => ?_⟩
  · skip
    replace hE := rb_t5 hE c64
    refine hj122 _ _ W50 ?_ ?_
    · exact T50_0  -- t23
    · refine and_5 ?_ (fun o9 => ⟨e0, hi0, hE⟩)  -- k24
      exact ⟨rfl, i50.1⟩
  · skip
    replace hE := rb_f5 hE c64
    have l2 : x50_2.toInt ≤ 10242 := by
      rw [lti] at c64
      have tb := i50.1.2.1.1.2.2
      omega
    refine ⟨fun c65 => ?_, fun c65 => ?_⟩
    · skip
      replace hE := rb_f5 hE c65
      refine hj78 _ _ _ W50 ?_ ?_
      · exact T50_0  -- t25
      · refine and_5 ?_ (fun o9 => ⟨e0, hi0, hE⟩)  -- k26
        exact ⟨rfl, i50.1, rfl, l2⟩
    · skip
      replace hE := rb_t5 hE c65
      refine ⟨fun c66 => ?_, fun c66 => ?_⟩
      · skip
        replace hE := rb_t5 hE c66
        refine hj122 _ _ W50 ?_ ?_
        · exact T50_0  -- t27
        · refine and_5 ?_ (fun o9 => ⟨e0, hi0, hE⟩)  -- k28
          exact ⟨rfl, i50.1⟩
      · skip
        replace hE := rb_f5 hE c66
        refine hj78 _ _ _ W50 ?_ ?_
        · exact T50_0  -- t29
        · refine and_5 ?_ (fun o9 => ⟨e0, hi0, hE⟩)  -- k30
          exact ⟨rfl, i50.1, rfl, l2⟩

end
section
set_option maxHeartbeats 1600000
/-! the code of both sides behind a program, as a machine will see it -/
theorem ci_i6 : (∀ g, g ∈ ci6 → g ∈ in5) ∧ (∀ g, g ∈ in5 → g < 600 → g ∈ ci6) ∧ (∀ g, g ∈ mi6 → ¬ g < 600) ∧ (∀ g, g ∈ cr6 → g ∈ fx5) ∧ (∀ g, g ∈ fx5 → g < 600 → g ∈ cr6) ∧ (∀ g, g ∈ mr6 → ¬ g < 600) := by decide
theorem ab_am6 {κ : zS} {p m c : Nat} (hc : zR κ paCode p = c) : (∀ g, g < 600 → (am6 (ur κ maCode m c) m).1 g = (ab5 κ p).1 g) ∧ (∀ g, g < 600 → (am6 (ur κ maCode m c) m).2.1 g = (ab5 κ p).2.1 g) := by
  obtain ⟨l1, l2, l3, l4, l5, l6⟩ := ci_i6
  have rc : zR (ur κ maCode m c) maCode m = c := if_pos ⟨rfl, rfl⟩
  have ro : ∀ f b, f < 600 → zR (ur κ maCode m c) f b = zR κ f b := fun f b q => if_neg (fun y => absurd q (by rw [y.1]; decide))
  have ow : ∀ g, g < 600 → ow5 κ p g = c := fun g q => by
    unfold ow5
    rw [if_pos q, hc]
  have ii : ∀ g b, zI (ur κ maCode m c) g b = zI κ g b := fun _ _ => rfl
  have aa : ∀ x, zA (ur κ maCode m c) x = zA κ x := fun _ => rfl
  have ai : ∀ g, g ∈ in5 → g < 600 → ai5 κ p g = zI κ g c := fun g q1 q2 => by
    unfold ai5
    rw [if_pos q1, ow g q2]
  refine ⟨fun g hg => ?_, fun g hg => ?_⟩
  · show (if g ∈ ci6 then zI (ur κ maCode m c) g (zR (ur κ maCode m c) maCode m) else if g ∈ mi6 then zI (ur κ maCode m c) g m else 0) = ai5 κ p g
    by_cases q : g ∈ ci6
    · rw [if_pos q, rc, ii, ai g (l1 g q) hg]
    · rw [if_neg q, if_neg (fun y => l3 g y hg)]
      unfold ai5
      rw [if_neg (fun y => q (l2 g y hg))]
  · show (if g = 506 ∨ g = 507 ∨ g = 508 then (fun j => if j < mb6 (ur κ maCode m c) (zR (ur κ maCode m c) maCode m) g then zA (ur κ maCode m c) (zR (ur κ maCode m c) g (zR (ur κ maCode m c) maCode m)) j else 0) else if g ∈ cr6 then zA (ur κ maCode m c) (zR (ur κ maCode m c) g (zR (ur κ maCode m c) maCode m)) else if g ∈ mr6 then zA (ur κ maCode m c) (zR (ur κ maCode m c) g m) else fun _ => 0) = (if g = 1015 ∨ g = 506 ∨ g = 507 ∨ g = 508 then (fun j => if j < bd5 (ai5 κ p) g then zA κ (zR κ g (ow5 κ p g)) j else 0) else if g ∈ fx5 then zA κ (zR κ g (ow5 κ p g)) else fun _ => 0)
    rw [rc, ro g c hg, ow g hg]
    by_cases q : g = 506 ∨ g = 507 ∨ g = 508
    · rw [if_pos q, if_pos (Or.inr q)]
      have e : mb6 (ur κ maCode m c) c g = bd5 (ai5 κ p) g := by
        unfold mb6 bd5
        rw [if_neg (show ¬ g = 1015 by omega), ai 513 (by decide) (by decide), ai 515 (by decide) (by decide), ii, ii]
      rw [e]
      rfl
    · rw [if_neg q, if_neg (show ¬ (g = 1015 ∨ g = 506 ∨ g = 507 ∨ g = 508) by omega)]
      by_cases q2 : g ∈ cr6
      · rw [if_pos q2, if_pos (l4 g q2)]; rfl
      · rw [if_neg q2, if_neg (fun y => l6 g y hg), if_neg (fun y => q2 (l5 g y hg))]
section
variable {T : T5} {X : X5} {Bk N nv na f s : Nat} {Z : Int32}
theorem FN_x6 {e e' : E5} {σ σ' : rS} (h : FN6 T Bk N nv na f s e σ) (k : ((∀ g, g < 600 → e'.1 g = e.1 g) ∧ (∀ g, g < 600 → e'.2.1 g = e.2.1 g) ∧ True) ∧ (∀ g, g = 11 ∨ g = 15 ∨ g = 16 ∨ g = 17 ∨ g = 18 ∨ g = 19 ∨ g = 40 → σ'.1 g = σ.1 g) ∧ (∀ g, g ≤ 45 → σ'.2.2.1 g = σ.2.2.1 g) ∧ σ'.2.2.2 = σ.2.2.2) : FN6 T Bk N nv na f s e' σ' := by
  obtain ⟨⟨c1, c2, _⟩, d1, d2, _⟩ := k
  obtain ⟨⟨a1, a2, a3, a4, i, i1, i2, i3, i4⟩, ⟨b0, b1, b2, b3, b4⟩, p3, p4, p5, p6, ⟨q1, q2, q3⟩, ⟨g1, g2, g3, g4, g5⟩, R, r1, r2⟩ := h
  have hm : cm6 e e' := cm_e6 (c1 515 (by decide)) (c2 507 (by decide)) (c2 508 (by decide))
  refine ⟨⟨by rw [c1 509 (by decide)]; exact a1, by rw [c1 510 (by decide)]; exact a2, by rw [c1 512 (by decide)]; exact a3, by rw [c1 513 (by decide)]; exact a4, i, i1, by rw [c1 514 (by decide)]; exact i2, by rw [d1 40 (by decide)]; exact i3, by rw [c2 504 (by decide)]; exact i4⟩, ⟨by rw [d1 11 (by decide)]; exact b0, by rw [d1 15 (by decide)]; exact b1, by rw [d1 16 (by decide)]; exact b2, by rw [d1 18 (by decide)]; exact b3, by rw [d1 19 (by decide)]; exact b4⟩, fun j hj => ?_, fun j hj => ?_, fun j hj k5 => ?_, fun k hk => ?_, ⟨fun g hg => ?_, fun g hg => ?_, fun g x y => ?_⟩, ⟨fun k hk => ?_, fun k hk => ?_, ?_, ?_, ?_⟩, R, cd_e6 r1 (c1 515 (by decide)) (c2 507 (by decide)) (c2 508 (by decide)), r2⟩
  · obtain ⟨z, z1, z2⟩ := p3 j hj
    exact ⟨z, z1, st_m6 z2 hm (Nat.le_refl _) (Nat.le_refl _) (fun c _ => by rw [c2 506 (by decide)]) (by rw [d2 30 (by decide)]) (by rw [d2 31 (by decide)]) (by rw [d2 32 (by decide)]) (fun t _ _ _ => by rw [d2 39 (by decide)])⟩
  · have l := p4 j hj
    unfold lf6 at l ⊢
    rw [c2 506 (by decide), d2 33 (by decide), d2 34 (by decide), d2 37 (by decide), d2 38 (by decide)]
    exact l
  · rw [d2 30 (by decide)] at k5
    have l := p5 j hj k5
    unfold cl6 at l ⊢
    rw [c2 506 (by decide), c2 504 (by decide), d2 32 (by decide), d2 39 (by decide)]
    exact l
  · rw [c2 504 (by decide), d2 26 (by decide)]; exact p6 k hk
  · rw [c2 505 (by decide), d2 27 (by decide)]; exact q1 g hg
  · rw [c2 503 (by decide), d2 29 (by decide)]; exact q2 g hg
  · rw [c2 503 (by decide)]; exact q3 g x y
  · rw [c2 500 (by decide), d2 21 (by decide)]; exact g1 k hk
  · rw [c2 501 (by decide), c2 502 (by decide), d2 23 (by decide), d2 24 (by decide), c1 511 (by decide)]; exact g2 k hk
  · rw [c1 511 (by decide), d1 17 (by decide)]; exact g3
  · rw [c1 511 (by decide)]; exact g4
  · rw [c1 511 (by decide)]; exact g5
/-- code that was read, for a machine that will begin with it -/
theorem CR_p6 {κ : zS} {p m c : Nat} {σ : rS} (H : TR5 T X Bk N Z) (hE : T.2.1 (N - 1) = 142) (F : FN6 T Bk N nv na f s (ab5 κ p) σ) (hs : sx5 σ = X) (hp : ∀ k, k < f → ∃ n, n ≤ 4 ∧ σ.2.2.1 26 k = Int32.ofNat n) (hc : zR κ paCode p = c) (h5 : zN κ (zR κ 705 m) = 256) (h7 : zN κ (zR κ 707 m) = 16) (h1 : zN κ (zR κ 701 m) = 142) : ∃ w, CR6 nv s w (am6 (ur κ maCode m c) m) σ := by
  obtain ⟨a1, a2⟩ := ab_am6 (m := m) hc
  have ro : ∀ f b, f ≠ maCode → zR (ur κ maCode m c) f b = zR κ f b := fun f b q => if_neg (fun y => q y.1)
  obtain ⟨⟨⟨_, v1⟩, ⟨_, v2⟩, _⟩, _, _, _, _, _, _, ⟨_, _, _, g4, g5⟩, _⟩ := id F
  have e5 := a1 511 (by decide)
  have b0 : σ.1 11 = 0 := F.2.1.1
  refine ⟨nv + ((ab5 κ p).1 511).toInt.toNat, T, X, Bk, N, Z, na, f, ⟨H, hE⟩, FN_x6 F ⟨⟨a1, a2, trivial⟩, fun g q => by
    rw [si1]
    by_cases c : g = 11
    · rw [if_pos c, c]; exact b0.symm
    · rw [if_neg c], fun _ _ => rfl, rfl⟩, hs, hp, ⟨by omega, by omega, ?_⟩, ?_, ?_, ?_⟩
  · rw [e5]
    omega
  · rw [(am_rw6 (f := 705) (by decide)).2, ro _ _ (by decide)]; exact h5
  · rw [(am_rw6 (f := 707) (by decide)).2, ro _ _ (by decide)]; exact h7
  · rw [(am_rw6 (f := 701) (by decide)).2, ro _ _ (by decide)]; exact h1
end
/-- counts of names are at most 4 -/
theorem n26_6 {σ : rS} (h : eB (σ.2.2.1 26) 0 5) : ∀ k, ∃ n, n ≤ 4 ∧ σ.2.2.1 26 k = Int32.ofNat n := fun k => by
  obtain ⟨h1, h2⟩ := h k
  rw [lei, t0i] at h1
  rw [lti, show (5 : Int32).toInt = 5 from rfl] at h2
  exact ⟨((σ.2.2.1 26 k).toInt).toNat, by omega, Int32.toInt_inj.mp (by rw [ofn_i (by omega)]; omega)⟩

end
section
set_option maxHeartbeats 1600000
/-! the reading leaves the long rows alone (written by wip/p6/m/mkV0.py) -/
def kw6 (s σ : rS) : Prop := σ.2.2.2 = s.2.2.2
theorem kw_rf {s : rS} : kw6 s s := rfl
theorem kw_si {s σ : rS} {k : Nat} {x : Int32} (h : kw6 s σ) : kw6 s (siU σ k x) := h
theorem kw_ri {s σ : rS} {k i : Nat} {x : Int32} (h : kw6 s σ) : kw6 s (riU σ k i x) := h
theorem kw_if {s a b : rS} {c : Prop} [Decidable c] (ha : kw6 s a) (hb : kw6 s b) : kw6 s (if c then a else b) := by
  by_cases h : c
  · rw [if_pos h]; exact ha
  · rw [if_neg h]; exact hb
theorem kw_ifp {s : rS} {a b : rS × Int32} {c : Prop} [Decidable c] (ha : kw6 s a.1) (hb : kw6 s b.1) : kw6 s (if c then a else b).1 := by
  by_cases h : c
  · rw [if_pos h]; exact ha
  · rw [if_neg h]; exact hb
theorem kw_pb {s : rS} {α : Type} {a : α} {k : α → rS} (h : kw6 s (k a)) : kw6 s (pb5 a k) := h
theorem kw_pm {s : rS} {α : Type} {q : rS × α} {k : rS → α → rS} (h : kw6 s (k q.1 q.2)) : kw6 s (pm5 q k) := h
theorem kw_flaw {s σ : rS} {a b : Int32} (h : kw6 s σ) : kw6 s (g5_flaw a b σ) := by
  unfold g5_flaw
  exact kw_if (kw_if h h) h
theorem kw_look {s σ : rS} {a b : Int32} (h : kw6 s σ) : kw6 s (g5_look a b σ) := by
  unfold g5_look
  exact kw_if (kw_if h h) h
theorem kw_readNext {s : rS} {σ : rS} (h : kw6 s σ) : kw6 s (g5_readNext  σ) := by
  unfold g5_readNext
  try dsimp only [pb5, pm5]
  repeat' first
    | with_reducible exact h
    | dsimp only
    | with_reducible refine kw_flaw ?_
    | with_reducible refine kw_si ?_
    | with_reducible refine kw_ri ?_
    | with_reducible refine kw_if ?_ ?_
    | with_reducible refine kw_ifp ?_ ?_
theorem kw_go {s σ : rS} (h : kw6 s σ) : kw6 s (g5_go σ) := by
  unfold g5_go
  exact kw_if (kw_pb (kw_pb (kw_readNext h))) h
theorem kw_sign {s : rS} {a1 : Int32} {σ : rS} (h : kw6 s σ) : kw6 s (g5_sign a1 σ) := by
  unfold g5_sign
  try dsimp only [pb5, pm5]
  repeat' first
    | with_reducible exact h
    | dsimp only
    | with_reducible refine kw_flaw ?_
    | with_reducible refine kw_go ?_
    | with_reducible refine kw_si ?_
    | with_reducible refine kw_ri ?_
    | with_reducible refine kw_if ?_ ?_
    | with_reducible refine kw_ifp ?_ ?_
theorem kw_open_55 {s : rS} {s1 : Int32} {s2 : Int32} {σ : rS} (h : kw6 s σ) : kw6 s (g5_open_55 s1 s2 σ) := by
  unfold g5_open_55
  try dsimp only [pb5, pm5]
  repeat' first
    | with_reducible exact h
    | dsimp only
    | with_reducible refine kw_go ?_
    | with_reducible refine kw_si ?_
    | with_reducible refine kw_ri ?_
    | with_reducible refine kw_if ?_ ?_
    | with_reducible refine kw_ifp ?_ ?_
theorem kw_open_38 {s : rS} {σ : rS} (h : kw6 s σ) : kw6 s (g5_open_38  σ) := by
  unfold g5_open_38
  try dsimp only [pb5, pm5]
  repeat' first
    | with_reducible exact h
    | dsimp only
    | with_reducible refine kw_open_55 ?_
    | with_reducible refine kw_si ?_
    | with_reducible refine kw_ri ?_
    | with_reducible refine kw_if ?_ ?_
    | with_reducible refine kw_ifp ?_ ?_
theorem kw_open {s : rS} {a1 : Int32} {σ : rS} (h : kw6 s σ) : kw6 s (g5_open a1 σ) := by
  unfold g5_open
  try dsimp only [pb5, pm5]
  repeat' first
    | with_reducible exact h
    | dsimp only
    | with_reducible refine kw_flaw ?_
    | with_reducible refine kw_open_38 ?_
    | with_reducible refine kw_si ?_
    | with_reducible refine kw_ri ?_
    | with_reducible refine kw_if ?_ ?_
    | with_reducible refine kw_ifp ?_ ?_
theorem kw_close_18 {s : rS} {a1 : Int32} {s1 : Int32} {s2 : Int32} {σ : rS} (h : kw6 s σ) : kw6 s (g5_close_18 a1 s1 s2 σ) := by
  unfold g5_close_18
  try dsimp only [pb5, pm5]
  repeat' first
    | with_reducible exact h
    | dsimp only
    | with_reducible refine kw_sign ?_
    | with_reducible refine kw_si ?_
    | with_reducible refine kw_ri ?_
    | with_reducible refine kw_if ?_ ?_
    | with_reducible refine kw_ifp ?_ ?_
theorem kw_close {s : rS} {a1 : Int32} {σ : rS} (h : kw6 s σ) : kw6 s (g5_close a1 σ) := by
  unfold g5_close
  try dsimp only [pb5, pm5]
  repeat' first
    | with_reducible exact h
    | dsimp only
    | with_reducible refine kw_close_18 ?_
    | with_reducible refine kw_si ?_
    | with_reducible refine kw_ri ?_
    | with_reducible refine kw_if ?_ ?_
    | with_reducible refine kw_ifp ?_ ?_
theorem kw_due {s : rS} {a1 : Int32} {σ : rS} (h : kw6 s σ) : kw6 s (g5_due a1 σ).1 := by
  unfold g5_due
  try dsimp only [pb5, pm5]
  repeat' first
    | with_reducible exact h
    | dsimp only
    | with_reducible refine kw_flaw ?_
    | with_reducible refine kw_si ?_
    | with_reducible refine kw_ri ?_
    | with_reducible refine kw_if ?_ ?_
    | with_reducible refine kw_ifp ?_ ?_
theorem kw_fresh_70 {s : rS} {B18 : Int32 → Int32 → Int32 → Int32 → Int32 → Int32 → rS → rS × Int32} {a1 : Int32} {a2 : Int32} {a3 : Int32} {a4 : Int32} {a6 : Int32} {s0 : Int32} {σ : rS} (hB18 : ∀ (x0 : Int32) (x1 : Int32) (x2 : Int32) (x3 : Int32) (x4 : Int32) (x5 : Int32) (σ : rS), kw6 s σ → kw6 s (B18 x0 x1 x2 x3 x4 x5 σ).1) (h : kw6 s σ) : kw6 s (g5_fresh_70 B18 a1 a2 a3 a4 a6 s0 σ).1 := by
  unfold g5_fresh_70
  try dsimp only [pb5, pm5]
  repeat' first
    | with_reducible exact h
    | dsimp only
    | with_reducible refine hB18 _ _ _ _ _ _ _ ?_
    | with_reducible refine kw_si ?_
    | with_reducible refine kw_ri ?_
    | with_reducible refine kw_if ?_ ?_
    | with_reducible refine kw_ifp ?_ ?_
theorem kw_fresh_98 {s : rS} {a2 : Int32} {a3 : Int32} {a4 : Int32} {σ : rS} (h : kw6 s σ) : kw6 s (g5_fresh_98 a2 a3 a4 σ).1 := by
  unfold g5_fresh_98
  try dsimp only [pb5, pm5]
  repeat' first
    | with_reducible exact h
    | dsimp only
    | with_reducible refine kw_go ?_
    | with_reducible refine kw_flaw ?_
    | with_reducible refine kw_si ?_
    | with_reducible refine kw_ri ?_
    | with_reducible refine kw_if ?_ ?_
    | with_reducible refine kw_ifp ?_ ?_
theorem kw_fresh_78 {s : rS} {a2 : Int32} {a3 : Int32} {a4 : Int32} {a5 : Int32} {σ : rS} (h : kw6 s σ) : kw6 s (g5_fresh_78 a2 a3 a4 a5 σ).1 := by
  unfold g5_fresh_78
  try dsimp only [pb5, pm5]
  repeat' first
    | with_reducible exact h
    | dsimp only
    | with_reducible refine kw_fresh_98 ?_
    | with_reducible refine kw_flaw ?_
    | with_reducible refine kw_si ?_
    | with_reducible refine kw_ri ?_
    | with_reducible refine kw_if ?_ ?_
    | with_reducible refine kw_ifp ?_ ?_
theorem kw_fresh_18 {s : rS} (m : Nat) : ∀ (x0 : Int32) (x1 : Int32) (x2 : Int32) (x3 : Int32) (x4 : Int32) (x5 : Int32) (σ : rS), kw6 s σ → kw6 s (g5_fresh_18 m x0 x1 x2 x3 x4 x5 σ).1 := by
  induction m with
  | zero => exact fun _ _ _ _ _ _ _ h => h
  | succ m ih =>
    intro x0 x1 x2 x3 x4 x5 σ h
    rw [g5_fresh_18]
    try dsimp only [pb5, pm5]
    repeat' first
      | with_reducible exact h
      | dsimp only
      | with_reducible refine ih _ _ _ _ _ _ _ ?_
      | with_reducible refine kw_fresh_78 ?_
      | with_reducible refine kw_fresh_70 (fun y0 y1 y2 y3 y4 y5 σ9 h9 => ih y0 y1 y2 y3 y4 y5 σ9 h9) ?_
      | with_reducible refine kw_si ?_
      | with_reducible refine kw_ri ?_
      | with_reducible refine kw_if ?_ ?_
      | with_reducible refine kw_ifp ?_ ?_
theorem kw_fresh {s : rS} {a1 : Int32} {a2 : Int32} {a3 : Int32} {σ : rS} (h : kw6 s σ) : kw6 s (g5_fresh a1 a2 a3 σ).1 := by
  unfold g5_fresh
  try dsimp only [pb5, pm5]
  repeat' first
    | with_reducible exact h
    | dsimp only
    | with_reducible refine kw_due ?_
    | with_reducible refine kw_fresh_18 _ _ _ _ _ _ _ _ ?_
    | with_reducible refine kw_si ?_
    | with_reducible refine kw_ri ?_
    | with_reducible refine kw_if ?_ ?_
    | with_reducible refine kw_ifp ?_ ?_
theorem kw_hold {s : rS} {a1 : Int32} {a2 : Int32} {σ : rS} (h : kw6 s σ) : kw6 s (g5_hold a1 a2 σ) := by
  unfold g5_hold
  try dsimp only [pb5, pm5]
  repeat' first
    | with_reducible exact h
    | dsimp only
    | with_reducible refine kw_si ?_
    | with_reducible refine kw_ri ?_
    | with_reducible refine kw_if ?_ ?_
    | with_reducible refine kw_ifp ?_ ?_
theorem kw_apply_202 {s : rS} {s0 : Int32} {σ : rS} (h : kw6 s σ) : kw6 s (g5_apply_202 s0 σ) := by
  unfold g5_apply_202
  try dsimp only [pb5, pm5]
  repeat' first
    | with_reducible exact h
    | dsimp only
    | with_reducible refine kw_si ?_
    | with_reducible refine kw_ri ?_
    | with_reducible refine kw_if ?_ ?_
    | with_reducible refine kw_ifp ?_ ?_
theorem kw_apply_84 {s : rS} {a1 : Int32} {a2 : Int32} {a3 : Int32} {σ : rS} (h : kw6 s σ) : kw6 s (g5_apply_84 a1 a2 a3 σ) := by
  unfold g5_apply_84
  try dsimp only [pb5, pm5]
  repeat' first
    | with_reducible exact h
    | dsimp only
    | with_reducible refine kw_apply_202 ?_
    | with_reducible refine kw_si ?_
    | with_reducible refine kw_ri ?_
    | with_reducible refine kw_if ?_ ?_
    | with_reducible refine kw_ifp ?_ ?_
theorem kw_apply_74 {s : rS} {a1 : Int32} {a2 : Int32} {a3 : Int32} {σ : rS} (h : kw6 s σ) : kw6 s (g5_apply_74 a1 a2 a3 σ) := by
  unfold g5_apply_74
  try dsimp only [pb5, pm5]
  repeat' first
    | with_reducible exact h
    | dsimp only
    | with_reducible refine kw_apply_84 ?_
    | with_reducible refine kw_si ?_
    | with_reducible refine kw_ri ?_
    | with_reducible refine kw_if ?_ ?_
    | with_reducible refine kw_ifp ?_ ?_
theorem kw_apply {s : rS} {σ : rS} (h : kw6 s σ) : kw6 s (g5_apply  σ) := by
  unfold g5_apply
  try dsimp only [pb5, pm5]
  repeat' first
    | with_reducible exact h
    | dsimp only
    | with_reducible refine kw_apply_74 ?_
    | with_reducible refine kw_apply_84 ?_
    | with_reducible refine kw_si ?_
    | with_reducible refine kw_ri ?_
    | with_reducible refine kw_if ?_ ?_
    | with_reducible refine kw_ifp ?_ ?_
theorem kw_settle_0 {s : rS} (m : Nat) : ∀ (x0 : Int32) (σ : rS), kw6 s σ → kw6 s (g5_settle_0 m x0 σ) := by
  induction m with
  | zero => exact fun _ _ h => h
  | succ m ih =>
    intro x0 σ h
    rw [g5_settle_0]
    try dsimp only [pb5, pm5]
    repeat' first
      | with_reducible exact h
      | dsimp only
      | with_reducible refine ih _ _ ?_
      | with_reducible refine kw_apply ?_
      | with_reducible refine kw_si ?_
      | with_reducible refine kw_ri ?_
      | with_reducible refine kw_if ?_ ?_
      | with_reducible refine kw_ifp ?_ ?_
theorem kw_settle {s : rS} {a1 : Int32} {σ : rS} (h : kw6 s σ) : kw6 s (g5_settle a1 σ) := by
  unfold g5_settle
  try dsimp only [pb5, pm5]
  repeat' first
    | with_reducible exact h
    | dsimp only
    | with_reducible refine kw_settle_0 _ _ _ ?_
    | with_reducible refine kw_si ?_
    | with_reducible refine kw_ri ?_
    | with_reducible refine kw_if ?_ ?_
    | with_reducible refine kw_ifp ?_ ?_
theorem kw_turn_69 {s : rS} {B0 : rS → rS} {s1 : Int32} {s2 : Int32} {σ : rS} (hB0 : ∀  (σ : rS), kw6 s σ → kw6 s (B0  σ)) (h : kw6 s σ) : kw6 s (g5_turn_69 B0 s1 s2 σ) := by
  unfold g5_turn_69
  try dsimp only [pb5, pm5]
  repeat' first
    | with_reducible exact h
    | dsimp only
    | with_reducible refine hB0  _ ?_
    | with_reducible refine kw_si ?_
    | with_reducible refine kw_ri ?_
    | with_reducible refine kw_if ?_ ?_
    | with_reducible refine kw_ifp ?_ ?_
theorem kw_turn_20 {s : rS} {B0 : rS → rS} {σ : rS} (hB0 : ∀  (σ : rS), kw6 s σ → kw6 s (B0  σ)) (h : kw6 s σ) : kw6 s (g5_turn_20 B0 σ) := by
  unfold g5_turn_20
  try dsimp only [pb5, pm5]
  repeat' first
    | with_reducible refine kw_turn_69 hB0 ?_
    | with_reducible exact h
    | dsimp only
    | with_reducible refine hB0  _ ?_
    | with_reducible refine kw_si ?_
    | with_reducible refine kw_ri ?_
    | with_reducible refine kw_if ?_ ?_
    | with_reducible refine kw_ifp ?_ ?_
theorem kw_turn_0 {s : rS} (m : Nat) : ∀ (σ : rS), kw6 s σ → kw6 s (g5_turn_0 m  σ) := by
  induction m with
  | zero => exact fun _ h => h
  | succ m ih =>
    intro σ h
    rw [g5_turn_0]
    try dsimp only [pb5, pm5]
    repeat' first
      | with_reducible exact h
      | dsimp only
      | with_reducible refine ih _ ?_
      | with_reducible refine kw_turn_20 (fun  σ9 h9 => ih  σ9 h9) ?_
      | with_reducible refine kw_si ?_
      | with_reducible refine kw_ri ?_
      | with_reducible refine kw_if ?_ ?_
      | with_reducible refine kw_ifp ?_ ?_
theorem kw_turn {s : rS} {σ : rS} (h : kw6 s σ) : kw6 s (g5_turn  σ) := by
  unfold g5_turn
  try dsimp only [pb5, pm5]
  repeat' first
    | with_reducible exact h
    | dsimp only
    | with_reducible refine kw_turn_0 _ _ ?_
    | with_reducible refine kw_si ?_
    | with_reducible refine kw_ri ?_
    | with_reducible refine kw_if ?_ ?_
    | with_reducible refine kw_ifp ?_ ?_
theorem kw_push {s : rS} {a1 : Int32} {σ : rS} (h : kw6 s σ) : kw6 s (g5_push a1 σ) := by
  unfold g5_push
  try dsimp only [pb5, pm5]
  repeat' first
    | with_reducible exact h
    | dsimp only
    | with_reducible refine kw_turn ?_
    | with_reducible refine kw_si ?_
    | with_reducible refine kw_ri ?_
    | with_reducible refine kw_if ?_ ?_
    | with_reducible refine kw_ifp ?_ ?_
theorem kw_named_79 {s : rS} {a1 : Int32} {a2 : Int32} {σ : rS} (h : kw6 s σ) : kw6 s (g5_named_79 a1 a2 σ).1 := by
  unfold g5_named_79
  try dsimp only [pb5, pm5]
  repeat' first
    | with_reducible exact h
    | dsimp only
    | with_reducible refine kw_push ?_
    | with_reducible refine kw_open ?_
    | with_reducible refine kw_hold ?_
    | with_reducible refine kw_si ?_
    | with_reducible refine kw_ri ?_
    | with_reducible refine kw_if ?_ ?_
    | with_reducible refine kw_ifp ?_ ?_
theorem kw_named_34 {s : rS} {a1 : Int32} {σ : rS} (h : kw6 s σ) : kw6 s (g5_named_34 a1 σ).1 := by
  unfold g5_named_34
  try dsimp only [pb5, pm5]
  repeat' first
    | with_reducible exact h
    | dsimp only
    | with_reducible refine kw_look ?_
    | with_reducible refine kw_named_79 ?_
    | with_reducible refine kw_si ?_
    | with_reducible refine kw_ri ?_
    | with_reducible refine kw_if ?_ ?_
    | with_reducible refine kw_ifp ?_ ?_
theorem kw_named {s : rS} {σ : rS} (h : kw6 s σ) : kw6 s (g5_named  σ).1 := by
  unfold g5_named
  try dsimp only [pb5, pm5]
  repeat' first
    | with_reducible exact h
    | dsimp only
    | with_reducible refine kw_go ?_
    | with_reducible refine kw_named_34 ?_
    | with_reducible refine kw_flaw ?_
    | with_reducible refine kw_si ?_
    | with_reducible refine kw_ri ?_
    | with_reducible refine kw_if ?_ ?_
    | with_reducible refine kw_ifp ?_ ?_
theorem kw_operand_37 {s : rS} {s1 : Int32} {σ : rS} (h : kw6 s σ) : kw6 s (g5_operand_37 s1 σ).1 := by
  unfold g5_operand_37
  try dsimp only [pb5, pm5]
  repeat' first
    | with_reducible exact h
    | dsimp only
    | with_reducible refine kw_hold ?_
    | with_reducible refine kw_go ?_
    | with_reducible refine kw_si ?_
    | with_reducible refine kw_ri ?_
    | with_reducible refine kw_if ?_ ?_
    | with_reducible refine kw_ifp ?_ ?_
theorem kw_operand_18 {s : rS} {σ : rS} (h : kw6 s σ) : kw6 s (g5_operand_18  σ).1 := by
  unfold g5_operand_18
  try dsimp only [pb5, pm5]
  repeat' first
    | with_reducible exact h
    | dsimp only
    | with_reducible refine kw_operand_37 ?_
    | with_reducible refine kw_si ?_
    | with_reducible refine kw_ri ?_
    | with_reducible refine kw_if ?_ ?_
    | with_reducible refine kw_ifp ?_ ?_
theorem kw_operand {s : rS} {σ : rS} (h : kw6 s σ) : kw6 s (g5_operand  σ).1 := by
  unfold g5_operand
  try dsimp only [pb5, pm5]
  repeat' first
    | with_reducible exact h
    | dsimp only
    | with_reducible refine kw_go ?_
    | with_reducible refine kw_push ?_
    | with_reducible refine kw_named ?_
    | with_reducible refine kw_flaw ?_
    | with_reducible refine kw_open ?_
    | with_reducible refine kw_hold ?_
    | with_reducible refine kw_operand_18 ?_
    | with_reducible refine kw_si ?_
    | with_reducible refine kw_ri ?_
    | with_reducible refine kw_if ?_ ?_
    | with_reducible refine kw_ifp ?_ ?_
theorem kw_behind_73 {s : rS} {σ : rS} (h : kw6 s σ) : kw6 s (g5_behind_73  σ).1 := by
  unfold g5_behind_73
  try dsimp only [pb5, pm5]
  repeat' first
    | with_reducible exact h
    | dsimp only
    | with_reducible refine kw_hold ?_
    | with_reducible refine kw_go ?_
    | with_reducible refine kw_si ?_
    | with_reducible refine kw_ri ?_
    | with_reducible refine kw_if ?_ ?_
    | with_reducible refine kw_ifp ?_ ?_
theorem kw_behind_245 {s : rS} {σ : rS} (h : kw6 s σ) : kw6 s (g5_behind_245  σ).1 := by
  unfold g5_behind_245
  try dsimp only [pb5, pm5]
  repeat' first
    | with_reducible exact h
    | dsimp only
    | with_reducible refine kw_turn ?_
    | with_reducible refine kw_si ?_
    | with_reducible refine kw_ri ?_
    | with_reducible refine kw_if ?_ ?_
    | with_reducible refine kw_ifp ?_ ?_
theorem kw_behind_216 {s : rS} {a3 : Int32} {s1 : Int32} {σ : rS} (h : kw6 s σ) : kw6 s (g5_behind_216 a3 s1 σ).1 := by
  unfold g5_behind_216
  try dsimp only [pb5, pm5]
  repeat' first
    | with_reducible exact h
    | dsimp only
    | with_reducible refine kw_behind_245 ?_
    | with_reducible refine kw_si ?_
    | with_reducible refine kw_ri ?_
    | with_reducible refine kw_if ?_ ?_
    | with_reducible refine kw_ifp ?_ ?_
theorem kw_behind_93 {s : rS} {σ : rS} (h : kw6 s σ) : kw6 s (g5_behind_93  σ).1 := by
  unfold g5_behind_93
  try dsimp only [pb5, pm5]
  repeat' first
    | with_reducible exact h
    | dsimp only
    | with_reducible refine kw_settle ?_
    | with_reducible refine kw_close ?_
    | with_reducible refine kw_turn ?_
    | with_reducible refine kw_behind_245 ?_
    | with_reducible refine kw_behind_216 ?_
    | with_reducible refine kw_si ?_
    | with_reducible refine kw_ri ?_
    | with_reducible refine kw_if ?_ ?_
    | with_reducible refine kw_ifp ?_ ?_
theorem kw_behind_50 {s : rS} {a1 : Int32} {s1 : Int32} {σ : rS} (h : kw6 s σ) : kw6 s (g5_behind_50 a1 s1 σ).1 := by
  unfold g5_behind_50
  try dsimp only [pb5, pm5]
  repeat' first
    | with_reducible exact h
    | dsimp only
    | with_reducible refine kw_settle ?_
    | with_reducible refine kw_behind_93 ?_
    | with_reducible refine kw_behind_73 ?_
    | with_reducible refine kw_si ?_
    | with_reducible refine kw_ri ?_
    | with_reducible refine kw_if ?_ ?_
    | with_reducible refine kw_ifp ?_ ?_
theorem kw_behind_29 {s : rS} {s0 : Int32} {σ : rS} (h : kw6 s σ) : kw6 s (g5_behind_29 s0 σ).1 := by
  unfold g5_behind_29
  try dsimp only [pb5, pm5]
  repeat' first
    | with_reducible exact h
    | dsimp only
    | with_reducible refine kw_behind_50 ?_
    | with_reducible refine kw_si ?_
    | with_reducible refine kw_ri ?_
    | with_reducible refine kw_if ?_ ?_
    | with_reducible refine kw_ifp ?_ ?_
theorem kw_behind {s : rS} {σ : rS} (h : kw6 s σ) : kw6 s (g5_behind  σ).1 := by
  unfold g5_behind
  try dsimp only [pb5, pm5]
  repeat' first
    | with_reducible exact h
    | dsimp only
    | with_reducible refine kw_behind_29 ?_
    | with_reducible refine kw_si ?_
    | with_reducible refine kw_ri ?_
    | with_reducible refine kw_if ?_ ?_
    | with_reducible refine kw_ifp ?_ ?_
theorem kw_expression_51 {s : rS} {σ : rS} (h : kw6 s σ) : kw6 s (g5_expression_51  σ).1 := by
  unfold g5_expression_51
  try dsimp only [pb5, pm5]
  repeat' first
    | with_reducible exact h
    | dsimp only
    | with_reducible refine kw_si ?_
    | with_reducible refine kw_ri ?_
    | with_reducible refine kw_if ?_ ?_
    | with_reducible refine kw_ifp ?_ ?_
theorem kw_expression_12 {s : rS} (m : Nat) : ∀ (x0 : Int32) (σ : rS), kw6 s σ → kw6 s (g5_expression_12 m x0 σ).1 := by
  induction m with
  | zero => exact fun _ _ h => h
  | succ m ih =>
    intro x0 σ h
    rw [g5_expression_12]
    try dsimp only [pb5, pm5]
    repeat' first
      | with_reducible exact h
      | dsimp only
      | with_reducible refine ih _ _ ?_
      | with_reducible refine kw_expression_51 ?_
      | with_reducible refine kw_operand ?_
      | with_reducible refine kw_behind ?_
      | with_reducible refine kw_si ?_
      | with_reducible refine kw_ri ?_
      | with_reducible refine kw_if ?_ ?_
      | with_reducible refine kw_ifp ?_ ?_
theorem kw_expression {s : rS} {σ : rS} (h : kw6 s σ) : kw6 s (g5_expression  σ).1 := by
  unfold g5_expression
  try dsimp only [pb5, pm5]
  repeat' first
    | with_reducible exact h
    | dsimp only
    | with_reducible refine kw_expression_12 _ _ _ ?_
    | with_reducible refine kw_si ?_
    | with_reducible refine kw_ri ?_
    | with_reducible refine kw_if ?_ ?_
    | with_reducible refine kw_ifp ?_ ?_
theorem kw_openBlock {s : rS} {a1 : Int32} {a2 : Int32} {σ : rS} (h : kw6 s σ) : kw6 s (g5_openBlock a1 a2 σ) := by
  unfold g5_openBlock
  try dsimp only [pb5, pm5]
  repeat' first
    | with_reducible exact h
    | dsimp only
    | with_reducible refine kw_si ?_
    | with_reducible refine kw_ri ?_
    | with_reducible refine kw_if ?_ ?_
    | with_reducible refine kw_ifp ?_ ?_
theorem kw_newStatement_221 {s : rS} {a2 : Int32} {a3 : Int32} {σ : rS} (h : kw6 s σ) : kw6 s (g5_newStatement_221 a2 a3 σ).1 := by
  unfold g5_newStatement_221
  try dsimp only [pb5, pm5]
  repeat' first
    | with_reducible exact h
    | dsimp only
    | with_reducible refine kw_si ?_
    | with_reducible refine kw_ri ?_
    | with_reducible refine kw_if ?_ ?_
    | with_reducible refine kw_ifp ?_ ?_
theorem kw_newStatement_51 {s : rS} {a1 : Int32} {s0 : Int32} {σ : rS} (h : kw6 s σ) : kw6 s (g5_newStatement_51 a1 s0 σ).1 := by
  unfold g5_newStatement_51
  try dsimp only [pb5, pm5]
  repeat' first
    | with_reducible exact h
    | dsimp only
    | with_reducible refine kw_newStatement_221 ?_
    | with_reducible refine kw_si ?_
    | with_reducible refine kw_ri ?_
    | with_reducible refine kw_if ?_ ?_
    | with_reducible refine kw_ifp ?_ ?_
theorem kw_newStatement_33 {s : rS} {a1 : Int32} {σ : rS} (h : kw6 s σ) : kw6 s (g5_newStatement_33 a1 σ).1 := by
  unfold g5_newStatement_33
  try dsimp only [pb5, pm5]
  repeat' first
    | with_reducible exact h
    | dsimp only
    | with_reducible refine kw_newStatement_51 ?_
    | with_reducible refine kw_si ?_
    | with_reducible refine kw_ri ?_
    | with_reducible refine kw_if ?_ ?_
    | with_reducible refine kw_ifp ?_ ?_
theorem kw_newStatement {s : rS} {a1 : Int32} {σ : rS} (h : kw6 s σ) : kw6 s (g5_newStatement a1 σ).1 := by
  unfold g5_newStatement
  try dsimp only [pb5, pm5]
  repeat' first
    | with_reducible exact h
    | dsimp only
    | with_reducible refine kw_newStatement_33 ?_
    | with_reducible refine kw_flaw ?_
    | with_reducible refine kw_si ?_
    | with_reducible refine kw_ri ?_
    | with_reducible refine kw_if ?_ ?_
    | with_reducible refine kw_ifp ?_ ?_
theorem kw_tellVar_87 {s : rS} {a1 : Int32} {a2 : Int32} {σ : rS} (h : kw6 s σ) : kw6 s (g5_tellVar_87 a1 a2 σ) := by
  unfold g5_tellVar_87
  try dsimp only [pb5, pm5]
  repeat' first
    | with_reducible exact h
    | dsimp only
    | with_reducible refine kw_sign ?_
    | with_reducible refine kw_si ?_
    | with_reducible refine kw_ri ?_
    | with_reducible refine kw_if ?_ ?_
    | with_reducible refine kw_ifp ?_ ?_
theorem kw_tellVar_82 {s : rS} {a1 : Int32} {s0 : Int32} {σ : rS} (h : kw6 s σ) : kw6 s (g5_tellVar_82 a1 s0 σ) := by
  unfold g5_tellVar_82
  try dsimp only [pb5, pm5]
  repeat' first
    | with_reducible exact h
    | dsimp only
    | with_reducible refine kw_go ?_
    | with_reducible refine kw_tellVar_87 ?_
    | with_reducible refine kw_si ?_
    | with_reducible refine kw_ri ?_
    | with_reducible refine kw_if ?_ ?_
    | with_reducible refine kw_ifp ?_ ?_
theorem kw_tellVar_53 {s : rS} {a1 : Int32} {a3 : Int32} {σ : rS} (h : kw6 s σ) : kw6 s (g5_tellVar_53 a1 a3 σ) := by
  unfold g5_tellVar_53
  try dsimp only [pb5, pm5]
  repeat' first
    | with_reducible exact h
    | dsimp only
    | with_reducible refine kw_due ?_
    | with_reducible refine kw_tellVar_82 ?_
    | with_reducible refine kw_si ?_
    | with_reducible refine kw_ri ?_
    | with_reducible refine kw_if ?_ ?_
    | with_reducible refine kw_ifp ?_ ?_
theorem kw_tellVar {s : rS} {σ : rS} (h : kw6 s σ) : kw6 s (g5_tellVar  σ) := by
  unfold g5_tellVar
  try dsimp only [pb5, pm5]
  repeat' first
    | with_reducible exact h
    | dsimp only
    | with_reducible refine kw_go ?_
    | with_reducible refine kw_fresh ?_
    | with_reducible refine kw_tellVar_87 ?_
    | with_reducible refine kw_tellVar_53 ?_
    | with_reducible refine kw_si ?_
    | with_reducible refine kw_ri ?_
    | with_reducible refine kw_if ?_ ?_
    | with_reducible refine kw_ifp ?_ ?_
theorem kw_tellArr_56 {s : rS} {a1 : Int32} {a2 : Int32} {σ : rS} (h : kw6 s σ) : kw6 s (g5_tellArr_56 a1 a2 σ) := by
  unfold g5_tellArr_56
  try dsimp only [pb5, pm5]
  repeat' first
    | with_reducible exact h
    | dsimp only
    | with_reducible refine kw_go ?_
    | with_reducible refine kw_close ?_
    | with_reducible refine kw_sign ?_
    | with_reducible refine kw_si ?_
    | with_reducible refine kw_ri ?_
    | with_reducible refine kw_if ?_ ?_
    | with_reducible refine kw_ifp ?_ ?_
theorem kw_tellArr {s : rS} {σ : rS} (h : kw6 s σ) : kw6 s (g5_tellArr  σ) := by
  unfold g5_tellArr
  try dsimp only [pb5, pm5]
  repeat' first
    | with_reducible exact h
    | dsimp only
    | with_reducible refine kw_go ?_
    | with_reducible refine kw_fresh ?_
    | with_reducible refine kw_open ?_
    | with_reducible refine kw_due ?_
    | with_reducible refine kw_tellArr_56 ?_
    | with_reducible refine kw_flaw ?_
    | with_reducible refine kw_si ?_
    | with_reducible refine kw_ri ?_
    | with_reducible refine kw_if ?_ ?_
    | with_reducible refine kw_ifp ?_ ?_
theorem kw_arguments_65 {s : rS} {B28 : Int32 → rS → rS} {s0 : Int32} {σ : rS} (hB28 : ∀ (x0 : Int32) (σ : rS), kw6 s σ → kw6 s (B28 x0 σ)) (h : kw6 s σ) : kw6 s (g5_arguments_65 B28 s0 σ) := by
  unfold g5_arguments_65
  try dsimp only [pb5, pm5]
  repeat' first
    | with_reducible exact h
    | dsimp only
    | with_reducible refine hB28 _ _ ?_
    | with_reducible refine kw_go ?_
    | with_reducible refine kw_si ?_
    | with_reducible refine kw_ri ?_
    | with_reducible refine kw_if ?_ ?_
    | with_reducible refine kw_ifp ?_ ?_
theorem kw_arguments_77 {s : rS} {σ : rS} (h : kw6 s σ) : kw6 s (g5_arguments_77  σ) := by
  unfold g5_arguments_77
  try dsimp only [pb5, pm5]
  repeat' first
    | with_reducible exact h
    | dsimp only
    | with_reducible refine kw_close ?_
    | with_reducible refine kw_sign ?_
    | with_reducible refine kw_si ?_
    | with_reducible refine kw_ri ?_
    | with_reducible refine kw_if ?_ ?_
    | with_reducible refine kw_ifp ?_ ?_
theorem kw_arguments_28 {s : rS} (m : Nat) : ∀ (x0 : Int32) (σ : rS), kw6 s σ → kw6 s (g5_arguments_28 m x0 σ) := by
  induction m with
  | zero => exact fun _ _ h => h
  | succ m ih =>
    intro x0 σ h
    rw [g5_arguments_28]
    try dsimp only [pb5, pm5]
    repeat' first
      | with_reducible exact h
      | dsimp only
      | with_reducible refine ih _ _ ?_
      | with_reducible refine kw_arguments_77 ?_
      | with_reducible refine kw_expression ?_
      | with_reducible refine kw_arguments_65 (fun y0 σ9 h9 => ih y0 σ9 h9) ?_
      | with_reducible refine kw_si ?_
      | with_reducible refine kw_ri ?_
      | with_reducible refine kw_if ?_ ?_
      | with_reducible refine kw_ifp ?_ ?_
theorem kw_arguments {s : rS} {σ : rS} (h : kw6 s σ) : kw6 s (g5_arguments  σ) := by
  unfold g5_arguments
  try dsimp only [pb5, pm5]
  repeat' first
    | with_reducible exact h
    | dsimp only
    | with_reducible refine kw_open ?_
    | with_reducible refine kw_arguments_28 _ _ _ ?_
    | with_reducible refine kw_si ?_
    | with_reducible refine kw_ri ?_
    | with_reducible refine kw_if ?_ ?_
    | with_reducible refine kw_ifp ?_ ?_
theorem kw_tellDraw_55 {s : rS} {σ : rS} (h : kw6 s σ) : kw6 s (g5_tellDraw_55  σ) := by
  unfold g5_tellDraw_55
  try dsimp only [pb5, pm5]
  repeat' first
    | with_reducible exact h
    | dsimp only
    | with_reducible refine kw_close ?_
    | with_reducible refine kw_sign ?_
    | with_reducible refine kw_si ?_
    | with_reducible refine kw_ri ?_
    | with_reducible refine kw_if ?_ ?_
    | with_reducible refine kw_ifp ?_ ?_
theorem kw_tellDraw_18 {s : rS} {σ : rS} (h : kw6 s σ) : kw6 s (g5_tellDraw_18  σ) := by
  unfold g5_tellDraw_18
  try dsimp only [pb5, pm5]
  repeat' first
    | with_reducible exact h
    | dsimp only
    | with_reducible refine kw_go ?_
    | with_reducible refine kw_open ?_
    | with_reducible refine kw_expression ?_
    | with_reducible refine kw_tellDraw_55 ?_
    | with_reducible refine kw_sign ?_
    | with_reducible refine kw_si ?_
    | with_reducible refine kw_ri ?_
    | with_reducible refine kw_if ?_ ?_
    | with_reducible refine kw_ifp ?_ ?_
theorem kw_tellDraw_160 {s : rS} {B77 : Int32 → Int32 → rS → rS} {a1 : Int32} {s0 : Int32} {σ : rS} (hB77 : ∀ (x0 : Int32) (x1 : Int32) (σ : rS), kw6 s σ → kw6 s (B77 x0 x1 σ)) (h : kw6 s σ) : kw6 s (g5_tellDraw_160 B77 a1 s0 σ) := by
  unfold g5_tellDraw_160
  try dsimp only [pb5, pm5]
  repeat' first
    | with_reducible exact h
    | dsimp only
    | with_reducible refine hB77 _ _ _ ?_
    | with_reducible refine kw_go ?_
    | with_reducible refine kw_si ?_
    | with_reducible refine kw_ri ?_
    | with_reducible refine kw_if ?_ ?_
    | with_reducible refine kw_ifp ?_ ?_
theorem kw_tellDraw_125 {s : rS} {B77 : Int32 → Int32 → rS → rS} {a1 : Int32} {σ : rS} (hB77 : ∀ (x0 : Int32) (x1 : Int32) (σ : rS), kw6 s σ → kw6 s (B77 x0 x1 σ)) (h : kw6 s σ) : kw6 s (g5_tellDraw_125 B77 a1 σ) := by
  unfold g5_tellDraw_125
  try dsimp only [pb5, pm5]
  repeat' first
    | with_reducible refine kw_tellDraw_160 hB77 ?_
    | with_reducible exact h
    | dsimp only
    | with_reducible refine hB77 _ _ _ ?_
    | with_reducible refine kw_sign ?_
    | with_reducible refine kw_expression ?_
    | with_reducible refine kw_si ?_
    | with_reducible refine kw_ri ?_
    | with_reducible refine kw_if ?_ ?_
    | with_reducible refine kw_ifp ?_ ?_
theorem kw_tellDraw_172 {s : rS} {σ : rS} (h : kw6 s σ) : kw6 s (g5_tellDraw_172  σ) := by
  unfold g5_tellDraw_172
  try dsimp only [pb5, pm5]
  repeat' first
    | with_reducible exact h
    | dsimp only
    | with_reducible refine kw_close ?_
    | with_reducible refine kw_sign ?_
    | with_reducible refine kw_si ?_
    | with_reducible refine kw_ri ?_
    | with_reducible refine kw_if ?_ ?_
    | with_reducible refine kw_ifp ?_ ?_
theorem kw_tellDraw_77 {s : rS} (m : Nat) : ∀ (x0 x1 : Int32) (σ : rS), kw6 s σ → kw6 s (g5_tellDraw_77 m x0 x1 σ) := by
  induction m with
  | zero => exact fun _ _ _ h => h
  | succ m ih =>
    intro x0 x1 σ h
    have h3 := kw_expression h
    have h172 := kw_tellDraw_172 h
    have t : ∀ σ9, kw6 s σ9 → kw6 s (g5_tellDraw_125 (g5_tellDraw_77 m) x0 σ9) := fun σ9 h9 => kw_tellDraw_125 ih h9
    rw [g5_tellDraw_77]
    exact kw_pb (kw_if h172 (kw_if h172 (kw_pm (kw_pb (kw_if (t _ h3) (kw_pb (kw_if (t _ h3) (kw_if (kw_pb (t _ (kw_flaw h3))) (t _ h3)))))))))
theorem kw_tellDraw {s : rS} {σ : rS} (h : kw6 s σ) : kw6 s (g5_tellDraw  σ) := by
  unfold g5_tellDraw
  try dsimp only [pb5, pm5]
  repeat' first
    | with_reducible exact h
    | dsimp only
    | with_reducible refine kw_open ?_
    | with_reducible refine kw_tellDraw_77 _ _ _ _ ?_
    | with_reducible refine kw_tellDraw_18 ?_
    | with_reducible refine kw_si ?_
    | with_reducible refine kw_ri ?_
    | with_reducible refine kw_if ?_ ?_
    | with_reducible refine kw_ifp ?_ ?_
theorem kw_tellNamed_295 {s : rS} {σ : rS} (h : kw6 s σ) : kw6 s (g5_tellNamed_295  σ) := by
  unfold g5_tellNamed_295
  try dsimp only [pb5, pm5]
  repeat' first
    | with_reducible exact h
    | dsimp only
    | with_reducible refine kw_expression ?_
    | with_reducible refine kw_sign ?_
    | with_reducible refine kw_si ?_
    | with_reducible refine kw_ri ?_
    | with_reducible refine kw_if ?_ ?_
    | with_reducible refine kw_ifp ?_ ?_
theorem kw_tellNamed_244 {s : rS} {a1 : Int32} {a3 : Int32} {σ : rS} (h : kw6 s σ) : kw6 s (g5_tellNamed_244 a1 a3 σ) := by
  unfold g5_tellNamed_244
  try dsimp only [pb5, pm5]
  repeat' first
    | with_reducible exact h
    | dsimp only
    | with_reducible refine kw_tellNamed_295 ?_
    | with_reducible refine kw_go ?_
    | with_reducible refine kw_arguments ?_
    | with_reducible refine kw_si ?_
    | with_reducible refine kw_ri ?_
    | with_reducible refine kw_if ?_ ?_
    | with_reducible refine kw_ifp ?_ ?_
theorem kw_tellNamed_175 {s : rS} {a1 : Int32} {a3 : Int32} {σ : rS} (h : kw6 s σ) : kw6 s (g5_tellNamed_175 a1 a3 σ) := by
  unfold g5_tellNamed_175
  try dsimp only [pb5, pm5]
  repeat' first
    | with_reducible exact h
    | dsimp only
    | with_reducible refine kw_sign ?_
    | with_reducible refine kw_tellNamed_244 ?_
    | with_reducible refine kw_go ?_
    | with_reducible refine kw_open ?_
    | with_reducible refine kw_expression ?_
    | with_reducible refine kw_close ?_
    | with_reducible refine kw_si ?_
    | with_reducible refine kw_ri ?_
    | with_reducible refine kw_if ?_ ?_
    | with_reducible refine kw_ifp ?_ ?_
theorem kw_tellNamed_133 {s : rS} {a1 : Int32} {a3 : Int32} {σ : rS} (h : kw6 s σ) : kw6 s (g5_tellNamed_133 a1 a3 σ) := by
  unfold g5_tellNamed_133
  try dsimp only [pb5, pm5]
  repeat' first
    | with_reducible exact h
    | dsimp only
    | with_reducible refine kw_tellNamed_175 ?_
    | with_reducible refine kw_go ?_
    | with_reducible refine kw_tellDraw ?_
    | with_reducible refine kw_si ?_
    | with_reducible refine kw_ri ?_
    | with_reducible refine kw_if ?_ ?_
    | with_reducible refine kw_ifp ?_ ?_
theorem kw_tellNamed_109 {s : rS} {a1 : Int32} {a3 : Int32} {s1 : Int32} {s2 : Int32} {σ : rS} (h : kw6 s σ) : kw6 s (g5_tellNamed_109 a1 a3 s1 s2 σ) := by
  unfold g5_tellNamed_109
  try dsimp only [pb5, pm5]
  repeat' first
    | with_reducible exact h
    | dsimp only
    | with_reducible refine kw_look ?_
    | with_reducible refine kw_tellNamed_133 ?_
    | with_reducible refine kw_open ?_
    | with_reducible refine kw_expression ?_
    | with_reducible refine kw_close ?_
    | with_reducible refine kw_si ?_
    | with_reducible refine kw_ri ?_
    | with_reducible refine kw_if ?_ ?_
    | with_reducible refine kw_ifp ?_ ?_
theorem kw_tellNamed_90 {s : rS} {a1 : Int32} {a2 : Int32} {a3 : Int32} {σ : rS} (h : kw6 s σ) : kw6 s (g5_tellNamed_90 a1 a2 a3 σ) := by
  unfold g5_tellNamed_90
  try dsimp only [pb5, pm5]
  repeat' first
    | with_reducible exact h
    | dsimp only
    | with_reducible refine kw_tellNamed_109 ?_
    | with_reducible refine kw_si ?_
    | with_reducible refine kw_ri ?_
    | with_reducible refine kw_if ?_ ?_
    | with_reducible refine kw_ifp ?_ ?_
theorem kw_tellNamed {s : rS} {σ : rS} (h : kw6 s σ) : kw6 s (g5_tellNamed  σ) := by
  unfold g5_tellNamed
  try dsimp only [pb5, pm5]
  repeat' first
    | with_reducible exact h
    | dsimp only
    | with_reducible refine kw_newStatement ?_
    | with_reducible refine kw_go ?_
    | with_reducible refine kw_flaw ?_
    | with_reducible refine kw_tellNamed_90 ?_
    | with_reducible refine kw_arguments ?_
    | with_reducible refine kw_si ?_
    | with_reducible refine kw_ri ?_
    | with_reducible refine kw_if ?_ ?_
    | with_reducible refine kw_ifp ?_ ?_
theorem kw_tellLocal {s : rS} {σ : rS} (h : kw6 s σ) : kw6 s (g5_tellLocal  σ) := by
  unfold g5_tellLocal
  try dsimp only [pb5, pm5]
  repeat' first
    | with_reducible exact h
    | dsimp only
    | with_reducible refine kw_newStatement ?_
    | with_reducible refine kw_go ?_
    | with_reducible refine kw_fresh ?_
    | with_reducible refine kw_sign ?_
    | with_reducible refine kw_expression ?_
    | with_reducible refine kw_si ?_
    | with_reducible refine kw_ri ?_
    | with_reducible refine kw_if ?_ ?_
    | with_reducible refine kw_ifp ?_ ?_
theorem kw_tellStatement_68 {s : rS} {s1 : Int32} {σ : rS} (h : kw6 s σ) : kw6 s (g5_tellStatement_68 s1 σ) := by
  unfold g5_tellStatement_68
  try dsimp only [pb5, pm5]
  repeat' first
    | with_reducible exact h
    | dsimp only
    | with_reducible refine kw_newStatement ?_
    | with_reducible refine kw_go ?_
    | with_reducible refine kw_expression ?_
    | with_reducible refine kw_open ?_
    | with_reducible refine kw_openBlock ?_
    | with_reducible refine kw_si ?_
    | with_reducible refine kw_ri ?_
    | with_reducible refine kw_if ?_ ?_
    | with_reducible refine kw_ifp ?_ ?_
theorem kw_tellStatement_52 {s : rS} {σ : rS} (h : kw6 s σ) : kw6 s (g5_tellStatement_52  σ) := by
  unfold g5_tellStatement_52
  try dsimp only [pb5, pm5]
  repeat' first
    | with_reducible exact h
    | dsimp only
    | with_reducible refine kw_tellStatement_68 ?_
    | with_reducible refine kw_si ?_
    | with_reducible refine kw_ri ?_
    | with_reducible refine kw_if ?_ ?_
    | with_reducible refine kw_ifp ?_ ?_
theorem kw_tellStatement_164 {s : rS} {s1 : Int32} {σ : rS} (h : kw6 s σ) : kw6 s (g5_tellStatement_164 s1 σ) := by
  unfold g5_tellStatement_164
  try dsimp only [pb5, pm5]
  repeat' first
    | with_reducible exact h
    | dsimp only
    | with_reducible refine kw_newStatement ?_
    | with_reducible refine kw_go ?_
    | with_reducible refine kw_expression ?_
    | with_reducible refine kw_sign ?_
    | with_reducible refine kw_si ?_
    | with_reducible refine kw_ri ?_
    | with_reducible refine kw_if ?_ ?_
    | with_reducible refine kw_ifp ?_ ?_
theorem kw_tellStatement_133 {s : rS} {σ : rS} (h : kw6 s σ) : kw6 s (g5_tellStatement_133  σ) := by
  unfold g5_tellStatement_133
  try dsimp only [pb5, pm5]
  repeat' first
    | with_reducible exact h
    | dsimp only
    | with_reducible refine kw_tellStatement_164 ?_
    | with_reducible refine kw_si ?_
    | with_reducible refine kw_ri ?_
    | with_reducible refine kw_if ?_ ?_
    | with_reducible refine kw_ifp ?_ ?_
theorem kw_tellStatement {s σ : rS} (h : kw6 s σ) : kw6 s (g5_tellStatement σ) := by
  have h133 := kw_tellStatement_133 h
  have h52 := kw_tellStatement_52 h
  unfold g5_tellStatement
  exact kw_if (kw_pb (kw_tellNamed h)) (kw_pb (kw_if (kw_pb (kw_if (kw_pb (kw_if (kw_pb (kw_if (kw_pb (kw_if (kw_pb (kw_if (kw_pb (kw_flaw h)) h133)) h133)) h133)) h52)) h52)) (kw_pb (kw_tellLocal h))))
theorem kw_endBlock {s : rS} {σ : rS} (h : kw6 s σ) : kw6 s (g5_endBlock  σ) := by
  unfold g5_endBlock
  try dsimp only [pb5, pm5]
  repeat' first
    | with_reducible exact h
    | dsimp only
    | with_reducible refine kw_close ?_
    | with_reducible refine kw_go ?_
    | with_reducible refine kw_open ?_
    | with_reducible refine kw_openBlock ?_
    | with_reducible refine kw_si ?_
    | with_reducible refine kw_ri ?_
    | with_reducible refine kw_if ?_ ?_
    | with_reducible refine kw_ifp ?_ ?_
theorem kw_tellStatements_11 {s : rS} (m : Nat) : ∀ (σ : rS), kw6 s σ → kw6 s (g5_tellStatements_11 m  σ) := by
  induction m with
  | zero => exact fun _ h => h
  | succ m ih =>
    intro σ h
    rw [g5_tellStatements_11]
    try dsimp only [pb5, pm5]
    repeat' first
      | with_reducible exact h
      | dsimp only
      | with_reducible refine ih _ ?_
      | with_reducible refine kw_tellStatement ?_
      | with_reducible refine kw_endBlock ?_
      | with_reducible refine kw_si ?_
      | with_reducible refine kw_ri ?_
      | with_reducible refine kw_if ?_ ?_
      | with_reducible refine kw_ifp ?_ ?_
theorem kw_tellStatements {s : rS} {σ : rS} (h : kw6 s σ) : kw6 s (g5_tellStatements  σ) := by
  unfold g5_tellStatements
  try dsimp only [pb5, pm5]
  repeat' first
    | with_reducible exact h
    | dsimp only
    | with_reducible refine kw_openBlock ?_
    | with_reducible refine kw_tellStatements_11 _ _ ?_
    | with_reducible refine kw_si ?_
    | with_reducible refine kw_ri ?_
    | with_reducible refine kw_if ?_ ?_
    | with_reducible refine kw_ifp ?_ ?_
theorem kw_tellFunc_206 {s : rS} {B102 : Int32 → Int32 → rS → rS} {a1 : Int32} {s0 : Int32} {σ : rS} (hB102 : ∀ (x0 : Int32) (x1 : Int32) (σ : rS), kw6 s σ → kw6 s (B102 x0 x1 σ)) (h : kw6 s σ) : kw6 s (g5_tellFunc_206 B102 a1 s0 σ) := by
  unfold g5_tellFunc_206
  try dsimp only [pb5, pm5]
  repeat' first
    | with_reducible exact h
    | dsimp only
    | with_reducible refine hB102 _ _ _ ?_
    | with_reducible refine kw_go ?_
    | with_reducible refine kw_si ?_
    | with_reducible refine kw_ri ?_
    | with_reducible refine kw_if ?_ ?_
    | with_reducible refine kw_ifp ?_ ?_
theorem kw_tellFunc_185 {s : rS} {B102 : Int32 → Int32 → rS → rS} {a1 : Int32} {σ : rS} (hB102 : ∀ (x0 : Int32) (x1 : Int32) (σ : rS), kw6 s σ → kw6 s (B102 x0 x1 σ)) (h : kw6 s σ) : kw6 s (g5_tellFunc_185 B102 a1 σ) := by
  unfold g5_tellFunc_185
  try dsimp only [pb5, pm5]
  repeat' first
    | with_reducible refine kw_tellFunc_206 hB102 ?_
    | with_reducible exact h
    | dsimp only
    | with_reducible refine hB102 _ _ _ ?_
    | with_reducible refine kw_si ?_
    | with_reducible refine kw_ri ?_
    | with_reducible refine kw_if ?_ ?_
    | with_reducible refine kw_ifp ?_ ?_
theorem kw_tellFunc_218 {s : rS} {a1 : Int32} {σ : rS} (h : kw6 s σ) : kw6 s (g5_tellFunc_218 a1 σ) := by
  unfold g5_tellFunc_218
  try dsimp only [pb5, pm5]
  repeat' first
    | with_reducible exact h
    | dsimp only
    | with_reducible refine kw_close ?_
    | with_reducible refine kw_open ?_
    | with_reducible refine kw_tellStatements ?_
    | with_reducible refine kw_si ?_
    | with_reducible refine kw_ri ?_
    | with_reducible refine kw_if ?_ ?_
    | with_reducible refine kw_ifp ?_ ?_
theorem kw_tellFunc_102 {s : rS} (m : Nat) : ∀ (x0 : Int32) (x1 : Int32) (σ : rS), kw6 s σ → kw6 s (g5_tellFunc_102 m x0 x1 σ) := by
  induction m with
  | zero => exact fun _ _ _ h => h
  | succ m ih =>
    intro x0 x1 σ h
    rw [g5_tellFunc_102]
    try dsimp only [pb5, pm5]
    repeat' first
      | with_reducible exact h
      | dsimp only
      | with_reducible refine ih _ _ _ ?_
      | with_reducible refine kw_tellFunc_218 ?_
      | with_reducible refine kw_fresh ?_
      | with_reducible refine kw_tellFunc_185 (fun y0 y1 σ9 h9 => ih y0 y1 σ9 h9) ?_
      | with_reducible refine kw_si ?_
      | with_reducible refine kw_ri ?_
      | with_reducible refine kw_if ?_ ?_
      | with_reducible refine kw_ifp ?_ ?_
theorem kw_tellFunc_74 {s : rS} {a1 : Int32} {σ : rS} (h : kw6 s σ) : kw6 s (g5_tellFunc_74 a1 σ) := by
  unfold g5_tellFunc_74
  try dsimp only [pb5, pm5]
  repeat' first
    | with_reducible exact h
    | dsimp only
    | with_reducible refine kw_open ?_
    | with_reducible refine kw_tellFunc_102 _ _ _ _ ?_
    | with_reducible refine kw_si ?_
    | with_reducible refine kw_ri ?_
    | with_reducible refine kw_if ?_ ?_
    | with_reducible refine kw_ifp ?_ ?_
theorem kw_tellFunc_34 {s : rS} {a1 : Int32} {s1 : Int32} {σ : rS} (h : kw6 s σ) : kw6 s (g5_tellFunc_34 a1 s1 σ) := by
  unfold g5_tellFunc_34
  try dsimp only [pb5, pm5]
  repeat' first
    | with_reducible exact h
    | dsimp only
    | with_reducible refine kw_tellFunc_74 ?_
    | with_reducible refine kw_si ?_
    | with_reducible refine kw_ri ?_
    | with_reducible refine kw_if ?_ ?_
    | with_reducible refine kw_ifp ?_ ?_
theorem kw_tellFunc {s : rS} {σ : rS} (h : kw6 s σ) : kw6 s (g5_tellFunc  σ) := by
  unfold g5_tellFunc
  try dsimp only [pb5, pm5]
  repeat' first
    | with_reducible exact h
    | dsimp only
    | with_reducible refine kw_go ?_
    | with_reducible refine kw_fresh ?_
    | with_reducible refine kw_tellFunc_34 ?_
    | with_reducible refine kw_si ?_
    | with_reducible refine kw_ri ?_
    | with_reducible refine kw_if ?_ ?_
    | with_reducible refine kw_ifp ?_ ?_
theorem kw_look74 {s : rS} {B : Int32 → rS → rS} {a1 a2 a3 : Int32} {σ : rS} (hB : ∀ x σ, kw6 s σ → kw6 s (B x σ)) (h : kw6 s σ) : kw6 s (g5_lookAtCalls_74 B a1 a2 a3 σ) := hB _ _ h
theorem kw_look58 {s : rS} {B : Int32 → rS → rS} {a1 a2 a3 : Int32} {σ : rS} (hB : ∀ x σ, kw6 s σ → kw6 s (B x σ)) (h : kw6 s σ) : kw6 s (g5_lookAtCalls_58 B a1 a2 a3 σ) := kw_look74 hB h
theorem kw_look164 {s : rS} {B : Int32 → rS → rS} {a1 a2 : Int32} {σ : rS} (hB : ∀ x σ, kw6 s σ → kw6 s (B x σ)) (h : kw6 s σ) : kw6 s (g5_lookAtCalls_164 B a1 a2 σ) := hB _ _ h
theorem kw_look290 {s : rS} {B : Int32 → rS → rS} {a1 a2 a3 : Int32} {σ : rS} (hB : ∀ x σ, kw6 s σ → kw6 s (B x σ)) (h : kw6 s σ) : kw6 s (g5_lookAtCalls_290 B a1 a2 a3 σ) := hB _ _ h
theorem kw_look260 {s : rS} {B : Int32 → rS → rS} {a1 a2 : Int32} {σ : rS} (hB : ∀ x σ, kw6 s σ → kw6 s (B x σ)) (h : kw6 s σ) : kw6 s (g5_lookAtCalls_260 B a1 a2 σ) := kw_if (kw_look290 hB h) (kw_look290 hB h)
theorem kw_look214 {s : rS} {B : Int32 → rS → rS} (hB : ∀ x σ, kw6 s σ → kw6 s (B x σ)) (m : Nat) : ∀ (x0 x1 : Int32) (σ : rS), kw6 s σ → kw6 s (g5_lookAtCalls_214 B m x0 x1 σ) := by
  induction m with
  | zero => exact fun _ _ _ h => h
  | succ m ih =>
    intro x0 x1 σ h
    rw [g5_lookAtCalls_214]
    exact kw_if (kw_if (kw_look260 hB h) (kw_if (kw_pb (ih _ _ _ h)) (kw_look260 hB h))) (kw_look260 hB h)
theorem kw_look204 {s : rS} (m : Nat) : ∀ (x0 : Int32) (σ : rS), kw6 s σ → kw6 s (g5_lookAtCalls_204 m x0 σ) := by
  induction m with
  | zero => exact fun _ _ h => h
  | succ m ih =>
    intro x0 σ h
    rw [g5_lookAtCalls_204]
    exact kw_if h (kw_look214 ih _ _ _ _ h)
theorem kw_look98 {s : rS} (m : Nat) : ∀ (x0 : Int32) (σ : rS), kw6 s σ → kw6 s (g5_lookAtCalls_98 m x0 σ) := by
  induction m with
  | zero => exact fun _ _ h => h
  | succ m ih =>
    intro x0 σ h
    rw [g5_lookAtCalls_98]
    have h4 : ∀ σ9, kw6 s σ9 → kw6 s (g5_lookAtCalls_204 fu5 0 σ9) := fun σ9 h9 => kw_look204 _ _ _ h9
    exact kw_if (kw_pb (kw_if (h4 _ h) (kw_if (kw_pb (kw_pb (h4 _ h))) (h4 _ h)))) (kw_pb (kw_pb (kw_if (kw_if (kw_if (kw_look164 ih h) (kw_look164 ih h)) (kw_look164 ih h)) (kw_look164 ih h))))
theorem kw_look2 {s : rS} (m : Nat) : ∀ (x0 : Int32) (σ : rS), kw6 s σ → kw6 s (g5_lookAtCalls_2 m x0 σ) := by
  induction m with
  | zero => exact fun _ _ h => h
  | succ m ih =>
    intro x0 σ h
    rw [g5_lookAtCalls_2]
    have h8 : kw6 s (g5_lookAtCalls_98 fu5 0 (siU σ 40 (-1))) := kw_look98 _ _ _ h
    exact kw_if (kw_pb h8) (kw_if (kw_pb (kw_if (kw_pb (ih _ _ h)) (kw_pb (kw_pb (kw_if (kw_look58 ih h) (kw_pb (kw_if (kw_look74 ih h) (kw_look58 ih h)))))))) (kw_pb (ih _ _ h)))
theorem kw_tell161 {s σ : rS} (h : kw6 s σ) : kw6 s (g5_tellProgram_161 σ) := kw_if h (kw_pb (kw_look2 _ _ _ h))
theorem kw_tell84 {s : rS} (m : Nat) : ∀ (σ : rS), kw6 s σ → kw6 s (g5_tellProgram_84 m σ) := by
  induction m with
  | zero => exact fun _ h => h
  | succ m ih =>
    intro σ h
    rw [g5_tellProgram_84]
    exact kw_pb (kw_if (kw_tell161 h) (kw_if (kw_tell161 h) (kw_pb (kw_if (kw_pb (kw_if (kw_pb (kw_if (kw_pb (ih _ (kw_flaw h))) (kw_pb (ih _ (kw_tellFunc h))))) (kw_pb (ih _ (kw_tellArr h))))) (kw_pb (ih _ (kw_tellVar h)))))))
theorem kw_tell65 {s1 : Int32} {σ : rS} : (g5_tellProgram_65 s1 σ).2.2.2 = (g5_cutTape (siU σ 3 s1)).2.2.2 := by
  unfold g5_tellProgram_65
  exact kw_pb (kw_pb (kw_pb (kw_pb (kw_tell84 (s := g5_cutTape (siU σ 3 s1)) _ _ (kw_readNext rfl)))))
/-- cutting writes long rows only in its own half -/
theorem cw_l6 {B : Nat → Int32} {n Bk : Nat} (hn2 : n ≤ 65536) (hBk : Bk ≤ 65537) : ∀ (d mr cnt : Nat) (r : Int32) (σ : rS), okS5 σ → bS5 σ = B → nS5 σ = n → σ.1 3 = Int32.ofNat Bk → σ.1 4 = Int32.ofNat cnt → 0 ≤ r.toInt → r.toInt ≤ n → cnt ≤ r.toInt.toNat → n - r.toInt.toNat < d → d ≤ mr → ∀ j, (j < Bk ∨ Bk + 65536 < j) → (g5_cutTape_13 mr r 0 σ).2.2.2 8 j = σ.2.2.2 8 j
  | 0, _, _, _, _, _, _, _, _, _, _, _, _, h, _, _, _ => by omega
  | d + 1, mr, cnt, r, σ, HS, sB, sn, s3, s4, h0, h1, hc, hd, hmr, j, hj => by
    obtain ⟨mr, rfl⟩ : ∃ k, mr = k + 1 := ⟨mr - 1, by omega⟩
    have hsz : (σ.1 2).toInt = n := by have := HS.1; unfold nS5 at sn; omega
    have hT : (σ.1 3 + σ.1 4).toNatClampNeg = Bk + cnt := by rw [s3, s4, on_5 (by omega), cl_5 (by omega)]
    by_cases c : n ≤ r.toInt.toNat
    · have e1 : g5_cutTape_13 (mr + 1) r 0 σ = g5_cutTape_72 σ := by
        rw [g5_cutTape_13]
        exact if_pos (by rw [lei]; omega)
      rw [e1, (ct_75 hT).2.2.1]
    · have hp : r.toInt.toNat < n := by omega
      obtain ⟨σ1, e, so, nu, F, G, t1, t2, t3, t4⟩ := tk_S5 (a1 := r) (p := r.toInt.toNat) HS (by omega) (by omega) hT
      rw [sB, sn] at t2 t4
      obtain ⟨u1, u2, u3⟩ := tk_b5 t3
      have te1 := te_ltqq5 (B := B) (n := n) (p := r.toInt.toNat)
      have te2 := te_b5 (B := B) hp
      have hsk : (g5_skip e σ1).toInt = skqq5 B n false e.toInt.toNat := by
        rw [sk_S5 (u3 HS) (by omega) (by have w := t3.1 2; rw [w]; omega), u1, u2, sB, sn]
      have e1 : g5_cutTape_13 (mr + 1) r 0 σ = if so = 4 then g5_cutTape_58 (g5_cutTape_13 mr) (g5_skip e σ1) 1 σ1 else g5_cutTape_58 (g5_cutTape_13 mr) (g5_skip e σ1) 0 σ1 := by
        rw [g5_cutTape_13]
        dsimp only [pm5, pb5]
        rw [if_neg (by rw [lei]; omega), if_pos rfl, t1]
        dsimp only
        rw [t3.1 3, t3.1 4, hT, t3.2.2.2.1]
      have hs4 : (siU σ1 4 (σ1.1 4 + 1)).1 4 = Int32.ofNat (cnt + 1) := by
        rw [si1, if_pos rfl, t3.1 4, s4, on_15 (by omega)]
      have hs3 : (siU σ1 4 (σ1.1 4 + 1)).1 3 = Int32.ofNat Bk := by
        rw [si1, if_neg (by decide), t3.1 3, s3]
      have lw : (siU σ1 4 (σ1.1 4 + 1)).2.2.2 8 j = σ.2.2.2 8 j := t3.2.2.1 j (by omega)
      have sk3 := sk_leqq5 (B := B) (n := n) (p := e.toInt.toNat) (c := false) (by omega)
      have sk4 := sk_b5 (B := B) (n := n) (p := e.toInt.toNat) (c := false)
      rw [e1]
      by_cases k3 : so = 4
      · rw [if_pos k3]
        have e2 : g5_cutTape_58 (g5_cutTape_13 mr) (g5_skip e σ1) 1 σ1 = g5_cutTape_72 (siU σ1 4 (σ1.1 4 + 1)) := by
          unfold g5_cutTape_58
          dsimp only [pb5]
          obtain ⟨mr, rfl⟩ : ∃ k, mr = k + 1 := ⟨mr - 1, by omega⟩
          rw [g5_cutTape_13]
          by_cases z : (siU σ1 4 (σ1.1 4 + 1)).1 2 ≤ g5_skip e σ1
          · rw [if_pos z]
          · rw [if_neg z, if_neg (by decide)]
        rw [e2, (ct_75 (σ := siU σ1 4 (σ1.1 4 + 1)) (T := Bk + cnt + 1) (by rw [hs3, hs4, on_5 (by omega), cl_5 (by omega)]; omega)).2.2.1]
        exact lw
      · rw [if_neg k3]
        have e2 : g5_cutTape_58 (g5_cutTape_13 mr) (g5_skip e σ1) 0 σ1 = g5_cutTape_13 mr (g5_skip e σ1) 0 (siU σ1 4 (σ1.1 4 + 1)) := rfl
        rw [e2]
        have bb : bS5 (siU σ1 4 (σ1.1 4 + 1)) = B := by
          have z : bS5 (siU σ1 4 (σ1.1 4 + 1)) = bS5 σ1 := rfl
          rw [z, u1, sB]
        have n2' : (siU σ1 4 (σ1.1 4 + 1)).1 2 = σ.1 2 := by rw [si1, if_neg (by decide), t3.1 2]
        rw [cw_l6 hn2 hBk d mr (cnt + 1) (g5_skip e σ1) (siU σ1 4 (σ1.1 4 + 1)) (by unfold okS5 at HS ⊢; rw [n2']; exact HS) bb (by unfold nS5 at sn ⊢; rw [n2']; exact sn) hs3 hs4 (by omega) (by omega) (by omega) (by omega) (by omega) j hj]
        exact lw
theorem cut_l6 {σ : rS} {Bk : Nat} (HS : okS5 σ) (hBk : Bk ≤ 65537) (s3 : σ.1 3 = Int32.ofNat Bk) : ∀ j, (j < Bk ∨ Bk + 65536 < j) → (g5_cutTape σ).2.2.2 8 j = σ.2.2.2 8 j := fun j hj => by
  obtain ⟨n, sn⟩ : ∃ n, nS5 σ = n := ⟨_, rfl⟩
  have hsz : (σ.1 2).toInt = n := by have := HS.1; unfold nS5 at sn; omega
  have hn2 : n ≤ 65536 := by have := HS.2; omega
  unfold g5_cutTape
  dsimp only [pb5]
  have b1 : bS5 (siU σ 4 0) = bS5 σ := rfl
  have e2 : (siU σ 4 0).1 2 = σ.1 2 := rfl
  have o1 : okS5 (siU σ 4 0) := HS
  have hs := sk_S5 (a := 0) o1 (by decide) (by rw [e2, t0i]; exact HS.1)
  have z0 : (0 : Int32).toInt.toNat = 0 := rfl
  have nn : nS5 (siU σ 4 0) = n := sn
  rw [b1, nn, z0] at hs
  have sk4 := sk_b5 (B := bS5 σ) (n := n) (p := 0) (c := false)
  rw [cw_l6 hn2 hBk (n + 1) fu5 0 (g5_skip 0 (siU σ 4 0)) (siU σ 4 0) o1 b1 nn s3 rfl (by omega) (by omega) (by omega) (by omega) (by unfold fu5; omega) j hj]
  rfl
/-- a reading leaves the other half's long rows alone -/
theorem tell_l6 {σ : rS} (HS : okS5 σ) : ∀ j, (if σ.1 3 = 0 then j ≤ 65536 else 65537 ≤ j) → (g5_tellProgram σ).2.2.2 8 j = σ.2.2.2 8 j := fun j hj => by
  unfold g5_tellProgram
  rw [pb_e5, pb_e5, pb_e5, pb_e5, pb_e5, pb_e5, pb_e5, pb_e5, pb_e5, pb_e5]
  have s3 : (siU (siU (siU (siU (siU (siU (siU (siU (siU (siU σ 46 0) 47 0) 11 0) 12 0) 13 0) 15 0) 16 0) 17 0) 18 0) 19 0).1 3 = σ.1 3 := rfl
  rw [s3]
  by_cases c : σ.1 3 = 0
  · rw [if_pos c] at hj ⊢
    rw [kw_tell65]
    exact cut_l6 (σ := siU (siU (siU (siU (siU (siU (siU (siU (siU (siU (siU σ 46 0) 47 0) 11 0) 12 0) 13 0) 15 0) 16 0) 17 0) 18 0) 19 0) 3 65537) (Bk := 65537) HS (by decide) rfl j (by omega)
  · rw [if_neg c] at hj ⊢
    rw [kw_tell65]
    exact cut_l6 (σ := siU (siU (siU (siU (siU (siU (siU (siU (siU (siU (siU σ 46 0) 47 0) 11 0) 12 0) 13 0) 15 0) 16 0) 17 0) 18 0) 19 0) 3 0) (Bk := 0) HS (by decide) rfl j (by omega)

end
section
set_option maxHeartbeats 1600000
/-! the code of both sides between calls -/
def cu7 (κ : zS) (c : Nat) : E5 := (fun g => if g ∈ ci6 then zI κ g c else 0, fun g => if g = 506 ∨ g = 507 ∨ g = 508 then (fun j => if j < mb6 κ c g then zA κ (zR κ g c) j else 0) else if g ∈ cr6 then zA κ (zR κ g c) else fun _ => 0, fun _ => 0)
theorem ci_57 : ∀ g, g ∈ ci6 → g / 100 = 5 := by decide
/-- what leaves a code's fields and rows alone -/
theorem cu_f7 {C : zC} {n0 c : Nat} {κ τ : zS} {F : Nat → Nat → Prop} (W : zW C n0 κ) (T : zT κ c = 5) (Z : zF F κ τ) (h : ∀ f, f / 100 = 5 → ¬ F f c) : cu7 τ c = cu7 κ c := by
  have i : ∀ g, g / 100 = 5 → zI τ g c = zI κ g c := fun g q => Z.i (h g q)
  have b : ∀ g, mb6 τ c g = mb6 κ c g := fun g => by
    unfold mb6
    rw [i 513 (by decide), i 515 (by decide)]
  have a : ∀ g, ((g = 506 ∨ g = 507 ∨ g = 508) ∨ g ∈ cr6) → zA τ (zR τ g c) = zA κ (zR κ g c) := fun g hg => by
    obtain ⟨f1, f2⟩ := cr_t6 g hg
    exact (Z.row W f1 (by decide) (T.trans f2.symm) (h g f2)).1
  unfold cu7
  refine Prod.ext (funext fun g => ?_) (Prod.ext (funext fun g => ?_) rfl)
  · show (if g ∈ ci6 then zI τ g c else 0) = if g ∈ ci6 then zI κ g c else 0
    by_cases q : g ∈ ci6
    · rw [if_pos q, if_pos q, i g (ci_57 g q)]
    · rw [if_neg q, if_neg q]
  · show (if g = 506 ∨ g = 507 ∨ g = 508 then (fun j => if j < mb6 τ c g then zA τ (zR τ g c) j else 0) else if g ∈ cr6 then zA τ (zR τ g c) else fun _ => 0) = (if g = 506 ∨ g = 507 ∨ g = 508 then (fun j => if j < mb6 κ c g then zA κ (zR κ g c) j else 0) else if g ∈ cr6 then zA κ (zR κ g c) else fun _ => 0)
    by_cases q1 : g = 506 ∨ g = 507 ∨ g = 508
    · rw [if_pos q1, if_pos q1, a g (Or.inl q1), b]
    · rw [if_neg q1, if_neg q1]
      by_cases q2 : g ∈ cr6
      · rw [if_pos q2, if_pos q2, a g (Or.inr q2)]
      · rw [if_neg q2, if_neg q2]
theorem cu_a7 {κ : zS} {m c : Nat} : (∀ g, g < 600 → (am6 (ur κ maCode m c) m).1 g = (cu7 κ c).1 g) ∧ (∀ g, g < 600 → (am6 (ur κ maCode m c) m).2.1 g = (cu7 κ c).2.1 g) := by
  have rc : zR (ur κ maCode m c) maCode m = c := if_pos ⟨rfl, rfl⟩
  have ro : ∀ f b, f < 600 → zR (ur κ maCode m c) f b = zR κ f b := fun f b q => if_neg (fun y => absurd q (by rw [y.1]; decide))
  refine ⟨fun g hg => ?_, fun g hg => ?_⟩
  · show (if g ∈ ci6 then zI (ur κ maCode m c) g (zR (ur κ maCode m c) maCode m) else if g ∈ mi6 then zI (ur κ maCode m c) g m else 0) = if g ∈ ci6 then zI κ g c else 0
    by_cases q : g ∈ ci6
    · rw [if_pos q, if_pos q, rc]; rfl
    · rw [if_neg q, if_neg q, if_neg (fun y => ci_i6.2.2.1 g y hg)]
  · show (if g = 506 ∨ g = 507 ∨ g = 508 then (fun j => if j < mb6 (ur κ maCode m c) (zR (ur κ maCode m c) maCode m) g then zA (ur κ maCode m c) (zR (ur κ maCode m c) g (zR (ur κ maCode m c) maCode m)) j else 0) else if g ∈ cr6 then zA (ur κ maCode m c) (zR (ur κ maCode m c) g (zR (ur κ maCode m c) maCode m)) else if g ∈ mr6 then zA (ur κ maCode m c) (zR (ur κ maCode m c) g m) else fun _ => 0) = (if g = 506 ∨ g = 507 ∨ g = 508 then (fun j => if j < mb6 κ c g then zA κ (zR κ g c) j else 0) else if g ∈ cr6 then zA κ (zR κ g c) else fun _ => 0)
    rw [rc, ro g c hg]
    by_cases q : g = 506 ∨ g = 507 ∨ g = 508
    · rw [if_pos q, if_pos q]; rfl
    · rw [if_neg q, if_neg q]
      by_cases q2 : g ∈ cr6
      · rw [if_pos q2, if_pos q2]; rfl
      · rw [if_neg q2, if_neg q2, if_neg (fun y => ci_i6.2.2.2.2.2 g y hg)]
theorem cu_b7 {κ : zS} {p c : Nat} (hc : zR κ paCode p = c) : (∀ g, g < 600 → (cu7 κ c).1 g = (ab5 κ p).1 g) ∧ (∀ g, g < 600 → (cu7 κ c).2.1 g = (ab5 κ p).2.1 g) := by
  obtain ⟨a1, a2⟩ := ab_am6 (m := 0) hc
  obtain ⟨b1, b2⟩ := cu_a7 (κ := κ) (m := 0) (c := c)
  exact ⟨fun g hg => (b1 g hg).symm.trans (a1 g hg), fun g hg => (b2 g hg).symm.trans (a2 g hg)⟩
/-- the half of the token rows that a book lies in -/
def hf7 (b : Int32) (j : Nat) : Prop := if b = 0 then j ≤ 65536 else (65537 ≤ j ∧ j ≤ 131073)
abbrev kf7 : List Nat := [3, 14, 15, 16, 17, 18, 19, 40]
abbrev kz7 : List Nat := [5, 6, 7, 9, 20, 21, 22, 23, 24, 25, 26, 27, 28, 29, 30, 31, 32, 33, 34, 35, 36, 37, 38, 39]
/-- the reference's code stays -/
def kR7 (σ τ : rS) : Prop := (∀ g, g ∈ kf7 → τ.1 g = σ.1 g) ∧ (∀ p, p ∈ kPt → ∀ i, i < p.2.2 → τ.2.2.1 p.1 i = σ.2.2.1 p.1 i) ∧ (∀ k, k = 5 ∨ k = 6 ∨ k = 7 ∨ k = 9 ∨ k = 39 → ∀ j, hf7 (σ.1 3) j → τ.2.2.1 k j = σ.2.2.1 k j) ∧ (∀ j, hf7 (σ.1 3) j → τ.2.2.2 8 j = σ.2.2.2 8 j)
theorem kR_f7 {σ τ : rS} (hf : ∀ k, k ∈ kf7 → τ.1 k = σ.1 k) (hr : ∀ k, k ∈ kz7 → τ.2.2.1 k = σ.2.2.1 k) (hl : ∀ j, τ.2.2.2 8 j = σ.2.2.2 8 j) : kR7 σ τ := ⟨hf, fun p hp i _ => by rw [hr p.1 ((by decide : ∀ p, p ∈ kPt → p.1 ∈ kz7) p hp)], fun k hk j _ => by rw [hr k (by rcases hk with h | h | h | h | h <;> rw [h] <;> decide)], fun j _ => hl j⟩
/-- the code of both sides -/
def CR7 (nv s w : Nat) (e : E5) (σ : rS) : Prop := ∃ T X Bk N Z na f, (TR5 T X Bk N Z ∧ T.2.1 (N - 1) = 142) ∧ FN6 T Bk N nv na f s e (siU σ 11 0) ∧ sx5 σ = X ∧ (∀ k, k < f → ∃ n, n ≤ 4 ∧ σ.2.2.1 26 k = Int32.ofNat n) ∧ (nv ≤ w ∧ w ≤ 34 ∧ (w : Int) = nv + (e.1 511).toInt) ∧ σ.1 3 = Int32.ofNat Bk ∧ (Bk = 0 ∨ Bk = 65537)
theorem CR_76 {nv s w : Nat} {e e' : E5} {σ : rS} (h : CR7 nv s w e σ) (h1 : ∀ g, g < 600 → e'.1 g = e.1 g) (h2 : ∀ g, g < 600 → e'.2.1 g = e.2.1 g) (h3 : e'.2.2 705 = 256 ∧ e'.2.2 707 = 16 ∧ e'.2.2 701 = 142) : CR6 nv s w e' σ := by
  obtain ⟨T, X, Bk, N, Z, na, f, g1, g2, g3, g4, g5, _⟩ := h
  exact ⟨T, X, Bk, N, Z, na, f, g1, FN_x6 g2 ⟨⟨h1, h2, trivial⟩, fun _ _ => rfl, fun _ _ => rfl, rfl⟩, g3, g4, by rw [h1 511 (by decide)]; exact g5, h3⟩
/-- the token rows where they are read -/
theorem TR_x7 {T : T5} {X Y : X5} {Bk N : Nat} {Z : Int32} (h : TR5 T X Bk N Z) (q : ∀ t, t < N → Y.1 (Bk + t) = X.1 (Bk + t) ∧ Y.2.1 (Bk + t) = X.2.1 (Bk + t) ∧ Y.2.2.1 (Bk + t) = X.2.2.1 (Bk + t) ∧ Y.2.2.2.1 (Bk + t) = X.2.2.2.1 (Bk + t) ∧ Y.2.2.2.2 (Bk + t) = X.2.2.2.2 (Bk + t)) : TR5 T Y Bk N Z := by
  obtain ⟨h1, h2, h3, h4, h5, h6, h7, h8, h9⟩ := h
  refine ⟨h1, fun t ht => ?_, fun t ht => ?_, h4, fun t ht k => ?_, fun t u ht hu k1 k2 => ?_, h7, fun t ht k => ?_, h9⟩
  · rw [(q t ht).2.1]; exact h2 t ht
  · rw [(q t ht).1, (q t ht).2.2.1]; exact h3 t ht
  · rw [(q t ht).2.2.1]; exact h5 t ht k
  · rw [(q t ht).2.2.2.1, (q t ht).2.2.2.2, (q u hu).2.2.2.1, (q u hu).2.2.2.2]; exact h6 t u ht hu k1 k2
  · rw [(q t ht).2.2.2.1, (q t ht).2.2.2.2]; exact h8 t ht k
theorem CR_k7 {nv s w : Nat} {e : E5} {σ τ : rS} (h : CR7 nv s w e σ) (k : kR7 σ τ) : CR7 nv s w e τ := by
  obtain ⟨T, X, Bk, N, Z, na, f, ⟨g1, g0⟩, g2, g3, g4, ⟨w1, w2, w3⟩, b1, b2⟩ := h
  obtain ⟨k1, k2, k3, k4⟩ := k
  obtain ⟨⟨t1, t2, t3, t4⟩, _⟩ := id g1
  have hh : ∀ t, t < N → hf7 (σ.1 3) (Bk + t) := fun t ht => by
    unfold hf7
    rw [b1]
    rcases b2 with b2 | b2
    · rw [b2]
      rw [if_pos (show Int32.ofNat 0 = 0 from rfl)]
      omega
    · rw [b2]
      rw [if_neg (show ¬ Int32.ofNat 65537 = 0 by decide)]
      omega
  obtain ⟨⟨⟨a0, a1⟩, ⟨a2, a3⟩, ⟨a4, a5⟩, ⟨a6, a7⟩, i, i1, i2, i3, i4⟩, ⟨c0, c1, c2, c3, c4⟩, p3, p4, p5, p6, ⟨q1, q2, q3⟩, ⟨gl1, gl2, gl3, gl4, gl5⟩, R, r1, r2⟩ := g2
  have fl : ∀ g, g ∈ kf7 → g ≠ 11 → (siU τ 11 0).1 g = (siU σ 11 0).1 g := fun g q n => by
    rw [si1, si1, if_neg n, if_neg n]
    exact k1 g q
  have rw2 : ∀ (p : Nat × Nat × Nat), p ∈ kPt → ∀ i, i < p.2.2 → (siU τ 11 0).2.2.1 p.1 i = (siU σ 11 0).2.2.1 p.1 i := k2
  have n39 : ∀ t, t < N → (siU τ 11 0).2.2.1 39 (Bk + t) = (siU σ 11 0).2.2.1 39 (Bk + t) := fun t ht => k3 39 (by omega) _ (hh t ht)
  have m30 : ∀ i, i < 150 → (siU τ 11 0).2.2.1 30 i = (siU σ 11 0).2.2.1 30 i := rw2 (30, 157, 150) (by decide)
  have m31 : ∀ i, i < 150 → (siU τ 11 0).2.2.1 31 i = (siU σ 11 0).2.2.1 31 i := rw2 (31, 307, 150) (by decide)
  have m32 : ∀ i, i < 150 → (siU τ 11 0).2.2.1 32 i = (siU σ 11 0).2.2.1 32 i := rw2 (32, 457, 150) (by decide)
  have m33 : ∀ i, i < 150 → (siU τ 11 0).2.2.1 33 i = (siU σ 11 0).2.2.1 33 i := rw2 (33, 607, 150) (by decide)
  have m34 : ∀ i, i < 150 → (siU τ 11 0).2.2.1 34 i = (siU σ 11 0).2.2.1 34 i := rw2 (34, 757, 150) (by decide)
  have m37 : ∀ i, i < 150 → (siU τ 11 0).2.2.1 37 i = (siU σ 11 0).2.2.1 37 i := rw2 (37, 1207, 150) (by decide)
  have m38 : ∀ i, i < 150 → (siU τ 11 0).2.2.1 38 i = (siU σ 11 0).2.2.1 38 i := rw2 (38, 1357, 150) (by decide)
  have m26 : ∀ i, i < 10 → (siU τ 11 0).2.2.1 26 i = (siU σ 11 0).2.2.1 26 i := rw2 (26, 47, 10) (by decide)
  have m27 : ∀ i, i < 10 → (siU τ 11 0).2.2.1 27 i = (siU σ 11 0).2.2.1 27 i := rw2 (27, 57, 10) (by decide)
  have m29 : ∀ i, i < 10 → (siU τ 11 0).2.2.1 29 i = (siU σ 11 0).2.2.1 29 i := rw2 (29, 147, 10) (by decide)
  have m21 : ∀ i, i < 10 → (siU τ 11 0).2.2.1 21 i = (siU σ 11 0).2.2.1 21 i := rw2 (21, 18, 10) (by decide)
  have m23 : ∀ i, i < 3 → (siU τ 11 0).2.2.1 23 i = (siU σ 11 0).2.2.1 23 i := rw2 (23, 31, 3) (by decide)
  have m24 : ∀ i, i < 3 → (siU τ 11 0).2.2.1 24 i = (siU σ 11 0).2.2.1 24 i := rw2 (24, 34, 3) (by decide)
  refine ⟨T, sx5 τ, Bk, N, Z, na, f, ⟨TR_x7 g1 (fun t ht => ?_), g0⟩, ⟨⟨⟨a0, a1⟩, ⟨a2, a3⟩, ⟨a4, a5⟩, ⟨a6, a7⟩, i, i1, i2, by rw [fl 40 (by decide) (by decide)]; exact i3, i4⟩, ⟨by rw [si1, if_pos rfl], by rw [fl 15 (by decide) (by decide)]; exact c1, by rw [fl 16 (by decide) (by decide)]; exact c2, by rw [fl 18 (by decide) (by decide)]; exact c3, by rw [fl 19 (by decide) (by decide)]; exact c4⟩, fun j hj => ?_, fun j hj => ?_, fun j hj k5 => ?_, fun k hk => ?_, ⟨fun g hg => ?_, fun g hg => ?_, q3⟩, ⟨fun k hk => ?_, fun k hk => ?_, ?_, gl4, gl5⟩, R, r1, r2⟩, rfl, fun k hk => ?_, ⟨w1, w2, w3⟩, by rw [k1 3 (by decide)]; exact b1, b2⟩
  · rw [← g3]
    exact ⟨k3 5 (by omega) _ (hh t ht), k3 6 (by omega) _ (hh t ht), k3 7 (by omega) _ (hh t ht), k3 9 (by omega) _ (hh t ht), k4 _ (hh t ht)⟩
  · obtain ⟨z, z1, z2⟩ := p3 j hj
    exact ⟨z, z1, st_m6 z2 (cm_e6 rfl rfl rfl) (Nat.le_refl _) (Nat.le_refl _) (fun _ _ => rfl) (m30 j (by omega)) (m31 j (by omega)) (m32 j (by omega)) (fun t ht _ _ => n39 t (by omega))⟩
  · have l := p4 j hj
    unfold lf6 at l ⊢
    rw [m33 j (by omega), m34 j (by omega), m37 j (by omega), m38 j (by omega)]
    exact l
  · rw [m30 j (by omega)] at k5
    obtain ⟨t, k, u1, u2, u3, u4, u5, u6, u7, u8⟩ := p5 j hj k5
    exact ⟨t, k, u1, u2, u3, u4, by rw [m32 j (by omega)]; exact u5, u6, by rw [n39 t u1]; exact u7, u8⟩
  · rw [m26 k (by omega)]; exact p6 k hk
  · rw [m27 g (by omega)]; exact q1 g hg
  · rw [m29 g (by omega)]; exact q2 g hg
  · rw [m21 k (by omega)]; exact gl1 k hk
  · rw [m23 k (by omega), m24 k (by omega)]; exact gl2 k hk
  · rw [fl 17 (by decide) (by decide)]; exact gl3
  · have z := m26 k (by omega)
    have z2 : τ.2.2.1 26 k = σ.2.2.1 26 k := z
    rw [z2]; exact g4 k hk
/-- behind a good text of both sides -/
theorem CR_g7 {T : T5} {X : X5} {Bk N nv na f s : Nat} {Z : Int32} {e e2 : E5} {σ σ' : rS} (H : TR5 T X Bk N Z) (hE : T.2.1 (N - 1) = 142) (F : FN6 T Bk N nv na f s e2 σ) (hs : sx5 σ = X) (hb : Bk = 0 ∨ Bk = 65537) (h26 : eB (σ'.2.2.1 26) 0 5) (h1 : ∀ g, g < 600 → e.1 g = e2.1 g) (h2 : ∀ g, g < 600 → e.2.1 g = e2.2.1 g) (h3 : σ'.1 3 = Int32.ofNat Bk) (hf : ∀ g, g ∈ kf7 → g ≠ 3 → g ≠ 14 → σ'.1 g = σ.1 g) (hr : σ'.2 = σ.2) : ∃ w, CR7 nv s w e σ' := by
  obtain ⟨⟨⟨_, v1⟩, ⟨_, v2⟩, _⟩, _, _, _, _, _, _, ⟨_, _, _, g4, g5⟩, _⟩ := id F
  have e5 := h1 511 (by decide)
  have b0 : σ.1 11 = 0 := F.2.1.1
  refine ⟨nv + (e2.1 511).toInt.toNat, T, X, Bk, N, Z, na, f, ⟨H, hE⟩, FN_x6 F ⟨⟨h1, h2, trivial⟩, fun g q => ?_, fun g _ => by show σ'.2.2.1 g = σ.2.2.1 g; rw [hr], by show σ'.2.2.2 = σ.2.2.2; rw [hr]⟩, by rw [← hs]; unfold sx5; rw [hr], fun k _ => n26_6 h26 k, ⟨by omega, by omega, by rw [e5]; omega⟩, h3, hb⟩
  rw [si1]
  by_cases c : g = 11
  · rw [if_pos c, c]; exact b0.symm
  · rw [if_neg c]
    exact hf g (by rcases q with q | q | q | q | q | q | q <;> first | exact absurd q c | (rw [q]; decide)) (by omega) (by omega)

end
