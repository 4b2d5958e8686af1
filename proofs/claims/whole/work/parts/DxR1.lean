section
set_option maxHeartbeats 1600000
/-! the reference: places, choices, calls, draws -/
theorem findPlace_g5 {C : rCx} (hC : cOK C) (B T : Int32) {σ : rS} {a1 : Int32} {Q : rS → Prop} (hp : m1 σ B T ∧ 0 ≤ a1 ∧ a1 < σ.1 19 ∧ rd σ 30 a1 ≠ 5 ∧ ¬ 4 < rd σ 30 a1) (h : ∀ (σ' : rS), ((frG [10, 11, 12, 13, 47, 48, 49, 67] [50, 51, 52] σ σ' ∧ 0 ≤ σ'.1 47 ∧ (σ'.1 47 = 0 → m1 σ' B T ∧ plV (σ'.1 67))) ∧ g5_findPlace a1 σ = σ') → Q σ') : cV C 8 m_findPlace [.ref (co C), .int a1] σ Q := by
  refine m_findPlace_run hC ?_
  unfold w_findPlace_0
  obtain ⟨hm, h0, h1, h5, h4⟩ := hp
  have hs := tg_of (m1_st hm h0 h1) h5 h4
  have hT := m1_T hm
  have hj89 : ∀ (l3 : Int32) (s1 : Int32) (τ : rS), ((frG [10, 11, 12, 13, 47, 48, 49, 67] [50, 51, 52] σ τ ∧ 0 ≤ s1 ∧ (s1 = 0 → m1 τ B T ∧ 0 ≤ l3 ∧ l3 < 34)) ∧ g5_findPlace a1 σ = g5_findPlace_89 l3 s1 τ) → w_findPlace_89 C Q  l3 s1 τ := by
    rintro y89_3 y89_s1 τ89 ⟨j89, hE⟩
    unfold w_findPlace_89
    intro σ_1 hσ_1
    replace hE := rb_p5 hE hσ_1
    intro σ_2 hσ_2
    replace hE := rb_p5 hE hσ_2
    refine h _ ?_
    · refine and_5 ?_ (fun o9 => hE)  -- q1
      clear h hE; have e1 : ∀ k, k ≠ 47 → k ≠ 67 → σ_2.1 k = τ89.1 k := fun k z1 z2 => by rw [hσ_2, si1, if_neg z2, hσ_1, si1, if_neg z1]
      have e47 : σ_2.1 47 = y89_s1 := by rw [hσ_2, si1, if_neg (by decide), hσ_1, si1, if_pos rfl]
      have e67 : σ_2.1 67 = 400 + y89_3 := by rw [hσ_2, si1, if_pos rfl]
      have fr : frG [10, 11, 12, 13, 47, 48, 49, 67] [50, 51, 52] τ89 σ_2 := by rw [hσ_2, hσ_1]; exact frG_tr (frG_0 (by decide)) (frG_0 (by decide))
      refine ⟨frG_tr j89.1 fr, by rw [e47]; exact j89.2.1, fun z => ?_⟩
      rw [e47] at z
      obtain ⟨w1, w2, w3⟩ := j89.2.2 z
      exact ⟨m1_fr w1 (frG_mono fr (by decide) (by decide)) (e1 46 (by decide) (by decide)) (e1 58 (by decide) (by decide)) (e1 11 (by decide) (by decide)) (by rw [e47, z]; exact w1.2.2.2.2.1.symm) (e1 13 (by decide) (by decide)), by rw [e67]; exact pl_4 w2 w3⟩
  have hj27 : ∀ (s0 : Int32) (τ : rS), ((σ = τ ∧ tgV (σ.2.2.1 5) (σ.2.2.1 7) (σ.2.2.1 39) B T s0) ∧ g5_findPlace a1 σ = g5_findPlace_27 s0 τ) → w_findPlace_27 C Q  s0 τ := by
    rintro y27_s0 _ ⟨⟨rfl, j27⟩, hE⟩
    unfold w_findPlace_27
    refine ⟨ib_131074.mpr ?_, ?_⟩
    · clear h hE; exact ⟨Int32.le_trans hT.1 j27.1, Int32.lt_trans j27.2.1 hT.2⟩  -- b2
    intro σ_3 hσ_3
    replace hE := rb_p5 hE hσ_3
    have e67 : σ_3.1 67 = rd σ 39 y27_s0 := by rw [hσ_3, si1, if_pos rfl]
    have e3 : ∀ k, k ≠ 67 → σ_3.1 k = σ.1 k := fun k hk => by rw [hσ_3, si1, if_neg hk]
    have s3 : σ_3.2 = σ.2 := by rw [hσ_3, si2]
    have f3 : frG [10, 11, 12, 13, 47, 48, 49, 67] [50, 51, 52] σ σ_3 := by rw [hσ_3]; exact frG_0 (by decide)
    have m3 : m1 σ_3 B T := m1_fr hm (frG_mono f3 (by decide) (by decide)) (e3 46 (by decide)) (e3 58 (by decide)) (e3 11 (by decide)) (e3 47 (by decide)) (e3 13 (by decide))
    refine ⟨fun c4 => ?_, fun c4 => ?_⟩
    · skip
      replace hE := rb_t5 hE c4
      refine h _ ?_
      · refine and_5 ?_ (fun o9 => hE)  -- q3
        clear h hE; refine ⟨f3, by rw [m3.2.2.2.2.1]; decide, fun _ => ⟨m3, ?_⟩⟩
        rw [e67] at c4 ⊢
        rcases j27.2.2 with z | z
        · exact pl_V z
        · exact absurd c4 (fun y => vc_ge z.1 y)
    · skip
      replace hE := rb_f5 hE c4
      have hx : validC (rd σ 39 y27_s0) ∧ xO (σ.2.2.1 5) (σ.2.2.1 7) (σ.2.2.1 39) B T (y27_s0 + 2) := by
        rw [e67] at c4
        rcases j27.2.2 with z | z
        · exact absurd z (fun y => vv_lt y c4)
        · exact z
      refine work_g5 hC B T ?_ (fun r5 σ_6 q7 => ?_)
      · clear h hE; rw [s3]; exact ⟨m3, xO_w hx.2⟩  -- p4
      obtain ⟨q7, z9⟩ := q7
      replace hE := rb_m5 hE z9
      clear z9
      have f6 : frG [10, 11, 12, 13, 47, 48, 49, 67] [50, 51, 52] σ σ_6 := frG_tr f3 (frG_mono q7.1 (by decide) (by decide))
      have i6 := rI_fr m3.1 (xR_n q7.1)
      refine cellOf_g5 hC  ?_ (fun r8 q10 => ?_)
      · clear h hE; rw [e67]; exact ⟨hx.1, i6.1.2.2.1, i6.1.1⟩  -- p5
      obtain ⟨q10, z9⟩ := q10
      replace hE := rb_p5 hE z9
      clear z9
      refine ⟨fun c11 => ?_, fun c11 => ?_⟩
      · skip
        replace hE := rb_t5 hE c11
        refine ⟨fun c12 => ?_, fun c12 => ?_⟩
        · skip
          replace hE := rb_f5 hE c12
          refine hj89 _ _ _ ?_
          · refine and_5 ?_ (fun o9 => hE)  -- k6
            clear h hE; refine ⟨f6, by decide, fun _ => ⟨(q7.2.2.2 (le0 c11 q7.2.1)).1, ?_⟩⟩
            rcases q10 with z | z
            · exact absurd z c12
            · exact z
        · skip
          replace hE := rb_t5 hE c12
          refine hj89 _ _ _ ?_
          · refine and_5 ?_ (fun o9 => hE)  -- k7
            clear h hE; exact ⟨f6, by decide, fun z => absurd z (by decide)⟩
      · skip
        replace hE := rb_f5 hE c11
        refine hj89 _ _ _ ?_
        · refine and_5 ?_ (fun o9 => hE)  -- k8
          clear h hE; exact ⟨f6, q7.2.1, fun z => absurd (by rw [z]; decide) c11⟩
  have hE : g5_findPlace a1 σ = g5_findPlace a1 σ := rfl
  refine ⟨ib_150.mpr ?_, ?_⟩
  · clear h hE; exact ⟨h0, s150 hm.1 h1⟩  -- b9
  refine ⟨fun c13 => ?_, fun c13 => ?_⟩
  · skip
    replace hE := rb_f5 hE c13
    refine ⟨ib_150.mpr ?_, ?_⟩
    · clear h hE; exact ⟨h0, s150 hm.1 h1⟩  -- b10
    refine hj27 _ _ ?_
    · refine and_5 ?_ (fun o9 => hE)  -- k11
      clear h hE; exact ⟨rfl, hs.2 c13⟩
  · skip
    replace hE := rb_t5 hE c13
    refine ⟨ib_150.mpr ?_, ?_⟩
    · clear h hE; exact ⟨h0, s150 hm.1 h1⟩  -- b12
    refine hj27 _ _ ?_
    · refine and_5 ?_ (fun o9 => hE)  -- k13
      clear h hE; exact ⟨rfl, hs.1 c13⟩

theorem choose_g5 {C : rCx} (hC : cOK C) (B T : Int32) {σ : rS} {a1 : Int32} {Q : Int32 → rS → Prop} (hp : m1 σ B T ∧ 0 ≤ a1 ∧ a1 < σ.1 19 ∧ rd σ 30 a1 = 4) (h : ∀ (v : Int32) (σ' : rS), ((frG [10, 11, 12, 13, 47, 48, 49, 61, 63, 66] [50, 51, 52, 64, 65] σ σ' ∧ (v = 2 ∨ (v = 5 ∧ 1 ≤ σ'.1 63 ∧ σ'.1 63 ≤ 8 ∧ ∀ i, i < (σ'.1 63).toNatClampNeg → σ'.2.2.1 65 i = 1))) ∧ g5_choose a1 σ = (σ', v)) → Q v σ') : cI C 8 m_choose [.ref (co C), .int a1] σ Q := by
  refine m_choose_run hC ?_
  unfold w_choose_0
  obtain ⟨hm, h0, h1, h4⟩ := hp
  have hT := m1_T hm
  have hj31 : ∀  (τ : rS), ((frG xF xR σ τ) ∧ g5_choose a1 σ = g5_choose_31 τ) → w_choose_31 C Q   τ := by
    rintro  τ31 ⟨j31, hE⟩
    unfold w_choose_31
    refine ⟨fun c1 => ?_, fun c1 => ?_⟩
    · skip
      replace hE := rb_t5 hE c1
      refine fail_g5 hC  (fun r2 σ_3 q4 => ?_)
      obtain ⟨q4, z9⟩ := q4
      replace hE := rb_m5 hE z9
      clear z9
      refine h _ _ ?_
      · refine and_5 ?_ (fun o9 => hE)  -- q1
        clear h hE; exact ⟨frG_tr (frG_mono j31 (by decide) (by decide)) (frG_61 q4.1 (by decide)), Or.inl q4.2⟩
    · skip
      replace hE := rb_f5 hE c1
      refine fail_g5 hC  (fun r5 σ_6 q7 => ?_)
      obtain ⟨q7, z9⟩ := q7
      replace hE := rb_m5 hE z9
      clear z9
      refine h _ _ ?_
      · refine and_5 ?_ (fun o9 => hE)  -- q2
        clear h hE; exact ⟨frG_tr (frG_mono j31 (by decide) (by decide)) (frG_61 q7.1 (by decide)), Or.inl q7.2⟩
  have hE : g5_choose a1 σ = g5_choose a1 σ := rfl
  refine ⟨ib_150.mpr ?_, ?_⟩
  · clear h hE; exact ⟨h0, s150 hm.1 h1⟩  -- b3
  refine work_g5 hC B T ?_ (fun r8 σ_9 q10 => ?_)
  · clear h hE; exact ⟨hm, xO_w (st_4 (m1_st hm h0 h1) h4)⟩  -- p4
  obtain ⟨q10, z9⟩ := q10
  replace hE := rb_m5 hE z9
  clear z9
  refine ⟨fun c11 => ?_, fun c11 => ?_⟩
  · skip
    replace hE := rb_t5 hE c11
    refine hj31 _ ?_
    · refine and_5 ?_ (fun o9 => hE)  -- k5
      clear h hE; exact q10.1
  · skip
    replace hE := rb_f5 hE c11
    refine ⟨fun c12 => ?_, fun c12 => ?_⟩
    · skip
      replace hE := rb_t5 hE c12
      refine hj31 _ ?_
      · refine and_5 ?_ (fun o9 => hE)  -- k6
        clear h hE; exact q10.1
    · skip
      replace hE := rb_f5 hE c12
      refine ⟨fun c13 => ?_, fun c13 => ?_⟩
      · skip
        replace hE := rb_t5 hE c13
        intro σ_14 hσ_14
        replace hE := rb_p5 hE hσ_14
        unfold w_choose_58
        refine ⟨fun n l2 l3 τ => n = (l2 - l3).toNatClampNeg ∧ ((frG [10, 11, 12, 13, 47, 48, 49, 61, 63, 66] [50, 51, 52, 64, 65] σ τ ∧ 1 ≤ l2 ∧ l2 ≤ 8 ∧ τ.1 63 = l3 ∧ 0 ≤ l3 ∧ l3 ≤ l2 ∧ ∀ i, i < l3.toNatClampNeg → τ.2.2.1 65 i = 1) ∧ ∃ m5, n < m5 ∧ g5_choose a1 σ = g5_choose_58 m5 l2 l3 τ), ⟨_, rfl, ?_⟩, ?_⟩
        · refine and_5 ?_ (fun o9 => ⟨fu5, cnb5, hE⟩)  -- j7
          clear h hE; exact ⟨frG_tr (frG_mono q10.1 (by decide) (by decide)) (by rw [hσ_14]; exact frG_0 (by decide)), (n1 c12).1, c13, by rw [hσ_14, si1, if_pos rfl], by decide, (n1 c12).2, fun i i1 => absurd i1 (Nat.not_lt_zero i)⟩
        rintro n58 x58_2 x58_3 σ58 ⟨hn58, i58, mF58, hmF58, hE⟩
        obtain ⟨mF58, rfl⟩ : ∃ m9, mF58 = m9 + 1 := ⟨mF58 - 1, by clear h hE; omega⟩
        refine ⟨fun c15 => ?_, fun c15 => ?_⟩
        · skip
          replace hE := rb_t5 hE c15
          intro σ_16 hσ_16
          replace hE := rb_p5 hE hσ_16
          refine h _ _ ?_
          · refine and_5 ?_ (fun o9 => hE)  -- q8
            clear h hE; obtain ⟨g1, g2, g3, g4, g5, g6, g7⟩ := i58
            have e : x58_3 = x58_2 := Int32.le_antisymm g6 c15
            have e63 : σ_16.1 63 = x58_3 := by rw [hσ_16, si1, if_neg (by decide)]; exact g4
            refine ⟨frG_tr g1 (by rw [hσ_16]; exact frG_0 (by decide)), Or.inr ⟨rfl, by rw [e63, e]; exact g2, by rw [e63, e]; exact g3, fun i i1 => ?_⟩⟩
            rw [e63] at i1
            rw [hσ_16, si2]
            exact g7 i i1
        · skip
          replace hE := rb_f5 hE c15
          obtain ⟨g1, g2, g3, g4, g5, g6, g7⟩ := i58
          have u := up_n g5 c15 (Int32.le_trans g3 (by decide))
          refine outcome_g5 hC  ?_ (fun σ_17 q18 => ?_)
          · clear h hE; rw [g4]; exact ⟨g5, u.2.2.2.2.2⟩  -- p9
          obtain ⟨q18, z9⟩ := q18
          replace hE := rb_p5 hE z9.symm
          clear z9
          intro x19 hx19
          replace hE := rb_p5 hE hx19
          refine lp_b5 (cn_lt2 hn58 ?_ ?_) (fun d9 => ⟨rfl, ?_⟩)
          · clear h hE; rw [hx19]; exact u.1  -- d10
          · clear h hE; rw [hx19]; exact u.2.1  -- d11
          · refine and_5 ?_ (fun o9 => ⟨mF58, Nat.lt_of_lt_of_le d9 (Nat.le_of_lt_succ hmF58), hE⟩)  -- i12
            clear h hE d9 hmF58; rw [hx19]
            refine ⟨frG_tr g1 (frG_oc q18.1 (by decide) (by decide) (by decide)), g2, g3, by rw [q18.2.1, g4], u.2.2.1, u.2.2.2.1, fun i i1 => ?_⟩
            exact oc_ones g5 (Int32.lt_trans u.2.2.2.2.2 (by decide)) g4 q18.2.2.1 q18.2.2.2 g7 i i1
      · skip
        replace hE := rb_f5 hE c13
        refine hj31 _ ?_
        · refine and_5 ?_ (fun o9 => hE)  -- k13
          clear h hE; exact q10.1

theorem get_g5 {C : rCx} (hC : cOK C) (B T : Int32) {σ : rS} {a1 : Int32} {Q : Int32 → rS → Prop} (hp : rI σ B T ∧ csF σ ∧ plV (σ.1 67) ∧ 0 ≤ a1 ∧ a1 < 64) (h : ∀ (v : Int32) (σ' : rS), ((frG [58, 61] [57, 59, 60] σ σ' ∧ ((v = 0 ∧ csF σ') ∨ v = 1)) ∧ g5_get a1 σ = (σ', v)) → Q v σ') : cI C 3 m_get [.ref (co C), .int a1] σ Q := by
  refine m_get_run hC ?_
  unfold w_get_0
  obtain ⟨hI, hc, hv, h0, h1⟩ := hp
  have hE : g5_get a1 σ = g5_get a1 σ := rfl
  refine ⟨ib_64.mpr ?_, ?_⟩
  · clear h hE; exact ⟨h0, h1⟩  -- b1
  refine store_g5 hC  ?_ (fun σ_1 q2 => ?_)
  · clear h hE; exact pl_st hv hc.1.1 hc.1.2  -- p2
  obtain ⟨q2, z9⟩ := q2
  replace hE := rb_p5 hE z9.symm
  clear z9
  have hI1 : rI σ_1 B T := rI_fr hI (frG_S q2 (by decide) (by decide))
  have hc1 : csF σ_1 := csF_o hc (q2.2.2.1 59 (by decide) (by decide)) (q2.2.2.1 30 (by decide) (by decide)) (q2.1 19) (q2.1 58)
  refine ⟨ib_12.mpr ?_, ?_⟩
  · clear h hE; exact c_m1 hc1.1.1 hc1.1.2  -- b3
  refine ⟨ib_150.mpr ?_, ?_⟩
  · clear h hE; exact ⟨hc1.2.2.1, s150 hI1 hc1.2.2.2⟩  -- b4
  refine moveTo_g5 hC B T ?_ (fun r3 σ_4 q5 => ?_)
  · clear h hE; exact ⟨hI1, hc1.1.1, hc1.1.2, hc1.2.1, fun z => fl_b hI1 hc1.2.2.1 hc1.2.2.2 z⟩  -- p5
  obtain ⟨q5, z9⟩ := q5
  replace hE := rb_m5 hE z9
  clear z9
  refine h _ _ ?_
  · refine and_5 ?_ (fun o9 => hE)  -- q6
    clear h hE; exact ⟨frG_tr (frG_S q2 (by decide) (by decide)) q5.1, q5.2⟩

theorem call_g5 {C : rCx} (hC : cOK C) (B T : Int32) {σ : rS} {a1 : Int32} {Q : Int32 → rS → Prop} (hp : m1 σ B T ∧ csF σ ∧ a1 = rd σ 59 (σ.1 58 - 1) ∧ rd σ 30 a1 = 5) (h : ∀ (v : Int32) (σ' : rS), ((frG clFR9 clR σ σ' ∧ ((v = 0 ∧ csF σ') ∨ v = 1 ∨ v = 2)) ∧ g5_call a1 σ = (σ', v)) → Q v σ') : cI C 7 m_call [.ref (co C), .int a1] σ Q := by
  refine m_call_run hC ?_
  unfold w_call_0
  obtain ⟨hm, hc, ha, h5⟩ := hp
  have h0 : 0 ≤ a1 := by rw [ha]; exact hc.2.2.1
  have h1 : a1 < σ.1 19 := by rw [ha]; exact hc.2.2.2
  have hT := m1_T hm
  have hcO := stK_call (m1_st hm h0 h1) h5
  have hkO := hm.1.2.2.2.2.2.2.2.2.2.1 a1 h0 h1 h5
  have fb : 0 ≤ rd σ 39 (rd σ 32 a1) - 300 ∧ rd σ 39 (rd σ 32 a1) - 300 < σ.1 18 := by
    have t : tyF (σ.1 15) (σ.1 16) (σ.1 17) (σ.1 18) (σ.1 19) (σ.1 40) (σ.1 41) (σ.1 42) := hm.1.1.1
    exact f300c hkO.1 hkO.2.1 (f18_b t).1 (f18_b t).2
  have hj89 : ∀  (τ : rS), ((frG [10, 11, 12, 13, 47, 48, 49] [50, 51, 52, 68] σ τ) ∧ g5_call a1 σ = g5_call_89 τ) → w_call_89 C Q   τ := by
    rintro  τ89 ⟨j89, hE⟩
    unfold w_call_89
    refine ⟨fun c1 => ?_, fun c1 => ?_⟩
    · skip
      replace hE := rb_t5 hE c1
      refine fail_g5 hC  (fun r2 σ_3 q4 => ?_)
      obtain ⟨q4, z9⟩ := q4
      replace hE := rb_m5 hE z9
      clear z9
      refine h _ _ ?_
      · refine and_5 ?_ (fun o9 => hE)  -- q1
        clear h hE; exact ⟨frG_tr (frG_mono j89 (by decide) (by decide)) (frG_61 q4.1 (by decide)), Or.inr (Or.inr q4.2)⟩
    · skip
      replace hE := rb_f5 hE c1
      refine fail_g5 hC  (fun r5 σ_6 q7 => ?_)
      obtain ⟨q7, z9⟩ := q7
      replace hE := rb_m5 hE z9
      clear z9
      refine h _ _ ?_
      · refine and_5 ?_ (fun o9 => hE)  -- q2
        clear h hE; exact ⟨frG_tr (frG_mono j89 (by decide) (by decide)) (frG_61 q7.1 (by decide)), Or.inr (Or.inr q7.2)⟩
  have hj73 : ∀ (l3 : Int32) (τ : rS), ((frG [10, 11, 12, 13, 47, 48, 49] [50, 51, 52, 68] σ τ ∧ l3 = rd σ 39 (rd σ 32 a1) - 300) ∧ g5_call a1 σ = g5_call_73 l3 τ) → w_call_73 C Q  l3 τ := by
    rintro y73_3 τ73 ⟨j73, hE⟩
    unfold w_call_73
    refine ⟨fun c8 => ?_, fun c8 => ?_⟩
    · skip
      replace hE := rb_t5 hE c8
      refine hj89 _ ?_
      · refine and_5 ?_ (fun o9 => hE)  -- k3
        clear h hE; exact j73.1
    · skip
      replace hE := rb_f5 hE c8
      refine ⟨fun c9 => ?_, fun c9 => ?_⟩
      · skip
        replace hE := rb_f5 hE c9
        intro σ_10 hσ_10
        replace hE := rb_p5 hE hσ_10
        unfold w_call_122
        refine ⟨fun n l3 l4 τ => n = (8 - l4).toNatClampNeg ∧ ((frG [10, 11, 12, 13, 47, 48, 49, 58] [50, 51, 52, 60, 68] σ τ ∧ l3 = rd σ 39 (rd σ 32 a1) - 300 ∧ τ.1 58 = σ.1 58 + 1 ∧ ¬ σ.1 58 = 12 ∧ 0 ≤ l4 ∧ l4 ≤ 8) ∧ ∃ m5, n < m5 ∧ g5_call a1 σ = g5_call_122 m5 l3 l4 τ), ⟨_, rfl, ?_⟩, ?_⟩
        · refine and_5 ?_ (fun o9 => ⟨fu5, cnb5, hE⟩)  -- j4
          clear h hE; exact ⟨frG_tr (frG_mono j73.1 (by decide) (by decide)) (by rw [hσ_10]; exact frG_0 (by decide)), j73.2, by rw [hσ_10, si1, if_pos rfl, j73.1.1 58 (by decide)], by rw [← j73.1.1 58 (by decide)]; exact c9, by decide, by decide⟩
        rintro n122 x122_3 x122_4 σ122 ⟨hn122, i122, mF122, hmF122, hE⟩
        obtain ⟨mF122, rfl⟩ : ∃ m9, mF122 = m9 + 1 := ⟨mF122 - 1, by clear h hE; omega⟩
        have hj167 : ∀ (l3 : Int32) (l4 : Int32) (s1 : Int32) (s2 : Int32) (τ : rS), ((τ = σ122 ∧ l3 = x122_3 ∧ l4 = x122_4 ∧ ¬ 8 ≤ x122_4 ∧ s1 = 8 * (σ122.1 58 - 1) + x122_4) ∧ g5_call a1 σ = g5_call_167 (g5_call_122 mF122) l3 l4 s1 s2 τ) → w_call_167 C Q (fun l3' l4' τ => ∃ k < n122, (fun n l3 l4 τ => n = (8 - l4).toNatClampNeg ∧ ((frG [10, 11, 12, 13, 47, 48, 49, 58] [50, 51, 52, 60, 68] σ τ ∧ l3 = rd σ 39 (rd σ 32 a1) - 300 ∧ τ.1 58 = σ.1 58 + 1 ∧ ¬ σ.1 58 = 12 ∧ 0 ≤ l4 ∧ l4 ≤ 8) ∧ ∃ m5, n < m5 ∧ g5_call a1 σ = g5_call_122 m5 l3 l4 τ)) k l3' l4' τ) l3 l4 s1 s2 τ := by
          clear hE
          rintro y167_3 y167_4 y167_s1 y167_s2 τ167 ⟨j167, hE⟩
          unfold w_call_167
          obtain ⟨je, j1, j2, j3, j4⟩ := j167
          have cu := c_up hc.1.1 hc.1.2 i122.2.2.2.1
          have u := up8 i122.2.2.2.2.1 j3
          refine ⟨ib_96.mpr ?_, ?_⟩
          · clear h hE; rw [j4, i122.2.2.1]; exact c96 cu.1 cu.2.1 i122.2.2.2.2.1 u.2.2.2.2.1  -- b5
          intro σ_11 hσ_11
          replace hE := rb_p5 hE hσ_11
          intro x12 hx12
          replace hE := rb_p5 hE hx12
          refine lp_b5 (cn_lt2 hn122 ?_ ?_) (fun d9 => ⟨rfl, ?_⟩)
          · clear h hE; rw [hx12, j2]; exact u.1  -- d6
          · clear h hE; rw [hx12, j2]; exact u.2.1  -- d7
          · refine and_5 ?_ (fun o9 => ⟨mF122, Nat.lt_of_lt_of_le d9 (Nat.le_of_lt_succ hmF122), hE⟩)  -- i8
            clear h hE d9 hmF122; rw [hx12, j2, j1]; exact ⟨frG_tr i122.1 (by rw [hσ_11, je]; exact frG_1 (by decide)), i122.2.1, by rw [hσ_11, ri1, je]; exact i122.2.2.1, i122.2.2.2.1, u.2.2.1, u.2.2.2.1⟩
        refine ⟨fun c13 => ?_, fun c13 => ?_⟩
        · skip
          replace hE := rb_t5 hE c13
          refine ⟨ib_10.mpr ?_, ?_⟩
          · clear h hE; rw [i122.2.1]; exact ⟨fb.1, fn_10 hm.1 fb.2⟩  -- b9
          refine moveTo_g5 hC B T ?_ (fun r14 σ_15 q16 => ?_)
          · clear h hE; have cu := c_up hc.1.1 hc.1.2 i122.2.2.2.1
            refine ⟨rI_fr hm.1 (frG_mono i122.1 (by decide) (by decide)), by rw [i122.2.2.1]; exact cu.1, by rw [i122.2.2.1]; exact cu.2.1, ?_, fun z => ?_⟩
            · rw [i122.2.2.1, cu.2.2]
              exact csL_up hc ha h5 (i122.1.2.2.1 59 (by decide)) (i122.1.2.2.1 30 (by decide)) (i122.1.1 19 (by decide))
            · rw [i122.2.1, i122.1.2.2.1 29 (by decide)] at z ⊢
              rw [i122.1.1 19 (by decide)]
              exact fo_b hm.1 fb.1 fb.2 z
          obtain ⟨q16, z9⟩ := q16
          replace hE := rb_m5 hE z9
          clear z9
          refine h _ _ ?_
          · refine and_5 ?_ (fun o9 => hE)  -- q11
            clear h hE; refine ⟨frG_tr (frG_mono i122.1 (by decide) (by decide)) (frG_mono q16.1 (by decide) (by decide)), ?_⟩
            rcases q16.2 with z | z
            · exact Or.inl z
            · exact Or.inr (Or.inl z)
        · skip
          replace hE := rb_f5 hE c13
          refine ⟨ib_10.mpr ?_, ?_⟩
          · clear h hE; rw [i122.2.1]; exact ⟨fb.1, fn_10 hm.1 fb.2⟩  -- b12
          refine ⟨fun c17 => ?_, fun c17 => ?_⟩
          · skip
            replace hE := rb_t5 hE c17
            refine hj167 _ _ _ _ _ ?_
            · refine and_5 ?_ (fun o9 => hE)  -- k13
              clear h hE; exact ⟨rfl, rfl, rfl, c13, rfl⟩
          · skip
            replace hE := rb_f5 hE c17
            refine ⟨ib_4.mpr ?_, ?_⟩
            · clear h hE; exact ⟨i122.2.2.2.2.1, g4 ((rI_fr hm.1 (frG_mono i122.1 (by decide) (by decide))).1.2.1.2.2.2.2.1 _).2 c17⟩  -- b14
            refine hj167 _ _ _ _ _ ?_
            · refine and_5 ?_ (fun o9 => hE)  -- k15
              clear h hE; exact ⟨rfl, rfl, rfl, c13, rfl⟩
      · skip
        replace hE := rb_t5 hE c9
        refine hj89 _ ?_
        · refine and_5 ?_ (fun o9 => hE)  -- k16
          clear h hE; exact j73.1
  have hE : g5_call a1 σ = g5_call a1 σ := rfl
  refine ⟨ib_150.mpr ?_, ?_⟩
  · clear h hE; exact ⟨h0, s150 hm.1 h1⟩  -- b17
  intro x18 hx18
  replace hE := rb_p5 hE hx18
  refine ⟨ib_131074.mpr ?_, ?_⟩
  · clear h hE; rw [hx18]; exact ⟨Int32.le_trans hT.1 hcO.1, Int32.lt_trans hcO.2.1 hT.2⟩  -- b18
  intro x19 hx19
  replace hE := rb_p5 hE hx19
  intro σ_20 hσ_20
  replace hE := rb_p5 hE hσ_20
  unfold w_call_28
  refine ⟨fun n l3 l4 τ => n = (rd σ 26 (rd σ 39 (rd σ 32 a1) - 300) - l4).toNatClampNeg ∧ ((frG [10, 11, 12, 13, 47, 48, 49] [50, 51, 52, 68] σ τ ∧ l3 = rd σ 39 (rd σ 32 a1) - 300 ∧ 0 ≤ l4 ∧ l4 ≤ rd σ 26 l3 ∧ 0 ≤ τ.1 47 ∧ (τ.1 47 = 0 → m1 τ B T ∧ agL (σ.2.2.1 5) (σ.2.2.1 7) (σ.2.2.1 39) B T (rd σ 26 l3) l4 (τ.1 10))) ∧ ∃ m5, n < m5 ∧ g5_call a1 σ = g5_call_28 m5 l3 l4 τ), ⟨_, rfl, ?_⟩, ?_⟩
  · refine and_5 ?_ (fun o9 => ⟨fu5, cnb5, hE⟩)  -- j19
    clear h hE; have e20 : ∀ k, k ≠ 10 → σ_20.1 k = σ.1 k := fun k hk => by rw [hσ_20, si1, if_neg hk]
    have ex : x19 = rd σ 39 (rd σ 32 a1) - 300 := by rw [hx19, hx18]
    have f20 : frG [10, 11, 12, 13, 47, 48, 49] [50, 51, 52, 68] σ σ_20 := by rw [hσ_20]; exact frG_0 (by decide)
    have m20 : m1 σ_20 B T := m1_fr hm (frG_mono f20 (by decide) (by decide)) (e20 46 (by decide)) (e20 58 (by decide)) (e20 11 (by decide)) (e20 47 (by decide)) (e20 13 (by decide))
    have a20 : σ_20.1 10 = rd σ 32 a1 + 2 := by rw [hσ_20, si1, if_pos rfl, hx18]
    refine ⟨f20, ex, by decide, (hm.1.1.2.1.2.2.2.2.1 _).1, by rw [m20.2.2.2.2.1]; decide, fun _ => ⟨m20, ?_⟩⟩
    rw [a20, ex]
    exact ag_0 (lc_2 hT.1 hcO.1 hcO.2.1 hT.2) hkO.2.2
  rintro n28 x28_3 x28_4 σ28 ⟨hn28, i28, mF28, hmF28, hE⟩
  obtain ⟨mF28, rfl⟩ : ∃ m9, mF28 = m9 + 1 := ⟨mF28 - 1, by clear h hE; omega⟩
  refine ⟨ib_10.mpr ?_, ?_⟩
  · clear h hE; rw [i28.2.1]; exact ⟨fb.1, fn_10 hm.1 fb.2⟩  -- b20
  refine ⟨fun c21 => ?_, fun c21 => ?_⟩
  · skip
    replace hE := rb_t5 hE c21
    refine hj73 _ _ ?_
    · refine and_5 ?_ (fun o9 => hE)  -- k21
      clear h hE; exact ⟨i28.1, i28.2.1⟩
  · skip
    replace hE := rb_f5 hE c21
    refine ⟨fun c22 => ?_, fun c22 => ?_⟩
    · skip
      replace hE := rb_f5 hE c22
      refine hj73 _ _ ?_
      · refine and_5 ?_ (fun o9 => hE)  -- k22
        clear h hE; exact ⟨i28.1, i28.2.1⟩
    · skip
      replace hE := rb_t5 hE c22
      obtain ⟨y1, y2, y3, y4, y5, y6⟩ := i28
      have c21' : ¬ rd σ 26 x28_3 ≤ x28_4 := by rw [rd, ← y1.2.2.1 26 (by decide)]; exact c21
      obtain ⟨w1, w2⟩ := y6 c22
      obtain ⟨hB, m, hmn, hg⟩ := w2 (Int32.not_le.mp c21')
      obtain ⟨e, e1, e2, e3, e4⟩ := gB_e hg
      have r26 := (hm.1.1.2.1.2.2.2.2.1 x28_3.toNatClampNeg).2
      have gd := g_dn r26 y3 c21'
      refine expr1_g5 hC B T ?_ (fun r23 σ_24 q25 => ?_)
      · clear h hE; exact ⟨w1, hB, Int32.le_trans e2 (Int32.le_of_lt e3), e, by rw [y1.2.2.1 5 (by decide), y1.2.2.1 7 (by decide), y1.2.2.1 39 (by decide)]; exact e1⟩  -- p23
      obtain ⟨q25, z9⟩ := q25
      replace hE := rb_m5 hE z9
      clear z9
      refine ⟨ib_4.mpr ?_, ?_⟩
      · clear h hE; exact ⟨y3, g4 r26 c21'⟩  -- b24
      intro σ_26 hσ_26
      replace hE := rb_p5 hE hσ_26
      intro σ_27 hσ_27
      replace hE := rb_p5 hE hσ_27
      intro x28 hx28
      replace hE := rb_p5 hE hx28
      refine lp_b5 (cn_lt2 hn28 ?_ ?_) (fun d9 => ⟨rfl, ?_⟩)
      · clear h hE; rw [hx28, ← y2]; exact gd.1  -- d25
      · clear h hE; rw [hx28, ← y2]; exact gd.2.1  -- d26
      · refine and_5 ?_ (fun o9 => ⟨mF28, Nat.lt_of_lt_of_le d9 (Nat.le_of_lt_succ hmF28), hE⟩)  -- i27
        clear h hE d9 hmF28; have f27 : frG [10, 11, 12, 13, 47, 48, 49] [50, 51, 52, 68] σ_24 σ_27 := by rw [hσ_27, hσ_26]; exact frG_tr (frG_1 (by decide)) (frG_0 (by decide))
        have k27 : ∀ k, k ≠ 10 → σ_27.1 k = σ_24.1 k := fun k hk => by rw [hσ_27, si1, if_neg hk, hσ_26, ri1]
        have a27 : σ_27.1 10 = σ_24.1 10 + 1 := by rw [hσ_27, si1, if_pos rfl, hσ_26, ri1]
        rw [hx28]
        refine ⟨frG_tr y1 (frG_tr (frG_mono q25.1 (by decide) (by decide)) f27), y2, gd.2.2.1, gd.2.2.2.1, by rw [k27 47 (by decide)]; exact q25.2.1, fun z => ?_⟩
        rw [k27 47 (by decide)] at z
        obtain ⟨v1, v2⟩ := q25.2.2.2 z
        have ae : σ_24.1 10 = e := v2 e (by rw [y1.2.2.1 5 (by decide), y1.2.2.1 7 (by decide), y1.2.2.1 39 (by decide)]; exact e1)
        have eu := e_up e3 hT.2
        refine ⟨m1_fr v1 (frG_mono f27 (by decide) (by decide)) (k27 46 (by decide)) (k27 58 (by decide)) (k27 11 (by decide)) (k27 47 (by decide)) (k27 13 (by decide)), ?_⟩
        rw [a27, ae]
        exact ag_s (Int32.le_trans hB (Int32.le_trans e2 (Int32.le_of_lt eu.1))) hmn e4 y3 gd.2.2.2.2 gd.2.2.1

theorem draw_g5 {C : rCx} (hC : cOK C) (B T : Int32) {σ : rS} {a1 : Int32} {Q : Int32 → rS → Prop} (hp : m1 σ B T ∧ 0 ≤ a1 ∧ a1 < σ.1 19 ∧ rd σ 30 a1 = 3) (h : ∀ (v : Int32) (σ' : rS), ((frG dwF dwR σ σ' ∧ (v = 2 ∨ (v = 4 ∧ oW σ'))) ∧ g5_draw a1 σ = (σ', v)) → Q v σ') : cI C 8 m_draw [.ref (co C), .int a1] σ Q := by
  refine m_draw_run hC ?_
  unfold w_draw_0
  obtain ⟨hm, h0, h1, h3⟩ := hp
  have hT := m1_T hm
  obtain ⟨hB, hx, hd⟩ := st_3 (m1_st hm h0 h1) h3
  have hj329 : ∀  (τ : rS), ((frG dwF dwR σ τ) ∧ g5_draw a1 σ = g5_draw_329 τ) → w_draw_329 C Q   τ := by
    rintro  τ329 ⟨j329, hE⟩
    unfold w_draw_329
    refine fail_g5 hC  (fun r1 σ_2 q3 => ?_)
    obtain ⟨q3, z9⟩ := q3
    replace hE := rb_m5 hE z9
    clear z9
    refine h _ _ ?_
    · refine and_5 ?_ (fun o9 => hE)  -- q1
      clear h hE; exact ⟨frG_tr j329 (frG_61 q3.1 (by decide)), Or.inl q3.2⟩
  have hj228 : ∀  (τ : rS), ((frG dwF dwR σ τ ∧ oP τ) ∧ g5_draw a1 σ = g5_draw_228 τ) → w_draw_228 C Q   τ := by
    rintro  τ228 ⟨j228, hE⟩
    unfold w_draw_228
    intro σ_4 hσ_4
    replace hE := rb_p5 hE hσ_4
    unfold w_draw_239
    refine ⟨fun n l4 l5 τ => n = (τ228.1 63 - l5).toNatClampNeg ∧ ((frG dwF dwR σ τ ∧ oP τ ∧ τ.1 63 = τ228.1 63 ∧ 0 ≤ l5 ∧ l5 ≤ τ228.1 63 ∧ (l4 ≠ 0 → (∀ i, i < l5.toNatClampNeg → 0 ≤ τ.2.2.1 65 i ∧ τ.2.2.1 65 i ≤ 1000000) ∧ (τ.1 66).toInt = wsum (τ.2.2.1 65) l5.toNatClampNeg)) ∧ ∃ m5, n < m5 ∧ g5_draw a1 σ = g5_draw_239 m5 l4 l5 τ), ⟨_, rfl, ?_⟩, ?_⟩
    · refine and_5 ?_ (fun o9 => ⟨fu5, cnb5, hE⟩)  -- j2
      clear h hE; refine ⟨frG_tr j228.1 (by rw [hσ_4]; exact frG_0 (by decide)), oP_o j228.2 (by rw [hσ_4, si1, if_neg (by decide)]) (by rw [hσ_4, si2]), by rw [hσ_4, si1, if_neg (by decide)], by decide, j228.2.1, fun _ => ⟨fun i i1 => absurd i1 (Nat.not_lt_zero i), by rw [hσ_4, si1, if_pos rfl]; rfl⟩⟩
    rintro n239 x239_4 x239_5 σ239 ⟨hn239, i239, mF239, hmF239, hE⟩
    obtain ⟨mF239, rfl⟩ : ∃ m9, mF239 = m9 + 1 := ⟨mF239 - 1, by clear h hE; omega⟩
    have hj275 : ∀ (l5 : Int32) (s0 : Int32) (τ : rS), ((τ = σ239 ∧ l5 = x239_5 ∧ ¬ σ239.1 63 ≤ x239_5 ∧ (s0 ≠ 0 → x239_4 ≠ 0 ∧ 0 ≤ rd σ239 65 x239_5 ∧ rd σ239 65 x239_5 ≤ 1000000)) ∧ g5_draw a1 σ = g5_draw_275 (g5_draw_239 mF239) l5 s0 τ) → w_draw_275 C Q (fun l4' l5' τ => ∃ k < n239, (fun n l4 l5 τ => n = (τ228.1 63 - l5).toNatClampNeg ∧ ((frG dwF dwR σ τ ∧ oP τ ∧ τ.1 63 = τ228.1 63 ∧ 0 ≤ l5 ∧ l5 ≤ τ228.1 63 ∧ (l4 ≠ 0 → (∀ i, i < l5.toNatClampNeg → 0 ≤ τ.2.2.1 65 i ∧ τ.2.2.1 65 i ≤ 1000000) ∧ (τ.1 66).toInt = wsum (τ.2.2.1 65) l5.toNatClampNeg)) ∧ ∃ m5, n < m5 ∧ g5_draw a1 σ = g5_draw_239 m5 l4 l5 τ)) k l4' l5' τ) l5 s0 τ := by
      clear hE
      rintro y275_5 y275_s0 τ275 ⟨j275, hE⟩
      unfold w_draw_275
      obtain ⟨je, j1, j2', j3⟩ := j275
      have c' : ¬ τ228.1 63 ≤ x239_5 := by rw [← i239.2.2.1]; exact j2'
      have u := up_n i239.2.2.2.1 c' j228.2.2.1
      refine ⟨ib_64.mpr ?_, ?_⟩
      · clear h hE; rw [j1]; exact ⟨i239.2.2.2.1, u.2.2.2.2.2⟩  -- b3
      intro σ_5 hσ_5
      replace hE := rb_p5 hE hσ_5
      intro x6 hx6
      replace hE := rb_p5 hE hx6
      refine lp_b5 (cn_lt2 hn239 ?_ ?_) (fun d9 => ⟨rfl, ?_⟩)
      · clear h hE; rw [hx6, j1]; exact u.1  -- d4
      · clear h hE; rw [hx6, j1]; exact u.2.1  -- d5
      · refine and_5 ?_ (fun o9 => ⟨mF239, Nat.lt_of_lt_of_le d9 (Nat.le_of_lt_succ hmF239), hE⟩)  -- i6
        clear h hE d9 hmF239; rw [hx6, j1]
        have s5 : σ_5.2 = σ239.2 := by rw [hσ_5, si2, je]
        have e63 : σ_5.1 63 = σ239.1 63 := by rw [hσ_5, si1, if_neg (by decide), je]
        have e66 : σ_5.1 66 = σ239.1 66 + rd σ239 65 x239_5 := by rw [hσ_5, si1, if_pos rfl, je, j1]
        refine ⟨frG_tr i239.1 (by rw [hσ_5, je]; exact frG_0 (by decide)), oP_o i239.2.1 e63 (by rw [s5]), e63.trans i239.2.2.1, u.2.2.1, u.2.2.2.1, fun z => ?_⟩
        obtain ⟨w1, w2, w3⟩ := j3 z
        obtain ⟨v1, v2⟩ := i239.2.2.2.2.2 w1
        have st := ws_step i239.2.2.2.1 u.2.2.2.2.2 v1 v2 w2 w3
        rw [s5, e66]
        exact ⟨st.2, st.1⟩
    refine ⟨fun c7 => ?_, fun c7 => ?_⟩
    · skip
      replace hE := rb_t5 hE c7
      refine ⟨fun c8 => ?_, fun c8 => ?_⟩
      · skip
        replace hE := rb_t5 hE c8
        refine ⟨fun c9 => ?_, fun c9 => ?_⟩
        · skip
          replace hE := rb_t5 hE c9
          refine hj329 _ ?_
          · refine and_5 ?_ (fun o9 => hE)  -- k7
            clear h hE; exact i239.1
        · skip
          replace hE := rb_f5 hE c9
          refine ⟨fun c10 => ?_, fun c10 => ?_⟩
          · skip
            replace hE := rb_f5 hE c10
            refine h _ _ ?_
            · refine and_5 ?_ (fun o9 => hE)  -- q8
              clear h hE; obtain ⟨v1, v2⟩ := i239.2.2.2.2.2 c9
              refine ⟨i239.1, Or.inr ⟨rfl, oW_of i239.2.1 ?_ v1 v2 c10⟩⟩
              exact Int32.le_antisymm (by rw [i239.2.2.1]; exact i239.2.2.2.2.1) c7
          · skip
            replace hE := rb_t5 hE c10
            refine hj329 _ ?_
            · refine and_5 ?_ (fun o9 => hE)  -- k9
              clear h hE; exact i239.1
      · skip
        replace hE := rb_f5 hE c8
        refine fail_g5 hC  (fun r11 σ_12 q13 => ?_)
        obtain ⟨q13, z9⟩ := q13
        replace hE := rb_m5 hE z9
        clear z9
        refine h _ _ ?_
        · refine and_5 ?_ (fun o9 => hE)  -- q10
          clear h hE; exact ⟨frG_tr i239.1 (frG_61 q13.1 (by decide)), Or.inl q13.2⟩
    · skip
      replace hE := rb_f5 hE c7
      refine ⟨fun c14 => ?_, fun c14 => ?_⟩
      · skip
        replace hE := rb_t5 hE c14
        refine hj275 _ _ _ ?_
        · refine and_5 ?_ (fun o9 => hE)  -- k11
          clear h hE; exact ⟨rfl, rfl, c7, fun z => absurd rfl z⟩
      · skip
        replace hE := rb_f5 hE c14
        refine ⟨ib_64.mpr ?_, ?_⟩
        · clear h hE; exact ⟨i239.2.2.2.1, (up_n i239.2.2.2.1 (by rw [← i239.2.2.1]; exact c7) j228.2.2.1).2.2.2.2.2⟩  -- b12
        refine within_g5 hC  (fun r15 q17 => ?_)
        obtain ⟨q17, z9⟩ := q17
        replace hE := rb_p5 hE z9
        clear z9
        refine ⟨fun c18 => ?_, fun c18 => ?_⟩
        · skip
          replace hE := rb_t5 hE c18
          refine hj275 _ _ _ ?_
          · refine and_5 ?_ (fun o9 => hE)  -- k13
            clear h hE; exact ⟨rfl, rfl, c7, fun z => absurd rfl z⟩
        · skip
          replace hE := rb_f5 hE c18
          refine hj275 _ _ _ ?_
          · refine and_5 ?_ (fun o9 => hE)  -- k14
            clear h hE; exact ⟨rfl, rfl, c7, fun _ => ⟨c14, q17.2.mp c18⟩⟩
  have hj65 : ∀  (τ : rS), ((frG dwF dwR σ τ) ∧ g5_draw a1 σ = g5_draw_65 τ) → w_draw_65 C Q   τ := by
    rintro  τ65 ⟨j65, hE⟩
    unfold w_draw_65
    refine ⟨fun c19 => ?_, fun c19 => ?_⟩
    · skip
      replace hE := rb_t5 hE c19
      refine fail_g5 hC  (fun r20 σ_21 q22 => ?_)
      obtain ⟨q22, z9⟩ := q22
      replace hE := rb_m5 hE z9
      clear z9
      refine h _ _ ?_
      · refine and_5 ?_ (fun o9 => hE)  -- q15
        clear h hE; exact ⟨frG_tr j65 (frG_61 q22.1 (by decide)), Or.inl q22.2⟩
    · skip
      replace hE := rb_f5 hE c19
      refine fail_g5 hC  (fun r23 σ_24 q25 => ?_)
      obtain ⟨q25, z9⟩ := q25
      replace hE := rb_m5 hE z9
      clear z9
      refine h _ _ ?_
      · refine and_5 ?_ (fun o9 => hE)  -- q16
        clear h hE; exact ⟨frG_tr j65 (frG_61 q25.1 (by decide)), Or.inl q25.2⟩
  have hE : g5_draw a1 σ = g5_draw a1 σ := rfl
  intro σ_26 hσ_26
  replace hE := rb_p5 hE hσ_26
  refine ⟨ib_150.mpr ?_, ?_⟩
  · clear h hE; exact ⟨h0, s150 hm.1 h1⟩  -- b17
  intro σ_27 hσ_27
  replace hE := rb_p5 hE hσ_27
  have e27 : ∀ k, k ≠ 63 → k ≠ 10 → σ_27.1 k = σ.1 k := fun k z1 z2 => by rw [hσ_27, si1, if_neg z2, hσ_26, si1, if_neg z1]
  have s27 : σ_27.2 = σ.2 := by rw [hσ_27, si2, hσ_26, si2]
  have a27 : σ_27.1 10 = rd σ 32 a1 := by rw [hσ_27, si1, if_pos rfl, hσ_26, si2]
  have z27 : σ_27.1 63 = 0 := by rw [hσ_27, si1, if_neg (by decide), hσ_26, si1, if_pos rfl]
  have f27 : frG dwF dwR σ σ_27 := by rw [hσ_27, hσ_26]; exact frG_tr (frG_0 (by decide)) (frG_0 (by decide))
  have m27 : m1 σ_27 B T := m1_fr hm (frG_mono f27 (by decide) (by decide)) (e27 46 (by decide) (by decide)) (e27 58 (by decide) (by decide)) (e27 11 (by decide) (by decide)) (e27 47 (by decide) (by decide)) (e27 13 (by decide) (by decide))
  have x2 := lc_2 hT.1 hB hx hT.2
  refine isWord_g5 hC  ?_ (fun r28 q30 => ?_)
  · clear h hE; rw [a27]; exact ⟨Int32.le_trans hT.1 hB, Int32.lt_trans hx hT.2⟩  -- p18
  obtain ⟨q30, z9⟩ := q30
  replace hE := rb_p5 hE z9
  clear z9
  refine isWord_g5 hC  ?_ (fun r31 q33 => ?_)
  · clear h hE; rw [a27]; exact ⟨Int32.le_trans hT.1 hB, Int32.lt_trans hx hT.2⟩  -- p19
  obtain ⟨q33, z9⟩ := q33
  replace hE := rb_p5 hE z9
  clear z9
  have w11 : r28 ≠ 0 ↔ σ.2.2.1 5 (rd σ 32 a1).toNatClampNeg = 6 ∧ σ.2.2.1 7 (rd σ 32 a1).toNatClampNeg = 11 := by rw [q30.2, rd, rd, s27, a27]
  have w12 : r31 ≠ 0 ↔ σ.2.2.1 5 (rd σ 32 a1).toNatClampNeg = 6 ∧ σ.2.2.1 7 (rd σ 32 a1).toNatClampNeg = 12 := by rw [q33.2, rd, rd, s27, a27]
  refine ⟨fun c34 => ?_, fun c34 => ?_⟩
  · skip
    replace hE := rb_t5 hE c34
    refine ⟨fun c35 => ?_, fun c35 => ?_⟩
    · skip
      replace hE := rb_t5 hE c35
      unfold w_draw_162
      refine ⟨fun n l4 τ => n = eMs (τ.1 47) 0 (if l4 = 0 then 2 else 0) (τ.1 10) T ∧ ((frG dwF dwR σ τ ∧ 0 ≤ τ.1 47 ∧ (B ≤ τ.1 10 ∧ τ.1 10 ≤ T) ∧ 0 ≤ τ.1 63 ∧ τ.1 63 ≤ 8 ∧ (τ.1 47 = 0 → m1 τ B T ∧ (l4 ≠ 0 → ∃ k, k + (τ.1 63).toNatClampNeg < 8 ∧ prB (σ.2.2.1 5) (σ.2.2.1 7) (σ.2.2.1 39) T k (τ.1 10)))) ∧ ∃ m5, n < m5 ∧ g5_draw a1 σ = g5_draw_162 m5 l4 τ), ⟨_, rfl, ?_⟩, ?_⟩
      · refine and_5 ?_ (fun o9 => ⟨fu5, by first | exact eMs_5 | (clear h hE; unfold fu5; omega), hE⟩)  -- j20
        clear h hE; refine ⟨f27, by rw [m27.2.2.2.2.1]; decide, ⟨by rw [a27]; exact hB, by rw [a27]; exact Int32.le_of_lt hx⟩, by rw [z27]; decide, by rw [z27]; decide, fun _ => ⟨m27, fun _ => ?_⟩⟩
        obtain ⟨k, hk, hpr⟩ := hd.2.2 (fun z => by
          rcases z.2 with y | y
          · exact w11.mpr ⟨z.1, y⟩ c34
          · exact w12.mpr ⟨z.1, y⟩ c35)
        exact ⟨k, by rw [z27]; exact hk, by rw [a27]; exact hpr⟩
      rintro n162 x162_4 σ162 ⟨hn162, i162, mF162, hmF162, hE⟩
      obtain ⟨mF162, rfl⟩ : ∃ m9, mF162 = m9 + 1 := ⟨mF162 - 1, by clear h hE; omega⟩
      have hj207 : ∀ (l5 : Int32) (s0 : Int32) (τ : rS), ((frG dwF dwR σ τ ∧ 0 ≤ τ.1 47 ∧ (B ≤ τ.1 10 ∧ τ.1 10 ≤ T) ∧ τ.1 63 = σ162.1 63 ∧ 0 ≤ σ162.1 63 ∧ σ162.1 63 < 8 ∧ σ162.1 47 = 0 ∧ x162_4 ≠ 0 ∧ (τ.1 47 = 0 → m1 τ B T ∧ σ162.1 10 < τ.1 10 ∧ (sg (σ.2.2.1 5) (σ.2.2.1 7) (τ.1 10) 44 → ∃ k, k + (σ162.1 63).toNatClampNeg + 1 < 8 ∧ prB (σ.2.2.1 5) (σ.2.2.1 7) (σ.2.2.1 39) T k (τ.1 10)))) ∧ g5_draw a1 σ = g5_draw_207 (g5_draw_162 mF162) l5 s0 τ) → w_draw_207 C Q (fun l4' τ => ∃ k < n162, (fun n l4 τ => n = eMs (τ.1 47) 0 (if l4 = 0 then 2 else 0) (τ.1 10) T ∧ ((frG dwF dwR σ τ ∧ 0 ≤ τ.1 47 ∧ (B ≤ τ.1 10 ∧ τ.1 10 ≤ T) ∧ 0 ≤ τ.1 63 ∧ τ.1 63 ≤ 8 ∧ (τ.1 47 = 0 → m1 τ B T ∧ (l4 ≠ 0 → ∃ k, k + (τ.1 63).toNatClampNeg < 8 ∧ prB (σ.2.2.1 5) (σ.2.2.1 7) (σ.2.2.1 39) T k (τ.1 10)))) ∧ ∃ m5, n < m5 ∧ g5_draw a1 σ = g5_draw_162 m5 l4 τ)) k l4' τ) l5 s0 τ := by
        clear hE
        rintro y207_5 y207_s0 τ207 ⟨j207, hE⟩
        unfold w_draw_207
        obtain ⟨j1, j2, j3, j4, j5, j6, j7, j8, j9⟩ := j207
        have u := up88 j5 j6
        refine outcome_g5 hC  ?_ (fun σ_36 q37 => ?_)
        · clear h hE; rw [j4]; exact ⟨j5, u.2.2.1⟩  -- p21
        obtain ⟨q37, z9⟩ := q37
        replace hE := rb_p5 hE z9.symm
        clear z9
        have a36 : σ_36.1 10 = τ207.1 10 := q37.1.1 10 (by decide)
        have g36 : σ_36.1 47 = τ207.1 47 := q37.1.1 47 (by decide)
        have f36 : frG dwF dwR σ σ_36 := frG_tr j1 (frG_oc q37.1 (by decide) (by decide) (by decide))
        have n36 : σ_36.1 63 = σ162.1 63 + 1 := by rw [q37.2.1, j4]
        refine isAt_g5 hC  ?_ (fun r38 q40 => ?_)
        · clear h hE; rw [a36]; exact ⟨Int32.le_trans hT.1 j3.1, Int32.lt_of_le_of_lt j3.2 hT.2⟩  -- p22
        obtain ⟨q40, z9⟩ := q40
        replace hE := rb_p5 hE z9
        clear z9
        refine lp_b5 ?_ (fun d9 => ⟨rfl, ?_⟩)
        · clear h hE; show eMs (σ_36.1 47) 0 (if r38 = 0 then 2 else 0) (σ_36.1 10) T < n162
          rw [hn162, j7, if_neg j8, a36, g36]
          exact eMs_lt (by decide) (fun f1 _ _ => (j9 f1).2.1) (Int32.le_trans hT.1 i162.2.2.1.1) j3.2
        · refine and_5 ?_ (fun o9 => ⟨mF162, Nat.lt_of_lt_of_le d9 (Nat.le_of_lt_succ hmF162), hE⟩)  -- i24
          clear h hE d9 hmF162; refine ⟨f36, by rw [g36]; exact j2, by rw [a36]; exact j3, by rw [n36]; exact u.1, by rw [n36]; exact u.2.1, fun z => ?_⟩
          rw [g36] at z
          obtain ⟨v1, v2, v3⟩ := j9 z
          refine ⟨m1_fr v1 (frG_oc q37.1 (by decide) (by decide) (by decide)) (q37.1.1 46 (by decide)) (q37.1.1 58 (by decide)) (q37.1.1 11 (by decide)) g36 (q37.1.1 13 (by decide)), fun nz => ?_⟩
          have s44 := q40.2.mp nz
          rw [rd, rd, f36.2.2.1 5 (by decide), f36.2.2.1 7 (by decide), a36] at s44
          obtain ⟨k, hk, hpr⟩ := v3 s44
          refine ⟨k, ?_, by rw [a36]; exact hpr⟩
          rw [n36, cn_succ j5 u.2.2.2]; omega
      refine ⟨fun c41 => ?_, fun c41 => ?_⟩
      · skip
        replace hE := rb_t5 hE c41
        refine hj228 _ ?_
        · refine and_5 ?_ (fun o9 => hE)  -- k25
          clear h hE; exact ⟨i162.1, i162.2.2.2.1, Int32.le_trans i162.2.2.2.2.1 (by decide), Or.inl i162.2.2.2.2.1⟩
      · skip
        replace hE := rb_f5 hE c41
        refine ⟨fun c42 => ?_, fun c42 => ?_⟩
        · skip
          replace hE := rb_f5 hE c42
          refine hj228 _ ?_
          · refine and_5 ?_ (fun o9 => hE)  -- k26
            clear h hE; exact ⟨i162.1, i162.2.2.2.1, Int32.le_trans i162.2.2.2.2.1 (by decide), Or.inl i162.2.2.2.2.1⟩
        · skip
          replace hE := rb_t5 hE c42
          obtain ⟨y1, y2, y3, y4, y5, y6⟩ := i162
          obtain ⟨w1, w2⟩ := y6 c42
          obtain ⟨k, hk, hpr⟩ := w2 c41
          obtain ⟨e1, e2, g1, g2, g3, g4, g5, g6, g7, g8⟩ := prB_e hpr
          have r5 := y1.2.2.1 5 (by decide)
          have r7 := y1.2.2.1 7 (by decide)
          have r39 := y1.2.2.1 39 (by decide)
          have l8 := lt8n y4 hk
          have b1 : B ≤ σ162.1 10 + 1 := Int32.le_trans y3.1 (Int32.le_of_lt g3)
          have b2 : e1 ≤ T := Int32.le_trans (Int32.le_of_lt g5) (Int32.le_trans g6 (Int32.le_of_lt g7))
          refine work_g5 hC B T ?_ (fun r43 σ_44 q45 => ?_)
          · clear h hE; exact ⟨w1, b1, Int32.le_trans g2 b2, e1, by rw [r5, r7, r39]; exact g1⟩  -- p27
          obtain ⟨q45, z9⟩ := q45
          replace hE := rb_m5 hE z9
          clear z9
          have f44 : frG dwF dwR σ σ_44 := frG_tr y1 (frG_mono q45.1 (by decide) (by decide))
          refine ⟨fun c46 => ?_, fun c46 => ?_⟩
          · skip
            replace hE := rb_t5 hE c46
            refine work_g5 hC B T ?_ (fun r47 σ_48 q49 => ?_)
            · clear h hE; obtain ⟨v1, v2⟩ := q45.2.2.2 (le0 c46 q45.2.1)
              have ae : σ_44.1 10 = e1 := v2 e1 (by rw [r5, r7, r39]; exact g1)
              rw [ae]
              exact ⟨v1, Int32.le_trans b1 (Int32.le_trans g2 (Int32.le_of_lt g5)), Int32.le_trans g6 (Int32.le_of_lt g7), e2, by rw [f44.2.2.1 5 (by decide), f44.2.2.1 7 (by decide), f44.2.2.1 39 (by decide)]; exact g4⟩
            obtain ⟨q49, z9⟩ := q49
            replace hE := rb_m5 hE z9
            clear z9
            refine hj207 _ _ _ ?_
            · refine and_5 ?_ (fun o9 => hE)  -- k29
              clear h hE; obtain ⟨v1, v2⟩ := q45.2.2.2 (le0 c46 q45.2.1)
              have ae : σ_44.1 10 = e1 := v2 e1 (by rw [r5, r7, r39]; exact g1)
              refine ⟨frG_tr f44 (frG_mono q49.1 (by decide) (by decide)), q49.2.1, q49.2.2.1, by rw [q49.1.1 63 (by decide), q45.1.1 63 (by decide)], y4, l8, c42, c41, fun z => ?_⟩
              obtain ⟨t1, t2⟩ := q49.2.2.2 z
              have ae2 : σ_48.1 10 = e2 := t2 e2 (by rw [ae, f44.2.2.1 5 (by decide), f44.2.2.1 7 (by decide), f44.2.2.1 39 (by decide)]; exact g4)
              rw [ae2]
              refine ⟨t1, Int32.lt_of_lt_of_le g3 (Int32.le_trans g2 (Int32.le_trans (Int32.le_of_lt g5) g6)), fun s44 => ?_⟩
              obtain ⟨j, hj, hpj⟩ := g8 s44
              exact ⟨j, by omega, hpj⟩
          · skip
            replace hE := rb_f5 hE c46
            refine hj207 _ _ _ ?_
            · refine and_5 ?_ (fun o9 => hE)  -- k30
              clear h hE; exact ⟨f44, q45.2.1, q45.2.2.1, q45.1.1 63 (by decide), y4, l8, c42, c41, fun z => absurd (by rw [z]; decide) c46⟩
    · skip
      replace hE := rb_f5 hE c35
      obtain ⟨e1, e2, g1, g2, g3, g4, g5⟩ := hd.2.1 (w12.mp c35)
      have b2 : e1 ≤ T := Int32.le_trans (Int32.le_of_lt g2) (Int32.le_trans g3 (Int32.le_of_lt g5))
      have g0 := ePa_ge g1
      refine work_g5 hC B T ?_ (fun r50 σ_51 q52 => ?_)
      · clear h hE; rw [a27, s27]; exact ⟨m27, x2, Int32.le_trans g0 b2, e1, g1⟩  -- p31
      obtain ⟨q52, z9⟩ := q52
      replace hE := rb_m5 hE z9
      clear z9
      have f51 : frG dwF dwR σ σ_51 := frG_tr f27 (frG_mono q52.1 (by decide) (by decide))
      have z51 : σ_51.1 63 = 0 := by rw [q52.1.1 63 (by decide)]; exact z27
      refine outcome_g5 hC  ?_ (fun σ_53 q54 => ?_)
      · clear h hE; rw [z51]; exact ⟨by decide, by decide⟩  -- p32
      obtain ⟨q54, z9⟩ := q54
      replace hE := rb_p5 hE z9.symm
      clear z9
      have f53 : frG dwF dwR σ σ_53 := frG_tr f51 (frG_oc q54.1 (by decide) (by decide) (by decide))
      have z53 : σ_53.1 63 = 1 := by rw [q54.2.1, z51]; rfl
      have g53 : σ_53.1 47 = σ_51.1 47 := q54.1.1 47 (by decide)
      refine ⟨fun c55 => ?_, fun c55 => ?_⟩
      · skip
        replace hE := rb_t5 hE c55
        refine work_g5 hC B T ?_ (fun r56 σ_57 q58 => ?_)
        · clear h hE; rw [g53] at c55
          obtain ⟨v1, v2⟩ := q52.2.2.2 (le0 c55 q52.2.1)
          have ae : σ_51.1 10 = e1 := v2 e1 (by rw [a27, s27]; exact g1)
          rw [q54.1.1 10 (by decide), ae]
          exact ⟨m1_fr v1 (frG_oc q54.1 (by decide) (by decide) (by decide)) (q54.1.1 46 (by decide)) (q54.1.1 58 (by decide)) (q54.1.1 11 (by decide)) g53 (q54.1.1 13 (by decide)), Int32.le_trans x2 (Int32.le_trans g0 (Int32.le_of_lt g2)), Int32.le_trans g3 (Int32.le_of_lt g5), e2, by rw [f53.2.2.1 5 (by decide), f53.2.2.1 7 (by decide), f53.2.2.1 39 (by decide)]; exact g4⟩
        obtain ⟨q58, z9⟩ := q58
        replace hE := rb_m5 hE z9
        clear z9
        refine outcome_g5 hC  ?_ (fun σ_59 q60 => ?_)
        · clear h hE; rw [q58.1.1 63 (by decide), z53]; exact ⟨by decide, by decide⟩  -- p34
        obtain ⟨q60, z9⟩ := q60
        replace hE := rb_p5 hE z9.symm
        clear z9
        refine hj228 _ ?_
        · refine and_5 ?_ (fun o9 => hE)  -- k35
          clear h hE; have z59 : σ_59.1 63 = 2 := by rw [q60.2.1, q58.1.1 63 (by decide), z53]; rfl
          exact ⟨frG_tr f53 (frG_tr (frG_mono q58.1 (by decide) (by decide)) (frG_oc q60.1 (by decide) (by decide) (by decide))), by rw [z59]; decide, by rw [z59]; decide, Or.inl (by rw [z59]; decide)⟩
      · skip
        replace hE := rb_f5 hE c55
        refine outcome_g5 hC  ?_ (fun σ_61 q62 => ?_)
        · clear h hE; rw [z53]; exact ⟨by decide, by decide⟩  -- p36
        obtain ⟨q62, z9⟩ := q62
        replace hE := rb_p5 hE z9.symm
        clear z9
        refine hj228 _ ?_
        · refine and_5 ?_ (fun o9 => hE)  -- k37
          clear h hE; have z61 : σ_61.1 63 = 2 := by rw [q62.2.1, z53]; rfl
          exact ⟨frG_tr f53 (frG_oc q62.1 (by decide) (by decide) (by decide)), by rw [z61]; decide, by rw [z61]; decide, Or.inl (by rw [z61]; decide)⟩
  · skip
    replace hE := rb_f5 hE c34
    obtain ⟨e, g1, g2⟩ := hd.1 (w11.mp c34)
    refine work_g5 hC B T ?_ (fun r63 σ_64 q65 => ?_)
    · clear h hE; rw [a27, s27]; exact ⟨m27, x2, Int32.le_trans (ePa_ge g1) (Int32.le_of_lt g2), e, g1⟩  -- p38
    obtain ⟨q65, z9⟩ := q65
    replace hE := rb_m5 hE z9
    clear z9
    have f64 : frG dwF dwR σ σ_64 := frG_tr f27 (frG_mono q65.1 (by decide) (by decide))
    refine ⟨fun c66 => ?_, fun c66 => ?_⟩
    · skip
      replace hE := rb_t5 hE c66
      refine hj65 _ ?_
      · refine and_5 ?_ (fun o9 => hE)  -- k39
        clear h hE; exact f64
    · skip
      replace hE := rb_f5 hE c66
      refine ⟨fun c67 => ?_, fun c67 => ?_⟩
      · skip
        replace hE := rb_t5 hE c67
        refine hj65 _ ?_
        · refine and_5 ?_ (fun o9 => hE)  -- k40
          clear h hE; exact f64
      · skip
        replace hE := rb_f5 hE c67
        refine ⟨fun c68 => ?_, fun c68 => ?_⟩
        · skip
          replace hE := rb_t5 hE c68
          unfold w_draw_88
          refine ⟨fun n l4 l5 τ => n = (l4 - l5).toNatClampNeg ∧ ((frG dwF dwR σ τ ∧ 1 ≤ l4 ∧ l4 ≤ 64 ∧ τ.1 63 = l5 ∧ 0 ≤ l5 ∧ l5 ≤ l4 ∧ ∀ i, i < l5.toNatClampNeg → τ.2.2.1 65 i = 1) ∧ ∃ m5, n < m5 ∧ g5_draw a1 σ = g5_draw_88 m5 l4 l5 τ), ⟨_, rfl, ?_⟩, ?_⟩
          · refine and_5 ?_ (fun o9 => ⟨fu5, cnb5, hE⟩)  -- j41
            clear h hE; exact ⟨f64, (n1 c67).1, c68, by rw [q65.1.1 63 (by decide)]; exact z27, by decide, (n1 c67).2, fun i i1 => absurd i1 (Nat.not_lt_zero i)⟩
          rintro n88 x88_4 x88_5 σ88 ⟨hn88, i88, mF88, hmF88, hE⟩
          obtain ⟨mF88, rfl⟩ : ∃ m9, mF88 = m9 + 1 := ⟨mF88 - 1, by clear h hE; omega⟩
          refine ⟨fun c69 => ?_, fun c69 => ?_⟩
          · skip
            replace hE := rb_t5 hE c69
            refine hj228 _ ?_
            · refine and_5 ?_ (fun o9 => hE)  -- k42
              clear h hE; obtain ⟨y1, y2, y3, y4, y5, y6, y7⟩ := i88
              have e : x88_5 = x88_4 := Int32.le_antisymm y6 c69
              exact ⟨y1, by rw [y4]; exact y5, by rw [y4, e]; exact y3, Or.inr (by rw [y4]; exact y7)⟩
          · skip
            replace hE := rb_f5 hE c69
            obtain ⟨y1, y2, y3, y4, y5, y6, y7⟩ := i88
            have u := up_n y5 c69 y3
            refine outcome_g5 hC  ?_ (fun σ_70 q71 => ?_)
            · clear h hE; rw [y4]; exact ⟨y5, u.2.2.2.2.2⟩  -- p43
            obtain ⟨q71, z9⟩ := q71
            replace hE := rb_p5 hE z9.symm
            clear z9
            intro x72 hx72
            replace hE := rb_p5 hE hx72
            refine lp_b5 (cn_lt2 hn88 ?_ ?_) (fun d9 => ⟨rfl, ?_⟩)
            · clear h hE; rw [hx72]; exact u.1  -- d44
            · clear h hE; rw [hx72]; exact u.2.1  -- d45
            · refine and_5 ?_ (fun o9 => ⟨mF88, Nat.lt_of_lt_of_le d9 (Nat.le_of_lt_succ hmF88), hE⟩)  -- i46
              clear h hE d9 hmF88; rw [hx72]
              exact ⟨frG_tr y1 (frG_oc q71.1 (by decide) (by decide) (by decide)), y2, y3, by rw [q71.2.1, y4], u.2.2.1, u.2.2.2.1, fun i i1 => oc_ones y5 (Int32.lt_trans u.2.2.2.2.2 (by decide)) y4 q71.2.2.1 q71.2.2.2 y7 i i1⟩
        · skip
          replace hE := rb_f5 hE c68
          refine hj65 _ ?_
          · refine and_5 ?_ (fun o9 => hE)  -- k47
            clear h hE; exact f64

end
section
set_option maxHeartbeats 1600000
/-! the reference: act -/
theorem act_g5 {C : rCx} (hC : cOK C) (B T : Int32) {σ : rS}  {Q : Int32 → rS → Prop} (hp : rI σ B T ∧ csF σ) (h : ∀ (v : Int32) (σ' : rS), ((frG rnF rnR σ σ' ∧ acQ v σ') ∧ g5_act σ = (σ', v)) → Q v σ') : cI C 9 m_act [.ref (co C)] σ Q := by
  refine m_act_run hC ?_
  unfold w_act_0
  obtain ⟨hI, hc⟩ := hp
  have hj81 : ∀ (l1 : Int32) (l2 : Int32) (τ : rS), ((acI σ τ B T l1 l2) ∧ g5_act σ = g5_act_81 l1 l2 τ) → w_act_81 C Q  l1 l2 τ := by
    rintro y81_1 y81_2 τ81 ⟨j81, hE⟩
    unfold w_act_81
    obtain ⟨y1, y2, y3, y4, y5, y6, y7⟩ := j81
    have s0 : 0 ≤ y81_1 := by rw [y4]; exact y3.2.2.1
    have s1 : y81_1 < τ81.1 19 := by rw [y4]; exact y3.2.2.2
    have bb : 0 ≤ y81_1 ∧ y81_1 < 150 := ⟨s0, s150 y2.1 s1⟩
    refine ⟨fun c1 => ?_, fun c1 => ?_⟩
    · skip
      replace hE := rb_f5 hE c1
      refine ⟨fun c2 => ?_, fun c2 => ?_⟩
      · skip
        replace hE := rb_f5 hE c2
        refine ⟨ib_150.mpr ?_, ?_⟩
        · clear h hE; exact bb  -- b1
        refine work_g5 hC B T ?_ (fun r3 σ_4 q5 => ?_)
        · clear h hE; exact ⟨y2, xO_w (st_x (m1_st y2 s0 s1) (by rw [← y5]; exact c1) (by rw [← y5]; exact c2) (by rw [← y5]; exact y6))⟩  -- p2
        obtain ⟨q5, z9⟩ := q5
        replace hE := rb_m5 hE z9
        clear z9
        have f4 : frG rnF rnR τ81 σ_4 := xR_n q5.1
        have F4 : frG rnF rnR σ σ_4 := frG_tr y1 f4
        have I4 : rI σ_4 B T := rI_fr y2.1 f4
        have c4 : csF σ_4 := csF_o y3 (q5.1.2.2.1 59 (by decide)) (q5.1.2.2.1 30 (by decide)) (q5.1.1 19 (by decide)) (q5.1.1 58 (by decide))
        have s4 : y81_1 < σ_4.1 19 := by rw [q5.1.1 19 (by decide)]; exact s1
        have mv : ∀ a : Int32, (a ≠ -1 → 0 ≤ a ∧ a < σ_4.1 19) → rI σ_4 B T ∧ 1 ≤ σ_4.1 58 ∧ σ_4.1 58 ≤ 12 ∧ csL σ_4 (σ_4.1 58 - 1) ∧ (a ≠ -1 → 0 ≤ a ∧ a < σ_4.1 19) := fun a ha => ⟨I4, c4.1.1, c4.1.2, c4.2.1, ha⟩
        have fin : ∀ (v : Int32) (υ : rS), frG [58, 61] [57, 59, 60] σ_4 υ ∧ ((v = 0 ∧ csF υ) ∨ v = 1) → frG rnF rnR σ υ ∧ acQ v υ := fun v υ q => ⟨frG_tr F4 (frG_mono q.1 (by decide) (by decide)), ac_mv q.2⟩
        refine ⟨fun c6 => ?_, fun c6 => ?_⟩
        · skip
          replace hE := rb_t5 hE c6
          refine ⟨fun c7 => ?_, fun c7 => ?_, fun c7 => ?_, fun c7 => ?_, fun c7 => ?_, fun c7 => ?_⟩
          · skip
            replace hE := (rb_f5 (rb_f5 (rb_f5 (rb_f5 (rb_f5 hE (by omega)) (by omega)) (by omega)) (by omega)) (by omega))
            refine store_g5 hC  ?_ (fun σ_8 q9 => ?_)
            · clear h hE; rw [q5.1.1 67 (by decide)]
              exact pl_st (y7 (by rw [y5]; exact st_12 (m1_st y2 s0 s1) (by rw [← y5]; exact c1) (by rw [← y5]; exact c2) (by rw [← y5]; exact y6) (by rw [← y5]; exact c7))) c4.1.1 c4.1.2
            obtain ⟨q9, z9⟩ := q9
            replace hE := rb_p5 hE z9.symm
            clear z9
            refine ⟨ib_150.mpr ?_, ?_⟩
            · clear h hE; exact bb  -- b4
            have f8 : frG rnF rnR σ_4 σ_8 := frG_S q9 (by decide) (by decide)
            have I8 : rI σ_8 B T := rI_fr I4 f8
            have c8 : csF σ_8 := csF_o c4 (q9.2.2.1 59 (by decide) (by decide)) (q9.2.2.1 30 (by decide) (by decide)) (q9.1 19) (q9.1 58)
            refine moveTo_g5 hC B T ?_ (fun r10 σ_11 q12 => ?_)
            · clear h hE; exact ⟨I8, c8.1.1, c8.1.2, c8.2.1, fun z => fl_b I8 s0 (by rw [q9.1 19]; exact s4) z⟩  -- p5
            obtain ⟨q12, z9⟩ := q12
            replace hE := rb_m5 hE z9
            clear z9
            refine h _ _ ?_
            · refine and_5 ?_ (fun o9 => hE)  -- q6
              clear h hE; exact ⟨frG_tr F4 (frG_tr f8 (frG_mono q12.1 (by decide) (by decide))), ac_mv q12.2⟩
          · skip
            replace hE := rb_t5 hE c7
            refine ⟨fun c13 => ?_, fun c13 => ?_⟩
            · skip
              replace hE := rb_t5 hE c13
              refine ⟨ib_150.mpr ?_, ?_⟩
              · clear h hE; exact bb  -- b7
              refine ⟨fun c14 => ?_, fun c14 => ?_⟩
              · skip
                replace hE := rb_t5 hE c14
                refine ⟨ib_150.mpr ?_, ?_⟩
                · clear h hE; exact bb  -- b8
                refine moveTo_g5 hC B T ?_ (fun r15 σ_16 q17 => ?_)
                · clear h hE; exact mv _ (fun z => fl_b I4 s0 s4 z)  -- p9
                obtain ⟨q17, z9⟩ := q17
                replace hE := rb_m5 hE z9
                clear z9
                refine h _ _ ?_
                · refine and_5 ?_ (fun o9 => hE)  -- q10
                  clear h hE; exact fin _ _ q17
              · skip
                replace hE := rb_f5 hE c14
                refine ⟨ib_150.mpr ?_, ?_⟩
                · clear h hE; exact bb  -- b11
                refine moveTo_g5 hC B T ?_ (fun r18 σ_19 q20 => ?_)
                · clear h hE; exact mv _ (fun z => lk_b I4 s0 s4 (Or.inr rfl) z)  -- p12
                obtain ⟨q20, z9⟩ := q20
                replace hE := rb_m5 hE z9
                clear z9
                refine h _ _ ?_
                · refine and_5 ?_ (fun o9 => hE)  -- q13
                  clear h hE; exact fin _ _ q20
            · skip
              replace hE := rb_f5 hE c13
              refine ⟨ib_150.mpr ?_, ?_⟩
              · clear h hE; exact bb  -- b14
              refine ⟨fun c21 => ?_, fun c21 => ?_⟩
              · skip
                replace hE := rb_t5 hE c21
                refine ⟨ib_150.mpr ?_, ?_⟩
                · clear h hE; exact bb  -- b15
                refine moveTo_g5 hC B T ?_ (fun r22 σ_23 q24 => ?_)
                · clear h hE; exact mv _ (fun z => fl_b I4 s0 s4 z)  -- p16
                obtain ⟨q24, z9⟩ := q24
                replace hE := rb_m5 hE z9
                clear z9
                refine h _ _ ?_
                · refine and_5 ?_ (fun o9 => hE)  -- q17
                  clear h hE; exact fin _ _ q24
              · skip
                replace hE := rb_f5 hE c21
                refine ⟨ib_150.mpr ?_, ?_⟩
                · clear h hE; exact bb  -- b18
                refine moveTo_g5 hC B T ?_ (fun r25 σ_26 q27 => ?_)
                · clear h hE; exact mv _ (fun z => lk_b I4 s0 s4 (Or.inl rfl) z)  -- p19
                obtain ⟨q27, z9⟩ := q27
                replace hE := rb_m5 hE z9
                clear z9
                refine h _ _ ?_
                · refine and_5 ?_ (fun o9 => hE)  -- q20
                  clear h hE; exact fin _ _ q27
          · skip
            replace hE := rb_t5 (rb_f5 hE (by omega)) c7
            refine ⟨fun c28 => ?_, fun c28 => ?_⟩
            · skip
              replace hE := rb_f5 hE c28
              refine ⟨ib_150.mpr ?_, ?_⟩
              · clear h hE; exact bb  -- b21
              refine ⟨fun c29 => ?_, fun c29 => ?_⟩
              · skip
                replace hE := rb_t5 hE c29
                refine moveTo_g5 hC B T ?_ (fun r30 σ_31 q32 => ?_)
                · clear h hE; exact mv _ (fun _ => ⟨s0, s4⟩)  -- p22
                obtain ⟨q32, z9⟩ := q32
                replace hE := rb_m5 hE z9
                clear z9
                refine h _ _ ?_
                · refine and_5 ?_ (fun o9 => hE)  -- q23
                  clear h hE; exact fin _ _ q32
              · skip
                replace hE := rb_f5 hE c29
                refine ⟨ib_150.mpr ?_, ?_⟩
                · clear h hE; exact bb  -- b24
                refine moveTo_g5 hC B T ?_ (fun r33 σ_34 q35 => ?_)
                · clear h hE; exact mv _ (fun z => lk_b I4 s0 s4 (Or.inl rfl) z)  -- p25
                obtain ⟨q35, z9⟩ := q35
                replace hE := rb_m5 hE z9
                clear z9
                refine h _ _ ?_
                · refine and_5 ?_ (fun o9 => hE)  -- q26
                  clear h hE; exact fin _ _ q35
            · skip
              replace hE := rb_t5 hE c28
              refine ⟨ib_150.mpr ?_, ?_⟩
              · clear h hE; exact bb  -- b27
              refine moveTo_g5 hC B T ?_ (fun r36 σ_37 q38 => ?_)
              · clear h hE; exact mv _ (fun z => fl_b I4 s0 s4 z)  -- p28
              obtain ⟨q38, z9⟩ := q38
              replace hE := rb_m5 hE z9
              clear z9
              refine h _ _ ?_
              · refine and_5 ?_ (fun o9 => hE)  -- q29
                clear h hE; exact fin _ _ q38
          · skip
            replace hE := rb_t5 (rb_f5 (rb_f5 hE (by omega)) (by omega)) c7
            refine leave_g5 hC B T ?_ (fun r39 σ_40 q41 => ?_)
            · clear h hE; exact ⟨I4, c4.1.1, c4.1.2, c4.2.1⟩  -- p30
            obtain ⟨q41, z9⟩ := q41
            replace hE := rb_m5 hE z9
            clear z9
            refine h _ _ ?_
            · refine and_5 ?_ (fun o9 => hE)  -- q31
              clear h hE; exact fin _ _ q41
          · skip
            replace hE := rb_t5 (rb_f5 (rb_f5 (rb_f5 hE (by omega)) (by omega)) (by omega)) c7
            refine ⟨fun c42 => ?_, fun c42 => ?_⟩
            · skip
              replace hE := rb_f5 hE c42
              refine ⟨ib_150.mpr ?_, ?_⟩
              · clear h hE; exact bb  -- b32
              refine moveTo_g5 hC B T ?_ (fun r43 σ_44 q45 => ?_)
              · clear h hE; exact mv _ (fun z => fl_b I4 s0 s4 z)  -- p33
              obtain ⟨q45, z9⟩ := q45
              replace hE := rb_m5 hE z9
              clear z9
              refine h _ _ ?_
              · refine and_5 ?_ (fun o9 => hE)  -- q34
                clear h hE; exact fin _ _ q45
            · skip
              replace hE := rb_t5 hE c42
              refine h _ _ ?_
              · refine and_5 ?_ (fun o9 => hE)  -- q35
                clear h hE; exact ⟨F4, Or.inr (Or.inr (Or.inr (Or.inl rfl)))⟩
          · skip
            replace hE := rb_t5 (rb_f5 (rb_f5 (rb_f5 (rb_f5 hE (by omega)) (by omega)) (by omega)) (by omega)) c7
            intro σ_46 hσ_46
            replace hE := rb_p5 hE hσ_46
            refine ⟨ib_150.mpr ?_, ?_⟩
            · clear h hE; exact bb  -- b36
            have f46 : frG rnF rnR σ_4 σ_46 := by rw [hσ_46]; exact frG_0 (by decide)
            have I46 : rI σ_46 B T := rI_fr I4 f46
            have e46 : ∀ k, k ≠ 62 → σ_46.1 k = σ_4.1 k := fun k hk => by rw [hσ_46, si1, if_neg hk]
            have c46 : csF σ_46 := csF_o c4 (by rw [hσ_46, si2]) (by rw [hσ_46, si2]) (e46 19 (by decide)) (e46 58 (by decide))
            refine moveTo_g5 hC B T ?_ (fun r47 σ_48 q49 => ?_)
            · clear h hE; exact ⟨I46, c46.1.1, c46.1.2, c46.2.1, fun z => fl_b I46 s0 (by rw [e46 19 (by decide)]; exact s4) z⟩  -- p37
            obtain ⟨q49, z9⟩ := q49
            replace hE := rb_m5 hE z9
            clear z9
            refine h _ _ ?_
            · refine and_5 ?_ (fun o9 => hE)  -- q38
              clear h hE; exact ⟨frG_tr F4 (frG_tr f46 (frG_mono q49.1 (by decide) (by decide))), ac_mv q49.2⟩
        · skip
          replace hE := rb_f5 hE c6
          refine fail_g5 hC  (fun r50 σ_51 q52 => ?_)
          obtain ⟨q52, z9⟩ := q52
          replace hE := rb_m5 hE z9
          clear z9
          refine h _ _ ?_
          · refine and_5 ?_ (fun o9 => hE)  -- q39
            clear h hE; exact ⟨frG_tr F4 (frG_61 q52.1 (by decide)), Or.inr (Or.inr (Or.inl q52.2))⟩
      · skip
        replace hE := rb_t5 hE c2
        refine choose_g5 hC B T ?_ (fun r53 σ_54 q55 => ?_)
        · clear h hE; exact ⟨y2, s0, s1, by rw [← y5]; exact c2⟩  -- p40
        obtain ⟨q55, z9⟩ := q55
        replace hE := rb_m5 hE z9
        clear z9
        refine h _ _ ?_
        · refine and_5 ?_ (fun o9 => hE)  -- q41
          clear h hE; refine ⟨frG_tr y1 (frG_mono q55.1 (by decide) (by decide)), ?_⟩
          rcases q55.2 with z | ⟨z, z1, z2, z3⟩
          · exact Or.inr (Or.inr (Or.inl z))
          · exact Or.inr (Or.inr (Or.inr (Or.inr (Or.inr ⟨z, csF_o y3 (q55.1.2.2.1 59 (by decide)) (q55.1.2.2.1 30 (by decide)) (q55.1.1 19 (by decide)) (q55.1.1 58 (by decide)), by rw [q55.1.1 67 (by decide)]; exact y7 (by rw [c2]; decide), z1, z2, z3⟩))))
    · skip
      replace hE := rb_t5 hE c1
      refine draw_g5 hC B T ?_ (fun r56 σ_57 q58 => ?_)
      · clear h hE; exact ⟨y2, s0, s1, by rw [← y5]; exact c1⟩  -- p42
      obtain ⟨q58, z9⟩ := q58
      replace hE := rb_m5 hE z9
      clear z9
      refine h _ _ ?_
      · refine and_5 ?_ (fun o9 => hE)  -- q43
        clear h hE; refine ⟨frG_tr y1 (frG_mono q58.1 (by decide) (by decide)), ?_⟩
        rcases q58.2 with z | ⟨z, z1⟩
        · exact Or.inr (Or.inr (Or.inl z))
        · exact Or.inr (Or.inr (Or.inr (Or.inr (Or.inl ⟨z, csF_o y3 (q58.1.2.2.1 59 (by decide)) (q58.1.2.2.1 30 (by decide)) (q58.1.1 19 (by decide)) (q58.1.1 58 (by decide)), by rw [q58.1.1 67 (by decide)]; exact y7 (by rw [c1]; decide), z1⟩))))
  have hE : g5_act σ = g5_act σ := rfl
  refine ⟨ib_12.mpr ?_, ?_⟩
  · clear h hE; exact c_m1 hc.1.1 hc.1.2  -- b44
  intro x59 hx59
  replace hE := rb_p5 hE hx59
  intro σ_60 hσ_60
  replace hE := rb_p5 hE hσ_60
  intro σ_61 hσ_61
  replace hE := rb_p5 hE hσ_61
  intro σ_62 hσ_62
  replace hE := rb_p5 hE hσ_62
  intro σ_63 hσ_63
  replace hE := rb_p5 hE hσ_63
  intro σ_64 hσ_64
  replace hE := rb_p5 hE hσ_64
  have s64 : σ_64.2 = σ.2 := by rw [hσ_64, si2, hσ_63, si2, hσ_62, si2, hσ_61, si2, hσ_60, si2]
  have e64 : ∀ k, k ≠ 11 → k ≠ 13 → k ≠ 47 → k ≠ 46 → k ≠ 62 → σ_64.1 k = σ.1 k := fun k z1 z2 z3 z4 z5 => by rw [hσ_64, si1, if_neg z5, hσ_63, si1, if_neg z4, hσ_62, si1, if_neg z3, hσ_61, si1, if_neg z2, hσ_60, si1, if_neg z1]
  have f64 : frG rnF rnR σ σ_64 := ⟨fun k z => e64 k (fun e => z (by rw [e]; decide)) (fun e => z (by rw [e]; decide)) (fun e => z (by rw [e]; decide)) (fun e => z (by rw [e]; decide)) (fun e => z (by rw [e]; decide)), fun k => by rw [s64], fun k _ => by rw [s64], fun k j => by rw [s64]⟩
  have v11 : σ_64.1 11 = 0 := by rw [hσ_64, si1, if_neg (by decide), hσ_63, si1, if_neg (by decide), hσ_62, si1, if_neg (by decide), hσ_61, si1, if_neg (by decide), hσ_60, si1, if_pos rfl]
  have v13 : σ_64.1 13 = 0 := by rw [hσ_64, si1, if_neg (by decide), hσ_63, si1, if_neg (by decide), hσ_62, si1, if_neg (by decide), hσ_61, si1, if_pos rfl]
  have v47 : σ_64.1 47 = 0 := by rw [hσ_64, si1, if_neg (by decide), hσ_63, si1, if_neg (by decide), hσ_62, si1, if_pos rfl]
  have v46 : σ_64.1 46 = 1 := by rw [hσ_64, si1, if_neg (by decide), hσ_63, si1, if_pos rfl]
  have e58 := e64 58 (by decide) (by decide) (by decide) (by decide) (by decide)
  have e19 := e64 19 (by decide) (by decide) (by decide) (by decide) (by decide)
  have m64 : m1 σ_64 B T := ⟨rI_fr hI f64, v46, by rw [e58]; exact hc.1, v11, v47, v13⟩
  have c64 : csF σ_64 := csF_o hc (by rw [s64]) (by rw [s64]) e19 e58
  have x64 : x59 = rd σ_64 59 (σ_64.1 58 - 1) := by rw [hx59, rd, s64, e58]
  have s0 : 0 ≤ x59 := by rw [x64]; exact c64.2.2.1
  have s1 : x59 < σ_64.1 19 := by rw [x64]; exact c64.2.2.2
  refine ⟨ib_150.mpr ?_, ?_⟩
  · clear h hE; exact ⟨s0, s150 m64.1 s1⟩  -- b45
  intro x65 hx65
  replace hE := rb_p5 hE hx65
  refine ⟨fun c66 => ?_, fun c66 => ?_⟩
  · skip
    replace hE := rb_f5 hE c66
    refine ⟨fun c67 => ?_, fun c67 => ?_⟩
    · skip
      replace hE := rb_t5 hE c67
      refine hj81 _ _ _ ?_
      · refine and_5 ?_ (fun o9 => hE)  -- k46
        clear h hE; exact ⟨f64, m64, c64, x64, hx65, c66, fun z => absurd c67 z⟩
    · skip
      replace hE := rb_f5 hE c67
      refine findPlace_g5 hC B T ?_ (fun σ_68 q69 => ?_)
      · clear h hE; exact ⟨m64, s0, s1, by rw [rd, ← hx65]; exact c66, by rw [rd, ← hx65]; exact c67⟩  -- p47
      obtain ⟨q69, z9⟩ := q69
      replace hE := rb_p5 hE z9.symm
      clear z9
      refine ⟨fun c70 => ?_, fun c70 => ?_⟩
      · skip
        replace hE := rb_t5 hE c70
        refine hj81 _ _ _ ?_
        · refine and_5 ?_ (fun o9 => hE)  -- k48
          clear h hE; obtain ⟨w1, w2⟩ := q69.2.2 (le0 c70 q69.2.1)
          exact ⟨frG_tr f64 (frG_mono q69.1 (by decide) (by decide)), w1, csF_o c64 (q69.1.2.2.1 59 (by decide)) (q69.1.2.2.1 30 (by decide)) (q69.1.1 19 (by decide)) (q69.1.1 58 (by decide)), by rw [rd, q69.1.2.2.1 59 (by decide), q69.1.1 58 (by decide)]; exact x64, by rw [rd, q69.1.2.2.1 30 (by decide)]; exact hx65, c66, fun _ => w2⟩
      · skip
        replace hE := rb_f5 hE c70
        refine fail_g5 hC  (fun r71 σ_72 q73 => ?_)
        obtain ⟨q73, z9⟩ := q73
        replace hE := rb_m5 hE z9
        clear z9
        refine h _ _ ?_
        · refine and_5 ?_ (fun o9 => hE)  -- q49
          clear h hE; exact ⟨frG_tr f64 (frG_tr (frG_mono q69.1 (by decide) (by decide)) (frG_61 q73.1 (by decide))), Or.inr (Or.inr (Or.inl q73.2))⟩
  · skip
    replace hE := rb_t5 hE c66
    refine call_g5 hC B T ?_ (fun r74 σ_75 q76 => ?_)
    · clear h hE; exact ⟨m64, c64, x64, by rw [rd, ← hx65]; exact c66⟩  -- p50
    obtain ⟨q76, z9⟩ := q76
    replace hE := rb_m5 hE z9
    clear z9
    refine h _ _ ?_
    · refine and_5 ?_ (fun o9 => hE)  -- q51
      clear h hE; refine ⟨frG_tr f64 (frG_mono q76.1 (by decide) (by decide)), ?_⟩
      rcases q76.2 with z | z | z
      · exact Or.inl z
      · exact Or.inr (Or.inl z)
      · exact Or.inr (Or.inr (Or.inl z))

end
section
set_option maxHeartbeats 1600000
/-! the reference: states as rows -/
theorem pack_g5 {C : rCx} (hC : cOK C)  {σ : rS}  {Q : Int32 → rS → Prop} (hp : 0 ≤ σ.1 58 ∧ σ.1 58 ≤ 12) (h : ∀ (v : Int32) (σ' : rS), ((frG [] [84] σ σ' ∧ kyN σ' (σ.1 58)) ∧ g5_pack σ = (σ', v)) → Q v σ') : cI C 0 m_pack [.ref (co C)] σ Q := by
  refine m_pack_run hC ?_
  unfold w_pack_0
  have hE : g5_pack σ = g5_pack σ := rfl
  unfold w_pack_2
  refine ⟨fun n l1 τ => n = (143 - l1).toNatClampNeg ∧ ((frG [] [84] σ τ ∧ 0 ≤ l1 ∧ l1 ≤ 143) ∧ ∃ m5, n < m5 ∧ g5_pack σ = g5_pack_2 m5 l1 τ), ⟨_, rfl, ?_⟩, ?_⟩
  · refine and_5 ?_ (fun o9 => ⟨fu5, cnb5, hE⟩)  -- j1
    clear h hE; exact ⟨frG_refl, by decide, by decide⟩
  rintro n2 x2_1 σ2 ⟨hn2, i2, mF2, hmF2, hE⟩
  obtain ⟨mF2, rfl⟩ : ∃ m9, mF2 = m9 + 1 := ⟨mF2 - 1, by clear h hE; omega⟩
  refine ⟨fun c1 => ?_, fun c1 => ?_⟩
  · skip
    replace hE := rb_t5 hE c1
    refine ⟨ib_143.mpr ?_, ?_⟩
    · clear h hE; exact ⟨by decide, by decide⟩  -- b2
    intro σ_2 hσ_2
    replace hE := rb_p5 hE hσ_2
    unfold w_pack_34
    refine ⟨fun n l1 τ => n = (34 - l1).toNatClampNeg ∧ ((frG [] [84] σ τ ∧ 0 ≤ l1 ∧ l1 ≤ 34 ∧ kyN τ 0) ∧ ∃ m5, n < m5 ∧ g5_pack σ = g5_pack_34 m5 l1 τ), ⟨_, rfl, ?_⟩, ?_⟩
    · refine and_5 ?_ (fun o9 => ⟨fu5, cnb5, hE⟩)  -- j3
      clear h hE; exact ⟨frG_tr i2.1 (by rw [hσ_2]; exact frG_1 (by decide)), by decide, by decide, by rw [rd, hσ_2, ri4, if_pos rfl, ri1], fun c c0 c1 => absurd c1 (Int32.not_lt.mpr c0)⟩
    rintro n34 x34_1 σ34 ⟨hn34, i34, mF34, hmF34, hE⟩
    obtain ⟨mF34, rfl⟩ : ∃ m9, mF34 = m9 + 1 := ⟨mF34 - 1, by clear h hE; omega⟩
    refine ⟨fun c3 => ?_, fun c3 => ?_⟩
    · skip
      replace hE := rb_t5 hE c3
      unfold w_pack_62
      refine ⟨fun n l1 τ => n = (σ.1 58 - l1).toNatClampNeg ∧ ((frG [] [84] σ τ ∧ 0 ≤ l1 ∧ l1 ≤ σ.1 58 ∧ kyN τ l1) ∧ ∃ m5, n < m5 ∧ g5_pack σ = g5_pack_62 m5 l1 τ), ⟨_, rfl, ?_⟩, ?_⟩
      · refine and_5 ?_ (fun o9 => ⟨fu5, cnb5, hE⟩)  -- j4
        clear h hE; exact ⟨i34.1, by decide, hp.1, i34.2.2.2⟩
      rintro n62 x62_1 σ62 ⟨hn62, i62, mF62, hmF62, hE⟩
      obtain ⟨mF62, rfl⟩ : ∃ m9, mF62 = m9 + 1 := ⟨mF62 - 1, by clear h hE; omega⟩
      refine ⟨fun c4 => ?_, fun c4 => ?_⟩
      · skip
        replace hE := rb_t5 hE c4
        unfold w_pack_137
        refine ⟨fun n l1 l2 τ => n = (143 - l2).toNatClampNeg ∧ ((frG [] [84] σ τ ∧ 0 ≤ l2 ∧ l2 ≤ 143 ∧ kyN τ (σ.1 58)) ∧ ∃ m5, n < m5 ∧ g5_pack σ = g5_pack_137 m5 l1 l2 τ), ⟨_, rfl, ?_⟩, ?_⟩
        · refine and_5 ?_ (fun o9 => ⟨fu5, cnb5, hE⟩)  -- j5
          clear h hE; refine ⟨i62.1, by decide, by decide, ?_⟩
          have e : x62_1 = σ.1 58 := Int32.le_antisymm i62.2.2.1 (by rw [← i62.1.1 58 (by decide)]; exact c4)
          rw [← e]; exact i62.2.2.2
        rintro n137 x137_1 x137_2 σ137 ⟨hn137, i137, mF137, hmF137, hE⟩
        obtain ⟨mF137, rfl⟩ : ∃ m9, mF137 = m9 + 1 := ⟨mF137 - 1, by clear h hE; omega⟩
        refine ⟨fun c5 => ?_, fun c5 => ?_⟩
        · skip
          replace hE := rb_t5 hE c5
          refine h _ _ ?_
          · refine and_5 ?_ (fun o9 => hE)  -- q6
            clear h hE; exact ⟨i137.1, i137.2.2.2⟩
        · skip
          replace hE := rb_f5 hE c5
          refine ⟨ib_143.mpr ?_, ?_⟩
          · clear h hE; exact ⟨i137.2.1, (u143 i137.2.1 c5).2.2.2.2⟩  -- b7
          intro x6 hx6
          replace hE := rb_p5 hE hx6
          intro x7 hx7
          replace hE := rb_p5 hE hx7
          refine lp_b5 (cn_lt2 hn137 ?_ ?_) (fun d9 => ⟨rfl, ?_⟩)
          · clear h hE; rw [hx7]; exact (u143 i137.2.1 c5).1  -- d8
          · clear h hE; rw [hx7]; exact (u143 i137.2.1 c5).2.1  -- d9
          · refine and_5 ?_ (fun o9 => ⟨mF137, Nat.lt_of_lt_of_le d9 (Nat.le_of_lt_succ hmF137), hE⟩)  -- i10
            clear h hE d9 hmF137; rw [hx7]; exact ⟨i137.1, (u143 i137.2.1 c5).2.2.1, (u143 i137.2.1 c5).2.2.2.1, i137.2.2.2⟩
      · skip
        replace hE := rb_f5 hE c4
        have c4' : ¬ σ.1 58 ≤ x62_1 := by rw [← i62.1.1 58 (by decide)]; exact c4
        have w := u12 i62.2.1 c4' hp.2
        refine ⟨ib_12.mpr ?_, ?_⟩
        · clear h hE; exact ⟨i62.2.1, w.2.2.2.2⟩  -- b11
        refine ⟨ib_143.mpr ?_, ?_⟩
        · clear h hE; exact (ix9 i62.2.1 w.2.2.2.2 (Int32.le_refl 0) (by decide)).2.2  -- b12
        intro σ_8 hσ_8
        replace hE := rb_p5 hE hσ_8
        unfold w_pack_90
        refine ⟨fun n l1 l2 τ => n = (8 - l2).toNatClampNeg ∧ ((frG [] [84] σ τ ∧ l1 = x62_1 ∧ ¬ σ.1 58 ≤ x62_1 ∧ 0 ≤ l2 ∧ l2 ≤ 8 ∧ kyN τ (x62_1 + 1)) ∧ ∃ m5, n < m5 ∧ g5_pack σ = g5_pack_90 (g5_pack_62 mF62) m5 l1 l2 τ), ⟨_, rfl, ?_⟩, ?_⟩
        · refine and_5 ?_ (fun o9 => ⟨fu5, cnb5, hE⟩)  -- j13
          clear h hE; exact ⟨frG_tr i62.1 (by rw [hσ_8]; exact frG_1 (by decide)), rfl, c4', by decide, by decide, by rw [hσ_8]; exact ky_s i62.2.2.2 i62.2.1 w.2.2.2.2⟩
        rintro n90 x90_1 x90_2 σ90 ⟨hn90, i90, mF90, hmF90, hE⟩
        obtain ⟨mF90, rfl⟩ : ∃ m9, mF90 = m9 + 1 := ⟨mF90 - 1, by clear h hE; omega⟩
        refine ⟨fun c9 => ?_, fun c9 => ?_⟩
        · skip
          replace hE := rb_t5 hE c9
          intro x10 hx10
          replace hE := rb_p5 hE hx10
          refine lp_b5 (cn_lt2 hn62 ?_ ?_) (fun d9 => ⟨rfl, ?_⟩)
          · clear h hE; rw [hx10, i90.2.1]; exact w.1  -- d14
          · clear h hE; rw [hx10, i90.2.1]; exact w.2.1  -- d15
          · refine and_5 ?_ (fun o9 => ⟨mF62, Nat.lt_of_lt_of_le d9 (Nat.le_of_lt_succ hmF62), hE⟩)  -- i16
            clear h hE d9 hmF62; rw [hx10, i90.2.1]; exact ⟨i90.1, w.2.2.1, w.2.2.2.1, i90.2.2.2.2.2⟩
        · skip
          replace hE := rb_f5 hE c9
          have u := up8 i90.2.2.2.1 c9
          have z := ix9 i62.2.1 w.2.2.2.2 i90.2.2.2.1 u.2.2.2.2.1
          refine ⟨ib_96.mpr ?_, ?_⟩
          · clear h hE; rw [i90.2.1]; exact z.1  -- b17
          refine ⟨ib_143.mpr ?_, ?_⟩
          · clear h hE; rw [i90.2.1]; exact z.2.1  -- b18
          intro σ_11 hσ_11
          replace hE := rb_p5 hE hσ_11
          intro x12 hx12
          replace hE := rb_p5 hE hx12
          refine lp_b5 (cn_lt2 hn90 ?_ ?_) (fun d9 => ⟨rfl, ?_⟩)
          · clear h hE; rw [hx12]; exact u.1  -- d19
          · clear h hE; rw [hx12]; exact u.2.1  -- d20
          · refine and_5 ?_ (fun o9 => ⟨mF90, Nat.lt_of_lt_of_le d9 (Nat.le_of_lt_succ hmF90), hE⟩)  -- i21
            clear h hE d9 hmF90; rw [hx12]
            refine ⟨frG_tr i90.1 (by rw [hσ_11]; exact frG_1 (by decide)), i90.2.1, c4', u.2.2.1, u.2.2.2.1, ?_⟩
            rw [hσ_11, i90.2.1]
            exact ky_w i90.2.2.2.2.2 (ix0 i62.2.1 w.2.2.2.2 i90.2.2.2.1 u.2.2.2.2.1).1 (Int32.le_trans w.2.2.2.1 hp.2) (fun c c0 c1 => ix9n i62.2.1 w.2.2.2.2 i90.2.2.2.1 u.2.2.2.2.1 c0 (Int32.lt_of_lt_of_le c1 (Int32.le_trans w.2.2.2.1 hp.2)))
    · skip
      replace hE := rb_f5 hE c3
      have u := up34 i34.2.1 c3
      have z := u34 i34.2.1 c3
      refine ⟨ib_34.mpr ?_, ?_⟩
      · clear h hE; exact ⟨i34.2.1, u.2.2.2.2⟩  -- b22
      refine ⟨ib_143.mpr ?_, ?_⟩
      · clear h hE; exact ⟨z.2.2, z.2.1⟩  -- b23
      intro σ_13 hσ_13
      replace hE := rb_p5 hE hσ_13
      intro x14 hx14
      replace hE := rb_p5 hE hx14
      refine lp_b5 (cn_lt2 hn34 ?_ ?_) (fun d9 => ⟨rfl, ?_⟩)
      · clear h hE; rw [hx14]; exact u.1  -- d24
      · clear h hE; rw [hx14]; exact u.2.1  -- d25
      · refine and_5 ?_ (fun o9 => ⟨mF34, Nat.lt_of_lt_of_le d9 (Nat.le_of_lt_succ hmF34), hE⟩)  -- i26
        clear h hE d9 hmF34; rw [hx14]
        exact ⟨frG_tr i34.1 (by rw [hσ_13]; exact frG_1 (by decide)), u.2.2.1, u.2.2.2.1, by rw [hσ_13]; exact ky_w i34.2.2.2 z.1 (by decide) (fun c c0 c1 => absurd c1 (Int32.not_lt.mpr c0))⟩
  · skip
    replace hE := rb_f5 hE c1
    have u := u143 i2.2.1 c1
    refine ⟨ib_143.mpr ?_, ?_⟩
    · clear h hE; exact ⟨i2.2.1, u.2.2.2.2⟩  -- b27
    intro σ_15 hσ_15
    replace hE := rb_p5 hE hσ_15
    intro x16 hx16
    replace hE := rb_p5 hE hx16
    refine lp_b5 (cn_lt2 hn2 ?_ ?_) (fun d9 => ⟨rfl, ?_⟩)
    · clear h hE; rw [hx16]; exact u.1  -- d28
    · clear h hE; rw [hx16]; exact u.2.1  -- d29
    · refine and_5 ?_ (fun o9 => ⟨mF2, Nat.lt_of_lt_of_le d9 (Nat.le_of_lt_succ hmF2), hE⟩)  -- i30
      clear h hE d9 hmF2; rw [hx16]; exact ⟨frG_tr i2.1 (by rw [hσ_15]; exact frG_1 (by decide)), u.2.2.1, u.2.2.2.1⟩

theorem unpack_g5 {C : rCx} (hC : cOK C)  {σ : rS} {a1 : Int32} {Q : rS → Prop} (hp : 0 ≤ a1 ∧ a1 < 1000 ∧ rowOK σ a1) (h : ∀ (σ' : rS), ((frG [58] [57, 59, 60] σ σ' ∧ csF σ') ∧ g5_unpack a1 σ = σ') → Q σ') : cV C 0 m_unpack [.ref (co C), .int a1] σ Q := by
  refine m_unpack_run hC ?_
  unfold w_unpack_0
  obtain ⟨h0, h1, hr⟩ := hp
  have hE : g5_unpack a1 σ = g5_unpack a1 σ := rfl
  intro x1 hx1
  replace hE := rb_p5 hE hx1
  refine ⟨ib_143000.mpr ?_, ?_⟩
  · clear h hE; rw [hx1]; exact (xr h0 h1 (Int32.le_refl 0) (by decide)).2  -- b1
  intro σ_2 hσ_2
  replace hE := rb_p5 hE hσ_2
  unfold w_unpack_18
  refine ⟨fun n l2 l3 τ => n = (34 - l3).toNatClampNeg ∧ ((frG [58] [57, 59, 60] σ τ ∧ l2 = 143 * a1 ∧ 0 ≤ l3 ∧ l3 ≤ 34 ∧ upN τ a1 0) ∧ ∃ m5, n < m5 ∧ g5_unpack a1 σ = g5_unpack_18 m5 l2 l3 τ), ⟨_, rfl, ?_⟩, ?_⟩
  · refine and_5 ?_ (fun o9 => ⟨fu5, cnb5, hE⟩)  -- j2
    clear h hE; exact ⟨by rw [hσ_2]; exact frG_0 (by decide), hx1, by decide, by decide, by rw [hσ_2, si1, if_pos rfl, rd, si2, hx1], fun c c0 c1 => absurd c1 (Int32.not_lt.mpr c0)⟩
  rintro n18 x18_2 x18_3 σ18 ⟨hn18, i18, mF18, hmF18, hE⟩
  obtain ⟨mF18, rfl⟩ : ∃ m9, mF18 = m9 + 1 := ⟨mF18 - 1, by clear h hE; omega⟩
  refine ⟨fun c3 => ?_, fun c3 => ?_⟩
  · skip
    replace hE := rb_t5 hE c3
    unfold w_unpack_48
    refine ⟨fun n l2 l3 τ => n = (τ.1 58 - l3).toNatClampNeg ∧ ((frG [58] [57, 59, 60] σ τ ∧ l2 = 143 * a1 ∧ 0 ≤ l3 ∧ l3 ≤ τ.1 58 ∧ upN τ a1 l3) ∧ ∃ m5, n < m5 ∧ g5_unpack a1 σ = g5_unpack_48 m5 l2 l3 τ), ⟨_, rfl, ?_⟩, ?_⟩
    · refine and_5 ?_ (fun o9 => ⟨fu5, cnb5, hE⟩)  -- j3
      clear h hE; have e : σ18.1 58 = rd σ 73 (143 * a1) := by rw [i18.2.2.2.2.1, rd, i18.1.2.2.1 73 (by decide)]
      exact ⟨i18.1, i18.2.1, by decide, by rw [e]; exact Int32.le_trans (by decide) hr.1, i18.2.2.2.2⟩
    rintro n48 x48_2 x48_3 σ48 ⟨hn48, i48, mF48, hmF48, hE⟩
    obtain ⟨mF48, rfl⟩ : ∃ m9, mF48 = m9 + 1 := ⟨mF48 - 1, by clear h hE; omega⟩
    refine ⟨fun c4 => ?_, fun c4 => ?_⟩
    · skip
      replace hE := rb_t5 hE c4
      refine h _ ?_
      · refine and_5 ?_ (fun o9 => hE)  -- q4
        clear h hE; have e : x48_3 = σ48.1 58 := Int32.le_antisymm i48.2.2.2.1 c4
        have z := i48.2.2.2.2
        rw [e] at z
        exact ⟨i48.1, up_F z (row_o hr (i48.1.2.2.1 73 (by decide)) (i48.1.2.2.1 30 (by decide)) (i48.1.1 19 (by decide)))⟩
    · skip
      replace hE := rb_f5 hE c4
      have e58 : σ48.1 58 ≤ 12 := by rw [i48.2.2.2.2.1, rd, i48.1.2.2.1 73 (by decide)]; exact hr.2.1
      have w := u12 i48.2.2.1 c4 e58
      refine ⟨ib_143000.mpr ?_, ?_⟩
      · clear h hE; rw [i48.2.1]; exact (xr9 h0 h1 i48.2.2.1 w.2.2.2.2 (Int32.le_refl 0) (by decide)).2  -- b5
      refine ⟨ib_12.mpr ?_, ?_⟩
      · clear h hE; exact ⟨i48.2.2.1, w.2.2.2.2⟩  -- b6
      intro σ_5 hσ_5
      replace hE := rb_p5 hE hσ_5
      unfold w_unpack_79
      refine ⟨fun n l2 l3 l4 τ => n = (8 - l4).toNatClampNeg ∧ ((frG [58] [57, 59, 60] σ τ ∧ l2 = 143 * a1 ∧ l3 = x48_3 ∧ τ.1 58 = σ48.1 58 ∧ 0 ≤ l4 ∧ l4 ≤ 8 ∧ upN τ a1 (x48_3 + 1)) ∧ ∃ m5, n < m5 ∧ g5_unpack a1 σ = g5_unpack_79 (g5_unpack_48 mF48) m5 l2 l3 l4 τ), ⟨_, rfl, ?_⟩, ?_⟩
      · refine and_5 ?_ (fun o9 => ⟨fu5, cnb5, hE⟩)  -- j7
        clear h hE; exact ⟨frG_tr i48.1 (by rw [hσ_5]; exact frG_1 (by decide)), i48.2.1, rfl, by rw [hσ_5, ri1], by decide, by decide, by rw [hσ_5, i48.2.1]; exact up_s i48.2.2.2.2 i48.2.2.1 w.2.2.2.2⟩
      rintro n79 x79_2 x79_3 x79_4 σ79 ⟨hn79, i79, mF79, hmF79, hE⟩
      obtain ⟨mF79, rfl⟩ : ∃ m9, mF79 = m9 + 1 := ⟨mF79 - 1, by clear h hE; omega⟩
      refine ⟨fun c6 => ?_, fun c6 => ?_⟩
      · skip
        replace hE := rb_t5 hE c6
        intro x7 hx7
        replace hE := rb_p5 hE hx7
        refine lp_b5 (cn_lt2 hn48 ?_ ?_) (fun d9 => ⟨rfl, ?_⟩)
        · clear h hE; rw [hx7, i79.2.2.1, i79.2.2.2.1]; exact w.1  -- d8
        · clear h hE; rw [hx7, i79.2.2.1, i79.2.2.2.1]; exact w.2.1  -- d9
        · refine and_5 ?_ (fun o9 => ⟨mF48, Nat.lt_of_lt_of_le d9 (Nat.le_of_lt_succ hmF48), hE⟩)  -- i10
          clear h hE d9 hmF48; rw [hx7, i79.2.2.1]; exact ⟨i79.1, i79.2.1, w.2.2.1, by rw [i79.2.2.2.1]; exact w.2.2.2.1, i79.2.2.2.2.2.2⟩
      · skip
        replace hE := rb_f5 hE c6
        have u := up8 i79.2.2.2.2.1 c6
        have z := xr9 h0 h1 i48.2.2.1 w.2.2.2.2 i79.2.2.2.2.1 u.2.2.2.2.1
        have z2 := ix9 i48.2.2.1 w.2.2.2.2 i79.2.2.2.2.1 u.2.2.2.2.1
        refine ⟨ib_143000.mpr ?_, ?_⟩
        · clear h hE; rw [i79.2.1, i79.2.2.1]; exact z.1  -- b11
        refine ⟨ib_96.mpr ?_, ?_⟩
        · clear h hE; rw [i79.2.2.1]; exact z2.1  -- b12
        intro σ_8 hσ_8
        replace hE := rb_p5 hE hσ_8
        intro x9 hx9
        replace hE := rb_p5 hE hx9
        refine lp_b5 (cn_lt2 hn79 ?_ ?_) (fun d9 => ⟨rfl, ?_⟩)
        · clear h hE; rw [hx9]; exact u.1  -- d13
        · clear h hE; rw [hx9]; exact u.2.1  -- d14
        · refine and_5 ?_ (fun o9 => ⟨mF79, Nat.lt_of_lt_of_le d9 (Nat.le_of_lt_succ hmF79), hE⟩)  -- i15
          clear h hE d9 hmF79; rw [hx9]; exact ⟨frG_tr i79.1 (by rw [hσ_8]; exact frG_1 (by decide)), i79.2.1, i79.2.2.1, by rw [hσ_8, ri1]; exact i79.2.2.2.1, u.2.2.1, u.2.2.2.1, up_o i79.2.2.2.2.2.2 (by rw [hσ_8, ri1]) (by rw [hσ_8, ri3 (by decide)]) (by rw [hσ_8, ri3 (by decide)])⟩
  · skip
    replace hE := rb_f5 hE c3
    have u := up34 i18.2.2.1 c3
    refine ⟨ib_143000.mpr ?_, ?_⟩
    · clear h hE; rw [i18.2.1]; exact xr1 h0 h1 i18.2.2.1 u.2.2.2.2  -- b16
    refine ⟨ib_34.mpr ?_, ?_⟩
    · clear h hE; exact ⟨i18.2.2.1, u.2.2.2.2⟩  -- b17
    intro σ_10 hσ_10
    replace hE := rb_p5 hE hσ_10
    intro x11 hx11
    replace hE := rb_p5 hE hx11
    refine lp_b5 (cn_lt2 hn18 ?_ ?_) (fun d9 => ⟨rfl, ?_⟩)
    · clear h hE; rw [hx11]; exact u.1  -- d18
    · clear h hE; rw [hx11]; exact u.2.1  -- d19
    · refine and_5 ?_ (fun o9 => ⟨mF18, Nat.lt_of_lt_of_le d9 (Nat.le_of_lt_succ hmF18), hE⟩)  -- i20
      clear h hE d9 hmF18; rw [hx11]; exact ⟨frG_tr i18.1 (by rw [hσ_10]; exact frG_1 (by decide)), i18.2.1, u.2.2.1, u.2.2.2.1, up_o i18.2.2.2.2 (by rw [hσ_10, ri1]) (by rw [hσ_10, ri3 (by decide)]) (by rw [hσ_10, ri3 (by decide)])⟩

theorem isKey_g5 {C : rCx} (hC : cOK C)  {σ : rS} {a1 : Int32} {Q : Int32 → rS → Prop} (hp : 0 ≤ a1 ∧ a1 < 1000) (h : ∀ (v : Int32), ((nb v) ∧ v = g5_isKey a1 σ) → Q v σ) : cI C 0 m_isKey [.ref (co C), .int a1] σ Q := by
  refine m_isKey_run hC ?_
  unfold w_isKey_0
  have hE : g5_isKey a1 σ = g5_isKey a1 σ := rfl
  unfold w_isKey_4
  refine ⟨fun n l1 l2 l3 τ => n = (143 - l3).toNatClampNeg ∧ ((σ = τ ∧ l1 = a1 ∧ nb l2 ∧ 0 ≤ l3 ∧ l3 ≤ 143) ∧ ∃ m5, n < m5 ∧ g5_isKey a1 σ = g5_isKey_4 m5 l1 l2 l3 τ), ⟨_, rfl, ?_⟩, ?_⟩
  · refine and_5 ?_ (fun o9 => ⟨fu5, cnb5, hE⟩)  -- j1
    clear h hE; exact ⟨rfl, rfl, nb_1, by decide, by decide⟩
  rintro n4 x4_1 x4_2 x4_3 _ ⟨hn4, ⟨rfl, i4⟩, mF4, hmF4, hE⟩
  obtain ⟨mF4, rfl⟩ : ∃ m9, mF4 = m9 + 1 := ⟨mF4 - 1, by clear h hE; omega⟩
  have hj41 : ∀ (l1 : Int32) (l3 : Int32) (s0 : Int32) (τ : rS), ((σ = τ ∧ l1 = a1 ∧ l3 = x4_3 ∧ nb s0 ∧ ¬ 143 ≤ x4_3) ∧ g5_isKey a1 σ = g5_isKey_41 (g5_isKey_4 mF4) l1 l3 s0 τ) → w_isKey_41 C Q (fun l1' l2' l3' τ => ∃ k < n4, (fun n l1 l2 l3 τ => n = (143 - l3).toNatClampNeg ∧ ((σ = τ ∧ l1 = a1 ∧ nb l2 ∧ 0 ≤ l3 ∧ l3 ≤ 143) ∧ ∃ m5, n < m5 ∧ g5_isKey a1 σ = g5_isKey_4 m5 l1 l2 l3 τ)) k l1' l2' l3' τ) l1 l3 s0 τ := by
    clear hE
    rintro y41_1 y41_3 y41_s0 _ ⟨⟨rfl, j41⟩, hE⟩
    unfold w_isKey_41
    intro x1 hx1
    replace hE := rb_p5 hE hx1
    have u := u143 i4.2.2.1 j41.2.2.2
    refine lp_b5 (cn_lt2 hn4 ?_ ?_) (fun d9 => ⟨rfl, ?_⟩)
    · clear h hE; rw [hx1, j41.2.1]; exact u.1  -- d2
    · clear h hE; rw [hx1, j41.2.1]; exact u.2.1  -- d3
    · refine and_5 ?_ (fun o9 => ⟨mF4, Nat.lt_of_lt_of_le d9 (Nat.le_of_lt_succ hmF4), hE⟩)  -- i4
      clear h hE d9 hmF4; rw [hx1, j41.2.1]; exact ⟨rfl, j41.1, j41.2.2.1, u.2.2.1, u.2.2.2.1⟩
  refine ⟨fun c2 => ?_, fun c2 => ?_⟩
  · skip
    replace hE := rb_t5 hE c2
    refine ⟨?_, h _ ?_⟩
    · clear h hE; exact i4.2.1  -- b5
    · refine and_5 ?_ (fun o9 => hE.symm)  -- q6
      clear h hE; exact i4.2.1
  · skip
    replace hE := rb_f5 hE c2
    refine ⟨fun c3 => ?_, fun c3 => ?_⟩
    · skip
      replace hE := rb_t5 hE c3
      refine ⟨?_, h _ ?_⟩
      · clear h hE; exact i4.2.1  -- b7
      · refine and_5 ?_ (fun o9 => hE.symm)  -- q8
        clear h hE; exact i4.2.1
    · skip
      replace hE := rb_f5 hE c3
      refine ⟨ib_143000.mpr ?_, ?_⟩
      · clear h hE; rw [i4.1]; exact (xr hp.1 hp.2 i4.2.2.1 (u143 i4.2.2.1 c2).2.2.2.2).1  -- b9
      refine ⟨ib_143.mpr ?_, ?_⟩
      · clear h hE; exact ⟨i4.2.2.1, (u143 i4.2.2.1 c2).2.2.2.2⟩  -- b10
      refine ⟨fun c4 => ?_, fun c4 => ?_⟩
      · skip
        replace hE := rb_f5 hE c4
        refine hj41 _ _ _ _ ?_
        · refine and_5 ?_ (fun o9 => hE)  -- k11
          clear h hE; exact ⟨rfl, i4.1, rfl, nb_0, c2⟩
      · skip
        replace hE := rb_t5 hE c4
        refine hj41 _ _ _ _ ?_
        · refine and_5 ?_ (fun o9 => hE)  -- k12
          clear h hE; exact ⟨rfl, i4.1, rfl, nb_1, c2⟩

theorem stateNow_g5 {C : rCx} (hC : cOK C)  {σ : rS}  {Q : Int32 → rS → Prop} (hp : csF σ ∧ 0 ≤ σ.1 70 ∧ σ.1 70 ≤ 1000) (h : ∀ (v : Int32) (σ' : rS), ((frG [] [84] σ σ' ∧ kyN σ' (σ.1 58) ∧ (v = -1 ∨ (0 ≤ v ∧ v < σ.1 70))) ∧ g5_stateNow σ = (σ', v)) → Q v σ') : cI C 1 m_stateNow [.ref (co C)] σ Q := by
  refine m_stateNow_run hC ?_
  unfold w_stateNow_0
  obtain ⟨hc, h0, h1⟩ := hp
  have hE : g5_stateNow σ = g5_stateNow σ := rfl
  refine pack_g5 hC  ?_ (fun r1 σ_2 q3 => ?_)
  · clear h hE; exact ⟨Int32.le_trans (by decide) hc.1.1, hc.1.2⟩  -- p1
  obtain ⟨q3, z9⟩ := q3
  replace hE := rb_m5 hE z9
  clear z9
  unfold w_stateNow_7
  refine ⟨fun n l1 l2 τ => n = (σ.1 70 - l2).toNatClampNeg ∧ ((τ = σ_2 ∧ 0 ≤ l2 ∧ l2 ≤ σ.1 70) ∧ ∃ m5, n < m5 ∧ g5_stateNow σ = g5_stateNow_7 m5 l1 l2 τ), ⟨_, rfl, ?_⟩, ?_⟩
  · refine and_5 ?_ (fun o9 => ⟨fu5, cnb5, hE⟩)  -- j2
    clear h hE; exact ⟨rfl, by decide, h0⟩
  rintro n7 x7_1 x7_2 σ7 ⟨hn7, i7, mF7, hmF7, hE⟩
  obtain ⟨mF7, rfl⟩ : ∃ m9, mF7 = m9 + 1 := ⟨mF7 - 1, by clear h hE; omega⟩
  refine ⟨fun c4 => ?_, fun c4 => ?_⟩
  · skip
    replace hE := rb_t5 hE c4
    refine h _ _ ?_
    · refine and_5 ?_ (fun o9 => hE)  -- q3
      clear h hE; rw [i7.1]; exact ⟨q3.1, q3.2, Or.inl rfl⟩
  · skip
    replace hE := rb_f5 hE c4
    have e70 : σ7.1 70 = σ.1 70 := by rw [i7.1]; exact q3.1.1 70 (by decide)
    have u := uk i7.2.1 (by rw [← e70]; exact c4) h1
    refine ⟨ib_1000.mpr ?_, ?_⟩
    · clear h hE; exact ⟨i7.2.1, u.2.2.2.2.2⟩  -- b4
    refine ⟨fun c5 => ?_, fun c5 => ?_⟩
    · skip
      replace hE := rb_f5 hE c5
      intro x6 hx6
      replace hE := rb_p5 hE hx6
      refine lp_b5 (cn_lt2 hn7 ?_ ?_) (fun d9 => ⟨rfl, ?_⟩)
      · clear h hE; rw [hx6]; exact u.1  -- d5
      · clear h hE; rw [hx6]; exact u.2.1  -- d6
      · refine and_5 ?_ (fun o9 => ⟨mF7, Nat.lt_of_lt_of_le d9 (Nat.le_of_lt_succ hmF7), hE⟩)  -- i7
        clear h hE d9 hmF7; rw [hx6]; exact ⟨i7.1, u.2.2.1, u.2.2.2.1⟩
    · skip
      replace hE := rb_t5 hE c5
      refine isKey_g5 hC  ?_ (fun r7 q9 => ?_)
      · clear h hE; exact ⟨i7.2.1, u.2.2.2.2.2⟩  -- p8
      obtain ⟨q9, z9⟩ := q9
      replace hE := rb_p5 hE z9
      clear z9
      refine ⟨fun c10 => ?_, fun c10 => ?_⟩
      · skip
        replace hE := rb_t5 hE c10
        intro x11 hx11
        replace hE := rb_p5 hE hx11
        refine lp_b5 (cn_lt2 hn7 ?_ ?_) (fun d9 => ⟨rfl, ?_⟩)
        · clear h hE; rw [hx11]; exact u.1  -- d9
        · clear h hE; rw [hx11]; exact u.2.1  -- d10
        · refine and_5 ?_ (fun o9 => ⟨mF7, Nat.lt_of_lt_of_le d9 (Nat.le_of_lt_succ hmF7), hE⟩)  -- i11
          clear h hE d9 hmF7; rw [hx11]; exact ⟨i7.1, u.2.2.1, u.2.2.2.1⟩
      · skip
        replace hE := rb_f5 hE c10
        refine h _ _ ?_
        · refine and_5 ?_ (fun o9 => hE)  -- q12
          clear h hE; rw [i7.1]; exact ⟨q3.1, q3.2, Or.inr ⟨i7.2.1, u.2.2.2.2.1⟩⟩

theorem stateNumber_g5 {C : rCx} (hC : cOK C)  {σ : rS}  {Q : Int32 → rS → Prop} (hp : csF σ ∧ 0 ≤ σ.1 70 ∧ σ.1 70 ≤ σ.1 85 ∧ σ.1 85 ≤ 1000) (h : ∀ (v : Int32) (σ' : rS), ((frG [70] [73, 74, 84] σ σ' ∧ (0 ≤ σ'.1 70 ∧ σ.1 70 ≤ σ'.1 70 ∧ σ'.1 70 ≤ σ.1 85) ∧ (v = -1 ∨ (0 ≤ v ∧ v < σ'.1 70)) ∧ (∀ k : Int32, 0 ≤ k → k < σ.1 70 → rowOK σ k → rowOK σ' k) ∧ (∀ k : Int32, 0 ≤ k → σ.1 70 ≤ k → k < σ'.1 70 → rowOK σ' k)) ∧ g5_stateNumber σ = (σ', v)) → Q v σ') : cI C 2 m_stateNumber [.ref (co C)] σ Q := by
  refine m_stateNumber_run hC ?_
  unfold w_stateNumber_0
  obtain ⟨hc, h0, h1, h2⟩ := hp
  have hE : g5_stateNumber σ = g5_stateNumber σ := rfl
  refine stateNow_g5 hC  ?_ (fun r1 σ_2 q3 => ?_)
  · clear h hE; exact ⟨hc, h0, Int32.le_trans h1 h2⟩  -- p1
  obtain ⟨q3, z9⟩ := q3
  replace hE := rb_m5 hE z9
  clear z9
  have e70 : σ_2.1 70 = σ.1 70 := q3.1.1 70 (by decide)
  have old : ∀ v : Int32, (v = -1 ∨ (0 ≤ v ∧ v < σ.1 70)) → frG [70] [73, 74, 84] σ σ_2 ∧ (0 ≤ σ_2.1 70 ∧ σ.1 70 ≤ σ_2.1 70 ∧ σ_2.1 70 ≤ σ.1 85) ∧ (v = -1 ∨ (0 ≤ v ∧ v < σ_2.1 70)) ∧ (∀ k : Int32, 0 ≤ k → k < σ.1 70 → rowOK σ k → rowOK σ_2 k) ∧ (∀ k : Int32, 0 ≤ k → σ.1 70 ≤ k → k < σ_2.1 70 → rowOK σ_2 k) := fun v hv => by
    rw [e70]
    exact ⟨frG_mono q3.1 (by decide) (by decide), ⟨h0, Int32.le_refl _, h1⟩, hv, fun k _ _ r => row_o r (q3.1.2.2.1 73 (by decide)) (q3.1.2.2.1 30 (by decide)) (q3.1.1 19 (by decide)), fun k _ k1 k2 => absurd k2 (Int32.not_lt.mpr k1)⟩
  refine ⟨fun c4 => ?_, fun c4 => ?_⟩
  · skip
    replace hE := rb_f5 hE c4
    refine h _ _ ?_
    · refine and_5 ?_ (fun o9 => hE)  -- q2
      clear h hE; exact old _ q3.2.2
  · skip
    replace hE := rb_t5 hE c4
    refine ⟨fun c5 => ?_, fun c5 => ?_⟩
    · skip
      replace hE := rb_f5 hE c5
      refine pack_g5 hC  ?_ (fun r6 σ_7 q8 => ?_)
      · clear h hE; rw [q3.1.1 58 (by decide)]; exact ⟨Int32.le_trans (by decide) hc.1.1, hc.1.2⟩  -- p3
      obtain ⟨q8, z9⟩ := q8
      replace hE := rb_m5 hE z9
      clear z9
      have lt := lt_85 h0 h1 h2 (by rw [← e70, ← q3.1.1 85 (by decide)]; exact c5)
      refine ⟨ib_1000.mpr ?_, ?_⟩
      · clear h hE; rw [e70]; exact ⟨h0, lt.1⟩  -- b4
      intro σ_9 hσ_9
      replace hE := rb_p5 hE hσ_9
      unfold w_stateNumber_38
      refine ⟨fun n l2 τ => n = (143 - l2).toNatClampNeg ∧ ((frG [] [73, 74, 84] σ τ ∧ 0 ≤ l2 ∧ l2 ≤ 143 ∧ kyN τ (σ.1 58) ∧ (∀ j : Int32, 0 ≤ j → j < 143 * σ.1 70 → rd τ 73 j = rd σ 73 j) ∧ (∀ j : Int32, 0 ≤ j → j < l2 → rd τ 73 (143 * σ.1 70 + j) = rd τ 84 j)) ∧ ∃ m5, n < m5 ∧ g5_stateNumber σ = g5_stateNumber_38 m5 l2 τ), ⟨_, rfl, ?_⟩, ?_⟩
      · refine and_5 ?_ (fun o9 => ⟨fu5, cnb5, hE⟩)  -- j5
        clear h hE; have f9 : frG [] [73, 74, 84] σ σ_9 := frG_tr (frG_mono q3.1 (by decide) (by decide)) (frG_tr (frG_mono q8.1 (by decide) (by decide)) (by rw [hσ_9]; exact frG_1 (by decide)))
        have k7 := q8.2
        rw [q3.1.1 58 (by decide)] at k7
        have r73 : σ_9.2.2.1 73 = σ.2.2.1 73 := by rw [hσ_9, ri3 (by decide), q8.1.2.2.1 73 (by decide), q3.1.2.2.1 73 (by decide)]
        exact ⟨f9, by decide, by decide, ky_o k7 (by rw [hσ_9, ri1]) (by rw [hσ_9, ri3 (by decide)]) (by rw [hσ_9, ri3 (by decide)]), fun j _ _ => by rw [rd, r73], fun j j0 j1 => absurd j1 (Int32.not_lt.mpr j0)⟩
      rintro n38 x38_2 σ38 ⟨hn38, i38, mF38, hmF38, hE⟩
      obtain ⟨mF38, rfl⟩ : ∃ m9, mF38 = m9 + 1 := ⟨mF38 - 1, by clear h hE; omega⟩
      refine ⟨fun c10 => ?_, fun c10 => ?_⟩
      · skip
        replace hE := rb_t5 hE c10
        intro σ_11 hσ_11
        replace hE := rb_p5 hE hσ_11
        refine h _ _ ?_
        · refine and_5 ?_ (fun o9 => hE)  -- q6
          clear h hE; obtain ⟨y1, y2, y3, y4, y5, y6⟩ := i38
          have e : x38_2 = 143 := Int32.le_antisymm y3 c10
          have s11 : σ_11.2 = σ38.2 := by rw [hσ_11, si2]
          have e11 : ∀ k, k ≠ 70 → σ_11.1 k = σ.1 k := fun k hk => by rw [hσ_11, si1, if_neg hk]; exact y1.1 k (by simp)
          have e70' : σ_11.1 70 = σ.1 70 + 1 := by rw [hσ_11, si1, if_pos rfl, y1.1 70 (by decide)]
          have r30 : σ_11.2.2.1 30 = σ.2.2.1 30 := by rw [s11]; exact y1.2.2.1 30 (by decide)
          rw [e70', lt.2.2.2.2.1]
          refine ⟨frG_tr (frG_mono y1 (by decide) (by decide)) (by rw [hσ_11]; exact frG_0 (by decide)), ⟨lt.2.2.1, lt.2.2.2.1, lt.2.1⟩, Or.inr ⟨h0, lt.2.2.2.2.2⟩, fun k k0 k1 r => ?_, fun k k0 k1 k2 => ?_⟩
          · exact row_old r k0 k1 lt.1 r30 (e11 19 (by decide)) (fun j j0 j1 => by rw [rd, s11]; exact y5 j j0 j1)
          · have ek : k = σ.1 70 := by
              rcases l1k h0 lt.1 k2 with z | z
              · exact z
              · exact absurd z (Int32.not_lt.mpr k1)
            rw [ek]
            have e58 : σ38.1 58 = σ.1 58 := y1.1 58 (by decide)
            refine row_new hc h0 lt.1 (ky_o y4 ((e11 58 (by decide)).trans e58.symm) (by rw [s11]) (by rw [s11])) (fun j j0 j1 => ?_) (e11 58 (by decide)) (by rw [s11]; exact y1.2.2.1 59 (by decide)) r30 (e11 19 (by decide))
            rw [rd, rd, s11]
            exact y6 j j0 (by rw [e]; exact j1)
      · skip
        replace hE := rb_f5 hE c10
        obtain ⟨y1, y2, y3, y4, y5, y6⟩ := i38
        have u := u143 y2 c10
        have e70' : σ38.1 70 = σ.1 70 := y1.1 70 (by decide)
        refine ⟨ib_143.mpr ?_, ?_⟩
        · clear h hE; exact ⟨y2, u.2.2.2.2⟩  -- b7
        refine ⟨ib_143000.mpr ?_, ?_⟩
        · clear h hE; rw [e70']; exact (xr h0 lt.1 y2 u.2.2.2.2).1  -- b8
        intro σ_12 hσ_12
        replace hE := rb_p5 hE hσ_12
        intro x13 hx13
        replace hE := rb_p5 hE hx13
        refine lp_b5 (cn_lt2 hn38 ?_ ?_) (fun d9 => ⟨rfl, ?_⟩)
        · clear h hE; rw [hx13]; exact u.1  -- d9
        · clear h hE; rw [hx13]; exact u.2.1  -- d10
        · refine and_5 ?_ (fun o9 => ⟨mF38, Nat.lt_of_lt_of_le d9 (Nat.le_of_lt_succ hmF38), hE⟩)  -- i11
          clear h hE d9 hmF38; rw [hx13]
          rw [e70'] at hσ_12
          refine ⟨frG_tr y1 (by rw [hσ_12]; exact frG_1 (by decide)), u.2.2.1, u.2.2.2.1, ky_o y4 (by rw [hσ_12, ri1]) (by rw [hσ_12, ri3 (by decide)]) (by rw [hσ_12, ri3 (by decide)]), fun j j0 j1 => ?_, fun j j0 j1 => ?_⟩
          · rw [rd, hσ_12, ri4, if_neg (cn_ne j0 (xr_in h0 lt.1 y2 u.2.2.2.2 j0 j1))]
            exact y5 j j0 j1
          · rw [rd, rd, hσ_12, ri4, ri3 (by decide)]
            rcases l1s y2 u.2.2.2.2 j1 with z | z
            · rw [z, if_pos rfl]
            · have w := xr_jn h0 lt.1 u.2.2.2.2 j0 z
              rw [if_neg (cn_ne w.2 w.1)]
              exact y6 j j0 z
    · skip
      replace hE := rb_t5 hE c5
      refine h _ _ ?_
      · refine and_5 ?_ (fun o9 => hE)  -- q12
        clear h hE; exact old _ (Or.inl c4)

end
