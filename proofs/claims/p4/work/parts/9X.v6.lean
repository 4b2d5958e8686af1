set_option maxHeartbeats 1600000
/-! the reference: the runs of play and walk -/
def pyI (σ τ : rS) (a : Int32) : Prop := frW σ τ ∧ pyN τ ∧ 0 ≤ τ.1 109 ∧ τ.1 109 ≤ τ.1 108 ∧ τ.1 108 ≤ a ∧ (σ.1 113 = 0 → τ.1 109 ≤ σ.1 104)
theorem go_m {x y a : Int32} (x0 : 0 ≤ x) (h : x < y) (ha : y ≤ a) (a1 : a ≤ 2000) : (a - y).toNatClampNeg < (a - x).toNatClampNeg := by
  have p : 0 ≤ a - y := by grind
  have q : a - y < a - x := by grind
  exact cn_lt p q
theorem go_s {x a : Int32} (x0 : 0 ≤ x) (h : x ≤ a) (hn : ¬ x = a) (a1 : a ≤ 2000) : x < x + 1 ∧ x + 1 ≤ a ∧ x + 1 - 1 = x := by grind
theorem go_d {c s a : Int32} (c0 : 0 ≤ c) (h : c < s) (h1 : s ≤ a) (a1 : a ≤ 2000) : c ≤ s - 1 ∧ s - 1 ≤ a ∧ c + 1 ≤ s ∧ 0 ≤ c + 1 ∧ c ≤ 2000 ∧ c ≤ s := by grind
theorem u34g {x : Int32} (h0 : 0 ≤ x) (h : ¬ 34 ≤ x) : 0 ≤ 34 - (x + 1) ∧ 34 - (x + 1) < 34 - x ∧ 0 ≤ x + 1 ∧ x + 1 ≤ 34 ∧ x < 34 := by grind
theorem go2_c {C : rCx} (hC : cOK C) (T : Int32) {σ : rS} {a1 : Int32} {Q : Int32 → rS → Prop} (hp : (σ.1 14 ≠ 0 → rI σ (σ.1 3) T) ∧ exP σ ∧ 0 ≤ σ.1 104 ∧ σ.1 104 ≤ 200 ∧ plN σ) (h : ∀ (v : Int32) (σ' : rS), (frW σ σ' ∧ plN σ') → Q v σ') : cI C 10 m_go2 [.ref (co C), .int a1] σ Q := by
  refine m_go2_run hC ?_
  unfold w_go2_0
  obtain ⟨hI, hP, t0', t1', hn⟩ := hp
  have hj213 : ∀ (s1 : Int32) (τ : rS), (frW σ τ ∧ pyQ τ) → w_go2_213 C Q  s1 τ := by
    rintro y213_s1 τ213 j213
    unfold w_go2_213
    intro σ_1 hσ_1
    unfold w_go2_219
    refine ⟨fun n l4 τ => n = (34 - l4).toNatClampNeg ∧ (frW σ τ ∧ pyQ τ ∧ 0 ≤ l4 ∧ l4 ≤ 34), ⟨_, rfl, ?_⟩, ?_⟩
    · clear h; have F : frW σ σ_1 := by rw [hσ_1]; exact frW_tr j213.1 (frW_0 (by decide))
      exact ⟨F, pyQ_r j213.2 (by rw [hσ_1]; rfl) (by rw [hσ_1]; rfl), by decide, by decide⟩
    rintro n219 x219_4 σ219 ⟨hn219, i219⟩
    obtain ⟨F, P, a0, a1'⟩ := i219
    refine ⟨fun c2 => ?_, fun c2 => ?_⟩
    · skip
      refine h _ _ ?_
      · clear h; exact ⟨F, fun _ => P⟩  -- q2
    · skip
      have u := u34g a0 c2
      refine ⟨ib_34.mpr ?_, ?_⟩
      · clear h; exact ⟨a0, u.2.2.2.2⟩  -- b3
      refine ⟨ib_34.mpr ?_, ?_⟩
      · clear h; exact ⟨a0, u.2.2.2.2⟩  -- b4
      intro σ_3 hσ_3
      intro x4 hx4
      refine ⟨_, cn_lt2 hn219 ?_ ?_, rfl, ?_⟩
      · clear h; rw [hx4]; exact u.1  -- d5
      · clear h; rw [hx4]; exact u.2.1  -- d6
      · clear h; rw [hx4]
        exact ⟨by rw [hσ_3]; exact frW_tr F frW_1, pyQ_r P (by rw [hσ_3, ri3 (by decide)]) (by rw [hσ_3, ri3 (by decide)]), u.2.2.1, u.2.2.2.1⟩
  have hj205 : ∀  (τ : rS), (frW σ τ ∧ pyQ τ) → w_go2_205 C Q   τ := by
    rintro  τ205 j205
    unfold w_go2_205
    refine hj213 _ _ ?_
    · clear h; exact j205  -- k8
  have hj185 : ∀ (s1 : Int32) (τ : rS), (frW σ τ ∧ pyQ τ) → w_go2_185 C Q  s1 τ := by
    rintro y185_s1 τ185 j185
    unfold w_go2_185
    intro σ_5 hσ_5
    refine ⟨fun c6 => ?_, fun c6 => ?_⟩
    · skip
      refine hj205 _ ?_
      · clear h; rw [hσ_5]; exact ⟨frW_tr j185.1 (frW_0 (by decide)), pyQ_r j185.2 rfl rfl⟩  -- k9
    · skip
      refine ⟨fun c7 => ?_, fun c7 => ?_⟩
      · skip
        refine hj213 _ _ ?_
        · clear h; rw [hσ_5]; exact ⟨frW_tr j185.1 (frW_0 (by decide)), pyQ_r j185.2 rfl rfl⟩  -- k10
      · skip
        refine hj205 _ ?_
        · clear h; rw [hσ_5]; exact ⟨frW_tr j185.1 (frW_0 (by decide)), pyQ_r j185.2 rfl rfl⟩  -- k11
  have hj175 : ∀ (l2 : Int32) (l3 : Int32) (τ : rS), (frW σ τ ∧ pyQ τ) → w_go2_175 C Q  l2 l3 τ := by
    rintro y175_2 y175_3 τ175 j175
    unfold w_go2_175
    refine ⟨fun c8 => ?_, fun c8 => ?_⟩
    · skip
      refine hj185 _ _ ?_
      · clear h; exact j175  -- k12
    · skip
      refine hj185 _ _ ?_
      · clear h; exact j175  -- k13
  have hj28 : ∀ (l1 : Int32) (s1 : Int32) (τ : rS), (l1 = a1 ∧ τ = σ ∧ (s1 ≤ 0 → σ.1 14 ≠ 0 ∧ 0 ≤ a1 ∧ a1 ≤ 2000)) → w_go2_28 C Q  l1 s1 τ := by
    rintro y28_1 y28_s1 τ28 j28
    unfold w_go2_28
    intro σ_9 hσ_9
    refine ⟨fun c10 => ?_, fun c10 => ?_⟩
    · skip
      intro σ_11 hσ_11
      intro σ_12 hσ_12
      intro σ_13 hσ_13
      refine set_c hC  ?_ (fun σ_14 q15 => ?_)
      · clear h; exact ⟨by decide, by decide, by decide⟩  -- p14
      simp only [kn2] at q15
      refine set_c hC  ?_ (fun σ_16 q17 => ?_)
      · clear h; exact ⟨by decide, by decide, by decide⟩  -- p15
      simp only [kn2] at q17
      obtain ⟨y1, y2, y3⟩ := j28
      have e0 : σ_9.1 0 = y28_s1 := by rw [hσ_9]; rfl
      have w := y3 (by rw [← e0]; exact c10)
      have F13 : frW σ σ_13 := by
        rw [hσ_13, hσ_12, hσ_11, hσ_9, y2]
        exact frW_tr (frW_tr (frW_tr (frW_0 (by decide)) (frW_0 (by decide))) (frW_0 (by decide))) frW_l
      have F16 : frW σ σ_16 := frW_tr F13 (frW_tr (frW_N q15.1 (sub_of rfl)) (frW_N q17.1 (sub_of rfl)))
      have e16 : σ_16.1 = σ_13.1 := by rw [q17.1.1, q15.1.1]
      have f108 : σ_16.1 108 = 0 := by rw [e16, hσ_13, hσ_12, hσ_11]; rfl
      have f109 : σ_16.1 109 = 0 := by rw [e16, hσ_13, hσ_12]; rfl
      have g17 := nV_fr q17.1 (k := 17) (by decide) q15.2.1
      have N16 : pyN σ_16 := ⟨g17.1, q17.2.1, by rw [q17.2.2.1]; decide, by have := g17.2.2; have := q15.2.2.2; omega, by have := q17.2.2.2; omega⟩
      refine begin_c hC (σ.1 3) T ?_ (fun r18 σ_19 q20 => ?_)
      · clear h; exact rI_W (hI w.1) F16  -- p16
      unfold w_go2_76
      refine ⟨fun n l1 l2 l3 τ => n = (if l2 = 0 ∧ l3 = 0 then (a1 - τ.1 108).toNatClampNeg + 1 else 0) ∧ (l1 = a1 ∧ pyI σ τ a1 ∧ (l2 = 0 → l3 = 0 → csF τ)), ⟨_, rfl, ?_⟩, ?_⟩
      · clear h; have G : frW σ σ_19 := frW_tr F16 (frW_G q20.1 (sub_of rfl) (sub_of rfl))
        have h108 : σ_19.1 108 = 0 := by rw [q20.1.1 108 (by decide)]; exact f108
        have h109 : σ_19.1 109 = 0 := by rw [q20.1.1 109 (by decide)]; exact f109
        refine ⟨y1, ⟨G, pyN_G N16 q20.1 (by decide) (by decide) (by decide), by rw [h109]; decide, by rw [h109, h108]; decide, by rw [h108]; exact w.2.1, fun _ => by rw [h109]; exact t0'⟩, fun e _ => ?_⟩
        rcases q20.2 with z | z
        · exact z.2
        · rw [z] at e; exact absurd e (by decide)
      rintro n76 x76_1 x76_2 x76_3 σ76 ⟨hn76, i76⟩
      have hj160 : ∀ (l1 : Int32) (s0 : Int32) (τ : rS), (l1 = a1 ∧ pyI σ τ a1 ∧ (s0 = 0 → csF τ) ∧ (s0 = 5 ∨ σ76.1 108 < τ.1 108) ∧ x76_2 = 0 ∧ x76_3 = 0) → w_go2_160 C Q (fun l1' l2' l3' τ => ∃ k < n76, (fun n l1 l2 l3 τ => n = (if l2 = 0 ∧ l3 = 0 then (a1 - τ.1 108).toNatClampNeg + 1 else 0) ∧ (l1 = a1 ∧ pyI σ τ a1 ∧ (l2 = 0 → l3 = 0 → csF τ))) k l1' l2' l3' τ) l1 s0 τ := by
        rintro y160_1 y160_s0 τ160 j160
        unfold w_go2_160
        obtain ⟨z1, P, zc, zd, z2, z3⟩ := j160
        obtain ⟨i1, I76, ic⟩ := i76
        refine ⟨fun c21 => ?_, fun c21 => ?_⟩
        · skip
          refine ⟨_, ?_, rfl, ?_⟩
          · clear h; have m : n76 = (a1 - σ76.1 108).toNatClampNeg + 1 := by rw [hn76, if_pos ⟨z2, z3⟩]
            rw [m]
            split
            · exact Nat.succ_lt_succ (go_m (Int32.le_trans I76.2.2.1 I76.2.2.2.1) (zd.resolve_left c21) P.2.2.2.2.1 w.2.2)
            · exact Nat.succ_pos _
          · clear h; exact ⟨z1, P, fun e _ => zc e⟩  -- i19
        · skip
          refine ⟨_, ?_, rfl, ?_⟩
          · clear h; have m : n76 = (a1 - σ76.1 108).toNatClampNeg + 1 := by rw [hn76, if_pos ⟨z2, z3⟩]
            rw [m, if_neg (fun z => absurd z.2 (by decide))]
            exact Nat.succ_pos _
          · clear h; exact ⟨z1, P, fun _ e => absurd e (by decide)⟩  -- i21
      have hj131 : ∀ (l1 : Int32) (l2 : Int32) (s1 : Int64) (s2 : Int64) (τ : rS), (l1 = a1 ∧ pyI σ τ a1 ∧ τ.1 109 < τ.1 108 ∧ σ76.1 108 < τ.1 108 ∧ acQ l2 τ ∧ x76_2 = 0 ∧ x76_3 = 0) → w_go2_131 C Q (fun l1' l2' l3' τ => ∃ k < n76, (fun n l1 l2 l3 τ => n = (if l2 = 0 ∧ l3 = 0 then (a1 - τ.1 108).toNatClampNeg + 1 else 0) ∧ (l1 = a1 ∧ pyI σ τ a1 ∧ (l2 = 0 → l3 = 0 → csF τ))) k l1' l2' l3' τ) l1 l2 s1 s2 τ := by
        rintro y131_1 y131_2 y131_s1 y131_s2 τ131 j131
        unfold w_go2_131
        intro σ_22 hσ_22
        obtain ⟨z1, P, zl, zm, A, z2, z3⟩ := j131
        obtain ⟨i1, I76, ic⟩ := i76
        have F22 : frW σ σ_22 := by rw [hσ_22]; exact frW_tr P.1 frW_l
        have P22 : pyI σ σ_22 a1 := ⟨F22, pyN_r P.2.1 (by rw [hσ_22]; rfl) (by rw [hσ_22]; rfl) (by rw [hσ_22]; rfl), by rw [hσ_22]; exact P.2.2.1, by rw [hσ_22]; exact P.2.2.2.1, by rw [hσ_22]; exact P.2.2.2.2.1, by rw [hσ_22]; exact P.2.2.2.2.2⟩
        have l22 : σ76.1 108 < σ_22.1 108 := by rw [hσ_22]; exact zm
        have k22' : σ_22.1 109 < σ_22.1 108 := by rw [hσ_22]; exact zl
        have I22 := rI_W (hI w.1) F22
        have gd := go_d P22.2.2.1 k22' P22.2.2.2.2.1 w.2.2
        refine ⟨fun c23 => ?_, fun c23 => ?_⟩
        · skip
          refine ⟨fun c24 => ?_, fun c24 => ?_⟩
          · skip
            refine hj160 _ _ _ ?_
            · clear h; refine ⟨z1, P22, fun e => ?_, Or.inr l22, z2, z3⟩
              rcases A with q | q | q | q | q | q
              · rw [hσ_22]; exact csF_o q.2 rfl rfl rfl rfl
              · rw [q] at e; exact absurd e (by decide)
              · rw [q] at e; exact absurd e (by decide)
              · rw [q] at e; exact absurd e (by decide)
              · exact absurd q.1 c23
              · exact absurd q.1 c24
          · skip
            refine chooses_c hC (σ.1 3) T ?_ (fun r25 σ_26 q27 => ?_)
            · clear h; rcases A with q | q | q | q | q | q
              · rw [q.1] at c24; exact absurd c24 (by decide)
              · rw [q] at c24; exact absurd c24 (by decide)
              · rw [q] at c24; exact absurd c24 (by decide)
              · rw [q] at c24; exact absurd c24 (by decide)
              · exact absurd q.1 c23
              · exact ⟨I22, by rw [hσ_22]; exact csF_o q.2.1 rfl rfl rfl rfl, by rw [hσ_22]; exact q.2.2.1, exP_W hP F22⟩
            refine hj160 _ _ _ ?_
            · clear h; have G : frW σ σ_26 := frW_tr F22 (frW_G q27.1 (sub_of rfl) (sub_of rfl))
              have h108 : σ_26.1 108 = σ_22.1 108 := q27.1.1 108 (by decide)
              have h109 : σ_26.1 109 = σ_22.1 109 := q27.1.1 109 (by decide)
              refine ⟨z1, ⟨G, pyN_G P22.2.1 q27.1 (by decide) (by decide) (by decide), by rw [h109]; exact P22.2.2.1, by rw [h109, h108]; exact P22.2.2.2.1, by rw [h108]; exact P22.2.2.2.2.1, by rw [h109]; exact P22.2.2.2.2.2⟩, fun e => ?_, Or.inr (by rw [h108]; exact l22), z2, z3⟩
              rcases q27.2 with z | z
              · exact z.2
              · rw [z] at e; exact absurd e (by decide)
        · skip
          refine draws_c hC (σ.1 3) T ?_ (fun r28 σ_29 q30 => ?_)
          · clear h; rcases A with q | q | q | q | q | q
            · rw [q.1] at c23; exact absurd c23 (by decide)
            · rw [q] at c23; exact absurd c23 (by decide)
            · rw [q] at c23; exact absurd c23 (by decide)
            · rw [q] at c23; exact absurd c23 (by decide)
            · exact ⟨I22, by rw [hσ_22]; exact csF_o q.2.1 rfl rfl rfl rfl, by rw [hσ_22]; exact q.2.2.1, by rw [hσ_22]; exact q.2.2.2, P22.2.1, P22.2.2.1, gd.2.2.2.2.1, by rw [F22.1 104 (by decide)]; exact t0', by rw [F22.1 104 (by decide)]; exact t1', fun z => by rw [F22.1 104 (by decide)]; exact P22.2.2.2.2.2 (by rw [← F22.1 113 (by decide)]; exact z)⟩
            · rw [q.1] at c23; exact absurd c23 (by decide)
          refine hj160 _ _ _ ?_
          · clear h; have F29 := frW_tr F22 q30.1
            have h9 := Int32.le_trans P22.2.2.1 q30.2.2.1
            have t9 : σ.1 113 = 0 → σ_29.1 109 ≤ σ.1 104 := fun z => by
              have y := q30.2.2.2.2.1 (by rw [F22.1 113 (by decide)]; exact z)
              rw [F22.1 104 (by decide)] at y
              exact y
            rcases q30.2.2.2.2.2 with q | q
            · have l8 : σ_29.1 109 ≤ σ_29.1 108 := by rw [q.2.1, q.2.2]; exact gd.1
              have m8 : σ_29.1 108 ≤ a1 := by rw [q.2.1]; exact gd.2.1
              exact ⟨z1, ⟨F29, q30.2.1, h9, l8, m8, t9⟩, fun e => by rw [q.1] at e; exact absurd e (by decide), Or.inl q.1, z2, z3⟩
            · have l8 : σ_29.1 109 ≤ σ_29.1 108 := by rw [q.1]; exact Int32.le_trans q30.2.2.2.1 gd.2.2.1
              have m8 : σ_29.1 108 ≤ a1 := by rw [q.1]; exact P22.2.2.2.2.1
              refine ⟨z1, ⟨F29, q30.2.1, h9, l8, m8, t9⟩, fun e => ?_, Or.inr (by rw [q.1]; exact l22), z2, z3⟩
              rcases q.2 with z | z | z
              · exact z.2
              · rw [z] at e; exact absurd e (by decide)
              · rw [z] at e; exact absurd e (by decide)
      obtain ⟨i1, I76, ic⟩ := i76
      have Q76 := pyQ_N I76.2.1 (Int32.le_trans I76.2.2.2.1 (Int32.le_trans I76.2.2.2.2.1 w.2.2))
      rw [i1]
      refine ⟨fun c31 => ?_, fun c31 => ?_⟩
      · skip
        refine hj175 _ _ _ ?_
        · clear h; exact ⟨I76.1, Q76⟩  -- k27
      · skip
        refine ⟨fun c32 => ?_, fun c32 => ?_⟩
        · skip
          refine hj175 _ _ _ ?_
          · clear h; exact ⟨I76.1, Q76⟩  -- k28
        · skip
          have gs := fun (hne : ¬ σ76.1 108 = a1) => go_s (Int32.le_trans I76.2.2.1 I76.2.2.2.1) I76.2.2.2.2.1 hne w.2.2
          refine ⟨fun c33 => ?_, fun c33 => ?_⟩
          · skip
            refine act_c hC (σ.1 3) T ?_ (fun r34 σ_35 q36 => ?_)
            · clear h; exact ⟨rI_W (hI w.1) I76.1, ic c31 c32⟩  -- p29
            have g := gs c33
            have F35 : frW σ σ_35 := frW_tr I76.1 (frW_G q36.1 (sub_of rfl) (sub_of rfl))
            have N35 := pyN_G I76.2.1 q36.1 (by decide) (by decide) (by decide)
            have e108 : σ_35.1 108 = σ76.1 108 := q36.1.1 108 (by decide)
            have e109 : σ_35.1 109 = σ76.1 109 := q36.1.1 109 (by decide)
            intro σ_37 hσ_37
            refine ⟨fun c38 => ?_, fun c38 => ?_⟩
            · skip
              refine hj131 _ _ _ _ _ ?_
              · clear h; have F37 : frW σ σ_37 := by rw [hσ_37]; exact frW_tr F35 (frW_0 (by decide))
                have s108 : σ_37.1 108 = σ76.1 108 + 1 := by rw [hσ_37, ← e108]; rfl
                have s109 : σ_37.1 109 = σ76.1 109 := by rw [hσ_37, ← e109]; rfl
                exact ⟨rfl, ⟨F37, pyN_r N35 (by rw [hσ_37]; rfl) (by rw [hσ_37]; rfl) (by rw [hσ_37]; rfl), by rw [s109]; exact I76.2.2.1, by rw [s109, s108]; exact Int32.le_trans I76.2.2.2.1 (Int32.le_of_lt g.1), by rw [s108]; exact g.2.1, by rw [s109]; exact I76.2.2.2.2.2⟩, by rw [s109, s108]; exact Int32.lt_of_le_of_lt I76.2.2.2.1 g.1, by rw [s108]; exact g.1, by rw [hσ_37]; exact q36.2, c31, c32⟩
            · skip
              refine hj131 _ _ _ _ _ ?_
              · clear h; have F37 : frW σ σ_37 := by rw [hσ_37]; exact frW_tr F35 (frW_0 (by decide))
                have s108 : σ_37.1 108 = σ76.1 108 + 1 := by rw [hσ_37, ← e108]; rfl
                have s109 : σ_37.1 109 = σ76.1 109 := by rw [hσ_37, ← e109]; rfl
                exact ⟨rfl, ⟨F37, pyN_r N35 (by rw [hσ_37]; rfl) (by rw [hσ_37]; rfl) (by rw [hσ_37]; rfl), by rw [s109]; exact I76.2.2.1, by rw [s109, s108]; exact Int32.le_trans I76.2.2.2.1 (Int32.le_of_lt g.1), by rw [s108]; exact g.2.1, by rw [s109]; exact I76.2.2.2.2.2⟩, by rw [s109, s108]; exact Int32.lt_of_le_of_lt I76.2.2.2.1 g.1, by rw [s108]; exact g.1, by rw [hσ_37]; exact q36.2, c31, c32⟩
          · skip
            refine ⟨_, ?_, rfl, ?_⟩
            · clear h; have m : n76 = (a1 - σ76.1 108).toNatClampNeg + 1 := by rw [hn76, if_pos ⟨c31, c32⟩]
              rw [m, if_neg (fun z => absurd z.2 (by decide))]
              exact Nat.succ_pos _
            · clear h; exact ⟨rfl, I76, fun _ e => absurd e (by decide)⟩  -- i33
    · skip
      refine h _ _ ?_
      · clear h; obtain ⟨y1, y2, y3⟩ := j28
        have F : frW σ σ_9 := by rw [hσ_9, y2]; exact frW_0 (by decide)
        refine ⟨F, fun z => ?_⟩
        have z2 : σ.1 106 ≠ -1 := by rw [hσ_9, y2] at z; exact z
        exact pyQ_r (hn z2) (by rw [hσ_9, y2]; rfl) (by rw [hσ_9, y2]; rfl)
  refine ⟨fun c39 => ?_, fun c39 => ?_⟩
  · skip
    refine within_c hC  (fun r40 q42 => ?_)
    refine ⟨fun c43 => ?_, fun c43 => ?_⟩
    · skip
      refine hj28 _ _ _ ?_
      · clear h; exact ⟨rfl, rfl, fun _ => ⟨c39, (q42.2.mp c43).1, (q42.2.mp c43).2⟩⟩  -- k35
    · skip
      refine hj28 _ _ _ ?_
      · clear h; exact ⟨rfl, rfl, fun z => absurd z (by decide)⟩  -- k36
  · skip
    refine hj28 _ _ _ ?_
    · clear h; exact ⟨rfl, rfl, fun z => absurd z (by decide)⟩  -- k37
