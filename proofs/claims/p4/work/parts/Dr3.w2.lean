set_option maxHeartbeats 1600000
/-- what program answers, by its reading -/
def pQ9 (σ : rS) (v : Int32) (σ' : rS) : Prop := ∃ σ2 : rS, σ2.1 2 = σ.1 2 ∧ σ2.2.2.1 1 = σ.2.2.1 1 ∧ σ'.1 53 = (g5_tellProgram σ2).1 11 ∧ ((g5_tellProgram σ2).1 11 = 0 → v = (g5_tellProgram σ2).1 19) ∧ ((g5_tellProgram σ2).1 11 ≠ 0 → v = (-1 : Int32) - (g5_tellProgram σ2).1 12)
theorem program_c9 {C : rCx} (hC : cOK C)  {σ : rS}  {Q : Int32 → rS → Prop} (hp : (σ.1 3 = 0 ∨ σ.1 3 = 65537) ∧ 0 ≤ σ.1 2 ∧ σ.1 2 ≤ 65536 ∧ tyAll σ ∧ (σ.1 14 ≠ 0 → ∃ T, progOK σ (σ.1 3) T)) (h : ∀ (v : Int32) (σ' : rS), (prQ σ σ' ∧ pQ9 σ v σ') → Q v σ') : cI C 13 m_program [.ref (co C)] σ Q := by
  refine m_program_run hC ?_
  unfold w_program_0
  obtain ⟨hb, hs0, hs1, hT, hP⟩ := hp
  intro σ_1 hσ_1
  refine swingAll_c_s hC  (fun σ_2 q3 => ?_)
  have e1 : ∀ k, k ≠ 0 → σ_1.1 k = σ.1 k := fun k hk => by rw [hσ_1, si1, if_neg hk]
  have s1 : σ_1.2 = σ.2 := by rw [hσ_1, si2]
  have e2 : ∀ k, k ≠ 0 → k ≠ 55 → σ_2.1 k = σ.1 k := fun k z1 z2 => (q3.1.1 k z2).trans (e1 k z1)
  have r2 : ∀ k, k ≠ 54 → k ≠ 56 → σ_2.2.2.1 k = σ.2.2.1 k := fun k z1 z2 => (q3.1.2.2.1 k z1 z2).trans (by rw [s1])
  have T1 : tyAll σ_1 := ty_s hT (fun k hk => e1 k (by omega)) (fun k _ _ => by rw [s1])
  have T2 : tyAll σ_2 := ty_s hT (fun k hk => e2 k (by omega) (by omega)) r2
  have F2 : frH zFF zRR σ σ_2 := ⟨fun k z => e2 k (fun e => z (by rw [e]; decide)) (fun e => z (by rw [e]; decide)), fun k => (q3.1.2.1 k).trans (by rw [s1]), fun k z => r2 k (fun e => z (by rw [e]; decide)) (fun e => z (by rw [e]; decide)), fun k j _ => (q3.1.2.2.2.2 k j).trans (by rw [s1])⟩
  refine tellProgram_g5 hC  ?_ (fun σ_4 q5z => ?_)
  · clear h; exact ⟨by rw [e2 3 (by decide) (by decide)]; exact hb, by rw [e2 2 (by decide) (by decide)]; exact hs0, by rw [e2 2 (by decide) (by decide)]; exact hs1, T2⟩  -- p1
  obtain ⟨q5, zg⟩ := q5z
  intro σ_6 hσ_6
  intro σ_7 hσ_7
  obtain ⟨t1, t2, t3, t4, t5, t6, t7⟩ := q5
  have e7 : ∀ k, k ≠ 2 → k ≠ 53 → σ_7.1 k = σ_4.1 k := fun k z1 z2 => by rw [hσ_7, si1, if_neg z2, hσ_6, si1, if_neg z1]
  have v7 : σ_7.1 2 = 0 := by rw [hσ_7, si1, if_neg (by decide), hσ_6, si1, if_pos rfl]
  have s7 : σ_7.2 = σ_4.2 := by rw [hσ_7, si2, hσ_6, si2]
  have F7 : frH zFF zRR σ σ_7 := frH_tr F2 (frH_tr (frZ_q t1) (by rw [hσ_7, hσ_6]; exact frH_tr (frZ_si (by decide)) (frZ_si (by decide))))
  have T7 : tyAll σ_7 := ty_s t2 (fun k hk => e7 k (by omega) (by omega)) (fun k _ _ => by rw [s7])
  have k7 : ∀ k, k ∉ qFF → k ≠ 0 → k ≠ 55 → k ≠ 2 → k ≠ 53 → σ_7.1 k = σ.1 k := fun k z1 z2 z3 z4 z5 => (e7 k z4 z5).trans ((t1.1 k z1).trans (e2 k z2 z3))
  refine ⟨fun c8 => ?_, fun c8 => ?_⟩
  · skip
    intro σ_9 hσ_9
    intro σ_10 hσ_10
    intro σ_11 hσ_11
    intro σ_12 hσ_12
    intro σ_13 hσ_13
    intro σ_14 hσ_14
    intro σ_15 hσ_15
    intro σ_16 hσ_16
    have x16 : ∀ k, k ≠ 14 → k ≠ 69 → k ≠ 94 → k ≠ 114 → k ≠ 106 → k ≠ 70 → k ≠ 71 → k ≠ 72 → σ_16.1 k = σ_7.1 k := fun k z1 z2 z3 z4 z5 z6 z7 z8 => by rw [hσ_16, si1, if_neg z8, hσ_15, si1, if_neg z7, hσ_14, si1, if_neg z6, hσ_13, si1, if_neg z5, hσ_12, si1, if_neg z4, hσ_11, si1, if_neg z3, hσ_10, si1, if_neg z2, hσ_9, si1, if_neg z1]
    have x53 : σ_7.1 53 = σ_4.1 11 := by rw [hσ_7, si1, if_pos rfl, hσ_6, si1, if_neg (by decide)]
    have z0 : σ_4.1 11 = 0 := by
      have c9 := c8
      rw [e7 11 (by decide) (by decide)] at c9
      exact Int32.le_antisymm c9 t7
    have pq : pQ9 σ (σ_16.1 19) σ_16 := ⟨σ_2, e2 2 (by decide) (by decide), r2 1 (by decide) (by decide), by rw [zg, x16 53 (by decide) (by decide) (by decide) (by decide) (by decide) (by decide) (by decide) (by decide), x53], fun _ => by rw [zg, x16 19 (by decide) (by decide) (by decide) (by decide) (by decide) (by decide) (by decide) (by decide), e7 19 (by decide) (by decide)], fun z => absurd (by rw [zg]; exact z0) z⟩
    refine h _ _ ⟨?_, pq⟩
    · clear h; have s16 : σ_16.2 = σ_4.2 := by rw [hσ_16, si2, hσ_15, si2, hσ_14, si2, hσ_13, si2, hσ_12, si2, hσ_11, si2, hσ_10, si2, hσ_9, si2]; exact s7
      have e16 : ∀ k, k ≠ 14 → k ≠ 69 → k ≠ 94 → k ≠ 114 → k ≠ 106 → k ≠ 70 → k ≠ 71 → k ≠ 72 → σ_16.1 k = σ_7.1 k := fun k z1 z2 z3 z4 z5 z6 z7 z8 => by rw [hσ_16, si1, if_neg z8, hσ_15, si1, if_neg z7, hσ_14, si1, if_neg z6, hσ_13, si1, if_neg z5, hσ_12, si1, if_neg z4, hσ_11, si1, if_neg z3, hσ_10, si1, if_neg z2, hσ_9, si1, if_neg z1]
      have e4 : ∀ k, k ≠ 2 → k ≠ 53 → k ≠ 14 → k ≠ 69 → k ≠ 94 → k ≠ 114 → k ≠ 106 → k ≠ 70 → k ≠ 71 → k ≠ 72 → σ_16.1 k = σ_4.1 k := fun k y1 y2 z1 z2 z3 z4 z5 z6 z7 z8 => (e16 k z1 z2 z3 z4 z5 z6 z7 z8).trans (e7 k y1 y2)
      have f0 : σ_4.1 11 = 0 := by
        rw [e7 11 (by decide) (by decide)] at c8
        exact Int32.le_antisymm c8 t7
      obtain ⟨T, pk⟩ := t6 f0
      have d3 := e4 3 (by decide) (by decide) (by decide) (by decide) (by decide) (by decide) (by decide) (by decide) (by decide) (by decide)
      refine ⟨by rw [d3]; exact t3, by rw [e16 2 (by decide) (by decide) (by decide) (by decide) (by decide) (by decide) (by decide) (by decide)]; exact v7, ?_, fun _ => ⟨T, ?_⟩, ?_, Or.inr ⟨?_, ?_, ?_, ?_, ?_, ?_, ?_, ?_⟩⟩
      · exact ty_s t2 (fun k hk => e4 k (by omega) (by omega) (by omega) (by omega) (by omega) (by omega) (by omega) (by omega) (by omega) (by omega)) (fun k _ _ => by rw [s16])
      · rw [d3]
        exact progOK_L t2 pk (fun t _ _ => by rw [s16]) (fun t _ _ => by rw [s16]) (fun t _ _ => by rw [s16]) (e4 18 (by decide) (by decide) (by decide) (by decide) (by decide) (by decide) (by decide) (by decide) (by decide) (by decide)) (e4 19 (by decide) (by decide) (by decide) (by decide) (by decide) (by decide) (by decide) (by decide) (by decide) (by decide)) (e4 40 (by decide) (by decide) (by decide) (by decide) (by decide) (by decide) (by decide) (by decide) (by decide) (by decide)) (fun k _ j _ => by rw [s16]) (fun k _ j _ => by rw [s16])
      · refine frH_tr F7 ⟨fun k z => e16 k ?_ ?_ ?_ ?_ ?_ ?_ ?_ ?_, fun k => by rw [s16, s7], fun k _ => by rw [s16, s7], fun k j _ => by rw [s16, s7]⟩ <;> exact fun e => z (by rw [e]; decide)
      · rw [hσ_16, si1, if_neg (by decide), hσ_15, si1, if_neg (by decide), hσ_14, si1, if_neg (by decide), hσ_13, si1, if_neg (by decide), hσ_12, si1, if_neg (by decide), hσ_11, si1, if_neg (by decide), hσ_10, si1, if_neg (by decide), hσ_9, si1, if_pos rfl]
      · rw [hσ_16, si1, if_neg (by decide), hσ_15, si1, if_neg (by decide), hσ_14, si1, if_neg (by decide), hσ_13, si1, if_neg (by decide), hσ_12, si1, if_neg (by decide), hσ_11, si1, if_neg (by decide), hσ_10, si1, if_pos rfl]
      · rw [hσ_16, si1, if_neg (by decide), hσ_15, si1, if_neg (by decide), hσ_14, si1, if_pos rfl]
      · rw [hσ_16, si1, if_neg (by decide), hσ_15, si1, if_pos rfl]
      · rw [hσ_16, si1, if_pos rfl]
      · rw [hσ_16, si1, if_neg (by decide), hσ_15, si1, if_neg (by decide), hσ_14, si1, if_neg (by decide), hσ_13, si1, if_neg (by decide), hσ_12, si1, if_neg (by decide), hσ_11, si1, if_pos rfl]
      · rw [hσ_16, si1, if_neg (by decide), hσ_15, si1, if_neg (by decide), hσ_14, si1, if_neg (by decide), hσ_13, si1, if_pos rfl]
      · rw [hσ_16, si1, if_neg (by decide), hσ_15, si1, if_neg (by decide), hσ_14, si1, if_neg (by decide), hσ_13, si1, if_neg (by decide), hσ_12, si1, if_pos rfl]
  · skip
    refine swingAll_c_b hC σ_1 ?_ (fun σ_17 q18 => ?_)
    · clear h; exact kept_s q3.2 (by rw [s7]; exact t1.2.2.1 54 (by decide))  -- p3
    have y53 : σ_17.1 53 = σ_4.1 11 := by rw [q18.1 53 (by decide) (by decide) (by decide) (by decide) (by decide) (by decide) (by decide) (by decide), hσ_7, si1, if_pos rfl, hσ_6, si1, if_neg (by decide)]
    have y12 : σ_17.1 12 = σ_4.1 12 := by rw [q18.1 12 (by decide) (by decide) (by decide) (by decide) (by decide) (by decide) (by decide) (by decide), e7 12 (by decide) (by decide)]
    have n0 : ¬ σ_4.1 11 = 0 := fun z => c8 (by rw [e7 11 (by decide) (by decide), z]; decide)
    have pq : pQ9 σ ((-1 : Int32) - σ_17.1 12) σ_17 := ⟨σ_2, e2 2 (by decide) (by decide), r2 1 (by decide) (by decide), by rw [zg, y53], fun z => absurd (by rw [← zg]; exact z) n0, fun _ => by rw [zg, y12]⟩
    refine h _ _ ⟨?_, pq⟩
    · clear h; have T17 := ty_back q18 T1 T7
      obtain ⟨b1, b15, b16, b17, b18, b19, b40, b3, b5, b6, b7, b8⟩ := q18
      have bf : ∀ k, k ∉ [55, 15, 16, 17, 18, 19, 40, 3] → σ_17.1 k = σ_7.1 k := fun k z => b1 k (fun e => z (by rw [e]; decide)) (fun e => z (by rw [e]; decide)) (fun e => z (by rw [e]; decide)) (fun e => z (by rw [e]; decide)) (fun e => z (by rw [e]; decide)) (fun e => z (by rw [e]; decide)) (fun e => z (by rw [e]; decide)) (fun e => z (by rw [e]; decide))
      have d3 : σ_17.1 3 = σ.1 3 := b3.trans (e1 3 (by decide))
      have kk : ∀ k, k ∉ [55, 15, 16, 17, 18, 19, 40, 3] → k ∉ qFF → k ≠ 0 → k ≠ 55 → k ≠ 2 → k ≠ 53 → σ_17.1 k = σ.1 k := fun k z1 z2 z3 z4 z5 z6 => (bf k z1).trans (k7 k z2 z3 z4 z5 z6)
      have d14 : σ_17.1 14 = σ.1 14 := kk 14 (by decide) (by decide) (by decide) (by decide) (by decide) (by decide)
      refine ⟨by rw [d3]; exact hb, by rw [bf 2 (by decide)]; exact v7, T17, fun z => ?_, ?_, Or.inl ⟨d14, kk 69 (by decide) (by decide) (by decide) (by decide) (by decide) (by decide), kk 70 (by decide) (by decide) (by decide) (by decide) (by decide) (by decide), kk 71 (by decide) (by decide) (by decide) (by decide) (by decide) (by decide), kk 72 (by decide) (by decide) (by decide) (by decide) (by decide) (by decide), kk 94 (by decide) (by decide) (by decide) (by decide) (by decide) (by decide), kk 106 (by decide) (by decide) (by decide) (by decide) (by decide) (by decide), kk 114 (by decide) (by decide) (by decide) (by decide) (by decide) (by decide)⟩⟩
      · rw [d14] at z
        obtain ⟨T, pk⟩ := hP z
        have tok : ∀ k, k = 5 ∨ k = 7 ∨ k = 39 → lc (σ.2.2.1 k) (σ_17.2.2.1 k) (σ.1 3) T := fun k hk t ht ht2 => by
          have w := two_b hb t3 (by rw [← e2 3 (by decide) (by decide)]; exact t4) pk.2.2.1 pk.2.2.2.1 ht ht2
          have x := t5 k (by omega) t w.1 w.2
          have y : σ_17.2.2.1 k = σ_4.2.2.1 k := by
            rcases hk with rfl | rfl | rfl
            · rw [b7 5 (by decide) (by decide), s7]
            · rw [b7 7 (by decide) (by decide), s7]
            · rw [b7 39 (by decide) (by decide), s7]
          rw [y]
          refine x.trans ?_
          rw [rd, r2 k (by omega) (by omega)]
        have rw1 : ∀ p ∈ kPt, ∀ j, j < p.2.2 → σ_17.2.2.1 p.1 j = σ.2.2.1 p.1 j := fun p hp j hj => by rw [(b8 p hp).1 j hj, s1]
        refine ⟨T, ?_⟩
        rw [d3]
        refine progOK_L hT pk (tok 5 (by decide)) (tok 7 (by decide)) (tok 39 (by decide)) (b18.trans (e1 18 (by decide))) (b19.trans (e1 19 (by decide))) (b40.trans (e1 40 (by decide))) (fun k hk j hj => ?_) (fun k hk j hj => ?_)
        · rcases hk with rfl | rfl | rfl | rfl | rfl | rfl | rfl | rfl
          · exact rw1 (30, 157, 150) (by decide) j hj
          · exact rw1 (31, 307, 150) (by decide) j hj
          · exact rw1 (32, 457, 150) (by decide) j hj
          · exact rw1 (33, 607, 150) (by decide) j hj
          · exact rw1 (34, 757, 150) (by decide) j hj
          · exact rw1 (35, 907, 150) (by decide) j hj
          · exact rw1 (36, 1057, 150) (by decide) j hj
          · exact rw1 (37, 1207, 150) (by decide) j hj
        · rcases hk with rfl | rfl
          · exact rw1 (26, 47, 10) (by decide) j hj
          · exact rw1 (29, 147, 10) (by decide) j hj
      · refine frH_tr F7 ⟨fun k z => bf k (fun e => z ((by decide : ∀ q ∈ [55, 15, 16, 17, 18, 19, 40, 3], q ∈ zFF) k e)), b5, fun k z => b7 k (fun e => z (by rw [e]; decide)) (fun p hp e => z (by rw [← e]; exact (by decide : ∀ p ∈ kPt, p.1 ∈ zRR) p hp)), fun k j _ => b6 k j⟩

/-! the reference: what holds behind decide, show, solve, best, explore, program, play, walk -/
abbrev rjA : List Nat := [2, 53, 3, 14, 15, 16, 17, 18, 19, 40, 41, 42, 104]
theorem rJ_x {σ τ : rS} (J : rJ σ) (hf : ∀ k, k ∈ rjA → τ.1 k = σ.1 k) (hr : ∀ k, k ∈ 1 :: rjQ → τ.2.2.1 k = σ.2.2.1 k) (e : exP τ) (v : jVs τ) (w : jWo τ) (p : plN τ) (s : shO τ) : rJ τ ∧ oR9 τ = oR9 σ :=
  ⟨⟨by rw [hf 2 (by decide)]; exact J.1, jBk_o J.2.1 (hf 3 (by decide)) (hf 14 (by decide)) (fun k hk => hf k ((by decide : ∀ k, k ∈ rjP → k ∈ rjA) k hk)) (fun k hk => hr k (List.mem_cons_of_mem _ hk)), e, v, w, p, s, by rw [hf 104 (by decide)]; exact J.2.2.2.2.2.2.2⟩, oR_k9 (hf 2 (by decide)) (hf 53 (by decide)) (hr 1 (by decide))⟩
theorem rj_88 {σ : rS} (J : rJ σ) : 0 ≤ σ.1 88 := J.2.2.1.2.2.2.1
section callz
variable {C : rCx} {σ : rS} {a1 a2 : Int32}
theorem decide_j (hC : cOK C) (J : rJ σ) {Q : Int32 → rS → Prop} (h : ∀ v σ', rJ σ' → oR9 σ' = oR9 σ → Q v σ') : cI C 1 m_decide [.ref (co C), .int a1, .int a2] σ Q := decide_c hC J.2.2.1 (fun v σ' q => by
  obtain ⟨f, e, z⟩ := q
  have g := rJ_x J (fun k hk => f.1 k ((by decide : ∀ k, k ∈ rjA → k ∉ [0, 94]) k hk)) (fun k hk => f.2.2.1 k ((by decide : ∀ k, k ∈ 1 :: rjQ → k ∉ [83]) k hk)) e (by
    rcases z with z | z
    · exact jVs_o J.2.2.2.1 (by rw [z.1 94 (by decide)]; exact fun y => y) (z.1 70 (by decide)) (z.2.2.1 102 (by decide))
    · exact fun y => absurd z y) (jWo_o J.2.2.2.2.1 (by rw [f.1 114 (by decide)]; exact fun y => y) (f.1 70 (by decide)) (f.2.2.1 115 (by decide)) (f.2.2.1 116 (by decide))) (plN_o J.2.2.2.2.2.1 (by rw [f.1 106 (by decide)]; exact fun y => y) (fun k hk => ⟨by rw [f.2.2.1 91 (by decide)], fun i _ => by rw [f.2.2.1 90 (by decide)]⟩)) (shO_o J.2.2.2.2.2.2.1 (f.1 103 (by decide)) (fun k hk => ⟨by rw [f.2.2.1 91 (by decide)], fun i _ => by rw [f.2.2.1 90 (by decide)]⟩))
  exact h v σ' g.1 g.2)
theorem show_j (hC : cOK C) (J : rJ σ) {Q : Int32 → rS → Prop} (h : ∀ v σ', rJ σ' → oR9 σ' = oR9 σ → Q v σ') : cI C 8 m_show [.ref (co C), .int a1, .int a2] σ Q := show_c hC _ ⟨pOK_of J.2.2.1, rfl, J.2.2.2.1, J.2.2.2.2.1, J.2.2.2.2.2.1, J.2.2.2.2.2.2.1⟩ (fun v σ' q => by
  obtain ⟨f, s⟩ := q
  have r : ∀ k, k ∈ 1 :: rjR → σ'.2.2.1 k = σ.2.2.1 k := fun k hk => f.2.2.1 k ((by decide : ∀ k, k ∈ 1 :: rjR → k ≠ 90) k hk) ((by decide : ∀ k, k ∈ 1 :: rjR → k ≠ 91) k hk)
  have g := rJ_x J (fun k hk => f.1 k ((by decide : ∀ k, k ∈ rjA → k ∉ shF) k hk)) (fun k hk => r k ((by decide : ∀ k, k ∈ 1 :: rjQ → k ∈ 1 :: rjR) k hk)) (exP_o J.2.2.1 (fun k hk => f.1 k (by rcases hk with z | z | z | z <;> rw [z] <;> decide)) (fun k hk => r k (by rcases hk with z | z | z | z | z | z | z | z <;> rw [z] <;> decide))) (jVs_o J.2.2.2.1 (by rw [f.1 94 (by decide)]; exact fun y => y) (f.1 70 (by decide)) (r 102 (by decide))) (jWo_o J.2.2.2.2.1 (by rw [f.1 114 (by decide)]; exact fun y => y) (f.1 70 (by decide)) (r 115 (by decide)) (r 116 (by decide))) (plN_o J.2.2.2.2.2.1 (by rw [f.1 106 (by decide)]; exact fun y => y) (fun k hk => f.2.2.2.2 k (by rcases hk with z | z <;> rw [z] <;> decide))) s
  exact h v σ' g.1 g.2)
theorem solve_j (hC : cOK C) (J : rJ σ) {Q : Int32 → rS → Prop} (h : ∀ v σ', rJ σ' → oR9 σ' = oR9 σ → Q v σ') : cI C 8 m_solve [.ref (co C)] σ Q := solve_c hC _ ⟨pOK_of J.2.2.1, rfl, J.2.2.2.1⟩ (fun v σ' q => by
  obtain ⟨f, s, n⟩ := q
  have e70 := f.1 70 (by decide)
  have g := rJ_x J (fun k hk => f.1 k ((by decide : ∀ k, k ∈ rjA → k ∉ slF) k hk)) (fun k hk => f.2.2.1 k ((by decide : ∀ k, k ∈ 1 :: rjQ → k ∉ slR) k hk)) (exP_o J.2.2.1 (fun k hk => f.1 k (by rcases hk with z | z | z | z <;> rw [z] <;> decide)) (fun k hk => f.2.2.1 k (by rcases hk with z | z | z | z | z | z | z | z <;> rw [z] <;> decide))) (fun y k hk => s y k (by rw [← e70]; exact hk)) (jWo_o J.2.2.2.2.1 (by rw [f.1 114 (by decide)]; exact fun y => y) e70 (f.2.2.1 115 (by decide)) (f.2.2.1 116 (by decide))) (plN_o J.2.2.2.2.2.1 (by rw [f.1 106 (by decide)]; exact fun y => y) (fun k hk => n k (by omega))) (shO_o J.2.2.2.2.2.2.1 (f.1 103 (by decide)) (fun k hk => n k (by omega)))
  exact h v σ' g.1 g.2)
theorem best_j (hC : cOK C) (J : rJ σ) {Q : Int32 → rS → Prop} (h : ∀ v σ', rJ σ' → oR9 σ' = oR9 σ → Q v σ') : cI C 7 m_best [.ref (co C)] σ Q := best_c hC _ ⟨J.2.2.1, rfl, J.2.2.2.2.1⟩ (fun v σ' q => by
  obtain ⟨f, e, s, v4, n⟩ := q
  have e70 := f.1 70 (by decide)
  have g := rJ_x J (fun k hk => f.1 k ((by decide : ∀ k, k ∈ rjA → k ∉ bfF) k hk)) (fun k hk => f.2.2.1 k ((by decide : ∀ k, k ∈ 1 :: rjQ → k ∉ bfR) k hk)) e (jVs_o J.2.2.2.1 v4 e70 (f.2.2.1 102 (by decide))) (fun y k hk => s y k (by rw [← e70]; exact hk)) (plN_o J.2.2.2.2.2.1 (by rw [f.1 106 (by decide)]; exact fun y => y) (fun k hk => n k (by omega))) (shO_o J.2.2.2.2.2.2.1 (f.1 103 (by decide)) (fun k hk => n k (by omega)))
  exact h v σ' g.1 g.2)
theorem explore_j (hC : cOK C) (J : rJ σ) {Q : Int32 → rS → Prop} (h : ∀ v σ', rJ σ' → oR9 σ' = oR9 σ → Q v σ') : cI C 11 m_explore [.ref (co C), .int a1] σ Q := explore_c hC ⟨J.2.1.2.1, J.2.1.2.2, J.2.2.1⟩ (fun v σ' q => by
  obtain ⟨f, e, -, -, z⟩ := q
  have r0 := f.2.2.1 90 (by decide)
  have r1 := f.2.2.1 91 (by decide)
  have g := rJ_x J (fun k hk => f.1 k ((by decide : ∀ k, k ∈ rjA → k ∉ xpF) k hk)) (fun k hk => f.2.2.1 k ((by decide : ∀ k, k ∈ 1 :: rjQ → k ∉ xpR) k hk)) e (by
    rcases z with z | z
    · exact jVs_o J.2.2.2.1 (by rw [z.1 94 (by decide)]; exact fun y => y) (z.1 70 (by decide)) (by rw [z.2])
    · exact fun y => absurd z.1 y) (by
    rcases z with z | z
    · exact jWo_o J.2.2.2.2.1 (by rw [z.1 114 (by decide)]; exact fun y => y) (z.1 70 (by decide)) (by rw [z.2]) (by rw [z.2])
    · exact fun y => absurd z.2 y) (plN_o J.2.2.2.2.2.1 (by rw [f.1 106 (by decide)]; exact fun y => y) (fun k hk => ⟨by rw [r1], fun i _ => by rw [r0]⟩)) (shO_o J.2.2.2.2.2.2.1 (f.1 103 (by decide)) (fun k hk => ⟨by rw [r1], fun i _ => by rw [r0]⟩))
  exact h v σ' g.1 g.2)
theorem program_j (hC : cOK C) (J : rJ σ) {Q : Int32 → rS → Prop} (h : ∀ v σ', rJ σ' → oR9 σ' = ((fun _ => 0, 0, σ'.1 53) : Ob9) → pQ9 σ v σ' → Q v σ') : cI C 13 m_program [.ref (co C)] σ Q := program_c9 hC ⟨J.2.1.1, J.1.1, J.1.2, J.2.1.2.1, J.2.1.2.2⟩ (fun v σ' q => by
  obtain ⟨⟨b3, b2, ty, pg, f, z⟩, pq⟩ := q
  have r0 := f.2.2.1 90 (by decide)
  have r1 := f.2.2.1 91 (by decide)
  have e104 := f.1 104 (by decide)
  have e88 := f.1 88 (by decide)
  refine h v σ' ⟨by rw [b2]; decide, ⟨b3, ty, pg⟩, ?_, ?_, ?_, ?_, shO_o J.2.2.2.2.2.2.1 (f.1 103 (by decide)) (fun k hk => ⟨by rw [r1], fun i _ => by rw [r0]⟩), by rw [e104]; exact J.2.2.2.2.2.2.2⟩ (by unfold oR9; rw [b2]; exact mk_09) pq
  · rcases z with z | z
    · exact exP_o J.2.2.1 (fun k hk => by
        rcases hk with y | y | y | y <;> rw [y]
        · exact z.2.2.1
        · exact z.2.2.2.1
        · exact z.2.2.2.2.1
        · exact e88) (fun k hk => f.2.2.1 k (by rcases hk with z | z | z | z | z | z | z | z <;> rw [z] <;> decide))
    · exact exP_0 z.2.2.1 z.2.2.2.1 z.2.2.2.2.1 (by rw [e88]; exact rj_88 J)
  · rcases z with z | z
    · exact jVs_o J.2.2.2.1 (by rw [z.2.2.2.2.2.1]; exact fun y => y) z.2.2.1 (f.2.2.1 102 (by decide))
    · exact fun y => absurd z.2.2.2.2.2.1 y
  · rcases z with z | z
    · exact jWo_o J.2.2.2.2.1 (by rw [z.2.2.2.2.2.2.2]; exact fun y => y) z.2.2.1 (f.2.2.1 115 (by decide)) (f.2.2.1 116 (by decide))
    · exact fun y => absurd z.2.2.2.2.2.2.2 y
  · refine plN_o J.2.2.2.2.2.1 ?_ (fun k hk => ⟨by rw [r1], fun i _ => by rw [r0]⟩)
    rcases z with z | z
    · rw [z.2.2.2.2.2.2.1]; exact fun y => y
    · exact fun y => absurd z.2.2.2.2.2.2.1 y)
theorem rJ_w {σ ρ τ : rS} (J : rJ σ) (hρ : ∀ k, k ≠ 113 → ρ.1 k = σ.1 k) (hs : ρ.2.2 = σ.2.2) (f : frW ρ τ) (p : plN τ) : rJ τ ∧ oR9 τ = oR9 σ := by
  have ef : ∀ k, k ∉ pyF → k ≠ 113 → τ.1 k = σ.1 k := fun k z1 z2 => (f.1 k z1).trans (hρ k z2)
  have er : ∀ k, k ≠ 90 → k ≠ 91 → k ∉ pyR → τ.2.2.1 k = σ.2.2.1 k := fun k z1 z2 z3 => (f.2.2.1 k z1 z2 z3).trans (by rw [hs])
  refine rJ_x J (fun k hk => ef k ((by decide : ∀ k, k ∈ rjA → k ∉ pyF) k hk) ((by decide : ∀ k, k ∈ rjA → k ≠ 113) k hk)) (fun k hk => er k ((by decide : ∀ k, k ∈ 1 :: rjQ → k ≠ 90) k hk) ((by decide : ∀ k, k ∈ 1 :: rjQ → k ≠ 91) k hk) ((by decide : ∀ k, k ∈ 1 :: rjQ → k ∉ pyR) k hk)) (exP_o J.2.2.1 (fun k hk => ef k (by rcases hk with z | z | z | z <;> rw [z] <;> decide) (by rcases hk with z | z | z | z <;> rw [z] <;> decide)) (fun k hk => er k (by rcases hk with z | z | z | z | z | z | z | z <;> rw [z] <;> decide) (by rcases hk with z | z | z | z | z | z | z | z <;> rw [z] <;> decide) (by rcases hk with z | z | z | z | z | z | z | z <;> rw [z] <;> decide))) (jVs_o J.2.2.2.1 (by rw [ef 94 (by decide) (by decide)]; exact fun y => y) (ef 70 (by decide) (by decide)) (er 102 (by decide) (by decide) (by decide))) (jWo_o J.2.2.2.2.1 (by rw [ef 114 (by decide) (by decide)]; exact fun y => y) (ef 70 (by decide) (by decide)) (er 115 (by decide) (by decide) (by decide)) (er 116 (by decide) (by decide) (by decide))) p (shO_o J.2.2.2.2.2.2.1 (ef 103 (by decide) (by decide)) (fun k hk => by
    have y := f.2.2.2.2 k (by rcases hk with z | z <;> rw [z] <;> decide)
    rw [hs] at y
    exact y))
theorem rj_T (J : rJ σ) : ∃ T, (σ.1 14 ≠ 0 → rI σ (σ.1 3) T) := by
  by_cases z : σ.1 14 = 0
  · exact ⟨0, fun y => absurd z y⟩
  · obtain ⟨T, g⟩ := J.2.1.2.2 z
    exact ⟨T, fun _ => ⟨J.2.1.2.1, g⟩⟩
theorem play_j {x : Int64} (hC : cOK C) (J : rJ σ) {Q : Int32 → rS → Prop} (h : ∀ v σ', rJ σ' → oR9 σ' = oR9 σ → Q v σ') : cI C 11 m_play [.ref (co C), .long x, .int a1] σ Q := by
  obtain ⟨T, hT⟩ := rj_T J
  exact play_c hC T ⟨hT, J.2.2.1, J.2.2.2.2.2.2.2.1, J.2.2.2.2.2.2.2.2, J.2.2.2.2.2.1⟩ (fun v σ' q => h v σ' (rJ_w (ρ := siU (slU σ 112 x) 113 1) J (fun k hk => if_neg hk) rfl q.1 q.2).1 (rJ_w (ρ := siU (slU σ 112 x) 113 1) J (fun k hk => if_neg hk) rfl q.1 q.2).2)
theorem walk_j (hC : cOK C) (J : rJ σ) {Q : Int32 → rS → Prop} (h : ∀ v σ', rJ σ' → oR9 σ' = oR9 σ → Q v σ') : cI C 11 m_walk [.ref (co C), .int a1] σ Q := by
  obtain ⟨T, hT⟩ := rj_T J
  exact walk_c hC T ⟨hT, J.2.2.1, J.2.2.2.2.2.2.2.1, J.2.2.2.2.2.2.2.2, J.2.2.2.2.2.1⟩ (fun v σ' q => h v σ' (rJ_w (ρ := siU σ 113 0) J (fun k hk => if_neg hk) rfl q.1 q.2).1 (rJ_w (ρ := siU σ 113 0) J (fun k hk => if_neg hk) rfl q.1 q.2).2)
end callz
