section
set_option maxHeartbeats 1600000
/-- what program answers, by its reading -/
def pQ9 (σ : rS) (v : Int32) (σ' : rS) : Prop := ∃ σ2 : rS, (σ2.1 2 = σ.1 2 ∧ σ2.2.2.1 1 = σ.2.2.1 1 ∧ σ2.1 3 = σ.1 3 ∧ (σ.1 3 = 0 ∨ σ.1 3 = 65537)) ∧ σ'.1 53 = (g5_tellProgram σ2).1 11 ∧ ((g5_tellProgram σ2).1 11 = 0 → v = (g5_tellProgram σ2).1 19 ∧ σ'.1 14 = 1 ∧ (∀ g, g ∈ kf7 → g ≠ 14 → σ'.1 g = (g5_tellProgram σ2).1 g) ∧ σ'.2 = (g5_tellProgram σ2).2 ∧ eB (σ'.2.2.1 26) 0 5 ∧ ((g5_tellProgram σ2).1 3 = 0 ∨ (g5_tellProgram σ2).1 3 = 65537) ∧ (g5_tellProgram σ2).1 3 ≠ σ.1 3 ∧ σ'.1 69 = 0 ∧ no8 σ' ∧ σ'.1 106 = -1 ∧ σ'.1 94 = 0 ∧ σ'.1 114 = 0) ∧ ((g5_tellProgram σ2).1 11 ≠ 0 → v = (-1 : Int32) - (g5_tellProgram σ2).1 12 ∧ kR7 σ σ' ∧ kS9 σ σ')
/-- a text that fails leaves the code that stands -/
theorem kR_b7 {σ σ1 σ4 σ7 τ : rS} (q : back σ1 σ7 τ) (hb : σ.1 3 = 0 ∨ σ.1 3 = 65537) (t3 : σ4.1 3 = 0 ∨ σ4.1 3 = 65537) (t4 : σ4.1 3 ≠ σ.1 3) (t5 : ∀ k, (k = 5 ∨ k = 6 ∨ k = 7 ∨ k = 9 ∨ k = 39) → ∀ t : Int32, 0 ≤ t → (t < σ4.1 3 ∨ σ4.1 3 + 65536 < t) → rd σ4 k t = rd σ k t) (e1 : ∀ k, k ≠ 0 → σ1.1 k = σ.1 k) (s1 : σ1.2 = σ.2) (h14 : σ7.1 14 = σ.1 14) (s7 : σ7.2 = σ4.2) (hl : ∀ j, (if σ.1 3 = 0 then j ≤ 65536 else 65537 ≤ j) → σ4.2.2.2 8 j = σ.2.2.2 8 j) : kR7 σ τ := by
  obtain ⟨b1, b15, b16, b17, b18, b19, b40, b3, b5, b6, b7, b8⟩ := q
  refine ⟨fun g hg => ?_, fun p hp i hi => by rw [(b8 p hp).1 i hi, s1], fun k hk j hj => ?_, fun j hj => ?_⟩
  · have c : g = 3 ∨ g = 14 ∨ g = 15 ∨ g = 16 ∨ g = 17 ∨ g = 18 ∨ g = 19 ∨ g = 40 := by
      have z : ∀ g, g ∈ kf7 → g = 3 ∨ g = 14 ∨ g = 15 ∨ g = 16 ∨ g = 17 ∨ g = 18 ∨ g = 19 ∨ g = 40 := by decide
      exact z g hg
    rcases c with c | c | c | c | c | c | c | c <;> rw [c]
    · exact b3.trans (e1 3 (by decide))
    · exact (b1 14 (by decide) (by decide) (by decide) (by decide) (by decide) (by decide) (by decide) (by decide)).trans h14
    · exact b15.trans (e1 15 (by decide))
    · exact b16.trans (e1 16 (by decide))
    · exact b17.trans (e1 17 (by decide))
    · exact b18.trans (e1 18 (by decide))
    · exact b19.trans (e1 19 (by decide))
    · exact b40.trans (e1 40 (by decide))
  · have y : τ.2.2.1 k = σ4.2.2.1 k := by
      rw [b7 k (by omega) (by rcases hk with c | c | c | c | c <;> rw [c] <;> decide), s7]
    have jj : j ≤ 131073 := by
      unfold hf7 at hj
      by_cases c : σ.1 3 = 0
      · rw [if_pos c] at hj; omega
      · rw [if_neg c] at hj; omega
    have lj := ofn_i (n := j) (by omega)
    have z := t5 k hk (Int32.ofNat j) (by rw [lei, t0i]; omega) (by
      unfold hf7 at hj
      rcases hb with b | b
      · have t : σ4.1 3 = 65537 := by
          rcases t3 with t | t
          · exact absurd (t.trans b.symm) t4
          · exact t
        left
        rw [if_pos b] at hj
        rw [t, lti, lj]
        show (j : Int) < 65537
        omega
      · have t : σ4.1 3 = 0 := by
          rcases t3 with t | t
          · exact t
          · exact absurd (t.trans b.symm) t4
        right
        rw [b, if_neg (by decide)] at hj
        rw [t, lti, lj]
        show (65536 : Int) < j
        omega)
    unfold rd at z
    rw [cl_5 (by omega)] at z
    rw [y]
    exact z
  · rw [b6 8 j, s7]
    refine hl j ?_
    unfold hf7 at hj
    by_cases c : σ.1 3 = 0
    · rw [if_pos c] at hj ⊢; exact hj
    · rw [if_neg c] at hj ⊢; exact hj.1
theorem program_c9 {C : rCx} (hC : cOK C)  {σ : rS}  {Q : Int32 → rS → Prop} (hp : (σ.1 3 = 0 ∨ σ.1 3 = 65537) ∧ 0 ≤ σ.1 2 ∧ σ.1 2 ≤ 65536 ∧ tyAll σ ∧ (σ.1 14 ≠ 0 → ∃ T, progOK σ (σ.1 3) T)) (h : ∀ (v : Int32) (σ' : rS), (prQ σ σ' ∧ pQ9 σ v σ') → Q v σ') : cI C 13 m_program [.ref (co C)] σ Q := by
  refine m_program_run hC ?_
  unfold w_program_0
  obtain ⟨hb, hs0, hs1, hT, hP⟩ := hp
  intro σ_1 hσ_1
  refine swingAll_c_s hC  (fun σ_2 q3 => ?_)
  have e1 : ∀ k, k ≠ 0 → σ_1.1 k = σ.1 k := fun k hk => by rw [hσ_1, si1, if_neg hk]
  have s1 : σ_1.2 = σ.2 := by rw [hσ_1, si2]
  have e2 : ∀ k, k ≠ 0 → k ≠ 55 → σ_2.1 k = σ.1 k := fun k z1 z2 => (q3.1.1 k z2).trans (e1 k z1)
  have r2 : ∀ k, k ≠ 54 → k ≠ 56 → σ_2.2.2.1 k = σ.2.2.1 k := fun k z1 z2 => (q3.1.2.2.1 k z1 z2).trans (by rw [s1])
  have T1 : tyAll σ_1 := ty_s hT (fun k hk => e1 k (by omega)) (fun k _ _ => by rw [s1])
  have T2 : tyAll σ_2 := ty_s hT (fun k hk => e2 k (by omega) (by omega)) r2
  have F2 : frH zFF zRR σ σ_2 := ⟨fun k z => e2 k (fun e => z (by rw [e]; decide)) (fun e => z (by rw [e]; decide)), fun k => (q3.1.2.1 k).trans (by rw [s1]), fun k z => r2 k (fun e => z (by rw [e]; decide)) (fun e => z (by rw [e]; decide)), fun k j _ => (q3.1.2.2.2.2 k j).trans (by rw [s1])⟩
  refine tellProgram_g5 hC  ?_ (fun σ_4 q5z => ?_)
  · clear h; exact ⟨by rw [e2 3 (by decide) (by decide)]; exact hb, by rw [e2 2 (by decide) (by decide)]; exact hs0, by rw [e2 2 (by decide) (by decide)]; exact hs1, T2⟩  -- p1
  obtain ⟨q5, zg⟩ := q5z
  intro σ_6 hσ_6
  intro σ_7 hσ_7
  obtain ⟨t1, t2, t3, t4, t5, t6, t7⟩ := q5
  have e7 : ∀ k, k ≠ 2 → k ≠ 53 → σ_7.1 k = σ_4.1 k := fun k z1 z2 => by rw [hσ_7, si1, if_neg z2, hσ_6, si1, if_neg z1]
  have v7 : σ_7.1 2 = 0 := by rw [hσ_7, si1, if_neg (by decide), hσ_6, si1, if_pos rfl]
  have s7 : σ_7.2 = σ_4.2 := by rw [hσ_7, si2, hσ_6, si2]
  have F7 : frH zFF zRR σ σ_7 := frH_tr F2 (frH_tr (frZ_q t1) (by rw [hσ_7, hσ_6]; exact frH_tr (frZ_si (by decide)) (frZ_si (by decide))))
  have T7 : tyAll σ_7 := ty_s t2 (fun k hk => e7 k (by omega) (by omega)) (fun k _ _ => by rw [s7])
  have k7 : ∀ k, k ∉ qFF → k ≠ 0 → k ≠ 55 → k ≠ 2 → k ≠ 53 → σ_7.1 k = σ.1 k := fun k z1 z2 z3 z4 z5 => (e7 k z4 z5).trans ((t1.1 k z1).trans (e2 k z2 z3))
  refine ⟨fun c8 => ?_, fun c8 => ?_⟩
  · skip
    intro σ_9 hσ_9
    intro σ_10 hσ_10
    intro σ_11 hσ_11
    intro σ_12 hσ_12
    intro σ_13 hσ_13
    intro σ_14 hσ_14
    intro σ_15 hσ_15
    intro σ_16 hσ_16
    have x16 : ∀ k, k ≠ 14 → k ≠ 69 → k ≠ 94 → k ≠ 114 → k ≠ 106 → k ≠ 70 → k ≠ 71 → k ≠ 72 → σ_16.1 k = σ_7.1 k := fun k z1 z2 z3 z4 z5 z6 z7 z8 => by rw [hσ_16, si1, if_neg z8, hσ_15, si1, if_neg z7, hσ_14, si1, if_neg z6, hσ_13, si1, if_neg z5, hσ_12, si1, if_neg z4, hσ_11, si1, if_neg z3, hσ_10, si1, if_neg z2, hσ_9, si1, if_neg z1]
    have x53 : σ_7.1 53 = σ_4.1 11 := by rw [hσ_7, si1, if_pos rfl, hσ_6, si1, if_neg (by decide)]
    have z0 : σ_4.1 11 = 0 := by
      have c9 := c8
      rw [e7 11 (by decide) (by decide)] at c9
      exact Int32.le_antisymm c9 t7
    have s16z : σ_16.2 = σ_4.2 := by rw [hσ_16, si2, hσ_15, si2, hσ_14, si2, hσ_13, si2, hσ_12, si2, hσ_11, si2, hσ_10, si2, hσ_9, si2]; exact s7
    have y14 : σ_16.1 14 = 1 := by rw [hσ_16, si1, if_neg (by decide), hσ_15, si1, if_neg (by decide), hσ_14, si1, if_neg (by decide), hσ_13, si1, if_neg (by decide), hσ_12, si1, if_neg (by decide), hσ_11, si1, if_neg (by decide), hσ_10, si1, if_neg (by decide), hσ_9, si1, if_pos rfl]
    have y26 : eB (σ_16.2.2.1 26) 0 5 := by
      obtain ⟨_, z3, _⟩ := t2
      obtain ⟨_, _, _, _, z4, _⟩ := z3
      rw [s16z]
      exact z4
    have pq : pQ9 σ (σ_16.1 19) σ_16 := ⟨σ_2, ⟨e2 2 (by decide) (by decide), r2 1 (by decide) (by decide), e2 3 (by decide) (by decide), hb⟩, by rw [zg, x16 53 (by decide) (by decide) (by decide) (by decide) (by decide) (by decide) (by decide) (by decide), x53], fun _ => ⟨by rw [zg, x16 19 (by decide) (by decide) (by decide) (by decide) (by decide) (by decide) (by decide) (by decide), e7 19 (by decide) (by decide)], y14, fun g hg n14 => by
      rw [zg, x16 g n14 ((by decide : ∀ g, g ∈ kf7 → g ≠ 69) g hg) ((by decide : ∀ g, g ∈ kf7 → g ≠ 94) g hg) ((by decide : ∀ g, g ∈ kf7 → g ≠ 114) g hg) ((by decide : ∀ g, g ∈ kf7 → g ≠ 106) g hg) ((by decide : ∀ g, g ∈ kf7 → g ≠ 70) g hg) ((by decide : ∀ g, g ∈ kf7 → g ≠ 71) g hg) ((by decide : ∀ g, g ∈ kf7 → g ≠ 72) g hg), e7 g ((by decide : ∀ g, g ∈ kf7 → g ≠ 2) g hg) ((by decide : ∀ g, g ∈ kf7 → g ≠ 53) g hg)], by rw [zg]; exact s16z, y26, by rw [zg]; exact t3, by rw [zg, ← e2 3 (by decide) (by decide)]; exact t4, by rw [hσ_16, si1, if_neg (by decide), hσ_15, si1, if_neg (by decide), hσ_14, si1, if_neg (by decide), hσ_13, si1, if_neg (by decide), hσ_12, si1, if_neg (by decide), hσ_11, si1, if_neg (by decide), hσ_10, si1, if_pos rfl], ⟨by rw [hσ_16, si1, if_neg (by decide), hσ_15, si1, if_neg (by decide), hσ_14, si1, if_pos rfl], by rw [hσ_16, si1, if_neg (by decide), hσ_15, si1, if_pos rfl], by rw [hσ_16, si1, if_pos rfl]⟩, by rw [hσ_16, si1, if_neg (by decide), hσ_15, si1, if_neg (by decide), hσ_14, si1, if_neg (by decide), hσ_13, si1, if_pos rfl], by rw [hσ_16, si1, if_neg (by decide), hσ_15, si1, if_neg (by decide), hσ_14, si1, if_neg (by decide), hσ_13, si1, if_neg (by decide), hσ_12, si1, if_neg (by decide), hσ_11, si1, if_pos rfl], by rw [hσ_16, si1, if_neg (by decide), hσ_15, si1, if_neg (by decide), hσ_14, si1, if_neg (by decide), hσ_13, si1, if_neg (by decide), hσ_12, si1, if_pos rfl]⟩, fun z => absurd (by rw [zg]; exact z0) z⟩
    refine h _ _ ⟨?_, pq⟩
    · clear h; have s16 : σ_16.2 = σ_4.2 := by rw [hσ_16, si2, hσ_15, si2, hσ_14, si2, hσ_13, si2, hσ_12, si2, hσ_11, si2, hσ_10, si2, hσ_9, si2]; exact s7
      have e16 : ∀ k, k ≠ 14 → k ≠ 69 → k ≠ 94 → k ≠ 114 → k ≠ 106 → k ≠ 70 → k ≠ 71 → k ≠ 72 → σ_16.1 k = σ_7.1 k := fun k z1 z2 z3 z4 z5 z6 z7 z8 => by rw [hσ_16, si1, if_neg z8, hσ_15, si1, if_neg z7, hσ_14, si1, if_neg z6, hσ_13, si1, if_neg z5, hσ_12, si1, if_neg z4, hσ_11, si1, if_neg z3, hσ_10, si1, if_neg z2, hσ_9, si1, if_neg z1]
      have e4 : ∀ k, k ≠ 2 → k ≠ 53 → k ≠ 14 → k ≠ 69 → k ≠ 94 → k ≠ 114 → k ≠ 106 → k ≠ 70 → k ≠ 71 → k ≠ 72 → σ_16.1 k = σ_4.1 k := fun k y1 y2 z1 z2 z3 z4 z5 z6 z7 z8 => (e16 k z1 z2 z3 z4 z5 z6 z7 z8).trans (e7 k y1 y2)
      have f0 : σ_4.1 11 = 0 := by
        rw [e7 11 (by decide) (by decide)] at c8
        exact Int32.le_antisymm c8 t7
      obtain ⟨T, pk⟩ := t6 f0
      have d3 := e4 3 (by decide) (by decide) (by decide) (by decide) (by decide) (by decide) (by decide) (by decide) (by decide) (by decide)
      refine ⟨by rw [d3]; exact t3, by rw [e16 2 (by decide) (by decide) (by decide) (by decide) (by decide) (by decide) (by decide) (by decide)]; exact v7, ?_, fun _ => ⟨T, ?_⟩, ?_, Or.inr ⟨?_, ?_, ?_, ?_, ?_, ?_, ?_, ?_⟩⟩
      · exact ty_s t2 (fun k hk => e4 k (by omega) (by omega) (by omega) (by omega) (by omega) (by omega) (by omega) (by omega) (by omega) (by omega)) (fun k _ _ => by rw [s16])
      · rw [d3]
        exact progOK_L t2 pk (fun t _ _ => by rw [s16]) (fun t _ _ => by rw [s16]) (fun t _ _ => by rw [s16]) (e4 18 (by decide) (by decide) (by decide) (by decide) (by decide) (by decide) (by decide) (by decide) (by decide) (by decide)) (e4 19 (by decide) (by decide) (by decide) (by decide) (by decide) (by decide) (by decide) (by decide) (by decide) (by decide)) (e4 40 (by decide) (by decide) (by decide) (by decide) (by decide) (by decide) (by decide) (by decide) (by decide) (by decide)) (fun k _ j _ => by rw [s16]) (fun k _ j _ => by rw [s16])
      · refine frH_tr F7 ⟨fun k z => e16 k ?_ ?_ ?_ ?_ ?_ ?_ ?_ ?_, fun k => by rw [s16, s7], fun k _ => by rw [s16, s7], fun k j _ => by rw [s16, s7]⟩ <;> exact fun e => z (by rw [e]; decide)
      · rw [hσ_16, si1, if_neg (by decide), hσ_15, si1, if_neg (by decide), hσ_14, si1, if_neg (by decide), hσ_13, si1, if_neg (by decide), hσ_12, si1, if_neg (by decide), hσ_11, si1, if_neg (by decide), hσ_10, si1, if_neg (by decide), hσ_9, si1, if_pos rfl]
      · rw [hσ_16, si1, if_neg (by decide), hσ_15, si1, if_neg (by decide), hσ_14, si1, if_neg (by decide), hσ_13, si1, if_neg (by decide), hσ_12, si1, if_neg (by decide), hσ_11, si1, if_neg (by decide), hσ_10, si1, if_pos rfl]
      · rw [hσ_16, si1, if_neg (by decide), hσ_15, si1, if_neg (by decide), hσ_14, si1, if_pos rfl]
      · rw [hσ_16, si1, if_neg (by decide), hσ_15, si1, if_pos rfl]
      · rw [hσ_16, si1, if_pos rfl]
      · rw [hσ_16, si1, if_neg (by decide), hσ_15, si1, if_neg (by decide), hσ_14, si1, if_neg (by decide), hσ_13, si1, if_neg (by decide), hσ_12, si1, if_neg (by decide), hσ_11, si1, if_pos rfl]
      · rw [hσ_16, si1, if_neg (by decide), hσ_15, si1, if_neg (by decide), hσ_14, si1, if_neg (by decide), hσ_13, si1, if_pos rfl]
      · rw [hσ_16, si1, if_neg (by decide), hσ_15, si1, if_neg (by decide), hσ_14, si1, if_neg (by decide), hσ_13, si1, if_neg (by decide), hσ_12, si1, if_pos rfl]
  · skip
    refine swingAll_c_b hC σ_1 ?_ (fun σ_17 q18 => ?_)
    · clear h; exact kept_s q3.2 (by rw [s7]; exact t1.2.2.1 54 (by decide))  -- p3
    have y53 : σ_17.1 53 = σ_4.1 11 := by rw [q18.1 53 (by decide) (by decide) (by decide) (by decide) (by decide) (by decide) (by decide) (by decide), hσ_7, si1, if_pos rfl, hσ_6, si1, if_neg (by decide)]
    have y12 : σ_17.1 12 = σ_4.1 12 := by rw [q18.1 12 (by decide) (by decide) (by decide) (by decide) (by decide) (by decide) (by decide) (by decide), e7 12 (by decide) (by decide)]
    have n0 : ¬ σ_4.1 11 = 0 := fun z => c8 (by rw [e7 11 (by decide) (by decide), z]; decide)
    have okS2 : okS5 σ_2 := by
      have j0 := hs0
      have j1 := hs1
      rw [lei, t0i] at j0
      rw [lei, show (65536 : Int32).toInt = 65536 from rfl] at j1
      unfold okS5
      rw [e2 2 (by decide) (by decide)]
      exact ⟨j0, j1⟩
    have kr : kR7 σ σ_17 := kR_b7 q18 hb t3 (by rw [← e2 3 (by decide) (by decide)]; exact t4) (fun k hk t h1 h2 => by
        rw [rd, rd, ← r2 k (by omega) (by omega)]
        exact t5 k hk t h1 h2) e1 s1 (by
        rw [e7 14 (by decide) (by decide)]
        exact (t1.1 14 (by decide)).trans (e2 14 (by decide) (by decide))) s7 (fun j hj => by
        rw [← zg, tell_l6 okS2 j (by
          rw [e2 3 (by decide) (by decide)]
          exact hj), q3.1.2.2.2.2 8 j, s1])
    have ks : kS9 σ σ_17 := by
      obtain ⟨b1, _, _, _, _, _, _, _, _, _, b7, _⟩ := q18
      refine ⟨fun g hg => ?_, fun g hg => ?_, fun g hg => ?_, fun g hg => ?_⟩
      · rw [b1 g ((by decide : ∀ g, g ∈ ke8 → g ≠ 55) g hg) ((by decide : ∀ g, g ∈ ke8 → g ≠ 15) g hg) ((by decide : ∀ g, g ∈ ke8 → g ≠ 16) g hg) ((by decide : ∀ g, g ∈ ke8 → g ≠ 17) g hg) ((by decide : ∀ g, g ∈ ke8 → g ≠ 18) g hg) ((by decide : ∀ g, g ∈ ke8 → g ≠ 19) g hg) ((by decide : ∀ g, g ∈ ke8 → g ≠ 40) g hg) ((by decide : ∀ g, g ∈ ke8 → g ≠ 3) g hg)]
        exact k7 g ((by decide : ∀ g, g ∈ ke8 → g ∉ qFF) g hg) ((by decide : ∀ g, g ∈ ke8 → g ≠ 0) g hg) ((by decide : ∀ g, g ∈ ke8 → g ≠ 55) g hg) ((by decide : ∀ g, g ∈ ke8 → g ≠ 2) g hg) ((by decide : ∀ g, g ∈ ke8 → g ≠ 53) g hg)
      · rw [b7 g ((by decide : ∀ g, g ∈ kx8 → g ≠ 56) g hg) (fun p hp e => (by decide : ∀ p, p ∈ kPt → p.1 ∉ kx8) p hp (by rw [e]; exact hg)), s7, t1.2.2.1 g ((by decide : ∀ g, g ∈ kx8 → g ∉ qRR) g hg)]
        exact r2 g ((by decide : ∀ g, g ∈ kx8 → g ≠ 54) g hg) ((by decide : ∀ g, g ∈ kx8 → g ≠ 56) g hg)
      · rw [b1 g ((by decide : ∀ g, g ∈ kf16 → g ≠ 55) g hg) ((by decide : ∀ g, g ∈ kf16 → g ≠ 15) g hg) ((by decide : ∀ g, g ∈ kf16 → g ≠ 16) g hg) ((by decide : ∀ g, g ∈ kf16 → g ≠ 17) g hg) ((by decide : ∀ g, g ∈ kf16 → g ≠ 18) g hg) ((by decide : ∀ g, g ∈ kf16 → g ≠ 19) g hg) ((by decide : ∀ g, g ∈ kf16 → g ≠ 40) g hg) ((by decide : ∀ g, g ∈ kf16 → g ≠ 3) g hg)]
        exact k7 g ((by decide : ∀ g, g ∈ kf16 → g ∉ qFF) g hg) ((by decide : ∀ g, g ∈ kf16 → g ≠ 0) g hg) ((by decide : ∀ g, g ∈ kf16 → g ≠ 55) g hg) ((by decide : ∀ g, g ∈ kf16 → g ≠ 2) g hg) ((by decide : ∀ g, g ∈ kf16 → g ≠ 53) g hg)
      · rw [b7 g ((by decide : ∀ g, g ∈ kh16 → g ≠ 56) g hg) (fun p hp e => (by decide : ∀ p, p ∈ kPt → p.1 ∉ kh16) p hp (by rw [e]; exact hg)), s7, t1.2.2.1 g ((by decide : ∀ g, g ∈ kh16 → g ∉ qRR) g hg)]
        exact r2 g ((by decide : ∀ g, g ∈ kh16 → g ≠ 54) g hg) ((by decide : ∀ g, g ∈ kh16 → g ≠ 56) g hg)
    have pq : pQ9 σ ((-1 : Int32) - σ_17.1 12) σ_17 := ⟨σ_2, ⟨e2 2 (by decide) (by decide), r2 1 (by decide) (by decide), e2 3 (by decide) (by decide), hb⟩, by rw [zg, y53], fun z => absurd (by rw [← zg]; exact z) n0, fun _ => ⟨by rw [zg, y12], kr, ks⟩⟩
    refine h _ _ ⟨?_, pq⟩
    · clear h; have T17 := ty_back q18 T1 T7
      obtain ⟨b1, b15, b16, b17, b18, b19, b40, b3, b5, b6, b7, b8⟩ := q18
      have bf : ∀ k, k ∉ [55, 15, 16, 17, 18, 19, 40, 3] → σ_17.1 k = σ_7.1 k := fun k z => b1 k (fun e => z (by rw [e]; decide)) (fun e => z (by rw [e]; decide)) (fun e => z (by rw [e]; decide)) (fun e => z (by rw [e]; decide)) (fun e => z (by rw [e]; decide)) (fun e => z (by rw [e]; decide)) (fun e => z (by rw [e]; decide)) (fun e => z (by rw [e]; decide))
      have d3 : σ_17.1 3 = σ.1 3 := b3.trans (e1 3 (by decide))
      have kk : ∀ k, k ∉ [55, 15, 16, 17, 18, 19, 40, 3] → k ∉ qFF → k ≠ 0 → k ≠ 55 → k ≠ 2 → k ≠ 53 → σ_17.1 k = σ.1 k := fun k z1 z2 z3 z4 z5 z6 => (bf k z1).trans (k7 k z2 z3 z4 z5 z6)
      have d14 : σ_17.1 14 = σ.1 14 := kk 14 (by decide) (by decide) (by decide) (by decide) (by decide) (by decide)
      refine ⟨by rw [d3]; exact hb, by rw [bf 2 (by decide)]; exact v7, T17, fun z => ?_, ?_, Or.inl ⟨d14, kk 69 (by decide) (by decide) (by decide) (by decide) (by decide) (by decide), kk 70 (by decide) (by decide) (by decide) (by decide) (by decide) (by decide), kk 71 (by decide) (by decide) (by decide) (by decide) (by decide) (by decide), kk 72 (by decide) (by decide) (by decide) (by decide) (by decide) (by decide), kk 94 (by decide) (by decide) (by decide) (by decide) (by decide) (by decide), kk 106 (by decide) (by decide) (by decide) (by decide) (by decide) (by decide), kk 114 (by decide) (by decide) (by decide) (by decide) (by decide) (by decide)⟩⟩
      · rw [d14] at z
        obtain ⟨T, pk⟩ := hP z
        have tok : ∀ k, k = 5 ∨ k = 7 ∨ k = 39 → lc (σ.2.2.1 k) (σ_17.2.2.1 k) (σ.1 3) T := fun k hk t ht ht2 => by
          have w := two_b hb t3 (by rw [← e2 3 (by decide) (by decide)]; exact t4) pk.2.2.1 pk.2.2.2.1 ht ht2
          have x := t5 k (by omega) t w.1 w.2
          have y : σ_17.2.2.1 k = σ_4.2.2.1 k := by
            rcases hk with rfl | rfl | rfl
            · rw [b7 5 (by decide) (by decide), s7]
            · rw [b7 7 (by decide) (by decide), s7]
            · rw [b7 39 (by decide) (by decide), s7]
          rw [y]
          refine x.trans ?_
          rw [rd, r2 k (by omega) (by omega)]
        have rw1 : ∀ p ∈ kPt, ∀ j, j < p.2.2 → σ_17.2.2.1 p.1 j = σ.2.2.1 p.1 j := fun p hp j hj => by rw [(b8 p hp).1 j hj, s1]
        refine ⟨T, ?_⟩
        rw [d3]
        refine progOK_L hT pk (tok 5 (by decide)) (tok 7 (by decide)) (tok 39 (by decide)) (b18.trans (e1 18 (by decide))) (b19.trans (e1 19 (by decide))) (b40.trans (e1 40 (by decide))) (fun k hk j hj => ?_) (fun k hk j hj => ?_)
        · rcases hk with rfl | rfl | rfl | rfl | rfl | rfl | rfl | rfl
          · exact rw1 (30, 157, 150) (by decide) j hj
          · exact rw1 (31, 307, 150) (by decide) j hj
          · exact rw1 (32, 457, 150) (by decide) j hj
          · exact rw1 (33, 607, 150) (by decide) j hj
          · exact rw1 (34, 757, 150) (by decide) j hj
          · exact rw1 (35, 907, 150) (by decide) j hj
          · exact rw1 (36, 1057, 150) (by decide) j hj
          · exact rw1 (37, 1207, 150) (by decide) j hj
        · rcases hk with rfl | rfl
          · exact rw1 (26, 47, 10) (by decide) j hj
          · exact rw1 (29, 147, 10) (by decide) j hj
      · refine frH_tr F7 ⟨fun k z => bf k (fun e => z ((by decide : ∀ q ∈ [55, 15, 16, 17, 18, 19, 40, 3], q ∈ zFF) k e)), b5, fun k z => b7 k (fun e => z (by rw [e]; decide)) (fun p hp e => z (by rw [← e]; exact (by decide : ∀ p ∈ kPt, p.1 ∈ zRR) p hp)), fun k j _ => b6 k j⟩

/-! the reference: what holds behind decide, show, solve, best, explore, program, play, walk -/
abbrev rjA : List Nat := [2, 53, 3, 14, 15, 16, 17, 18, 19, 40, 41, 42, 104]
abbrev rjZ : List Nat := 1 :: 6 :: 9 :: 21 :: rjQ
abbrev rjY : List Nat := 1 :: 6 :: 9 :: 21 :: rjR
theorem rJ_x {σ τ : rS} (J : rJ σ) (hf : ∀ k, k ∈ rjA → τ.1 k = σ.1 k) (hr : ∀ k, k ∈ rjZ → τ.2.2.1 k = σ.2.2.1 k) (hl : ∀ j, τ.2.2.2 8 j = σ.2.2.2 8 j) (e : exP τ) (v : jVs τ) (w : jWo τ) (p : plN τ) (s : shO τ) : rJ τ ∧ pR7 σ τ :=
  ⟨⟨by rw [hf 2 (by decide)]; exact J.1, jBk_o J.2.1 (hf 3 (by decide)) (hf 14 (by decide)) (fun k hk => hf k ((by decide : ∀ k, k ∈ rjP → k ∈ rjA) k hk)) (fun k hk => hr k (List.mem_cons_of_mem _ (List.mem_cons_of_mem _ (List.mem_cons_of_mem _ (List.mem_cons_of_mem _ hk))))), e, v, w, p, s, by rw [hf 104 (by decide)]; exact J.2.2.2.2.2.2.2⟩, ⟨oR_k9 (hf 2 (by decide)) (hf 53 (by decide)) (hr 1 (by decide)), kR_f7 (fun k hk => hf k ((by decide : ∀ k, k ∈ kf7 → k ∈ rjA) k hk)) (fun k hk => hr k ((by decide : ∀ k, k ∈ kz7 → k ∈ rjZ) k hk)) hl⟩⟩
theorem rj_88 {σ : rS} (J : rJ σ) : 0 ≤ σ.1 88 := J.2.2.1.2.2.2.1
section callz
variable {C : rCx} {σ : rS} {a1 a2 : Int32}
theorem explore_j (hC : cOK C) (J : rJ σ) {Q : Int32 → rS → Prop} (h : ∀ v σ', rJ σ' → pR7 σ σ' → XS22 a1 σ σ' v → Q v σ') : cI C 11 m_explore [.ref (co C), .int a1] σ Q := explore_g16 hC ⟨J.2.1.2.1, J.2.1.2.2, J.2.2.1⟩ (fun v σ' q => by
  obtain ⟨⟨f, e, -, -, z⟩, xs⟩ := q
  have r0 := f.2.2.1 90 (by decide)
  have r1 := f.2.2.1 91 (by decide)
  have g := rJ_x J (fun k hk => f.1 k ((by decide : ∀ k, k ∈ rjA → k ∉ xpF) k hk)) (fun k hk => f.2.2.1 k ((by decide : ∀ k, k ∈ rjZ → k ∉ xpR) k hk)) (fun j => by rw [f.2.2.2 8 (by decide)]) e (by
    rcases z with z | z
    · exact jVs_o J.2.2.2.1 (by rw [z.1 94 (by decide)]; exact fun y => y) (z.1 70 (by decide)) (by rw [z.2])
    · exact fun y => absurd z.1 y) (by
    rcases z with z | z
    · exact jWo_o J.2.2.2.2.1 (by rw [z.1 114 (by decide)]; exact fun y => y) (z.1 70 (by decide)) (by rw [z.2]) (by rw [z.2])
    · exact fun y => absurd z.2 y) (plN_o J.2.2.2.2.2.1 (by rw [f.1 106 (by decide)]; exact fun y => y) (fun k hk => ⟨by rw [r1], fun i _ => by rw [r0]⟩)) (shO_o J.2.2.2.2.2.2.1 (f.1 103 (by decide)) (fun k hk => ⟨by rw [r1], fun i _ => by rw [r0]⟩))
  exact h v σ' g.1 g.2 ⟨xs, ⟨f.1 104 (by decide), f.2.2.1 105 (by decide)⟩, ⟨fun g q => f.1 g (by rcases q with q | q | q | q <;> rw [q] <;> decide), by rw [f.2.1], f.2.2.1 111 (by decide)⟩, f.1 103 (by decide), nM_r16 r0 r1⟩)
theorem program_j (hC : cOK C) (J : rJ σ) {Q : Int32 → rS → Prop} (h : ∀ v σ', rJ σ' → oR9 σ' = ((fun _ => 0, 0, σ'.1 53) : Ob9) → (pQ9 σ v σ' ∧ kD20 σ σ' ∧ σ'.2.1 110 = σ.2.1 110 ∧ kE16 σ σ') → Q v σ') : cI C 13 m_program [.ref (co C)] σ Q := program_c9 hC ⟨J.2.1.1, J.1.1, J.1.2, J.2.1.2.1, J.2.1.2.2⟩ (fun v σ' q => by
  obtain ⟨⟨b3, b2, ty, pg, f, z⟩, pq⟩ := q
  have r0 := f.2.2.1 90 (by decide)
  have r1 := f.2.2.1 91 (by decide)
  have e104 := f.1 104 (by decide)
  have e88 := f.1 88 (by decide)
  refine h v σ' ⟨by rw [b2]; decide, ⟨b3, ty, pg⟩, ?_, ?_, ?_, ?_, shO_o J.2.2.2.2.2.2.1 (f.1 103 (by decide)) (fun k hk => ⟨by rw [r1], fun i _ => by rw [r0]⟩), by rw [e104]; exact J.2.2.2.2.2.2.2⟩ (by unfold oR9; rw [b2]; exact mk_09) ⟨pq, ⟨e104, f.2.2.1 105 (by decide)⟩, f.2.1 110, f.1 103 (by decide), nM_r16 r0 r1⟩
  · rcases z with z | z
    · exact exP_o J.2.2.1 (fun k hk => by
        rcases hk with y | y | y | y <;> rw [y]
        · exact z.2.2.1
        · exact z.2.2.2.1
        · exact z.2.2.2.2.1
        · exact e88) (fun k hk => f.2.2.1 k (by rcases hk with z | z | z | z | z | z | z | z <;> rw [z] <;> decide))
    · exact exP_0 z.2.2.1 z.2.2.2.1 z.2.2.2.2.1 (by rw [e88]; exact rj_88 J)
  · rcases z with z | z
    · exact jVs_o J.2.2.2.1 (by rw [z.2.2.2.2.2.1]; exact fun y => y) z.2.2.1 (f.2.2.1 102 (by decide))
    · exact fun y => absurd z.2.2.2.2.2.1 y
  · rcases z with z | z
    · exact jWo_o J.2.2.2.2.1 (by rw [z.2.2.2.2.2.2.2]; exact fun y => y) z.2.2.1 (f.2.2.1 115 (by decide)) (f.2.2.1 116 (by decide))
    · exact fun y => absurd z.2.2.2.2.2.2.2 y
  · refine plN_o J.2.2.2.2.2.1 ?_ (fun k hk => ⟨by rw [r1], fun i _ => by rw [r0]⟩)
    rcases z with z | z
    · rw [z.2.2.2.2.2.2.1]; exact fun y => y
    · exact fun y => absurd z.2.2.2.2.2.2.1 y)
theorem rJ_w {σ ρ τ : rS} (J : rJ σ) (hρ : ∀ k, k ≠ 113 → ρ.1 k = σ.1 k) (hs : ρ.2.2 = σ.2.2) (f : frW ρ τ) (p : plN τ) : rJ τ ∧ (pR7 σ τ ∧ kX7 σ τ ∧ kD20 σ τ ∧ kY16 σ τ) := by
  have ef : ∀ k, k ∉ pyF → k ≠ 113 → τ.1 k = σ.1 k := fun k z1 z2 => (f.1 k z1).trans (hρ k z2)
  have er : ∀ k, k ≠ 90 → k ≠ 91 → k ∉ pyR → τ.2.2.1 k = σ.2.2.1 k := fun k z1 z2 z3 => (f.2.2.1 k z1 z2 z3).trans (by rw [hs])
  have g := rJ_x J (fun k hk => ef k ((by decide : ∀ k, k ∈ rjA → k ∉ pyF) k hk) ((by decide : ∀ k, k ∈ rjA → k ≠ 113) k hk)) (fun k hk => er k ((by decide : ∀ k, k ∈ rjZ → k ≠ 90) k hk) ((by decide : ∀ k, k ∈ rjZ → k ≠ 91) k hk) ((by decide : ∀ k, k ∈ rjZ → k ∉ pyR) k hk)) (fun j => (f.2.2.2.1 8 j).trans (by rw [hs])) (exP_o J.2.2.1 (fun k hk => ef k (by rcases hk with z | z | z | z <;> rw [z] <;> decide) (by rcases hk with z | z | z | z <;> rw [z] <;> decide)) (fun k hk => er k (by rcases hk with z | z | z | z | z | z | z | z <;> rw [z] <;> decide) (by rcases hk with z | z | z | z | z | z | z | z <;> rw [z] <;> decide) (by rcases hk with z | z | z | z | z | z | z | z <;> rw [z] <;> decide))) (jVs_o J.2.2.2.1 (by rw [ef 94 (by decide) (by decide)]; exact fun y => y) (ef 70 (by decide) (by decide)) (er 102 (by decide) (by decide) (by decide))) (jWo_o J.2.2.2.2.1 (by rw [ef 114 (by decide) (by decide)]; exact fun y => y) (ef 70 (by decide) (by decide)) (er 115 (by decide) (by decide) (by decide)) (er 116 (by decide) (by decide) (by decide))) p (shO_o J.2.2.2.2.2.2.1 (ef 103 (by decide) (by decide)) (fun k hk => by
    have y := f.2.2.2.2 k (by rcases hk with z | z <;> rw [z] <;> decide)
    rw [hs] at y
    exact y))
  have x := (fun k hk h1 => ef k hk h1 : ∀ k, k ∉ pyF → k ≠ 113 → τ.1 k = σ.1 k)
  exact ⟨g.1, g.2, ⟨fun k hk => ef k ((by decide : ∀ k, k ∈ kd7 → k ∉ pyF) k hk) ((by decide : ∀ k, k ∈ kd7 → k ≠ 113) k hk), fun k hk => er k ((by decide : ∀ k, k ∈ kx7 → k ≠ 90) k hk) ((by decide : ∀ k, k ∈ kx7 → k ≠ 91) k hk) ((by decide : ∀ k, k ∈ kx7 → k ∉ pyR) k hk)⟩, ⟨ef 104 (by decide) (by decide), er 105 (by decide) (by decide) (by decide)⟩, fun k hk => ef k ((by decide : ∀ k, k ∈ kf16 → k ∉ pyF) k hk) ((by decide : ∀ k, k ∈ kf16 → k ≠ 113) k hk), fun k hk => er k ((by decide : ∀ k, k ∈ kh16 → k ≠ 90) k hk) ((by decide : ∀ k, k ∈ kh16 → k ≠ 91) k hk) ((by decide : ∀ k, k ∈ kh16 → k ∉ pyR) k hk), fun k h1 h2 => (by
    have y := f.2.2.2.2 k (by have : k = 15 ∨ k = 16 := by omega
                              rcases this with z | z <;> rw [z] <;> decide)
    rw [hs] at y
    exact y), fun z => ⟨(p z).1, (p z).2.1⟩⟩
theorem rj_T (J : rJ σ) : ∃ T, (σ.1 14 ≠ 0 → rI σ (σ.1 3) T) := by
  by_cases z : σ.1 14 = 0
  · exact ⟨0, fun y => absurd z y⟩
  · obtain ⟨T, g⟩ := J.2.1.2.2 z
    exact ⟨T, fun _ => ⟨J.2.1.2.1, g⟩⟩

end callz

end
section
set_option maxHeartbeats 1600000
/-! the reference: next, ending, value by what they answer; what holds behind them -/
/-- solve, of the reference -/
def pV16 (σ σ' : rS) (v : Int32) : Prop := (pR7 σ σ' ∧ (∀ g, g ∈ ke8 → σ'.1 g = σ.1 g) ∧ (∀ g, g ∈ kx8 → σ'.2.2.1 g = σ.2.2.1 g) ∧ σ'.2.1 110 = σ.2.1 110) ∧ XV15 σ σ' (σ.1 70).toNatClampNeg v ∧ (σ'.1 103 = σ.1 103 ∧ σ'.1 114 = σ.1 114) ∧ (∀ g, g = 115 ∨ g = 116 → σ'.2.2.1 g = σ.2.2.1 g) ∧ nM16 σ σ'
theorem n17_16 : ∀ k, 17 ≤ k → k ≤ 18 → k ∉ shL := fun k a b => by
  have e : k = 17 ∨ k = 18 := by omega
  rcases e with z | z <;> rw [z] <;> decide
/-- show, of the reference -/
def pH16 (k c : Int32) (σ σ' : rS) (v : Int32) : Prop := (pR7 σ σ' ∧ (∀ g, g ∈ ke8 → σ'.1 g = σ.1 g) ∧ (∀ g, g ∈ kx8 → σ'.2.2.1 g = σ.2.2.1 g) ∧ σ'.2.1 110 = σ.2.1 110) ∧ (σ'.1 94 = σ.1 94 ∧ σ'.1 114 = σ.1 114) ∧ (∀ g, g ∈ kh16 → σ'.2.2.1 g = σ.2.2.1 g) ∧ (∀ k, 17 ≤ k → k ≤ 18 → σ'.2.2.1 91 k = σ.2.2.1 91 k ∧ ∀ i, i < 40000 → σ'.2.2.1 90 (40000 * k + i) = σ.2.2.1 90 (40000 * k + i)) ∧ XS16h k c σ σ' v
section callx
variable {C : rCx} {σ : rS} {a1 a2 a3 : Int32}
theorem next_j8 (hC : cOK C) (J : rJ σ) {Q : Int32 → rS → Prop} (h : ∀ v σ', rJ σ' → pR8 σ σ' → XN8 a1 a2 a3 σ σ' v → Q v σ') : cI C 1 m_next [.ref (co C), .int a1, .int a2, .int a3] σ Q := next_g5 hC J.2.2.1 (fun v σ' q => h v σ' (rJ_G J q.1).1 (rJ_G J q.1).2 q.2)
theorem value_j8 (hC : cOK C) (J : rJ σ) {Q : Int32 → rS → Prop} (h : ∀ v σ', rJ σ' → pR8 σ σ' → XV8 a1 a2 a3 σ σ' v → Q v σ') : cI C 1 m_value [.ref (co C), .int a1, .int a2, .int a3] σ Q := value_g5 hC ⟨J.2.2.1, J.2.1.2.1⟩ (fun v σ' q => h v σ' (rJ_G J q.1).1 (rJ_G J q.1).2 q.2)
theorem ending_j8 (hC : cOK C) (J : rJ σ) {Q : Int32 → rS → Prop} (h : ∀ v σ', rJ σ' → pR8 σ σ' → XE8 a1 a2 σ σ' v → Q v σ') : cI C 0 m_ending [.ref (co C), .int a1, .int a2] σ Q := ending_g5 hC ⟨J.2.2.1, J.2.1.2.1⟩ (fun v σ' q => h v σ' (rJ_G J q.1).1 (rJ_G J q.1).2 q.2)
theorem state_j8 (hC : cOK C) (J : rJ σ) {Q : Int32 → rS → Prop} (h : ∀ v σ', rJ σ' → pR8 σ σ' → XT8 a1 a2 σ σ' v → Q v σ') : cI C 1 m_state [.ref (co C), .int a1, .int a2] σ Q := state_g5 hC J.2.2.1 (fun v σ' q => h v σ' (rJ_G J q.1).1 (rJ_G J q.1).2 q.2)
theorem count_j8 (hC : cOK C) (J : rJ σ) {Q : Int32 → rS → Prop} (h : ∀ v σ', rJ σ' → pR8 σ σ' → XK8 a1 σ σ' v → Q v σ') : cI C 1 m_count [.ref (co C), .int a1] σ Q := count_g5 hC ⟨J.2.2.1.1.1.1, J.2.2.1.1.1.2⟩ (fun v σ' q => h v σ' (rJ_G J q.1).1 (rJ_G J q.1).2 q.2)
theorem best_j8 (hC : cOK C) (J : rJ σ) {Q : Int32 → rS → Prop} (h : ∀ v σ', rJ σ' → pT8 σ σ' → XB8 σ σ' v → Q v σ') : cI C 7 m_best [.ref (co C)] σ Q := best_g5 hC _ ⟨J.2.2.1, rfl, J.2.2.2.2.1⟩ (fun v σ' q => by
  obtain ⟨⟨f, e, s, v4, n⟩, xb⟩ := q
  have e70 := f.1 70 (by decide)
  have g := rJ_x J (fun k hk => f.1 k ((by decide : ∀ k, k ∈ rjA → k ∉ bfF) k hk)) (fun k hk => f.2.2.1 k ((by decide : ∀ k, k ∈ rjZ → k ∉ bfR) k hk)) (fun j => by rw [f.2.2.2 8 (by decide)]) e (jVs_o J.2.2.2.1 v4 e70 (f.2.2.1 102 (by decide))) (fun y k hk => s y k (by rw [← e70]; exact hk)) (plN_o J.2.2.2.2.2.1 (by rw [f.1 106 (by decide)]; exact fun y => y) (fun k hk => n k (by omega))) (shO_o J.2.2.2.2.2.2.1 (f.1 103 (by decide)) (fun k hk => n k (by omega)))
  exact h v σ' g.1 ⟨g.2, ⟨fun k hk => f.1 k ((by decide : ∀ k, k ∈ ke8 → k ∉ bfF) k hk), fun k hk => f.2.2.1 k ((by decide : ∀ k, k ∈ ky8 → k ∉ bfR) k hk), by rw [f.2.1]⟩, f.1 103 (by decide), (fun g q => f.2.2.1 g (by rcases q with q | q <;> rw [q] <;> decide)), (fun k h1 h2 => n k (by omega))⟩ xb)
theorem decide_j8 (hC : cOK C) (J : rJ σ) {Q : Int32 → rS → Prop} (h : ∀ v σ', rJ σ' → pD8 a1 a2 σ σ' → XD8 a1 a2 σ σ' v → Q v σ') : cI C 1 m_decide [.ref (co C), .int a1, .int a2] σ Q := decide_g5 hC J.2.2.1 (fun v σ' q => by
  obtain ⟨⟨f, e, z⟩, xd, xu, xf⟩ := q
  have g := rJ_x J (fun k hk => f.1 k ((by decide : ∀ k, k ∈ rjA → k ∉ [0, 94]) k hk)) (fun k hk => f.2.2.1 k ((by decide : ∀ k, k ∈ rjZ → k ∉ [83]) k hk)) (fun j => f.2.2.2 8 j) e (by
    rcases z with z | z
    · exact jVs_o J.2.2.2.1 (by rw [z.1 94 (by decide)]; exact fun y => y) (z.1 70 (by decide)) (z.2.2.1 102 (by decide))
    · exact fun y => absurd z y) (jWo_o J.2.2.2.2.1 (by rw [f.1 114 (by decide)]; exact fun y => y) (f.1 70 (by decide)) (f.2.2.1 115 (by decide)) (f.2.2.1 116 (by decide))) (plN_o J.2.2.2.2.2.1 (by rw [f.1 106 (by decide)]; exact fun y => y) (fun k hk => ⟨by rw [f.2.2.1 91 (by decide)], fun i _ => by rw [f.2.2.1 90 (by decide)]⟩)) (shO_o J.2.2.2.2.2.2.1 (f.1 103 (by decide)) (fun k hk => ⟨by rw [f.2.2.1 91 (by decide)], fun i _ => by rw [f.2.2.1 90 (by decide)]⟩))
  exact h v σ' g.1 ⟨⟨g.2, ⟨fun k hk => f.1 k ((by decide : ∀ k, k ∈ ke8 → k ∉ [0, 94]) k hk), fun k hk => f.2.2.1 k ((by decide : ∀ k, k ∈ ky8 → k ∉ [83]) k hk), f.2.1 110⟩, f.1 103 (by decide), (fun g q => f.2.2.1 g (by rcases q with q | q <;> rw [q] <;> decide)), nM_r16 (f.2.2.1 90 (by decide)) (f.2.2.1 91 (by decide))⟩, xu, xf, f.1 114 (by decide), (fun g q => f.2.2.1 g (by rcases q with q | q <;> rw [q] <;> decide))⟩ xd)
theorem decided_j8 (hC : cOK C) (J : rJ σ) {Q : Int32 → rS → Prop} (h : ∀ v σ', rJ σ' → pR8 σ σ' → XG8 a1 σ σ' v → Q v σ') : cI C 1 m_decided [.ref (co C), .int a1] σ Q := decided_g5 hC J.2.2.1 (fun v σ' q => h v σ' (rJ_G J q.1).1 (rJ_G J q.1).2 q.2)
theorem cy_p23 {σ : rS} {x : Int64} {a : Int32} : cy21 (siU (slU σ 112 x) 113 1) a = cy21 σ a := by
  unfold cy21
  have e : (siU (slU σ 112 x) 113 1).1 14 = σ.1 14 := by rw [si1, if_neg (by decide)]; rfl
  rw [e]
theorem cy_w23 {σ : rS} {a : Int32} : cy21 (siU σ 113 0) a = cy21 σ a := by
  unfold cy21
  have e : (siU σ 113 0).1 14 = σ.1 14 := by rw [si1, if_neg (by decide)]
  rw [e]
def pY23 (m : Int32) (σ σ9 σ' : rS) (v : Int32) : Prop := (oR9 σ' = oR9 σ ∧ kR7 σ σ') ∧ (kX7 σ σ' ∧ kD20 σ σ' ∧ kY16 σ σ') ∧ cy21 σ9 m = cy21 σ m ∧ (∀ k, k ≠ 113 → σ9.1 k = σ.1 k) ∧ (σ9.2.1 110 = σ.2.1 110 ∧ σ9.2.2 = σ.2.2) ∧ GO21 m σ9 σ' v
def XP21 (x : Int64) (a : Int32) (σ σ' : rS) (v : Int32) : Prop := GO21 a (siU (slU σ 112 x) 113 1) σ' v
def XW21 (a : Int32) (σ σ' : rS) (v : Int32) : Prop := GO21 a (siU σ 113 0) σ' v
theorem play_j8 {x : Int64} (hC : cOK C) (J : rJ σ) {Q : Int32 → rS → Prop} (h : ∀ v σ', rJ σ' → pY23 a1 σ (siU (slU σ 112 x) 113 1) σ' v → Q v σ') : cI C 11 m_play [.ref (co C), .long x, .int a1] σ Q := by
  obtain ⟨T, hT⟩ := rj_T J
  exact play_g5 hC T ⟨hT, J.2.2.1, J.2.2.2.2.2.2.2.1, J.2.2.2.2.2.2.2.2, J.2.2.2.2.2.1⟩ (fun v σ' q => by
    have g := rJ_w (ρ := (siU (slU σ 112 x) 113 1)) J (fun k hk => if_neg hk) rfl q.1.1 q.1.2
    exact h v σ' g.1 ⟨g.2.1, g.2.2, cy_p23, fun k hk => if_neg hk, ⟨sl_o21 (σ := σ) (k := 112) (j := 110) (x := x) (by decide), rfl⟩, q.2⟩)
theorem walk_j8 (hC : cOK C) (J : rJ σ) {Q : Int32 → rS → Prop} (h : ∀ v σ', rJ σ' → pY23 a1 σ (siU σ 113 0) σ' v → Q v σ') : cI C 11 m_walk [.ref (co C), .int a1] σ Q := by
  obtain ⟨T, hT⟩ := rj_T J
  exact walk_g5 hC T ⟨hT, J.2.2.1, J.2.2.2.2.2.2.2.1, J.2.2.2.2.2.2.2.2, J.2.2.2.2.2.1⟩ (fun v σ' q => by
    have g := rJ_w (ρ := (siU σ 113 0)) J (fun k hk => if_neg hk) rfl q.1.1 q.1.2
    exact h v σ' g.1 ⟨g.2.1, g.2.2, cy_w23, fun k hk => if_neg hk, ⟨rfl, rfl⟩, q.2⟩)
theorem PB_x21 {σ : rS} (hP : exP σ) : PB21 σ := fun k hk => by
  have hO := hP.1
  have n1 := hO.1.2
  have n0 := hO.1.1
  rw [lei, t0i] at n0
  rw [lei, show (1000 : Int32).toInt = 1000 from rfl] at n1
  have cn := cnk n0
  have ex : (Int32.ofNat k).toNatClampNeg = k := cl_5 (by omega)
  have ei : (Int32.ofNat k).toInt = (k : Int) := ofn_i (by omega)
  have e0 : (0 : Int32) ≤ Int32.ofNat k := by rw [lei, t0i, ei]; omega
  have e1 : Int32.ofNat k < σ.1 70 := by rw [lti, ei]; omega
  have e2 : (Int32.ofNat k + 1).toNatClampNeg = k + 1 := by rw [(cn1 (by rw [ei]; omega) (by rw [ei]; omega)).1, ex]
  have s := hO.2.2.2.1 _ e0 e1
  have p := hP.2.2.1 _ e0 e1
  simp only [stOK, rd, ex, e2] at s
  simp only [rd, ex, e2] at p
  obtain ⟨⟨s0, s1, s2⟩, _⟩ := s
  have x1 := hO.2.2.1.2
  rw [lei, show (20000 : Int32).toInt = 20000 from rfl] at x1
  rw [lei, t0i] at s0
  rw [lti] at s1
  rw [lei] at s2
  refine ⟨p.1, fun z => ?_⟩
  obtain ⟨p1, p2⟩ := p.2 z
  rw [lei, t0i] at p1
  rw [lti, sub_i (by omega) (by omega)] at p2
  exact ⟨p1, p2⟩
theorem PB_j21 (J : rJ σ) : PB21 σ := PB_x21 J.2.2.1
theorem played_j8 (hC : cOK C) (J : rJ σ) {Q : Int64 → rS → Prop} (h : ∀ v σ', rJ σ' → pR8 σ σ' → XQ23 a1 σ σ' v → Q v σ') : cJ C 0 m_played [.ref (co C), .int a1] σ Q := played_g23 hC (rj34 J.2.1.2.1) (fun v σ' q => h v σ' (rJ_T J q.1).1 (rJ_T J q.1).2 q.2)
theorem show_j8 (hC : cOK C) (J : rJ σ) {Q : Int32 → rS → Prop} (h : ∀ v σ', rJ σ' → pH16 a1 a2 σ σ' v → Q v σ') : cI C 8 m_show [.ref (co C), .int a1, .int a2] σ Q := show_g16 hC _ ⟨pOK_of J.2.2.1, rfl, J.2.2.2.1, J.2.2.2.2.1, J.2.2.2.2.2.1, J.2.2.2.2.2.2.1⟩ (fun v σ' q => by
  obtain ⟨⟨f, s⟩, x⟩ := q
  have r : ∀ k, k ∈ rjY → σ'.2.2.1 k = σ.2.2.1 k := fun k hk => f.2.2.1 k ((by decide : ∀ k, k ∈ rjY → k ≠ 90) k hk) ((by decide : ∀ k, k ∈ rjY → k ≠ 91) k hk)
  have g := rJ_x J (fun k hk => f.1 k ((by decide : ∀ k, k ∈ rjA → k ∉ shF) k hk)) (fun k hk => r k ((by decide : ∀ k, k ∈ rjZ → k ∈ rjY) k hk)) (fun j => by rw [f.2.2.2.1]) (exP_o J.2.2.1 (fun k hk => f.1 k (by rcases hk with z | z | z | z <;> rw [z] <;> decide)) (fun k hk => r k (by rcases hk with z | z | z | z | z | z | z | z <;> rw [z] <;> decide))) (jVs_o J.2.2.2.1 (by rw [f.1 94 (by decide)]; exact fun y => y) (f.1 70 (by decide)) (r 102 (by decide))) (jWo_o J.2.2.2.2.1 (by rw [f.1 114 (by decide)]; exact fun y => y) (f.1 70 (by decide)) (r 115 (by decide)) (r 116 (by decide))) (plN_o J.2.2.2.2.2.1 (by rw [f.1 106 (by decide)]; exact fun y => y) (fun k hk => f.2.2.2.2 k (by rcases hk with z | z <;> rw [z] <;> decide))) s
  exact h v σ' g.1 ⟨⟨g.2, (fun k hk => f.1 k ((by decide : ∀ k, k ∈ ke8 → k ∉ shF) k hk)), (fun k hk => f.2.2.1 k ((by decide : ∀ k, k ∈ kx8 → k ≠ 90) k hk) ((by decide : ∀ k, k ∈ kx8 → k ≠ 91) k hk)), (by rw [f.2.1])⟩, ⟨f.1 94 (by decide), f.1 114 (by decide)⟩, (fun k hk => f.2.2.1 k ((by decide : ∀ k, k ∈ kh16 → k ≠ 90) k hk) ((by decide : ∀ k, k ∈ kh16 → k ≠ 91) k hk)), (fun k h1 h2 => f.2.2.2.2 k (n17_16 k h1 h2)), x⟩)
theorem solve_j8 (hC : cOK C) (J : rJ σ) {Q : Int32 → rS → Prop} (h : ∀ v σ', rJ σ' → pV16 σ σ' v → XQ15 σ σ' v → Q v σ') : cI C 8 m_solve [.ref (co C)] σ Q := solve_g5 hC _ ⟨pOK_of J.2.2.1, rfl, J.2.2.2.1⟩ (fun v σ' q => by
  obtain ⟨⟨f, s, n⟩, xq⟩ := q
  have e70 := f.1 70 (by decide)
  have g := rJ_x J (fun k hk => f.1 k ((by decide : ∀ k, k ∈ rjA → k ∉ slF) k hk)) (fun k hk => f.2.2.1 k ((by decide : ∀ k, k ∈ rjZ → k ∉ slR) k hk)) (fun j => by rw [f.2.2.2 8 (by decide)]) (exP_o J.2.2.1 (fun k hk => f.1 k (by rcases hk with z | z | z | z <;> rw [z] <;> decide)) (fun k hk => f.2.2.1 k (by rcases hk with z | z | z | z | z | z | z | z <;> rw [z] <;> decide))) (fun y k hk => s y k (by rw [← e70]; exact hk)) (jWo_o J.2.2.2.2.1 (by rw [f.1 114 (by decide)]; exact fun y => y) e70 (f.2.2.1 115 (by decide)) (f.2.2.1 116 (by decide))) (plN_o J.2.2.2.2.2.1 (by rw [f.1 106 (by decide)]; exact fun y => y) (fun k hk => n k (by omega))) (shO_o J.2.2.2.2.2.2.1 (f.1 103 (by decide)) (fun k hk => n k (by omega)))
  exact h v σ' g.1 ⟨⟨g.2, (fun k hk => f.1 k ((by decide : ∀ k, k ∈ ke8 → k ∉ slF) k hk)), (fun k hk => f.2.2.1 k ((by decide : ∀ k, k ∈ kx8 → k ∉ slR) k hk)), (by rw [f.2.1])⟩, xq, ⟨f.1 103 (by decide), f.1 114 (by decide)⟩, (fun g q => f.2.2.1 g (by rcases q with q | q <;> rw [q] <;> decide)), (fun k h1 h2 => n k (by omega))⟩ (XQ_15 (pOK_of J.2.2.1) xq))
end callx
/-- show's answer, of the reference -/
def hc16 (σ : rS) (k c : Int32) : Prop := cc16 σ k c = 0
noncomputable def hv16 (σ : rS) (k c : Int32) : Int32 := Int32.ofInt (shR16 σ k c).num.sign
theorem hv_16 {σ : rS} {k c v : Int32} (h : v.toInt = (shR16 σ k c).num.sign) : v = hv16 σ k c := by
  unfold hv16
  rw [← h]
  exact (Int32.ofInt_toInt v).symm
def XH16 (k c : Int32) (σ σ' : rS) (v : Int32) : Prop := (hc16 σ k c ∧ σ'.1 0 = 0 ∧ v = hv16 σ k c) ∨ (¬ hc16 σ k c ∧ σ'.1 0 = cc16 σ k c)
theorem xh_16 {k c v : Int32} {σ σ' : rS} (b : pH16 k c σ σ' v) : XH16 k c σ σ' v := by
  obtain ⟨_, _, _, _, x0, x1, _⟩ := b
  by_cases z : cc16 σ k c = 0
  · exact Or.inl ⟨z, x0.trans z, hv_16 (x1 z).1⟩
  · exact Or.inr ⟨z, x0⟩
def pb16 (σ : rS) : Prop := pOK σ ∧ PB21 σ ∧ jVs σ
section
variable {C : rCx} {σ : rS} {a1 : Int32}
theorem size_j8 (hC : cOK C) (J : rJ σ) {Q : Int32 → rS → Prop} (h : ∀ v σ', rJ σ' → pR8 σ σ' → XZ17 a1 σ σ' v → Q v σ') : cI C 1 m_size [.ref (co C), .int a1] σ Q := size_g5 hC J.2.2.2.2.2.2.1 (fun v σ' q => h v σ' (rJ_T J q.1).1 (rJ_T J q.1).2 (xz_17 q.2))
end
section
variable {C : rCx} {σ : rS} {a1 a2 : Int32}
theorem limb_j8 (hC : cOK C) (J : rJ σ) {Q : Int32 → rS → Prop} (h : ∀ v σ', rJ σ' → pR8 σ σ' → XL18 a1 a2 σ σ' v → Q v σ') : cI C 1 m_limb [.ref (co C), .int a1, .int a2] σ Q := limb_g5 hC J.2.2.2.2.2.2.1 (fun v σ' q => h v σ' (rJ_T J q.1).1 (rJ_T J q.1).2 (xl_18 q.2))
end
section
variable {C : rCx} {σ : rS} {a1 a2 a3 : Int32}
theorem independent_j8 (hC : cOK C) (J : rJ σ) {Q : Int32 → rS → Prop} (h : ∀ v σ', rJ σ' → pR8 σ σ' → XIA24 a1 a2 σ σ' v → Q v σ') : cI C 9 m_independent [.ref (co C), .int a1, .int a2] σ Q := independent_g5 hC _ ⟨pOK_of J.2.2.1, rfl, J.2.2.2.1, (rj34 J.2.1.2.1).2⟩ (fun v σ' q => h v σ' (rJ_U J q.1).1 (rJ_U J q.1).2 (xi_24 q.2))
theorem given_j8 (hC : cOK C) (J : rJ σ) {Q : Int32 → rS → Prop} (h : ∀ v σ', rJ σ' → pR8 σ σ' → XGA24 a1 a2 a3 σ σ' v → Q v σ') : cI C 9 m_given [.ref (co C), .int a1, .int a2, .int a3] σ Q := given_g5 hC _ ⟨pOK_of J.2.2.1, rfl, J.2.2.2.1, (rj34 J.2.1.2.1).2⟩ (fun v σ' q => h v σ' (rJ_U J q.1).1 (rJ_U J q.1).2 (xg_24 q.2))
end
theorem feed_w {C : rCx} {σ : rS} {a1 a2 a3 a4 a5 : Int32} (hC : cOK C) (J : rJ σ) (h60 : σ.1 2 ≤ 60000) {Q : Int32 → rS → Prop} (h : ∀ v σ', rJ σ' → (oR9 σ' = fdO9 (oR9 σ) (by9 a1 a2 a3 a4 a5) ∧ kR7 σ σ') ∧ kS8 σ σ' → (v = σ.1 2 + 20 ∧ σ'.1 0 = 0) → Q v σ') : cI C 0 m_feed [.ref (co C), .int a1, .int a2, .int a3, .int a4, .int a5] σ Q := feed_c9 hC ⟨J.1.1, h60⟩ (fun v σ' q => h v σ' (rJ_c J ⟨q.2.1, q.2.2.1⟩ (by rw [q.1.1 104 (by decide) (by decide)]; exact J.2.2.2.2.2.2.2) (fun k hk => q.1.1 k ((by decide : ∀ k, k ∈ rjF → k ≠ 0) k hk) ((by decide : ∀ k, k ∈ rjF → k ≠ 2) k hk)) (fun k hk => q.1.2.2.1 k ((by decide : ∀ k, k ∈ rjR → k ≠ 1) k hk)) (rjN_r (q.1.2.2.1 90 (by decide)) (q.1.2.2.1 91 (by decide)))) ⟨⟨(by
    have h0 := J.1.1
    have t60 : (60000 : Int32).toInt = 60000 := rfl
    have h61 := h60
    rw [lei, t0i] at h0
    rw [lei, t60] at h61
    have z := fd_m9 (f := σ.2.2.1 1) (f' := σ'.2.2.1 1) (G := by9 a1 a2 a3 a4 a5) (x := σ.1 53) h0 h61 q.2.2.2.2.1 q.2.2.2.2.2.2.1 q.2.2.2.2.2.2.2
    unfold oR9
    rw [q.1.1 53 (by decide) (by decide)]
    exact z), kR_f7 (fun k hk => q.1.1 k ((by decide : ∀ k, k ∈ kf7 → k ≠ 0) k hk) ((by decide : ∀ k, k ∈ kf7 → k ≠ 2) k hk)) (fun k hk => q.1.2.2.1 k ((by decide : ∀ k, k ∈ kz7 → k ≠ 1) k hk)) (fun j => q.1.2.2.2.2 8 j)⟩, kS_f8 (fun k hk => q.1.1 k ((by decide : ∀ k, k ∈ ke8 → k ≠ 0) k hk) ((by decide : ∀ k, k ∈ ke8 → k ≠ 2) k hk)) (fun k hk => q.1.2.2.1 k ((by decide : ∀ k, k ∈ kx8 → k ≠ 1) k hk)) (q.1.2.1 110) (kN_f16 (fun k hk => q.1.1 k ((by decide : ∀ k, k ∈ kf16 → k ≠ 0) k hk) ((by decide : ∀ k, k ∈ kf16 → k ≠ 2) k hk)) (fun k hk => q.1.2.2.1 k ((by decide : ∀ k, k ∈ kh16 → k ≠ 1) k hk)) (nM_r16 (q.1.2.2.1 90 (by decide)) (q.1.2.2.1 91 (by decide))))⟩ ⟨q.2.2.2.1, q.2.2.2.2.2.1⟩)
theorem end_w {C : rCx} {σ : rS} {a1 : Int32} (hC : cOK C) (J : rJ σ) {Q : rS → Prop} (h : ∀ σ', rJ σ' → (oR9 σ' = trO9 (oR9 σ) a1 ∧ kR7 σ σ') ∧ kS8 σ σ' → (((0 ≤ a1 ∧ a1 ≤ σ.1 2) → σ'.1 0 = 0) ∧ (¬ (0 ≤ a1 ∧ a1 ≤ σ.1 2) → σ'.1 0 = 1)) → Q σ') : cV C 0 m_end [.ref (co C), .int a1] σ Q := end_c2 hC J.1 (fun σ' q => h σ' (rJ_c J ⟨q.2.1, q.2.2.1⟩ (by rw [q.1.1 104 (by decide) (by decide)]; exact J.2.2.2.2.2.2.2) (fun k hk => q.1.1 k ((by decide : ∀ k, k ∈ rjF → k ≠ 0) k hk) ((by decide : ∀ k, k ∈ rjF → k ≠ 2) k hk)) (fun k _ => by rw [q.1.2]) (rjN_r (by rw [q.1.2]) (by rw [q.1.2]))) ⟨⟨(by
    unfold oR9
    rw [q.1.1 53 (by decide) (by decide), q.1.2]
    by_cases c : 0 ≤ a1 ∧ a1 ≤ σ.1 2
    · rw [tr_m9 c, (q.2.2.2.1 c).2]
    · rw [tr_n9 c, (q.2.2.2.2 c).2]), kR_f7 (fun k hk => q.1.1 k ((by decide : ∀ k, k ∈ kf7 → k ≠ 0) k hk) ((by decide : ∀ k, k ∈ kf7 → k ≠ 2) k hk)) (fun k _ => by rw [q.1.2]) (fun j => by rw [q.1.2])⟩, kS_f8 (fun k hk => q.1.1 k ((by decide : ∀ k, k ∈ ke8 → k ≠ 0) k hk) ((by decide : ∀ k, k ∈ ke8 → k ≠ 2) k hk)) (fun k _ => by rw [q.1.2]) (by rw [q.1.2]) (kN_f16 (fun k hk => q.1.1 k ((by decide : ∀ k, k ∈ kf16 → k ≠ 0) k hk) ((by decide : ∀ k, k ∈ kf16 → k ≠ 2) k hk)) (fun k _ => by rw [q.1.2]) (nM_r16 (by rw [q.1.2]) (by rw [q.1.2])))⟩ ⟨fun z => (q.2.2.2.1 z).1, fun z => (q.2.2.2.2 z).1⟩)
theorem forget_w {C : rCx} {σ : rS} (hC : cOK C) (J : rJ σ) {Q : Int32 → rS → Prop} (h : ∀ v σ', rJ σ' → (pO21 σ σ' ∧ kP23 σ σ' ∧ kN16 σ σ') → v = σ.1 104 → Q v σ') : cI C 0 m_forget [.ref (co C)] σ Q := forget_c hC (fun v σ' q => h v σ' (rJ_c J (by rw [q.1.1 2 (by decide) (by decide)]; exact J.1) (by rw [q.2.2]; decide) (fun k hk => q.1.1 k ((by decide : ∀ k, k ∈ rjF → k ≠ 0) k hk) ((by decide : ∀ k, k ∈ rjF → k ≠ 104) k hk)) (fun k _ => by rw [q.1.2]) (rjN_r (by rw [q.1.2]) (by rw [q.1.2]))) ⟨⟨⟨oR_k9 (q.1.1 2 (by decide) (by decide)) (q.1.1 53 (by decide) (by decide)) (by rw [q.1.2]), kR_f7 (fun k hk => q.1.1 k ((by decide : ∀ k, k ∈ kf7 → k ≠ 0) k hk) ((by decide : ∀ k, k ∈ kf7 → k ≠ 104) k hk)) (fun k _ => by rw [q.1.2]) (fun j => by rw [q.1.2])⟩, ⟨(fun k hk => q.1.1 k ((by decide : ∀ k, k ∈ kd7 → k ≠ 0) k hk) ((by decide : ∀ k, k ∈ kd7 → k ≠ 104) k hk)), (fun k _ => by rw [q.1.2])⟩, q.2.2⟩, ⟨fun k hk => q.1.1 k ((by decide : ∀ k, k ∈ kp23 → k ≠ 0) k hk) ((by decide : ∀ k, k ∈ kp23 → k ≠ 104) k hk), by rw [q.1.2], by rw [q.1.2]⟩, kN_f16 (fun k hk => q.1.1 k ((by decide : ∀ k, k ∈ kf16 → k ≠ 0) k hk) ((by decide : ∀ k, k ∈ kf16 → k ≠ 104) k hk)) (fun k _ => by rw [q.1.2]) (nM_r16 (by rw [q.1.2]) (by rw [q.1.2]))⟩ q.2.1)
theorem tell_g21w {C : rCx} (hC : cOK C) {σ : rS} {a1 : Int32} {Q : Int32 → rS → Prop} (hp : 0 ≤ σ.1 104 ∧ σ.1 104 ≤ 200) (h : ∀ (v : Int32) (σ' : rS), ((∀ k, k ≠ 0 → k ≠ 104 → σ'.1 k = σ.1 k) ∧ (∀ k, k ≠ 105 → σ'.2.2.1 k = σ.2.2.1 k) ∧ (∀ j, σ'.2.2.2 8 j = σ.2.2.2 8 j) ∧ σ'.2.1 110 = σ.2.1 110) ∧ (0 ≤ σ'.1 104 ∧ σ'.1 104 ≤ 200) ∧ (σ.1 104 = 200 → σ'.1 104 = 200 ∧ σ'.2.2.1 105 = σ.2.2.1 105) ∧ (σ.1 104 ≠ 200 → σ'.1 104 = σ.1 104 + 1 ∧ σ'.2.2.1 105 = upd (σ.2.2.1 105) (σ.1 104).toNatClampNeg a1) ∧ (σ.1 104 = 200 → σ'.1 0 = 1) ∧ (σ.1 104 ≠ 200 → v = σ.1 104 + 1 ∧ σ'.1 0 = 0) → Q v σ') : cI C 0 m_tell [.ref (co C), .int a1] σ Q := by
  have l200 : (200 : Int32).toInt = 200 := rfl
  obtain ⟨p0, p1⟩ := hp
  rw [lei, t0i] at p0
  rw [lei, l200] at p1
  refine m_tell_run hC ?_
  unfold w_tell_0
  refine ⟨fun c1 => ?_, fun c1 => ?_⟩
  · unfold w_tell_16
    intro σ_2 hσ_2
    have e2 : σ_2.1 104 = σ.1 104 := by rw [hσ_2, si1, if_neg (by decide)]
    have lt : (σ.1 104).toInt < 200 := by
      refine Decidable.byContradiction (fun z => c1 (Int32.toInt_inj.mp ?_))
      rw [l200]; omega
    refine ⟨fun c3 => ⟨ib_200.mpr ?_, ?_⟩, fun c3 => absurd (show σ_2.1 0 ≤ 0 by rw [hσ_2, si1, if_pos rfl]; decide) c3⟩
    · rw [e2]
      exact ⟨by rw [lei, t0i]; exact p0, by rw [lti, l200]; exact lt⟩
    intro σ_4 hσ_4
    intro σ_5 hσ_5
    have e1 : (1 : Int32).toInt = 1 := rfl
    have ad : (σ.1 104 + 1).toInt = (σ.1 104).toInt + 1 := by rw [add_i (by rw [e1]; omega) (by rw [e1]; omega), e1]
    have e5 : σ_5.1 104 = σ.1 104 + 1 := by rw [hσ_5, si1, if_pos rfl, hσ_4, ri1, e2]
    refine h _ _ ⟨⟨fun k k0 k1 => ?_, fun k k5 => ?_, fun j => ?_, ?_⟩, ⟨?_, ?_⟩, fun z => absurd z c1, fun _ => ⟨e5, ?_⟩, fun z => absurd z c1, fun _ => ⟨by first | exact e5 | exact e5.symm | (rw [hσ_4, ri1, e2]) | rfl, by rw [hσ_5, si1, if_neg (by decide), hσ_4, ri1, hσ_2, si1, if_pos rfl]⟩⟩
    · rw [hσ_5, si1, if_neg k1, hσ_4, ri1, hσ_2, si1, if_neg k0]
    · rw [hσ_5, si2, hσ_4, ri3 k5, hσ_2, si2]
    · rw [hσ_5, si2, hσ_4, ri5, hσ_2, si2]
    · rw [hσ_5, si2, hσ_4, ri2, hσ_2, si2]
    · rw [e5, lei, t0i, ad]; omega
    · rw [e5, lei, l200, ad]; omega
    · rw [hσ_5, si2, hσ_4, ri_row, e2, hσ_2, si2]
  · unfold w_tell_16
    intro σ_2 hσ_2
    refine ⟨fun c3 => absurd (show σ_2.1 0 ≤ 0 from c3) (by rw [hσ_2, si1, if_pos rfl]; decide), fun c3 => ?_⟩
    have e2 : σ_2.1 104 = σ.1 104 := by rw [hσ_2, si1, if_neg (by decide)]
    refine h _ _ ⟨⟨fun k k0 k1 => ?_, fun k k5 => ?_, fun j => ?_, ?_⟩, ⟨?_, ?_⟩, fun _ => ⟨by rw [e2]; exact c1, by rw [hσ_2, si2]⟩, fun z => absurd c1 z, fun _ => by rw [hσ_2, si1, if_pos rfl], fun z => absurd c1 z⟩
    · rw [hσ_2, si1, if_neg k0]
    · rw [hσ_2, si2]
    · rw [hσ_2, si2]
    · rw [hσ_2, si2]
    · rw [e2, lei, t0i]; exact p0
    · rw [e2, lei, l200]; exact p1
theorem tell_w {C : rCx} {σ : rS} {a1 : Int32} (hC : cOK C) (J : rJ σ) {Q : Int32 → rS → Prop} (h : ∀ v σ', rJ σ' → (pL21 a1 σ σ' ∧ kP23 σ σ' ∧ kN16 σ σ') → ((σ.1 104 = 200 → σ'.1 0 = 1) ∧ (σ.1 104 ≠ 200 → v = σ.1 104 + 1 ∧ σ'.1 0 = 0)) → Q v σ') : cI C 0 m_tell [.ref (co C), .int a1] σ Q := tell_g21w hC J.2.2.2.2.2.2.2 (fun v σ' q => h v σ' (rJ_c J (by rw [q.1.1 2 (by decide) (by decide)]; exact J.1) q.2.1 (fun k hk => q.1.1 k ((by decide : ∀ k, k ∈ rjF → k ≠ 0) k hk) ((by decide : ∀ k, k ∈ rjF → k ≠ 104) k hk)) (fun k hk => q.1.2.1 k ((by decide : ∀ k, k ∈ rjR → k ≠ 105) k hk)) (rjN_r (q.1.2.1 90 (by decide)) (q.1.2.1 91 (by decide)))) ⟨⟨⟨oR_k9 (q.1.1 2 (by decide) (by decide)) (q.1.1 53 (by decide) (by decide)) (q.1.2.1 1 (by decide)), kR_f7 (fun k hk => q.1.1 k ((by decide : ∀ k, k ∈ kf7 → k ≠ 0) k hk) ((by decide : ∀ k, k ∈ kf7 → k ≠ 104) k hk)) (fun k hk => q.1.2.1 k ((by decide : ∀ k, k ∈ kz7 → k ≠ 105) k hk)) (fun j => q.1.2.2.1 j)⟩, ⟨fun k hk => q.1.1 k ((by decide : ∀ k, k ∈ kd7 → k ≠ 0) k hk) ((by decide : ∀ k, k ∈ kd7 → k ≠ 104) k hk), fun k hk => q.1.2.1 k ((by decide : ∀ k, k ∈ kx7 → k ≠ 105) k hk)⟩, q.2.2.1, q.2.2.2.1⟩, ⟨fun k hk => q.1.1 k ((by decide : ∀ k, k ∈ kp23 → k ≠ 0) k hk) ((by decide : ∀ k, k ∈ kp23 → k ≠ 104) k hk), q.1.2.2.2, q.1.2.1 111 (by decide)⟩, kN_f16 (fun k hk => q.1.1 k ((by decide : ∀ k, k ∈ kf16 → k ≠ 0) k hk) ((by decide : ∀ k, k ∈ kf16 → k ≠ 104) k hk)) (fun k hk => q.1.2.1 k ((by decide : ∀ k, k ∈ kh16 → k ≠ 105) k hk)) (nM_r16 (q.1.2.1 90 (by decide)) (q.1.2.1 91 (by decide)))⟩ q.2.2.2.2)

end
section
set_option maxHeartbeats 1600000
/-! the class: ChanceWorks' perform -/
theorem ch_a9 {C : zC} {n0 b : Nat} {F : Nat → Nat → Prop} {κ τ : zS} (W : zW C n0 κ) (T : zT κ b = 3) (Z : zF F κ τ) (hF : ∀ f x, F f x → zT κ x ≠ 3 ∧ zT κ x ≠ 6) (H : atH κ b) : atH τ b ∧ (atM κ b → atM τ b) ∧ zI τ atExplored b = zI κ atExplored b := by
  have no : ∀ f, ¬ F f b := fun f z => (hF f b z).1 T
  refine ⟨⟨?_, ?_⟩, fun M => ?_, Z.i (no _)⟩
  · rw [Z.r (no atStates)]
    exact hoI_zF Z W (ty_atStates W T) (fun f z => (hF f _ z).2 (ty_atStates W T)) H.1
  · rw [Z.r (no atEndings)]
    exact hoI_zF Z W (ty_atEndings W T) (fun f z => (hF f _ z).2 (ty_atEndings W T)) H.2
  · obtain ⟨m1, m2, m3, m4, m5, m6⟩ := M
    exact ⟨by rw [Z.r (no _), Z.l (ty_atFirsts W T)]; exact m1, by rw [Z.r (no _), Z.l (ty_atTotals W T)]; exact m2, by rw [Z.r (no _), Z.l (ty_atGains W T)]; exact m3, by rw [Z.r (no _), Z.l (ty_atPlan W T)]; exact m4, by rw [Z.r (no _), Z.l (ty_atChooses W T)]; exact m5, by rw [Z.r (no _), Z.l (ty_atHopeless W T)]; exact m6⟩
/-- on the way of a play -/
def pfJ9 (κ τ : zS) (a : Nat) : Prop := zF (dwF9 (zR κ chMachine a) a) κ τ ∧ (∀ f, f ≠ chDrawnWeights → f ≠ chDrawnTotals → zR τ f a = zR κ f a) ∧ mkI τ (zR κ chMachine a) ∧ dwI9 τ a
def pfF9 (m a : Nat) : Nat → Nat → Prop := fun f b => b = m ∨ (b = a ∧ (f = chDrawnWeights ∨ f = chDrawnTotals ∨ f = chRecord ∨ f = chLastShared ∨ f = chPlayMade))
theorem pf_m9 {C : zC} {n0 a : Nat} {κ τ σ : zS} (W : zW C n0 τ) (T : zT τ (zR κ chMachine a) = 7) (J : pfJ9 κ τ a) (q : mF τ σ (zR κ chMachine a)) : pfJ9 κ σ a := by
  refine ⟨J.1.tr (q.1.mono (fun f b z => Or.inl z)), fun f h1 h2 => ?_, (mkI_f q W T J.2.2.1).1, ?_⟩
  · rw [q.2.1]
    exact J.2.1 f h1 h2
  · unfold dwI9
    rw [q.2.1, q.2.2.1]
    exact J.2.2.2
theorem Ch_perform_c {C : zC} {n0 : Nat} {a0 : Nat} {a1 : Int32} {a2 : Int64} {a4 : Int32} {κ : zS} {Q : Int32 → zS → Prop} (W : zW C n0 κ) (Ta0 : zT κ a0 = 15)  (hp : maL κ (zR κ chMachine a0) ∧ coI κ (zR κ chCode a0) ∧ dwI9 κ a0 ∧ ((zN κ (zR κ chRecord a0)) = 5 ∧ (zN κ (zR κ chLastShared a0)) = 34 ∧ (zN κ (zR κ chTold a0)) = 200 ∧ (zI κ chTolds a0).toInt ≤ 200) ∧ atH κ (zR κ chAtlas a0) ∧ (zI κ atExplored (zR κ chAtlas a0) ≠ 0 → atM κ (zR κ chAtlas a0)) ∧ a4.toInt ≤ 2000) (h : ∀ (v : Int32) (κ' : zS), (zF (pfF9 (zR κ chMachine a0) a0) κ κ' ∧ (∀ f, f ≠ chDrawnWeights → f ≠ chDrawnTotals → zR κ' f a0 = zR κ f a0) ∧ mkI κ' (zR κ chMachine a0) ∧ dwI9 κ' a0) → Q v κ') : zRun C 5 mCh_perform [.ref a0, .int a1, .long a2, .int a4] κ (oI Q noX) := by
  refine Ch_perform_run W Ta0 ?_
  replace W := W.lo (Nat.le_trans W.1.2.1 W.1.2.2) (Nat.le_refl (zn κ))
  unfold w_Ch_perform_0
  have am := ch_m9 W Ta0
  have tm := ty_chMachine W Ta0
  obtain ⟨L0, C0, D0, ⟨n5, n34, n200, t20⟩, H0, M0, l4⟩ := hp
  have F7 : ∀ f x, dwF9 (zR κ chMachine a0) a0 f x → zT κ x = 7 ∨ zT κ x = 15 := by
    rintro f x (z | z)
    · left; rw [z]; exact tm
    · right; rw [z.1]; exact Ta0
  have e1 : (1 : Int32).toInt = 1 := rfl
  have hj180 : ∀ (l0 : Nat) (l7 : Int32) (l8 : Int32) (l9 : Int64) (τ : zS), zW C (zn κ) τ → zT τ l0 = 15 → (a0 = l0 ∧ pfJ9 κ τ a0) → w_Ch_perform_180 C (zn κ) Q  l0 l7 l8 l9 τ := by
    rintro _ y180_7 y180_8 y180_9 τ180 W180 T180_0 ⟨rfl, j180⟩
    unfold w_Ch_perform_180
    intro T1
    refine Ch_note_c W180 T1  ?_ (fun κ_2 q3 => ?_)
    · obtain ⟨Z1, R1, K1, D1⟩ := j180
      rw [R1 chMachine (by decide) (by decide), R1 chCode (by decide) (by decide), R1 chRecord (by decide) (by decide), R1 chLastShared (by decide) (by decide)]
      refine ⟨K1, coI_zF Z1 W (ty_chCode W Ta0) (fun f z => ?_) C0, (Z1.l (ty_chRecord W Ta0)).trans n5, (Z1.l (ty_chLastShared W Ta0)).trans n34⟩
      have t5 := ty_chCode W Ta0
      rcases F7 _ _ z with y | y <;> rw [y] at t5 <;> exact absurd t5 (by decide)
    intro W4
    intro M5
    refine h _ _ ?_
    · obtain ⟨Z1, R1, K1, D1⟩ := j180
      have am1 := ch_m9 W180 T180_0
      rw [R1 chMachine (by decide) (by decide)] at am1
      refine ⟨(Z1.mono (fun f b z => ?_)).tr (q3.1.mono (fun f b z => ?_)), fun f h1 h2 => ?_, mkI_zF q3.1 W180 (Z1.t tm (by decide)) (fun f z => am1.1 z.1.symm) (fun f z => am1.2.1 z.1.symm) K1, ?_⟩
      · rcases z with z | ⟨z, y | y⟩
        · exact Or.inl z
        · exact Or.inr ⟨z, Or.inl y⟩
        · exact Or.inr ⟨z, Or.inr (Or.inl y)⟩
      · exact Or.inr ⟨z.1, Or.inr (Or.inr z.2)⟩
      · rw [q3.2]; exact R1 f h1 h2
      · unfold dwI9
        rw [q3.2, q3.1.l (ty_chDrawnWeights W180 T180_0), q3.1.l (ty_chDrawnTotals W180 T180_0)]
        exact D1
  intro T6
  intro T7
  refine Ma_begin_c W T6 T7  ?_ (fun κ_8 q9 => ?_)
  · exact ⟨L0, C0⟩  -- p3
  intro W10
  intro M11
  unfold w_Ch_perform_26
  refine ⟨fun n l0 l1 l4 l5 l7 l8 l9 l11 τ => n = (a4.toInt - l11.toInt).toNat ∧ (a0 = l0 ∧ a1 = l1 ∧ a4 = l4 ∧ pfJ9 κ τ a0 ∧ (zI τ maOutcome (zR κ chMachine a0) = 0 → mO τ (zR κ chMachine a0)) ∧ (0 ≤ l8.toInt ∧ l8.toInt ≤ l11.toInt)), ⟨_, rfl, ?_⟩, ?_⟩
  · refine ⟨rfl, rfl, rfl, ⟨q9.1.mono (fun f b z => Or.inl z), fun f _ _ => q9.1.r (fun z => am.1 z), q9.2.2.1, ?_⟩, fun z => ?_, by decide, by decide⟩
    · unfold dwI9
      rw [q9.1.r (fun z => am.1 z), q9.1.r (fun z => am.1 z), q9.1.l (ty_chDrawnWeights W Ta0), q9.1.l (ty_chDrawnTotals W Ta0)]
      exact D0
    · rcases q9.2.2.2.2.1 with y | y
      · exact y
      · rw [y] at z
        exact absurd z (by decide)
  rintro n26 _ _ _ x26_5 x26_7 x26_8 x26_9 x26_11 κ26 W26 T26_0 ⟨hn26, rfl, rfl, rfl, i26⟩
  have hj158 : ∀ (l0 : Nat) (l1 : Int32) (l4 : Int32) (l5 : Int64) (l7 : Int32) (l8 : Int32) (l9 : Int64) (l11 : Int32) (τ : zS), zW C (zn κ) τ → zT τ l0 = 15 → (a0 = l0 ∧ a1 = l1 ∧ a4 = l4 ∧ pfJ9 κ τ a0 ∧ (zI τ maOutcome (zR κ chMachine a0) = 0 → mO τ (zR κ chMachine a0)) ∧ (0 ≤ l8.toInt ∧ l8.toInt ≤ l11.toInt + 1) ∧ l11 = x26_11 ∧ (0 ≤ l11.toInt ∧ l11.toInt < a4.toInt)) → w_Ch_perform_158 C (zn κ) Q (fun (l0' : Nat) (l1' : Int32) (l4' : Int32) (l5' : Int64) (l7' : Int32) (l8' : Int32) (l9' : Int64) (l11' : Int32) (τ : zS) => ∃ k < n26, (fun (n : Nat) (l0 : Nat) (l1 : Int32) (l4 : Int32) (l5 : Int64) (l7 : Int32) (l8 : Int32) (l9 : Int64) (l11 : Int32) (τ : zS) => n = (a4.toInt - l11.toInt).toNat ∧ (a0 = l0 ∧ a1 = l1 ∧ a4 = l4 ∧ pfJ9 κ τ a0 ∧ (zI τ maOutcome (zR κ chMachine a0) = 0 → mO τ (zR κ chMachine a0)) ∧ (0 ≤ l8.toInt ∧ l8.toInt ≤ l11.toInt))) k l0' l1' l4' l5' l7' l8' l9' l11' τ) l0 l1 l4 l5 l7 l8 l9 l11 τ := by
    rintro _ _ _ y158_5 y158_7 y158_8 y158_9 y158_11 τ158 W158 T158_0 ⟨rfl, rfl, rfl, j158⟩
    unfold w_Ch_perform_158
    intro x12 hx12
    intro x13 hx13
    intro x14 hx14
    obtain ⟨J6, O6, ⟨b0, b1⟩, ex, x0, x1⟩ := j158
    have ix := cn1 (x := y158_11) x0 (by omega)
    refine ⟨_, ?_, rfl, ?_⟩
    · rw [hn26, hx14, ix.2, ← ex]; omega  -- d5
    · exact ⟨rfl, rfl, rfl, J6, O6, b0, by rw [hx14, ix.2]; omega⟩  -- i6
  have hj150 : ∀ (l0 : Nat) (l1 : Int32) (l4 : Int32) (l5 : Int64) (l7 : Int32) (l8 : Int32) (l9 : Int64) (l11 : Int32) (s0 : Int32) (s1 : Nat) (s2 : Int32) (τ : zS), zW C (zn κ) τ → zT τ l0 = 15 → zT τ s1 = 15 → (a0 = l0 ∧ a1 = l1 ∧ a4 = l4 ∧ pfJ9 κ τ a0 ∧ (mO τ (zR κ chMachine a0) ∧ (zI τ maWays (zR κ chMachine a0)).toInt ≤ 64) ∧ (0 ≤ l8.toInt ∧ l8.toInt ≤ l11.toInt) ∧ (l11 = x26_11 ∧ l11.toInt < a4.toInt) ∧ s0 = l8 ∧ s1 = a0) → w_Ch_perform_150 C (zn κ) Q (fun (l0' : Nat) (l1' : Int32) (l4' : Int32) (l5' : Int64) (l7' : Int32) (l8' : Int32) (l9' : Int64) (l11' : Int32) (τ : zS) => ∃ k < n26, (fun (n : Nat) (l0 : Nat) (l1 : Int32) (l4 : Int32) (l5 : Int64) (l7 : Int32) (l8 : Int32) (l9 : Int64) (l11 : Int32) (τ : zS) => n = (a4.toInt - l11.toInt).toNat ∧ (a0 = l0 ∧ a1 = l1 ∧ a4 = l4 ∧ pfJ9 κ τ a0 ∧ (zI τ maOutcome (zR κ chMachine a0) = 0 → mO τ (zR κ chMachine a0)) ∧ (0 ≤ l8.toInt ∧ l8.toInt ≤ l11.toInt))) k l0' l1' l4' l5' l7' l8' l9' l11' τ) l0 l1 l4 l5 l7 l8 l9 l11 s0 s1 s2 τ := by
    rintro _ _ _ y150_5 y150_7 y150_8 y150_9 y150_11 y150_s0 y150_s1 y150_s2 τ150 W150 T150_0 T150_1 ⟨rfl, rfl, rfl, j150⟩
    unfold w_Ch_perform_150
    intro T15
    obtain ⟨J5, ⟨O5, w5⟩, ⟨b0, b1⟩, ⟨ex, x1⟩, es0, es1⟩ := j150
    have rm := J5.2.1 chMachine (by decide) (by decide)
    rw [es1]
    rw [es1] at T15
    refine Ch_drawn_c W150 T15  ?_ (fun r16 κ_17 q18 => ?_)
    · rw [rm]
      exact ⟨J5.2.2.1, ⟨O5, w5⟩, J5.2.2.2, b0, by omega⟩
    intro W19
    intro M20
    intro x21 hx21
    refine hj158 _ _ _ _ _ _ _ _ _ W19 ?_ ?_
    · exact q18.1.t T15 (by decide)  -- t8
    · rw [rm] at q18
      have xb : x21.toInt = y150_8.toInt + r16.toInt ∧ 0 ≤ r16.toInt ∧ r16.toInt ≤ 1 := by
        have t0 : (0 : Int32).toInt = 0 := rfl
        rw [hx21, es0]
        rcases q18.2.2.2.2.2 with y | y <;> rw [y]
        · rw [add_i (by rw [t0]; omega) (by rw [t0]; omega), t0]
          omega
        · rw [add_i (by rw [e1]; omega) (by rw [e1]; omega), e1]
          omega
      refine ⟨rfl, rfl, rfl, ⟨J5.1.tr q18.1, fun f h1 h2 => (q18.2.1 f h1 h2).trans (J5.2.1 f h1 h2), q18.2.2.1, q18.2.2.2.2.1⟩, q18.2.2.2.1, ⟨by omega, by omega⟩, ex, by omega, x1⟩
  have hj109 : ∀ (l0 : Nat) (l1 : Int32) (l4 : Int32) (l5 : Int64) (l7 : Int32) (l8 : Int32) (l9 : Int64) (l11 : Int32) (τ : zS), zW C (zn κ) τ → zT τ l0 = 15 → (a0 = l0 ∧ a1 = l1 ∧ a4 = l4 ∧ pfJ9 κ τ a0 ∧ (mO τ (zR κ chMachine a0) ∧ (zI τ maWays (zR κ chMachine a0)).toInt ≤ 64) ∧ (0 ≤ l8.toInt ∧ l8.toInt ≤ l11.toInt) ∧ (l11 = x26_11 ∧ l11.toInt < a4.toInt) ∧ (¬ a1 = 0 → l8.toInt < 200)) → w_Ch_perform_109 C (zn κ) Q (fun (l0' : Nat) (l1' : Int32) (l4' : Int32) (l5' : Int64) (l7' : Int32) (l8' : Int32) (l9' : Int64) (l11' : Int32) (τ : zS) => ∃ k < n26, (fun (n : Nat) (l0 : Nat) (l1 : Int32) (l4 : Int32) (l5 : Int64) (l7 : Int32) (l8 : Int32) (l9 : Int64) (l11 : Int32) (τ : zS) => n = (a4.toInt - l11.toInt).toNat ∧ (a0 = l0 ∧ a1 = l1 ∧ a4 = l4 ∧ pfJ9 κ τ a0 ∧ (zI τ maOutcome (zR κ chMachine a0) = 0 → mO τ (zR κ chMachine a0)) ∧ (0 ≤ l8.toInt ∧ l8.toInt ≤ l11.toInt))) k l0' l1' l4' l5' l7' l8' l9' l11' τ) l0 l1 l4 l5 l7 l8 l9 l11 τ := by
    rintro _ _ _ y109_5 y109_7 y109_8 y109_9 y109_11 τ109 W109 T109_0 ⟨rfl, rfl, rfl, j109⟩
    unfold w_Ch_perform_109
    intro x22 hx22
    obtain ⟨J9, ⟨O9, w9⟩, b9, ex, h20⟩ := j109
    have rm := J9.2.1 chMachine (by decide) (by decide)
    refine ⟨fun c23 => ?_, fun c23 => ?_⟩
    · skip
      intro T24
      refine Ma_wayAt_c W109 T24  ?_ (fun r25 q27 => ?_)
      · rw [rm]
        exact ⟨J9.2.2.1.1, w9⟩
      intro W28
      intro M29
      refine hj150 _ _ _ _ _ _ _ _ _ _ _ _ W28 ?_ ?_ ?_
      · exact T109_0  -- t11
      · exact T109_0  -- t12
      · exact ⟨rfl, rfl, rfl, J9, ⟨O9, w9⟩, b9, ex, rfl, rfl⟩  -- k13
    · skip
      refine ⟨?_, ?_⟩
      · rw [inb_iff, J9.2.1 chTold (by decide) (by decide), J9.1.l (ty_chTold W Ta0), n200]
        have := h20 c23
        omega
      refine hj150 _ _ _ _ _ _ _ _ _ _ _ _ W109 ?_ ?_ ?_
      · exact T109_0  -- t15
      · exact T109_0  -- t16
      · exact ⟨rfl, rfl, rfl, J9, ⟨O9, w9⟩, b9, ex, rfl, rfl⟩  -- k17
  obtain ⟨J2, O2, b20, b21⟩ := i26
  have rm := J2.2.1 chMachine (by decide) (by decide)
  have tm2 : zT κ26 (zR κ chMachine a0) = 7 := J2.1.t tm (by decide)
  refine ⟨fun c30 => ?_, fun c30 => ?_⟩
  · skip
    refine hj180 _ _ _ _ _ W26 ?_ ?_
    · exact T26_0  -- t18
    · exact ⟨rfl, J2⟩  -- k19
  · skip
    refine ⟨fun c31 => ?_, fun c31 => ?_⟩
    · skip
      refine hj180 _ _ _ _ _ W26 ?_ ?_
      · exact T26_0  -- t20
      · exact ⟨rfl, J2⟩  -- k21
    · skip
      intro T32
      refine Ma_act_c2 W26 T32  ?_ (fun κ_33 q34 => ?_)
      · rw [rm] at c31 ⊢
        exact ⟨J2.2.2.1, O2 c31⟩
      intro W35
      intro M36
      rw [rm] at q34
      rw [lei] at c30
      have J3 := pf_m9 W26 tm2 J2 q34.1
      have T33 : zT κ_33 a0 = 15 := J3.1.t Ta0 (by decide)
      have rm3 := J3.2.1 chMachine (by decide) (by decide)
      rw [rm3]
      have O3 : zI κ_33 maOutcome (zR κ chMachine a0) = 0 → mO κ_33 (zR κ chMachine a0) := fun z => by
        rcases q34.2.2.1 with y | y
        · exact y
        · rw [y] at z
          exact absurd z (by decide)
      have D3 : zI κ_33 maWants (zR κ chMachine a0) = 3 ∨ zI κ_33 maWants (zR κ chMachine a0) = 4 → mO κ_33 (zR κ chMachine a0) ∧ (zI κ_33 maWays (zR κ chMachine a0)).toInt ≤ 64 := fun z => by
        have ne : zI κ_33 maWants (zR κ chMachine a0) ≠ -1 := fun y => by
          rw [y] at z
          rcases z with z | z <;> exact absurd z (by decide)
        refine ⟨q34.2.2.2.2 ne, ?_⟩
        rcases q34.2.2.2.1 with y | y | y
        · exact absurd y ne
        · exact y.2.1.2
        · have := y.2.1.2
          omega
      refine ⟨fun c37 => ?_, fun c37 => ?_⟩
      · skip
        refine ⟨fun c38 => ?_, fun c38 => ?_⟩
        · skip
          refine hj158 _ _ _ _ _ _ _ _ _ W35 ?_ ?_
          · exact T33  -- t23
          · exact ⟨rfl, rfl, rfl, J3, O3, ⟨b20, by omega⟩, rfl, by omega, by omega⟩  -- k24
        · skip
          refine ⟨fun c39 => ?_, fun c39 => ?_⟩
          · skip
            refine hj109 _ _ _ _ _ _ _ _ _ W35 ?_ ?_
            · exact T33  -- t25
            · exact ⟨rfl, rfl, rfl, J3, D3 (Or.inl c38), ⟨b20, b21⟩, ⟨rfl, by omega⟩, fun z => absurd c39 z⟩  -- k26
          · skip
            refine ⟨fun c40 => ?_, fun c40 => ?_⟩
            · skip
              refine hj109 _ _ _ _ _ _ _ _ _ W35 ?_ ?_
              · exact T33  -- t27
              · refine ⟨rfl, rfl, rfl, J3, D3 (Or.inl c38), ⟨b20, b21⟩, ⟨rfl, by omega⟩, fun z => ?_⟩
                have it : zI κ_33 chTolds a0 = zI κ chTolds a0 := J3.1.i (fun y => by
                  rcases y with y | ⟨_, y | y⟩
                  · exact am.1 y
                  · exact absurd y (by decide)
                  · exact absurd y (by decide))
                rw [lti, it] at c40
                omega
            · skip
              refine hj180 _ _ _ _ _ W35 ?_ ?_
              · exact T33  -- t29
              · exact ⟨rfl, J3⟩  -- k30
      · skip
        intro T41
        intro T42
        have A3 := ch_a9 W (ty_chAtlas W Ta0) J3.1 (fun f x z => by rcases F7 f x z with y | y <;> rw [y] <;> decide) H0
        refine At_chosen_c W35 T41 T42  ?_ (fun r43 q45 => ?_)
        · rw [J3.2.1 chAtlas (by decide) (by decide)]
          exact ⟨A3.1, fun z => A3.2.1 (M0 (by rw [← A3.2.2]; exact z))⟩
        intro W46
        intro M47
        intro T48
        refine Ma_settle_c W46 T48  ?_ (fun κ_49 q50 => ?_)
        · exact ⟨J3.2.2.1, D3 (Or.inr c37)⟩  -- p32
        intro W51
        intro M52
        refine hj158 _ _ _ _ _ _ _ _ _ W51 ?_ ?_
        · exact q50.1.1.t T33 (by decide)  -- t33
        · refine ⟨rfl, rfl, rfl, pf_m9 W46 (J3.1.t tm (by decide)) J3 q50.1, fun z => ?_, ⟨b20, by omega⟩, rfl, by omega, by omega⟩
          rcases q50.2.2.1 with y | y
          · exact y
          · rw [y] at z
            exact absurd z (by decide)

end
section
set_option maxHeartbeats 1600000
/-! the class: plays -/
theorem Ma_act_q21 {C : zC} {n0 : Nat} {a0 : Nat} {κ : zS} {Q : zS → Prop} (W : zW C n0 κ) (Ta0 : zT κ a0 = 7)  (hp : mkI κ a0 ∧ mO κ a0) (h : ∀ (κ' : zS), ((mF κ κ' a0 ∧ zI κ' maShared a0 = zI κ maShared a0 ∧ (mO κ' a0 ∨ zI κ' maOutcome a0 = 1) ∧ mDw κ' a0 ∧ (zI κ' maWants a0 ≠ -1 → mO κ' a0)) ∧ f5_Ma_act (am6 κ a0) = .inl (am6 κ' a0, ())) → Q κ') : zRun C 4 mMa_act [.ref a0] κ (oV Q noX) := by
  refine Ma_act_run W Ta0 ?_
  replace W := W.lo (Nat.le_trans W.1.2.1 W.1.2.2) (Nat.le_refl (zn κ))
  unfold w_Ma_act_0
  have hj92 : ∀ (l0 : Nat) (l1 : Int32) (τ : zS), zW C (zn κ) τ → zT τ l0 = 7 → ((a0 = l0 ∧ mF κ τ a0 ∧ mS0 κ τ a0 ∧ zI τ maWants a0 = -1) ∧ f5_Ma_act (am6 κ a0) = f5_Ma_act_92 l1 (am6 τ a0)) → w_Ma_act_92 C (zn κ) Q  l0 l1 τ := by
    rintro _ y92_1 τ92 W92 T92_0 ⟨⟨rfl, j92⟩, hE⟩
    unfold w_Ma_act_92
    refine ⟨fun c1 => ?_, fun c1 => ?_⟩
    · skip
      replace hE := rb_t5 hE c1
      intro T2
      refine Co_column_q6 W92 T2  ?_ (fun r3 q5 => ?_)
      · exact ⟨(mkI_f j92.1 W Ta0 hp.1).1.2, by decide, by decide⟩  -- p1
      obtain ⟨q5, z9⟩ := q5
      replace hE := rb_p5 hE (z9 a0 T92_0 (by first | rfl | assumption))
      intro W6
      intro M7
      intro κ_8 hκ_8
      replace hE := rb_i5 hE (am_ui6 (m := a0) (f := maGoing) (by first | exact hκ_8 | (rw [hκ_8]; congr 1; assumption)) (by decide))
      have tκ_8 : zT κ_8 a0 = 7 := by rw [hκ_8]; exact T92_0
      intro W9
      intro κ_10 hκ_10
      replace hE := rb_i5 hE (am_ui6 (m := a0) (f := maAnswer) (by first | exact hκ_10 | (rw [hκ_10]; congr 1; assumption)) (by decide))
      have tκ_10 : zT κ_10 a0 = 7 := by rw [hκ_10]; exact tκ_8
      intro W11
      intro T12
      refine Co_column_q6 W11 T12  ?_ (fun r13 q15 => ?_)
      · have F := (j92.1.tr (mF_ui hκ_8 (by decide))).tr (mF_ui hκ_10 (by decide))
        exact ⟨(mkI_f F W Ta0 hp.1).1.2, by decide, by decide⟩
      obtain ⟨q15, z9⟩ := q15
      replace hE := rb_p5 hE (z9 a0 tκ_10 (by first | rfl | assumption))
      intro W16
      intro M17
      intro T18
      refine Ma_obey_q6 W16 T18  ?_ (fun κ_19 q20 => ?_)
      · have F := (j92.1.tr (mF_ui hκ_8 (by decide))).tr (mF_ui hκ_10 (by decide))
        have S := (j92.2.1.tr (mS_ui hκ_8 (by decide)).1).tr (mS_ui hκ_10 (by decide)).1
        have w1 : zI κ_10 maWants a0 = zI τ92 maWants a0 := by rw [hκ_10, hκ_8]; rfl
        exact ⟨⟨(mkI_f F W Ta0 hp.1).1, mO_0 S hp.2⟩, w1.trans j92.2.2⟩
      obtain ⟨q20, z9⟩ := q20
      replace hE := rb_i5 hE z9
      have tκ_19 : zT κ_19 a0 = 7 := by first | exact q20.1.t tκ_10 (by decide) | exact q20.1.1.t tκ_10 (by decide) | (rw [q20]; exact tκ_10)
      intro W21
      intro M22
      refine ⟨fun c23 => ?_, fun c23 => ?_⟩
      · skip
        replace hE := rb_f5 hE c23
        refine h _ ?_
        · refine and_5 ?_ (fun o9 => hE)  -- q4
          have F := (j92.1.tr (mF_ui hκ_8 (by decide))).tr (mF_ui hκ_10 (by decide))
          have S := (j92.2.1.tr (mS_ui hκ_8 (by decide)).1).tr (mS_ui hκ_10 (by decide)).1
          exact ⟨F.tr q20.1, q20.2.1.trans (S maShared (by decide)), Or.inl q20.2.2.1, q20.2.2.2, fun _ => q20.2.2.1⟩
      · skip
        replace hE := rb_t5 hE c23
        refine ⟨fun c24 => ?_, fun c24 => ?_⟩
        · skip
          replace hE := rb_f5 hE c24
          refine h _ ?_
          · refine and_5 ?_ (fun o9 => hE)  -- q5
            have F := (j92.1.tr (mF_ui hκ_8 (by decide))).tr (mF_ui hκ_10 (by decide))
            have S := (j92.2.1.tr (mS_ui hκ_8 (by decide)).1).tr (mS_ui hκ_10 (by decide)).1
            exact ⟨F.tr q20.1, q20.2.1.trans (S maShared (by decide)), Or.inl q20.2.2.1, q20.2.2.2, fun _ => q20.2.2.1⟩
        · skip
          replace hE := rb_t5 hE c24
          intro T25
          refine Ma_proceed_q6 W21 T25  ?_ (fun κ_26 q27 => ?_)
          · have F := (j92.1.tr (mF_ui hκ_8 (by decide))).tr (mF_ui hκ_10 (by decide))
            exact ⟨(mkI_f (F.tr q20.1) W Ta0 hp.1).1, q20.2.2.1⟩
          obtain ⟨q27, z9⟩ := q27
          replace hE := rb_i5 hE z9
          have tκ_26 : zT κ_26 a0 = 7 := by first | exact q27.1.t tκ_19 (by decide) | exact q27.1.1.t tκ_19 (by decide) | (rw [q27]; exact tκ_19)
          intro W28
          intro M29
          refine h _ ?_
          · refine and_5 ?_ (fun o9 => hE)  -- q7
            have F := (j92.1.tr (mF_ui hκ_8 (by decide))).tr (mF_ui hκ_10 (by decide))
            have S := (j92.2.1.tr (mS_ui hκ_8 (by decide)).1).tr (mS_ui hκ_10 (by decide)).1
            exact ⟨(F.tr q20.1).tr q27.1, q27.2.1.trans (q20.2.1.trans (S maShared (by decide))), q27.2.2.1, mDw_g q27.2.2.2 q20.2.2.2, fun z => absurd ((q27.2.2.2 maWants (by decide)).1.trans c23) z⟩
    · skip
      replace hE := rb_f5 hE c1
      intro κ_30 hκ_30
      replace hE := rb_i5 hE (am_ui6 (m := a0) (f := maOutcome) (by first | exact hκ_30 | (rw [hκ_30]; congr 1; assumption)) (by decide))
      have tκ_30 : zT κ_30 a0 = 7 := by rw [hκ_30]; exact T92_0
      intro W31
      refine h _ ?_
      · refine and_5 ?_ (fun o9 => hE)  -- q8
        have S := j92.2.1.tr (mS_ui hκ_30 (by decide)).1
        exact ⟨j92.1.tr (mF_ui hκ_30 (by decide)), S maShared (by decide), Or.inl (mO_0 S hp.2), mDw_g (mS_ui hκ_30 (by decide)).2 (Or.inl j92.2.2), fun _ => mO_0 S hp.2⟩
  have hE : f5_Ma_act (am6 κ a0) = f5_Ma_act (am6 κ a0) := rfl
  refine ⟨?_, ?_⟩
  · have L := hp.1.1.1
    obtain ⟨s, o, f⟩ := hp.2
    rw [inb_iff]; omega
  intro x32 hx32
  replace hE := rb_p5 hE hx32
  intro κ_33 hκ_33
  replace hE := rb_i5 hE (am_ui6 (m := a0) (f := maWants) (by first | exact hκ_33 | (rw [hκ_33]; congr 1; assumption)) (by decide))
  have tκ_33 : zT κ_33 a0 = 7 := by rw [hκ_33]; exact Ta0
  intro W34
  intro κ_35 hκ_35
  replace hE := rb_i5 hE (am_ui6 (m := a0) (f := maGained) (by first | exact hκ_35 | (rw [hκ_35]; congr 1; assumption)) (by decide))
  have tκ_35 : zT κ_35 a0 = 7 := by rw [hκ_35]; exact tκ_33
  intro W36
  intro κ_37 hκ_37
  replace hE := rb_i5 hE (am_ui6 (m := a0) (f := maFailure) (by first | exact hκ_37 | (rw [hκ_37]; congr 1; assumption)) (by decide))
  have tκ_37 : zT κ_37 a0 = 7 := by rw [hκ_37]; exact tκ_35
  intro W38
  intro T39
  refine Co_column_q6 W38 T39  ?_ (fun r40 q42 => ?_)
  · have F := ((mF_ui hκ_33 (by decide)).tr (mF_ui hκ_35 (by decide))).tr (mF_ui hκ_37 (by decide))
    exact ⟨(mkI_f F W Ta0 hp.1).1.2, by decide, by decide⟩
  obtain ⟨q42, z9⟩ := q42
  replace hE := rb_p5 hE (z9 a0 tκ_37 (by first | rfl | assumption))
  intro W43
  intro M44
  intro κ_45 hκ_45
  replace hE := rb_i5 hE (am_ui6 (m := a0) (f := maPc) (by first | exact hκ_45 | (rw [hκ_45]; congr 1; assumption)) (by decide))
  have tκ_45 : zT κ_45 a0 = 7 := by rw [hκ_45]; exact tκ_37
  intro W46
  intro T47
  refine Ma_aim_q6 W46 T47  ?_ (fun κ_48 q49 => ?_)
  · have F := ((mF_ui hκ_33 (by decide)).tr (mF_ui hκ_35 (by decide))).tr (mF_ui hκ_37 (by decide))
    exact (mkI_f (F.tr (mF_ui hκ_45 (by decide))) W Ta0 hp.1).1
  obtain ⟨q49, z9⟩ := q49
  replace hE := rb_i5 hE z9
  have tκ_48 : zT κ_48 a0 = 7 := by first | exact q49.1.t tκ_45 (by decide) | exact q49.1.1.t tκ_45 (by decide) | (rw [q49]; exact tκ_45)
  intro W50
  intro M51
  intro T52
  refine Co_column_q6 W50 T52  ?_ (fun r53 q55 => ?_)
  · have F := ((mF_ui hκ_33 (by decide)).tr (mF_ui hκ_35 (by decide))).tr (mF_ui hκ_37 (by decide))
    exact ⟨(mkI_f ((F.tr (mF_ui hκ_45 (by decide))).tr q49.1) W Ta0 hp.1).1.2, by decide, by decide⟩
  obtain ⟨q55, z9⟩ := q55
  replace hE := rb_p5 hE (z9 a0 tκ_48 (by first | rfl | assumption))
  intro W56
  intro M57
  unfold w_Ma_act_55
  refine ⟨fun n l0 l1 l2 l3 τ => n = (16 - l3.toInt).toNat ∧ ((a0 = l0 ∧ mF κ τ a0 ∧ mS0 κ τ a0 ∧ 0 ≤ l3.toInt ∧ zI τ maWants a0 = -1) ∧ ∃ m5, n < m5 ∧ f5_Ma_act (am6 κ a0) = f5_Ma_act_55 m5 l1 l2 l3 (am6 τ a0)), ⟨_, rfl, ?_⟩, ?_⟩
  · refine and_5 ?_ (fun o9 => ⟨fu5, by first | exact fb5 | (unfold fu5; omega) | decide, hE⟩)  -- j13
    have F := ((mF_ui hκ_33 (by decide)).tr (mF_ui hκ_35 (by decide))).tr (mF_ui hκ_37 (by decide))
    have S := ((mS0_ui hκ_33 (by decide)).tr (mS0_ui hκ_35 (by decide))).tr (mS0_ui hκ_37 (by decide))
    have w0 : zI κ_33 maWants a0 = -1 := by rw [hκ_33]; exact if_pos ⟨rfl, rfl⟩
    have w1 : zI κ_45 maWants a0 = zI κ_33 maWants a0 := by rw [hκ_45, hκ_37, hκ_35]; rfl
    have w2 := (q49.2.2 maWants (by decide)).1
    exact ⟨rfl, (F.tr (mF_ui hκ_45 (by decide))).tr q49.1, (S.tr (mS0_ui hκ_45 (by decide))).tr q49.2.1, by decide, w2.trans (w1.trans w0)⟩
  rintro n55 _ x55_1 x55_2 x55_3 κ55 W55 T55_0 ⟨hn55, ⟨rfl, i55⟩, m55, hm55, hE⟩
  obtain ⟨m55, rfl⟩ : ∃ m9, m55 = m9 + 1 := ⟨m55 - 1, by omega⟩
  refine ⟨fun c58 => ?_, fun c58 => ?_⟩
  · skip
    replace hE := rb_t5 hE c58
    refine hj92 _ _ _ W55 ?_ ?_
    · exact T55_0  -- t14
    · refine and_5 ?_ (fun o9 => hE)  -- k15
      exact ⟨rfl, i55.1, i55.2.1, i55.2.2.2⟩
  · skip
    replace hE := rb_f5 hE c58
    refine ⟨fun c59 => ?_, fun c59 => ?_⟩
    · skip
      replace hE := rb_t5 hE c59
      refine hj92 _ _ _ W55 ?_ ?_
      · exact T55_0  -- t16
      · refine and_5 ?_ (fun o9 => hE)  -- k17
        exact ⟨rfl, i55.1, i55.2.1, i55.2.2.2⟩
    · skip
      replace hE := rb_f5 hE c59
      refine ⟨fun c60 => ?_, fun c60 => ?_⟩
      · skip
        replace hE := rb_f5 hE c60
        refine hj92 _ _ _ W55 ?_ ?_
        · exact T55_0  -- t18
        · refine and_5 ?_ (fun o9 => hE)  -- k19
          exact ⟨rfl, i55.1, i55.2.1, i55.2.2.2⟩
      · skip
        replace hE := rb_t5 hE c60
        intro T61
        refine Ma_work_q6 W55 T61  ?_ (fun r62 κ_63 q64 => ?_)
        · exact (mkI_f i55.1 W Ta0 hp.1).1  -- p20
        obtain ⟨q64, z9⟩ := q64
        replace hE := rb_i5 hE z9
        have tκ_63 : zT κ_63 a0 = 7 := by first | exact q64.1.t T55_0 (by decide) | exact q64.1.1.t T55_0 (by decide) | (rw [q64]; exact T55_0)
        intro W65
        intro M66
        have LK := (maL_f i55.1 hp.1.1).2.2.1
        have bN := W55.n (ty_maWorked W55 T55_0)
        have l := i55.2.2.1
        rw [lei, ofn_i bN] at c59
        have e1 : (x55_3 + 1).toInt = x55_3.toInt + 1 := by rw [add_i (by rw [t1i]; omega) (by rw [t1i]; omega), t1i]
        refine ⟨?_, ?_⟩
        · rw [q64.1.2.2.1, inb_iff]; omega  -- b21
        intro κ_67 hκ_67
        have h9 : κ_67 = ua κ_63 (zR κ_63 maWorked a0) x55_3.toNatClampNeg r62 := by rw [hκ_67, q64.1.2.1]
        replace hE := rb_i5 hE (am_ua6 (m := a0) (f := maWorked) W65 tκ_63 h9 (by decide))
        have tκ_67 : zT κ_67 a0 = 7 := by rw [h9]; exact tκ_63
        intro W68
        intro x69 hx69
        replace hE := rb_p5 hE hx69
        refine lp_b5 ?_ (fun d9 => ⟨rfl, ?_⟩)
        · rw [hn55, hx69, e1]; omega  -- d22
        · refine and_5 ?_ (fun o9 => ⟨m55, by omega, hE⟩)  -- i23
          rw [← q64.1.2.1] at hκ_67
          have f := mF_ua W65 (q64.1.1.t T55_0 (by decide)) (show zr maWorked = some 20 by decide +kernel) (by decide) hκ_67
          exact ⟨rfl, (i55.1.tr q64.1).tr f.1, (i55.2.1.tr q64.2.1).tr f.2.1.1, by rw [hx69, e1]; omega, by rw [f.2.2, (q64.2.2 maWants (by decide)).1]; exact i55.2.2.2⟩

/-- a draw taken, or none -/
def DC21 (m : Nat) (y : Int32) (κ κ' : zS) (v : Int32) : Prop := ((0 ≤ y.toInt ∧ y.toInt < (zI κ maWays m).toInt) → v = 1 ∧ f5_Ma_settle y (am6 κ m) = .inl (am6 κ' m, ())) ∧ (¬ (0 ≤ y.toInt ∧ y.toInt < (zI κ maWays m).toInt) → v = 0 ∧ am6 κ' m = fl6 711 2 (fl6 713 6 (am6 κ m)))
theorem Ch_drawn_q6 {C : zC} {n0 : Nat} {a0 : Nat} {a1 : Int32} {a2 : Int32} {κ : zS} {Q : Int32 → zS → Prop} (W : zW C n0 κ) (Ta0 : zT κ a0 = 15)  (hp : mkI κ (zR κ chMachine a0) ∧ (mO κ (zR κ chMachine a0) ∧ (zI κ maWays (zR κ chMachine a0)).toInt ≤ 64) ∧ dwI9 κ a0 ∧ 0 ≤ a2.toInt ∧ a2.toInt < 2000) (h : ∀ (v : Int32) (κ' : zS), ((zF (dwF9 (zR κ chMachine a0) a0) κ κ' ∧ (∀ f, f ≠ chDrawnWeights → f ≠ chDrawnTotals → zR κ' f a0 = zR κ f a0) ∧ mkI κ' (zR κ chMachine a0) ∧ (zI κ' maOutcome (zR κ chMachine a0) = 0 → mO κ' (zR κ chMachine a0)) ∧ dwI9 κ' a0 ∧ (v = 0 ∨ v = 1)) ∧ (DC21 (zR κ chMachine a0) a1 κ κ' v)) → Q v κ') : zRun C 3 mCh_drawn [.ref a0, .int a1, .int a2] κ (oI Q noX) := by
  refine Ch_drawn_run W Ta0 ?_
  replace W := W.lo (Nat.le_trans W.1.2.1 W.1.2.2) (Nat.le_refl (zn κ))
  unfold w_Ch_drawn_0
  have am := ch_m9 W Ta0
  have tm := ty_chMachine W Ta0
  obtain ⟨K0, ⟨O0, w0⟩, D0, l0, l1⟩ := hp
  have bn := W.n (ty_chDrawnWeights W Ta0)
  have e2 : (2 : Int32).toInt = 2 := rfl
  have m2 : (a2 * 2).toInt = 2 * a2.toInt := by
    have q := mul_i (x := a2) (y := 2) (by rw [e2]; omega) (by rw [e2]; omega)
    rw [e2] at q
    omega
  have k2 := cnk (x := a2 * 2) (by omega)
  have hj63 : ∀ (l0 : Nat) (l1 : Int32) (l2 : Int32) (τ : zS), zW C (zn κ) τ → zT τ l0 = 15 → ((a0 = l0 ∧ a1 = l1 ∧ a2 = l2 ∧ djI9 κ τ a0 a1 a2) ∧ am6 τ (zR κ chMachine a0) = am6 κ (zR κ chMachine a0) ∧ 0 ≤ a1.toInt ∧ a1.toInt < (zI κ maWays (zR κ chMachine a0)).toInt) → w_Ch_drawn_63 C (zn κ) Q  l0 l1 l2 τ := by
    rintro _ _ _ τ63 W63 T63_0 ⟨⟨rfl, rfl, rfl, j63⟩, hE⟩
    unfold w_Ch_drawn_63
    obtain ⟨Z6, R6, K6, ⟨O6, w6⟩, D6, ⟨y0, y1⟩, x0, x1⟩ := j63
    have rm : zR τ63 chMachine a0 = zR κ chMachine a0 := R6 _ (by decide) (by decide)
    refine ⟨?_, ?_⟩
    · rw [rm, inb_iff, K6.1.2.2.2.2]; omega  -- b1
    refine ⟨?_, ?_⟩
    · rw [inb_iff]; omega  -- b2
    intro κ_1 hκ_1
    intro W2
    have o1 := W63.o (show zr chDrawnWeights = some 20 by decide +kernel) (by decide) (T63_0.trans (by decide))
    have Z1 : zF (fun f b => b = a0 ∧ (f = chDrawnWeights ∨ f = chDrawnTotals)) τ63 κ_1 := by
      rw [hκ_1]
      exact zF_ua (by rw [o1]; exact ⟨rfl, Or.inl rfl⟩)
    have R1 : zR κ_1 = zR τ63 := by rw [hκ_1]; rfl
    have N1 : zN κ_1 = zN τ63 := by rw [hκ_1]; rfl
    refine ⟨?_, ?_⟩
    · rw [inb_iff, R1, N1, D6.1]; omega  -- b3
    intro κ_3 hκ_3
    intro W4
    intro T5
    have o2 := W2.o (show zr chDrawnTotals = some 20 by decide +kernel) (by decide) ((Z1.t T63_0 (by decide)).trans (by decide))
    have Z3 : zF (fun f b => b = a0 ∧ (f = chDrawnWeights ∨ f = chDrawnTotals)) τ63 κ_3 := Z1.tr (by
      rw [hκ_3]
      exact zF_ua (by rw [o2]; exact ⟨rfl, Or.inr rfl⟩))
    have R3 : zR κ_3 = zR τ63 := by rw [hκ_3]; exact R1
    have N3 : zN κ_3 = zN τ63 := by rw [hκ_3]; exact N1
    have am6 := ch_m9 W63 T63_0
    rw [rm] at am6
    have tm6 : zT τ63 (zR κ chMachine a0) = 7 := Z6.t tm (by decide)
    have K3 : mkI κ_3 (zR κ chMachine a0) := mkI_zF Z3 W63 tm6 (fun f z => am6.1 z.1.symm) (fun f z => am6.2.1 z.1.symm) K6
    have O3 : mO κ_3 (zR κ chMachine a0) := mO_z9 Z3 (fun f z => am6.1 z.1.symm) O6
    have w3 : zI κ_3 maWays (zR κ chMachine a0) = zI τ63 maWays (zR κ chMachine a0) := Z3.i (fun z => am6.1 z.1.symm)
    refine Ma_settle_q6 W4 T5  ?_ (fun κ_6 q7 => ?_)
    · rw [R3, rm]
      exact ⟨K3, O3, by rw [w3]; exact w6⟩
    obtain ⟨q7, z9⟩ := q7
    intro W8
    intro M9
    refine h _ _ ?_
    · refine and_5 ?_ (fun o9 => ?_)  -- q5
      · rw [R3, rm] at q7 T5
        refine ⟨(Z6.tr (Z3.mono (fun f b z => Or.inr z))).tr (q7.1.1.mono (fun f b z => Or.inl z)), fun f h1 h2 => ?_, (mkI_f q7.1 W4 T5 K3).1, fun z => ?_, ?_, Or.inr rfl⟩
        · rw [q7.1.2.1, R3]
          exact R6 f h1 h2
        · rcases q7.2.2.1 with y | y
          · exact y
          · rw [y] at z
            exact absurd z (by decide)
        · unfold dwI9
          rw [q7.1.2.1, q7.1.2.2.1, R3, N3]
          exact D6
      · rw [R3, rm] at z9
        have ez := am_z6 W63 tm6 Z3 (fun f z => am6.1 z.1.symm) (fun f z => am6.2.1 z.1.symm)
        rw [ez, hE.1] at z9
        exact ⟨fun _ => ⟨rfl, z9⟩, fun n => absurd hE.2 n⟩
  have hj15 : ∀ (l0 : Nat) (τ : zS), zW C (zn κ) τ → zT τ l0 = 15 → ((κ = τ ∧ a0 = l0 ∧ True) ∧ ¬ (0 ≤ a1.toInt ∧ a1.toInt < (zI κ maWays (zR κ chMachine a0)).toInt)) → w_Ch_drawn_15 C (zn κ) Q  l0 τ := by
    rintro _ _ W15 T15_0 ⟨⟨rfl, rfl, j15⟩, hE⟩
    unfold w_Ch_drawn_15
    intro T10
    refine Ma_fail_q6 W15 T10  (fun κ_11 q12 => ?_)
    obtain ⟨q12, z9⟩ := q12
    intro W13
    intro M14
    refine h _ _ ?_
    · refine and_5 ?_ (fun o9 => ?_)  -- q6
      · have f := mF_fail q12
        refine ⟨q12.1.mono (fun f b z => Or.inl z), fun f _ _ => by rw [q12.2.1], (mkI_f f.1 W tm K0).1, fun z => ?_, ?_, Or.inl rfl⟩
        · rw [q12.2.2.2.2.2.2] at z
          exact absurd z (by decide)
        · unfold dwI9
          rw [q12.2.1, q12.2.2.1]
          exact D0
      · refine ⟨fun n => absurd n hE, fun _ => ⟨rfl, ?_⟩⟩
        have ff : f5_Ma_fail 6 (am6 κ (zR κ chMachine a0)) = .inl (fl6 711 2 (fl6 713 6 (am6 κ (zR κ chMachine a0))), ()) := rfl
        exact (congrArg Prod.fst (Sum.inl.inj (ff.symm.trans z9))).symm
  refine ⟨fun c15 => ?_, fun c15 => ?_⟩
  · skip
    refine hj15 _ _ W ?_ ?_
    · exact Ta0  -- t7
    · refine and_5 ?_ (fun o9 => ?_)  -- k8
      · exact ⟨rfl, rfl, trivial⟩
      · intro z
        rw [lti, t0i] at c15
        omega
  · skip
    refine ⟨fun c16 => ?_, fun c16 => ?_⟩
    · skip
      refine ⟨fun c17 => ?_, fun c17 => ?_⟩
      · skip
        refine hj63 _ _ _ _ W ?_ ?_
        · exact Ta0  -- t9
        · refine and_5 ?_ (fun o9 => ?_)  -- k10
          · rw [lti, t0i] at c15
            rw [lti] at c16
            rw [lti, ofn_i bn] at c17
            exact ⟨rfl, rfl, rfl, zF.rf, fun _ _ _ => rfl, K0, ⟨O0, w0⟩, D0, ⟨l0, by omega⟩, by omega, by omega⟩
          · have x15 := c15
            have x16 := c16
            rw [lti, t0i] at x15
            rw [lti] at x16
            exact ⟨rfl, by omega, x16⟩
      · skip
        intro T18
        refine Ar_copyOf_c W T18  ?_ (fun r19 κ_20 q21 => ?_)
        · rw [lti, ofn_i bn] at c17
          refine ⟨⟨by rw [lei, t0i]; omega, by omega⟩, fun e => ?_⟩
          have g := congrArg Int32.toInt e
          rw [ofn_i bn, m2] at g
          have := D0.2.1
          omega
        intro W22
        intro M23
        intro T24
        refine ⟨?_, ?_⟩
        · rw [q21.1]; exact q21.2.2.1  -- b12
        intro κ_25 hκ_25
        intro W26
        intro T27
        rw [lti, t0i] at c15
        rw [lti] at c16
        rw [lti, ofn_i bn] at c17
        obtain ⟨e19, Q1⟩ := q21
        rw [e19] at hκ_25
        have G1 := gr_f W (show zr chDrawnWeights = some 20 by decide +kernel) (by decide) (Ta0.trans (by decide)) ⟨by decide, by decide, by decide, by decide +kernel⟩ Q1 hκ_25 (by omega) (by have := D0.2.1; omega)
        have T25 : zT κ_25 a0 = 15 := G1.1.t Ta0 (by decide)
        have rt : zR κ_25 chDrawnTotals a0 = zR κ chDrawnTotals a0 := G1.2.2.1 _ _ (fun z => absurd z.1 (by decide))
        have nt : zN κ_25 (zR κ chDrawnTotals a0) = zN κ (zR κ chDrawnTotals a0) := G1.1.l (ty_chDrawnTotals W Ta0)
        have e0 := D0.1
        refine Ar_copyOf_c W26 T27  ?_ (fun r28 κ_29 q30 => ?_)
        · rw [rt, nt, e0]
          refine ⟨⟨by rw [lei, t0i]; omega, by omega⟩, fun e => ?_⟩
          have g := congrArg Int32.toInt e
          rw [ofn_i bn, m2] at g
          have := D0.2.1
          omega
        intro W31
        intro M32
        intro T33
        refine ⟨?_, ?_⟩
        · rw [q30.1]; exact q30.2.2.1  -- b14
        intro κ_34 hκ_34
        intro W35
        refine hj63 _ _ _ _ W35 ?_ ?_
        · rw [hκ_34]; obtain ⟨e28, Q2⟩ := q30
          rw [e28] at hκ_34
          have G2 := gr_f W26 (show zr chDrawnTotals = some 20 by decide +kernel) (by decide) (T25.trans (by decide)) ⟨by decide, by decide, by decide, by decide +kernel⟩ Q2 hκ_34 (by rw [rt, nt, e0]; omega) (by rw [rt, nt, e0]; have := D0.2.1; omega)
          have y := G2.1.t T25 (by decide)
          rw [hκ_34, ← e28] at y
          exact y
        · refine and_5 ?_ (fun o9 => ?_)  -- k16
          · obtain ⟨e28, Q2⟩ := q30
            rw [e28] at hκ_34
            have G2 := gr_f W26 (show zr chDrawnTotals = some 20 by decide +kernel) (by decide) (T25.trans (by decide)) ⟨by decide, by decide, by decide, by decide +kernel⟩ Q2 hκ_34 (by rw [rt, nt, e0]; omega) (by rw [rt, nt, e0]; have := D0.2.1; omega)
            have Z0 : zF (fun f b => b = a0 ∧ (f = chDrawnWeights ∨ f = chDrawnTotals)) κ κ_34 := (G1.1.mono (fun f b z => ⟨z.2, Or.inl z.1⟩)).tr (G2.1.mono (fun f b z => ⟨z.2, Or.inr z.1⟩))
            have rw1 : zR κ_34 chDrawnWeights a0 = zn κ := (G2.2.2.1 _ _ (fun z => absurd z.1 (by decide))).trans G1.2.2.2.1
            have tw := ty_chDrawnWeights W26 T25
            rw [G1.2.2.2.1] at tw
            have nw1 : zN κ_34 (zn κ) = (a2 * 2).toNatClampNeg := (G2.1.l tw).trans G1.2.2.2.2.1
            refine ⟨rfl, rfl, rfl, Z0.mono (fun f b z => Or.inr z), fun f h1 h2 => (G2.2.2.1 f a0 (fun z => h2 z.1)).trans (G1.2.2.1 f a0 (fun z => h1 z.1)), mkI_zF Z0 W tm (fun f z => am.1 z.1.symm) (fun f z => am.2.1 z.1.symm) K0, ⟨mO_z9 Z0 (fun f z => am.1 z.1.symm) O0, by rw [Z0.i (fun z => am.1 z.1.symm)]; exact w0⟩, ⟨?_, ?_⟩, ⟨l0, ?_⟩, by omega, by omega⟩
            · rw [rw1, nw1, G2.2.2.2.1, G2.2.2.2.2.1]
            · rw [rw1, nw1]
              have := D0.2.1
              omega
            · rw [rw1, nw1]
              have := D0.2.1
              omega
          · obtain ⟨e28, Q2⟩ := q30
            rw [e28] at hκ_34
            have G2 := gr_f W26 (show zr chDrawnTotals = some 20 by decide +kernel) (by decide) (T25.trans (by decide)) ⟨by decide, by decide, by decide, by decide +kernel⟩ Q2 hκ_34 (by rw [rt, nt, e0]; omega) (by rw [rt, nt, e0]; have := D0.2.1; omega)
            have Z0 : zF (fun f b => b = a0 ∧ (f = chDrawnWeights ∨ f = chDrawnTotals)) κ κ_34 := (G1.1.mono (fun f b z => ⟨z.2, Or.inl z.1⟩)).tr (G2.1.mono (fun f b z => ⟨z.2, Or.inr z.1⟩))
            exact ⟨am_z6 W tm Z0 (fun f z => am.1 z.1.symm) (fun f z => am.2.1 z.1.symm), by omega, c16⟩
    · skip
      refine hj15 _ _ W ?_ ?_
      · exact Ta0  -- t17
      · refine and_5 ?_ (fun o9 => ?_)  -- k18
        · exact ⟨rfl, rfl, trivial⟩
        · intro z
          rw [lti] at c16
          omega

theorem Ch_perform_q6 {C : zC} {n0 : Nat} {a0 : Nat} {a1 : Int32} {a2 : Int64} {a4 : Int32} {κ : zS} {Q : Int32 → zS → Prop} (W : zW C n0 κ) (Ta0 : zT κ a0 = 15) (nv s w : Nat) (σ9 : rS) (hG : GP21 nv s w κ a0 a1 a2 a4 σ9) (hp : maL κ (zR κ chMachine a0) ∧ coI κ (zR κ chCode a0) ∧ dwI9 κ a0 ∧ ((zN κ (zR κ chRecord a0)) = 5 ∧ (zN κ (zR κ chLastShared a0)) = 34 ∧ (zN κ (zR κ chTold a0)) = 200 ∧ (zI κ chTolds a0).toInt ≤ 200) ∧ atH κ (zR κ chAtlas a0) ∧ (zI κ atExplored (zR κ chAtlas a0) ≠ 0 → atM κ (zR κ chAtlas a0)) ∧ a4.toInt ≤ 2000) (h : ∀ (v : Int32) (κ' : zS), ((zF (pfF9 (zR κ chMachine a0) a0) κ κ' ∧ (∀ f, f ≠ chDrawnWeights → f ≠ chDrawnTotals → zR κ' f a0 = zR κ f a0) ∧ mkI κ' (zR κ chMachine a0) ∧ dwI9 κ' a0) ∧ (∀ N tr v', TRF21 a4 σ9 N tr v' → v = v' ∧ RN23 κ' a0 (tr N).1 v' w)) → Q v κ') : zRun C 5 mCh_perform [.ref a0, .int a1, .long a2, .int a4] κ (oI Q noX) := by
  refine Ch_perform_run W Ta0 ?_
  replace W := W.lo (Nat.le_trans W.1.2.1 W.1.2.2) (Nat.le_refl (zn κ))
  unfold w_Ch_perform_0
  have am := ch_m9 W Ta0
  have tm := ty_chMachine W Ta0
  obtain ⟨L0, C0, D0, ⟨n5, n34, n200, t20⟩, H0, M0, l4⟩ := hp
  have F7 : ∀ f x, dwF9 (zR κ chMachine a0) a0 f x → zT κ x = 7 ∨ zT κ x = 15 := by
    rintro f x (z | z)
    · left; rw [z]; exact tm
    · right; rw [z.1]; exact Ta0
  have e1 : (1 : Int32).toInt = 1 := rfl
  have hj180 : ∀ (l0 : Nat) (l7 : Int32) (l8 : Int32) (l9 : Int64) (τ : zS), zW C (zn κ) τ → zT τ l0 = 15 → ((a0 = l0 ∧ pfJ9 κ τ a0) ∧ ∀ N tr v', TRF21 a4 σ9 N tr v' → FZ23 w (am6 τ (zR κ chMachine a0)) l7 l8 l9 (tr N).1 v') → w_Ch_perform_180 C (zn κ) Q  l0 l7 l8 l9 τ := by
    rintro _ y180_7 y180_8 y180_9 τ180 W180 T180_0 ⟨⟨rfl, j180⟩, hE⟩
    unfold w_Ch_perform_180
    intro T1
    refine Ch_note_q6 W180 T1  ?_ (fun κ_2 q3 => ?_)
    · obtain ⟨Z1, R1, K1, D1⟩ := j180
      rw [R1 chMachine (by decide) (by decide), R1 chCode (by decide) (by decide), R1 chRecord (by decide) (by decide), R1 chLastShared (by decide) (by decide)]
      refine ⟨K1, coI_zF Z1 W (ty_chCode W Ta0) (fun f z => ?_) C0, (Z1.l (ty_chRecord W Ta0)).trans n5, (Z1.l (ty_chLastShared W Ta0)).trans n34⟩
      have t5 := ty_chCode W Ta0
      rcases F7 _ _ z with y | y <;> rw [y] at t5 <;> exact absurd t5 (by decide)
    obtain ⟨q3, z9⟩ := q3
    intro W4
    intro M5
    refine h _ _ ?_
    · refine and_5 ?_ (fun o9 => ?_)  -- q2
      · obtain ⟨Z1, R1, K1, D1⟩ := j180
        have am1 := ch_m9 W180 T180_0
        rw [R1 chMachine (by decide) (by decide)] at am1
        refine ⟨(Z1.mono (fun f b z => ?_)).tr (q3.1.mono (fun f b z => ?_)), fun f h1 h2 => ?_, mkI_zF q3.1 W180 (Z1.t tm (by decide)) (fun f z => am1.1 z.1.symm) (fun f z => am1.2.1 z.1.symm) K1, ?_⟩
        · rcases z with z | ⟨z, y | y⟩
          · exact Or.inl z
          · exact Or.inr ⟨z, Or.inl y⟩
          · exact Or.inr ⟨z, Or.inr (Or.inl y)⟩
        · exact Or.inr ⟨z.1, Or.inr (Or.inr z.2)⟩
        · rw [q3.2]; exact R1 f h1 h2
        · unfold dwI9
          rw [q3.2, q3.1.l (ty_chDrawnWeights W180 T180_0), q3.1.l (ty_chDrawnTotals W180 T180_0)]
          exact D1
      · intro N tr v' F
        obtain ⟨⟨f1, f2, f3, ⟨f4, f5, f6⟩, f7⟩, f8⟩ := hE N tr v' F
        obtain ⟨Z1, R1, K1, D1⟩ := j180
        have am1 := ch_m9 W180 T180_0
        have rM := R1 chMachine (by decide) (by decide)
        have rC := R1 chCode (by decide) (by decide)
        have m1 : zI τ180 maOutcome (zR κ chMachine a0) = v' := (am_i6 (f := 711) (by decide)).symm.trans f1
        have m2 : v' = 1 → zI τ180 maNumber (zR κ chMachine a0) = (tr N).1.1 61 := fun q => (am_i6 (f := 712) (by decide)).symm.trans (f2 q)
        have m3 : v' = 2 → zI τ180 maFailure (zR κ chMachine a0) = (tr N).1.1 61 := fun q => (am_i6 (f := 713) (by decide)).symm.trans (f3 q)
        obtain ⟨n1, ⟨n2, n3, n4, n5', n6⟩, n7⟩ := z9
        rw [rM] at n2 n3 n7 am1
        rw [rC] at n7
        rw [rn_v23 m1 m2 m3] at n3
        have tC := ty_chCode W Ta0
        have nC : ∀ f, ¬ dwF9 (zR κ chMachine a0) a0 f (zR κ chCode a0) := fun f z => by
          have t5 := tC
          rcases F7 _ _ z with y | y <;> rw [y] at t5 <;> exact absurd t5 (by decide)
        obtain ⟨wI, _⟩ := rn_w23 hG.1
        rw [Z1.i (nC coVars), Z1.i (nC coCells)] at n7
        refine ⟨?_, f8, n1, ?_, fun i hi => ?_⟩
        · rw [q3.2, rM, ← m1, q3.1.i (fun y => am1.1 y.1.symm)]
        · rw [q3.2]
          exact ⟨by rw [n2, m1], n3, by rw [n4, f4], by rw [n5', f5], by rw [n6, f6]⟩
        · rw [q3.2, n7 i (by omega)]
          exact (congrFun (am_rw6 (f := 701) (by decide)).1 i).symm.trans (f7 i hi)
  intro T6
  intro T7
  refine Ma_begin_q6 W T6 T7  ?_ (fun κ_8 q9 => ?_)
  · exact ⟨L0, C0⟩  -- p3
  obtain ⟨q9, z9⟩ := q9
  intro W10
  intro M11
  unfold w_Ch_perform_26
  refine ⟨fun n l0 l1 l4 l5 l7 l8 l9 l11 τ => n = (a4.toInt - l11.toInt).toNat ∧ ((a0 = l0 ∧ a1 = l1 ∧ a4 = l4 ∧ pfJ9 κ τ a0 ∧ (zI τ maOutcome (zR κ chMachine a0) = 0 → mO τ (zR κ chMachine a0)) ∧ (0 ≤ l8.toInt ∧ l8.toInt ≤ l11.toInt)) ∧ HD21 nv s w (cu7 κ (zR κ chCode a0)) a4 σ9 (am6 τ (zR κ chMachine a0)) l5 l7 l8 l9 l11 ∧ (¬ a1 = 0 → l8.toInt ≤ (zI κ chTolds a0).toInt)), ⟨_, rfl, ?_⟩, ?_⟩
  · refine and_5 ?_ (fun o9 => ?_)  -- j4
    · refine ⟨rfl, rfl, rfl, ⟨q9.1.mono (fun f b z => Or.inl z), fun f _ _ => q9.1.r (fun z => am.1 z), q9.2.2.1, ?_⟩, fun z => ?_, by decide, by decide⟩
      · unfold dwI9
        rw [q9.1.r (fun z => am.1 z), q9.1.r (fun z => am.1 z), q9.1.l (ty_chDrawnWeights W Ta0), q9.1.l (ty_chDrawnTotals W Ta0)]
        exact D0
      · rcases q9.2.2.2.2.1 with y | y
        · exact y
        · rw [y] at z
          exact absurd z (by decide)
    · obtain ⟨e9, B9, hz⟩ := z9
      have R := CR_76 (e' := am6 (ur κ maCode (zR κ chMachine a0) (zR κ chCode a0)) (zR κ chMachine a0)) hG.1 cu_a7.1 cu_a7.2 (by
        have ro : ∀ f b, f ≠ maCode → zR (ur κ maCode (zR κ chMachine a0) (zR κ chCode a0)) f b = zR κ f b := fun f b q => if_neg (fun y => q y.1)
        refine ⟨?_, ?_, ?_⟩
        · rw [(am_rw6 (f := 705) (by decide)).2, ro _ _ (by decide)]; exact L0.2.1
        · rw [(am_rw6 (f := 707) (by decide)).2, ro _ _ (by decide)]; exact L0.2.2.1
        · rw [(am_rw6 (f := 701) (by decide)).2, ro _ _ (by decide)]; exact L0.1)
      refine ⟨⟨⟨rfl, by decide, hG.2.2.2.2.2.2.2⟩, fun N tr v' F => ⟨Nat.zero_le _, ?_⟩⟩, fun z => ?_⟩
      rotate_left
      · exact (hG.2.2.2.1 (Decidable.byContradiction (fun q => z (hG.2.1.mpr q)))).1.2
      exact ib_21 R ⟨cu_a7.1, cu_a7.2⟩ B9 hz hG.2.2.1 F
  rintro n26 _ _ _ x26_5 x26_7 x26_8 x26_9 x26_11 κ26 W26 T26_0 ⟨hn26, ⟨rfl, rfl, rfl, i26⟩, hE⟩
  have hj158 : ∀ (l0 : Nat) (l1 : Int32) (l4 : Int32) (l5 : Int64) (l7 : Int32) (l8 : Int32) (l9 : Int64) (l11 : Int32) (τ : zS), zW C (zn κ) τ → zT τ l0 = 15 → ((a0 = l0 ∧ a1 = l1 ∧ a4 = l4 ∧ pfJ9 κ τ a0 ∧ (zI τ maOutcome (zR κ chMachine a0) = 0 → mO τ (zR κ chMachine a0)) ∧ (0 ≤ l8.toInt ∧ l8.toInt ≤ l11.toInt + 1) ∧ l11 = x26_11 ∧ (0 ≤ l11.toInt ∧ l11.toInt < a4.toInt)) ∧ JA21 nv s w (cu7 κ (zR κ chCode a0)) a4 σ9 (am6 τ (zR κ chMachine a0)) l5 l7 l8 l9 l11 ∧ (¬ a1 = 0 → l8.toInt ≤ (zI κ chTolds a0).toInt)) → w_Ch_perform_158 C (zn κ) Q (fun (l0' : Nat) (l1' : Int32) (l4' : Int32) (l5' : Int64) (l7' : Int32) (l8' : Int32) (l9' : Int64) (l11' : Int32) (τ : zS) => ∃ k < n26, (fun (n : Nat) (l0 : Nat) (l1 : Int32) (l4 : Int32) (l5 : Int64) (l7 : Int32) (l8 : Int32) (l9 : Int64) (l11 : Int32) (τ : zS) => n = (a4.toInt - l11.toInt).toNat ∧ ((a0 = l0 ∧ a1 = l1 ∧ a4 = l4 ∧ pfJ9 κ τ a0 ∧ (zI τ maOutcome (zR κ chMachine a0) = 0 → mO τ (zR κ chMachine a0)) ∧ (0 ≤ l8.toInt ∧ l8.toInt ≤ l11.toInt)) ∧ HD21 nv s w (cu7 κ (zR κ chCode a0)) a4 σ9 (am6 τ (zR κ chMachine a0)) l5 l7 l8 l9 l11 ∧ (¬ a1 = 0 → l8.toInt ≤ (zI κ chTolds a0).toInt))) k l0' l1' l4' l5' l7' l8' l9' l11' τ) l0 l1 l4 l5 l7 l8 l9 l11 τ := by
    rintro _ _ _ y158_5 y158_7 y158_8 y158_9 y158_11 τ158 W158 T158_0 ⟨⟨rfl, rfl, rfl, j158⟩, hE⟩
    unfold w_Ch_perform_158
    intro x12 hx12
    intro x13 hx13
    intro x14 hx14
    obtain ⟨J6, O6, ⟨b0, b1⟩, ex, x0, x1⟩ := j158
    have ix := cn1 (x := y158_11) x0 (by omega)
    refine lp_b5 ?_ (fun d9 => ⟨rfl, ?_⟩)
    · rw [hn26, hx14, ix.2, ← ex]; omega  -- d5
    · refine and_5 ?_ (fun o9 => ?_)  -- i6
      · exact ⟨rfl, rfl, rfl, J6, O6, b0, by rw [hx14, ix.2]; omega⟩
      · obtain ⟨⟨⟨z1, z2, z3⟩, hA⟩, zt⟩ := hE
        have eg : (am6 τ158 (zR κ chMachine a0)).1 714 = zI τ158 maGained (zR κ chMachine a0) := am_i6 (f := 714) (by decide)
        refine ⟨⟨⟨by rw [hx12, hx14, z1], by rw [hx14, ix.2]; omega, by rw [hx14, ix.2]; omega⟩, fun N tr v' F => ?_⟩, zt⟩
        rw [hx14, ix.1, hx13, J6.2.1 chMachine (by decide) (by decide), ← eg]
        exact hA N tr v' F
  have hj150 : ∀ (l0 : Nat) (l1 : Int32) (l4 : Int32) (l5 : Int64) (l7 : Int32) (l8 : Int32) (l9 : Int64) (l11 : Int32) (s0 : Int32) (s1 : Nat) (s2 : Int32) (τ : zS), zW C (zn κ) τ → zT τ l0 = 15 → zT τ s1 = 15 → ((a0 = l0 ∧ a1 = l1 ∧ a4 = l4 ∧ pfJ9 κ τ a0 ∧ (mO τ (zR κ chMachine a0) ∧ (zI τ maWays (zR κ chMachine a0)).toInt ≤ 64) ∧ (0 ≤ l8.toInt ∧ l8.toInt ≤ l11.toInt) ∧ (l11 = x26_11 ∧ l11.toInt < a4.toInt) ∧ s0 = l8 ∧ s1 = a0) ∧ JW21 nv s w (cu7 κ (zR κ chCode a0)) a4 σ9 (am6 τ (zR κ chMachine a0)) l5 l7 l8 l9 l11 s2 ∧ (¬ a1 = 0 → l8.toInt < (zI κ chTolds a0).toInt)) → w_Ch_perform_150 C (zn κ) Q (fun (l0' : Nat) (l1' : Int32) (l4' : Int32) (l5' : Int64) (l7' : Int32) (l8' : Int32) (l9' : Int64) (l11' : Int32) (τ : zS) => ∃ k < n26, (fun (n : Nat) (l0 : Nat) (l1 : Int32) (l4 : Int32) (l5 : Int64) (l7 : Int32) (l8 : Int32) (l9 : Int64) (l11 : Int32) (τ : zS) => n = (a4.toInt - l11.toInt).toNat ∧ ((a0 = l0 ∧ a1 = l1 ∧ a4 = l4 ∧ pfJ9 κ τ a0 ∧ (zI τ maOutcome (zR κ chMachine a0) = 0 → mO τ (zR κ chMachine a0)) ∧ (0 ≤ l8.toInt ∧ l8.toInt ≤ l11.toInt)) ∧ HD21 nv s w (cu7 κ (zR κ chCode a0)) a4 σ9 (am6 τ (zR κ chMachine a0)) l5 l7 l8 l9 l11 ∧ (¬ a1 = 0 → l8.toInt ≤ (zI κ chTolds a0).toInt))) k l0' l1' l4' l5' l7' l8' l9' l11' τ) l0 l1 l4 l5 l7 l8 l9 l11 s0 s1 s2 τ := by
    rintro _ _ _ y150_5 y150_7 y150_8 y150_9 y150_11 y150_s0 y150_s1 y150_s2 τ150 W150 T150_0 T150_1 ⟨⟨rfl, rfl, rfl, j150⟩, hE⟩
    unfold w_Ch_perform_150
    intro T15
    obtain ⟨J5, ⟨O5, w5⟩, ⟨b0, b1⟩, ⟨ex, x1⟩, es0, es1⟩ := j150
    have rm := J5.2.1 chMachine (by decide) (by decide)
    rw [es1]
    rw [es1] at T15
    refine Ch_drawn_q6 W150 T15  ?_ (fun r16 κ_17 q18 => ?_)
    · rw [rm]
      exact ⟨J5.2.2.1, ⟨O5, w5⟩, J5.2.2.2, b0, by omega⟩
    obtain ⟨q18, z9⟩ := q18
    intro W19
    intro M20
    intro x21 hx21
    refine hj158 _ _ _ _ _ _ _ _ _ W19 ?_ ?_
    · exact q18.1.t T15 (by decide)  -- t8
    · refine and_5 ?_ (fun o9 => ?_)  -- k9
      · rw [rm] at q18
        have xb : x21.toInt = y150_8.toInt + r16.toInt ∧ 0 ≤ r16.toInt ∧ r16.toInt ≤ 1 := by
          have t0 : (0 : Int32).toInt = 0 := rfl
          rw [hx21, es0]
          rcases q18.2.2.2.2.2 with y | y <;> rw [y]
          · rw [add_i (by rw [t0]; omega) (by rw [t0]; omega), t0]
            omega
          · rw [add_i (by rw [e1]; omega) (by rw [e1]; omega), e1]
            omega
        refine ⟨rfl, rfl, rfl, ⟨J5.1.tr q18.1, fun f h1 h2 => (q18.2.1 f h1 h2).trans (J5.2.1 f h1 h2), q18.2.2.1, q18.2.2.2.2.1⟩, q18.2.2.2.1, ⟨by omega, by omega⟩, ex, by omega, x1⟩
      · rw [rm] at z9
        obtain ⟨⟨z0, x9, ex9, hW⟩, zt⟩ := hE
        refine ⟨⟨z0, fun N tr v' F => ?_⟩, fun y => ?_⟩
        rotate_left
        · have y1 := zt y
          have u0 : (0 : Int32).toInt = 0 := rfl
          rw [hx21, es0]
          rcases q18.2.2.2.2.2 with q | q <;> rw [q]
          · rw [add_i (by rw [u0]; omega) (by rw [u0]; omega), u0]
            omega
          · rw [add_i (by rw [e1]; omega) (by rw [e1]; omega), e1]
            omega
        obtain ⟨k1, M, HW⟩ := hW N tr v' F
        obtain ⟨d1, d2⟩ := id_21 M HW
        have mw : (am6 τ150 (zR κ chMachine a0)).1 716 = zI τ150 maWays (zR κ chMachine a0) := am_i6 (f := 716) (by decide)
        rw [mw] at d1 d2
        refine ⟨k1, ?_⟩
        by_cases c : 0 ≤ y150_s2.toInt ∧ y150_s2.toInt < (zI τ150 maWays (zR κ chMachine a0)).toInt
        · obtain ⟨v1, z1⟩ := z9.1 c
          rw [hx21, es0, v1, ex9]
          exact d1 c _ z1
        · obtain ⟨v1, z1⟩ := z9.2 c
          have d3 := d2 c
          rw [← z1] at d3
          rw [hx21, es0, v1, ex9, Int32.add_zero]
          exact d3
  have hj109 : ∀ (l0 : Nat) (l1 : Int32) (l4 : Int32) (l5 : Int64) (l7 : Int32) (l8 : Int32) (l9 : Int64) (l11 : Int32) (τ : zS), zW C (zn κ) τ → zT τ l0 = 15 → ((a0 = l0 ∧ a1 = l1 ∧ a4 = l4 ∧ pfJ9 κ τ a0 ∧ (mO τ (zR κ chMachine a0) ∧ (zI τ maWays (zR κ chMachine a0)).toInt ≤ 64) ∧ (0 ≤ l8.toInt ∧ l8.toInt ≤ l11.toInt) ∧ (l11 = x26_11 ∧ l11.toInt < a4.toInt) ∧ (¬ a1 = 0 → l8.toInt < 200)) ∧ JM21 nv s w (cu7 κ (zR κ chCode a0)) a4 σ9 (am6 τ (zR κ chMachine a0)) l5 l7 l8 l9 l11 4 ∧ (¬ a1 = 0 → l8 ≠ zI κ chTolds a0 ∧ 0 ≤ l8.toInt ∧ l8.toInt < (zI κ chTolds a0).toInt)) → w_Ch_perform_109 C (zn κ) Q (fun (l0' : Nat) (l1' : Int32) (l4' : Int32) (l5' : Int64) (l7' : Int32) (l8' : Int32) (l9' : Int64) (l11' : Int32) (τ : zS) => ∃ k < n26, (fun (n : Nat) (l0 : Nat) (l1 : Int32) (l4 : Int32) (l5 : Int64) (l7 : Int32) (l8 : Int32) (l9 : Int64) (l11 : Int32) (τ : zS) => n = (a4.toInt - l11.toInt).toNat ∧ ((a0 = l0 ∧ a1 = l1 ∧ a4 = l4 ∧ pfJ9 κ τ a0 ∧ (zI τ maOutcome (zR κ chMachine a0) = 0 → mO τ (zR κ chMachine a0)) ∧ (0 ≤ l8.toInt ∧ l8.toInt ≤ l11.toInt)) ∧ HD21 nv s w (cu7 κ (zR κ chCode a0)) a4 σ9 (am6 τ (zR κ chMachine a0)) l5 l7 l8 l9 l11 ∧ (¬ a1 = 0 → l8.toInt ≤ (zI κ chTolds a0).toInt))) k l0' l1' l4' l5' l7' l8' l9' l11' τ) l0 l1 l4 l5 l7 l8 l9 l11 τ := by
    rintro _ _ _ y109_5 y109_7 y109_8 y109_9 y109_11 τ109 W109 T109_0 ⟨⟨rfl, rfl, rfl, j109⟩, hE⟩
    unfold w_Ch_perform_109
    intro x22 hx22
    obtain ⟨J9, ⟨O9, w9⟩, b9, ex, h20⟩ := j109
    have rm := J9.2.1 chMachine (by decide) (by decide)
    refine ⟨fun c23 => ?_, fun c23 => ?_⟩
    · skip
      intro T24
      refine Ma_wayAt_c3 W109 T24  ?_ (fun r25 q27 => ?_)
      · rw [rm]
        exact ⟨J9.2.2.1.1, w9⟩
      intro W28
      intro M29
      refine hj150 _ _ _ _ _ _ _ _ _ _ _ _ W28 ?_ ?_ ?_
      · exact T109_0  -- t11
      · exact T109_0  -- t12
      · refine and_5 ?_ (fun o9 => ?_)  -- k13
        · exact ⟨rfl, rfl, rfl, J9, ⟨O9, w9⟩, b9, ex, rfl, rfl⟩
        · obtain ⟨⟨z0, hM⟩, _⟩ := hE
          refine ⟨⟨z0, y109_5, hx22, fun N tr v' F => ?_⟩, fun y => absurd c23 y⟩
          obtain ⟨k1, M⟩ := hM N tr v' F
          refine ⟨k1, M, fun h3 => ?_, fun h3 => absurd h3 (hG.2.1.mp c23)⟩
          rw [rm] at q27
          have e6 : (am6 τ109 (zR κ chMachine a0)).1 716 = zI τ109 maWays (zR κ chMachine a0) := am_i6 (f := 716) (by decide)
          have e7 : (am6 τ109 (zR κ chMachine a0)).1 717 = zI τ109 maTotal (zR κ chMachine a0) := am_i6 (f := 717) (by decide)
          have e9 : (am6 τ109 (zR κ chMachine a0)).2.1 719 = zA τ109 (zR τ109 maWeights (zR κ chMachine a0)) := (am_rw6 (f := 719) (by decide)).1
          have pw := wp_21 M
          rw [e6, e7, e9] at pw
          have sh := shr33 (x := x22)
          have q28 := q27.2 ⟨pw.1, sh, pw.2⟩
          have es : sh21 (sd21 y109_5) = ((Int64.toUInt64 x22 >>> (Int64.toUInt64 (Int32.toInt64 (33 : Int32)) &&& Int64.toUInt64 63)).toInt64).toInt := by rw [hx22]; rfl
          rw [e6, e7, e9, lei, t0i, es]
          exact q28
    · skip
      refine ⟨?_, ?_⟩
      · rw [inb_iff, J9.2.1 chTold (by decide) (by decide), J9.1.l (ty_chTold W Ta0), n200]
        have := h20 c23
        omega
      refine hj150 _ _ _ _ _ _ _ _ _ _ _ _ W109 ?_ ?_ ?_
      · exact T109_0  -- t15
      · exact T109_0  -- t16
      · refine and_5 ?_ (fun o9 => ?_)  -- k17
        · exact ⟨rfl, rfl, rfl, J9, ⟨O9, w9⟩, b9, ex, rfl, rfl⟩
        · obtain ⟨⟨z0, hM⟩, ht⟩ := hE
          obtain ⟨t1, t2, t3⟩ := ht c23
          refine ⟨⟨z0, y109_5, hx22, fun N tr v' F => ?_⟩, fun _ => t3⟩
          obtain ⟨k1, M⟩ := hM N tr v' F
          have h3 : σ9.1 113 = 0 := Decidable.byContradiction (fun q => c23 (hG.2.1.mpr q))
          obtain ⟨⟨g1, _⟩, g2⟩ := hG.2.2.2.1 h3
          refine ⟨k1, M, fun q => absurd h3 q, fun _ => ⟨by rw [g1]; exact t1, ?_⟩⟩
          have k8 := cnk t2
          have kt := cnk (x := zI κ chTolds a0) (by omega)
          have nT : ¬ dwF9 (zR κ chMachine a0) a0 chTold a0 := fun y => by
            rcases y with y | ⟨_, y | y⟩
            · exact am.1 y
            · exact absurd y (by decide)
            · exact absurd y (by decide)
          rw [(J9.1.row W (show zr chTold = some 20 by decide +kernel) (by decide) (Ta0.trans (by decide)) nT).1]
          exact g2 _ (by omega)
  obtain ⟨J2, O2, b20, b21⟩ := i26
  have rm := J2.2.1 chMachine (by decide) (by decide)
  have tm2 : zT κ26 (zR κ chMachine a0) = 7 := J2.1.t tm (by decide)
  refine ⟨fun c30 => ?_, fun c30 => ?_⟩
  · skip
    refine hj180 _ _ _ _ _ W26 ?_ ?_
    · exact T26_0  -- t18
    · refine and_5 ?_ (fun o9 => ?_)  -- k19
      · exact ⟨rfl, J2⟩
      · intro N tr v' F
        obtain ⟨⟨⟨z1, z2, z3⟩, hA⟩, _⟩ := hE
        obtain ⟨k1, A⟩ := hA N tr v' F
        have en : x26_11 = a4 := Int32.toInt_inj.mp (by rw [lei] at c30; omega)
        rw [z1]
        exact iz_23 F k1 A (Or.inr en)
  · skip
    refine ⟨fun c31 => ?_, fun c31 => ?_⟩
    · skip
      refine hj180 _ _ _ _ _ W26 ?_ ?_
      · exact T26_0  -- t20
      · refine and_5 ?_ (fun o9 => ?_)  -- k21
        · exact ⟨rfl, J2⟩
        · intro N tr v' F
          obtain ⟨⟨⟨z1, z2, z3⟩, hA⟩, _⟩ := hE
          obtain ⟨k1, A⟩ := hA N tr v' F
          rw [rm] at c31
          rw [z1]
          exact iz_23 F k1 A (Or.inl (fun q => c31 ((am_i6 (f := 711) (by decide)).symm.trans q)))
    · skip
      intro T32
      refine Ma_act_q21 W26 T32  ?_ (fun κ_33 q34 => ?_)
      · rw [rm] at c31 ⊢
        exact ⟨J2.2.2.1, O2 c31⟩
      obtain ⟨q34, z9⟩ := q34
      have zA := z9
      intro W35
      intro M36
      rw [rm] at q34
      rw [lei] at c30
      have J3 := pf_m9 W26 tm2 J2 q34.1
      have T33 : zT κ_33 a0 = 15 := J3.1.t Ta0 (by decide)
      have rm3 := J3.2.1 chMachine (by decide) (by decide)
      rw [rm3]
      have O3 : zI κ_33 maOutcome (zR κ chMachine a0) = 0 → mO κ_33 (zR κ chMachine a0) := fun z => by
        rcases q34.2.2.1 with y | y
        · exact y
        · rw [y] at z
          exact absurd z (by decide)
      have D3 : zI κ_33 maWants (zR κ chMachine a0) = 3 ∨ zI κ_33 maWants (zR κ chMachine a0) = 4 → mO κ_33 (zR κ chMachine a0) ∧ (zI κ_33 maWays (zR κ chMachine a0)).toInt ≤ 64 := fun z => by
        have ne : zI κ_33 maWants (zR κ chMachine a0) ≠ -1 := fun y => by
          rw [y] at z
          rcases z with z | z <;> exact absurd z (by decide)
        refine ⟨q34.2.2.2.2 ne, ?_⟩
        rcases q34.2.2.2.1 with y | y | y
        · exact absurd y ne
        · exact y.2.1.2
        · have := y.2.1.2
          omega
      rw [rm] at zA
      have c32 : (am6 κ26 (zR κ chMachine a0)).1 711 = 0 := (am_i6 (f := 711) (by decide)).trans (by rw [← rm]; exact c31)
      have JJ := ja_21 hE.1 c32 c30 zA hG.2.2.2.2.2.2.1 hG.2.2.2.2.2.1
      have w3 : (am6 κ_33 (zR κ chMachine a0)).1 715 = zI κ_33 maWants (zR κ chMachine a0) := am_i6 (f := 715) (by decide)
      rw [w3] at JJ
      have JM3 : zI κ_33 maWants (zR κ chMachine a0) = 3 → JM21 nv s w (cu7 κ (zR κ chCode a0)) a4 σ9 (am6 κ_33 (zR κ chMachine a0)) x26_5 x26_7 x26_8 x26_9 x26_11 4 := fun c => ⟨JJ.1, fun N tr v' F => by
        obtain ⟨k1, y⟩ := JJ.2 N tr v' F
        rw [c] at y
        rcases y with ⟨y, _⟩ | ⟨_, y⟩ | ⟨y, _⟩
        · exact absurd y (by decide)
        · exact ⟨k1, y⟩
        · exact absurd y (by decide)⟩
      refine ⟨fun c37 => ?_, fun c37 => ?_⟩
      · skip
        refine ⟨fun c38 => ?_, fun c38 => ?_⟩
        · skip
          refine hj158 _ _ _ _ _ _ _ _ _ W35 ?_ ?_
          · exact T33  -- t23
          · refine and_5 ?_ (fun o9 => ?_)  -- k24
            · exact ⟨rfl, rfl, rfl, J3, O3, ⟨b20, by omega⟩, rfl, by omega, by omega⟩
            · refine ⟨⟨JJ.1, fun N tr v' F => ?_⟩, hE.2⟩
              obtain ⟨k1, y⟩ := JJ.2 N tr v' F
              rcases y with ⟨_, y⟩ | ⟨y, _⟩ | ⟨y, _⟩
              · exact ⟨k1, y⟩
              · exact absurd y c38
              · exact absurd y c37
        · skip
          refine ⟨fun c39 => ?_, fun c39 => ?_⟩
          · skip
            refine hj109 _ _ _ _ _ _ _ _ _ W35 ?_ ?_
            · exact T33  -- t25
            · refine and_5 ?_ (fun o9 => ?_)  -- k26
              · exact ⟨rfl, rfl, rfl, J3, D3 (Or.inl c38), ⟨b20, b21⟩, ⟨rfl, by omega⟩, fun z => absurd c39 z⟩
              · exact ⟨JM3 c38, fun z => absurd c39 z⟩
          · skip
            refine ⟨fun c40 => ?_, fun c40 => ?_⟩
            · skip
              refine hj109 _ _ _ _ _ _ _ _ _ W35 ?_ ?_
              · exact T33  -- t27
              · refine and_5 ?_ (fun o9 => ?_)  -- k28
                · refine ⟨rfl, rfl, rfl, J3, D3 (Or.inl c38), ⟨b20, b21⟩, ⟨rfl, by omega⟩, fun z => ?_⟩
                  have it : zI κ_33 chTolds a0 = zI κ chTolds a0 := J3.1.i (fun y => by
                    rcases y with y | ⟨_, y | y⟩
                    · exact am.1 y
                    · exact absurd y (by decide)
                    · exact absurd y (by decide))
                  rw [lti, it] at c40
                  omega
                · have it : zI κ_33 chTolds a0 = zI κ chTolds a0 := J3.1.i (fun y => by
                    rcases y with y | ⟨_, y | y⟩
                    · exact am.1 y
                    · exact absurd y (by decide)
                    · exact absurd y (by decide))
                  have c41 := c40
                  rw [lti, it] at c41
                  exact ⟨JM3 c38, fun _ => ⟨fun y => by rw [y] at c41; omega, b20, c41⟩⟩
            · skip
              refine hj180 _ _ _ _ _ W35 ?_ ?_
              · exact T33  -- t29
              · refine and_5 ?_ (fun o9 => ?_)  -- k30
                · exact ⟨rfl, J3⟩
                · intro N tr v' F
                  have it : zI κ_33 chTolds a0 = zI κ chTolds a0 := J3.1.i (fun y => by
                    rcases y with y | ⟨_, y | y⟩
                    · exact am.1 y
                    · exact absurd y (by decide)
                    · exact absurd y (by decide))
                  obtain ⟨z0, hM⟩ := JM3 c38
                  obtain ⟨k1, M⟩ := hM N tr v' F
                  have h3 : σ9.1 113 = 0 := Decidable.byContradiction (fun q => c39 (hG.2.1.mpr q))
                  obtain ⟨⟨g1, _⟩, g2⟩ := hG.2.2.2.1 h3
                  rw [z0.1]
                  refine ie_23 F k1 M h3 ?_
                  have dl := hE.2 c39
                  rw [lti, it] at c40
                  rw [g1]
                  exact Int32.toInt_inj.mp (by omega)
      · skip
        intro T41
        intro T42
        have A3 := ch_a9 W (ty_chAtlas W Ta0) J3.1 (fun f x z => by rcases F7 f x z with y | y <;> rw [y] <;> decide) H0
        refine At_chosen_c2 W35 T41 T42  ?_ (fun r43 q45 => ?_)
        · rw [J3.2.1 chAtlas (by decide) (by decide)]
          have ns : ∀ f x, dwF9 (zR κ chMachine a0) a0 f x → zT κ x ≠ 6 := fun f x z => by rcases F7 f x z with y | y <;> rw [y] <;> decide
          have rS3 : zR κ_33 atStates (zR κ chAtlas a0) = zR κ atStates (zR κ chAtlas a0) := J3.1.r (fun z => by
            have t3 := ty_chAtlas W Ta0
            rcases F7 _ _ z with y | y <;> rw [y] at t3 <;> exact absurd t3 (by decide))
          refine ⟨A3.1, fun z => A3.2.1 (M0 (by rw [← A3.2.2]; exact z)), fun z => ⟨?_, ?_⟩⟩
          · rw [A3.2.2] at z
            obtain ⟨n9, S9, _⟩ := hG.2.2.2.2.1.2 (fun y => z (hG.2.2.2.2.1.1.mpr y))
            rw [rS3]
            exact hoU_h6 (HS_z6 W (ty_atStates W (ty_chAtlas W Ta0)) J3.1 (fun f y => ns f _ y (ty_atStates W (ty_chAtlas W Ta0)))) S9.1
          · have yl := mO_m9 (D3 (Or.inr c37)).1
            rw [yl.1, J3.2.2.1.1.1]
            exact ⟨yl.2.2, yl.2.1⟩
        intro W46
        intro M47
        intro T48
        refine Ma_settle_q6 W46 T48  ?_ (fun κ_49 q50 => ?_)
        · exact ⟨J3.2.2.1, D3 (Or.inr c37)⟩  -- p32
        obtain ⟨q50, z9⟩ := q50
        intro W51
        intro M52
        refine hj158 _ _ _ _ _ _ _ _ _ W51 ?_ ?_
        · exact q50.1.1.t T33 (by decide)  -- t33
        · refine and_5 ?_ (fun o9 => ?_)  -- k34
          · refine ⟨rfl, rfl, rfl, pf_m9 W46 (J3.1.t tm (by decide)) J3 q50.1, fun z => ?_, ⟨b20, by omega⟩, rfl, by omega, by omega⟩
            rcases q50.2.2.1 with y | y
            · exact y
            · rw [y] at z
              exact absurd z (by decide)
          · refine ⟨⟨JJ.1, fun N tr v' F => ?_⟩, hE.2⟩
            obtain ⟨k1, y⟩ := JJ.2 N tr v' F
            rcases y with ⟨y, _⟩ | ⟨y, _⟩ | ⟨_, y⟩
            · rw [c37] at y; exact absurd y (by decide)
            · rw [c37] at y; exact absurd y (by decide)
            · refine ⟨k1, ?_⟩
              have rA3 := J3.2.1 chAtlas (by decide) (by decide)
              have tA := ty_chAtlas W Ta0
              have nA : ∀ f, ¬ dwF9 (zR κ chMachine a0) a0 f (zR κ chAtlas a0) := fun f z => by
                have t3 := tA
                rcases F7 _ _ z with q | q <;> rw [q] at t3 <;> exact absurd t3 (by decide)
              have nS : ∀ f, ¬ dwF9 (zR κ chMachine a0) a0 f (zR κ atStates (zR κ chAtlas a0)) := fun f z => by
                have t3 := ty_atStates W tA
                rcases F7 _ _ z with q | q <;> rw [q] at t3 <;> exact absurd t3 (by decide)
              have EX3 : EX21 κ_33 (zR κ chAtlas a0) w s σ9 := by
                obtain ⟨h1, h2⟩ := hG.2.2.2.2.1
                refine ⟨by rw [J3.1.i (nA atExplored)]; exact h1, fun q => ?_⟩
                obtain ⟨n9, S9, y1, y2, y3, y4⟩ := h2 q
                refine ⟨n9, ?_, y1, y2, ?_, y4⟩
                · rw [J3.1.r (nA atStates)]
                  exact SH_h6 (HS_z6 W (ty_atStates W tA) J3.1 nS) S9 rfl rfl
                · rw [(J3.1.row W (show zr atPlan = some 20 by decide +kernel) (by decide) (tA.trans (by decide)) (nA atPlan)).1]
                  exact y3
              rw [rA3] at q45
              exact ic_21 y EX3 q45 z9

end
