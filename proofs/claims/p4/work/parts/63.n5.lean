set_option maxHeartbeats 1600000
/-! the reference: program -/
abbrev zFF : List Nat := [0, 2, 3, 4, 10, 11, 12, 13, 14, 15, 16, 17, 18, 19, 40, 41, 42, 46, 47, 48, 49, 53, 55, 69, 70, 71, 72, 94, 106, 114]
abbrev zRR : List Nat := [5, 6, 7, 9, 20, 21, 22, 23, 24, 25, 26, 27, 28, 29, 30, 31, 32, 33, 34, 35, 36, 37, 38, 39, 43, 44, 45, 50, 51, 52, 54, 56]
theorem eB_mix {r r0 r1 : Nat → Int32} {lo hi : Int32} {n : Nat} (h0 : eB r0 lo hi) (h1 : eB r1 lo hi) (a : ∀ i, i < n → r i = r0 i) (b : ∀ j, n ≤ j → r j = r1 j) : eB r lo hi := by
  intro k
  by_cases h : k < n
  · rw [a k h]; exact h0 k
  · rw [b k (by omega)]; exact h1 k
theorem two_b {b c t T : Int32} (hb : b = 0 ∨ b = 65537) (hc : c = 0 ∨ c = 65537) (hne : c ≠ b) (hT : T < 131074) (hd : T.toInt - b.toInt ≤ 65536) (h1 : b ≤ t) (h2 : t ≤ T) : 0 ≤ t ∧ (t < c ∨ c + 65536 < t) := by
  have g2 := Int32.le_iff_toInt_le.mp h2
  rcases hb with rfl | rfl
  · rcases hc with rfl | rfl
    · exact absurd rfl hne
    · refine ⟨h1, Or.inl (Int32.lt_iff_toInt_lt.mpr ?_)⟩
      rw [show (65537 : Int32).toInt = 65537 from rfl]
      rw [show (0 : Int32).toInt = 0 from rfl] at hd
      omega
  · rcases hc with rfl | rfl
    · clear g2 hd; refine ⟨by grind, Or.inr (by grind)⟩
    · exact absurd rfl hne
/-- a program was read, or its reading failed and all is as before -/
def prQ (σ σ' : rS) : Prop := (σ'.1 3 = 0 ∨ σ'.1 3 = 65537) ∧ σ'.1 2 = 0 ∧ tyAll σ' ∧ (σ'.1 14 ≠ 0 → ∃ T, progOK σ' (σ'.1 3) T) ∧ frH zFF zRR σ σ' ∧ (((σ'.1 14 = σ.1 14 ∧ σ'.1 69 = σ.1 69 ∧ σ'.1 70 = σ.1 70 ∧ σ'.1 71 = σ.1 71 ∧ σ'.1 72 = σ.1 72 ∧ σ'.1 94 = σ.1 94 ∧ σ'.1 106 = σ.1 106 ∧ σ'.1 114 = σ.1 114)) ∨ (σ'.1 14 = 1 ∧ σ'.1 69 = 0 ∧ σ'.1 70 = 0 ∧ σ'.1 71 = 0 ∧ σ'.1 72 = 0 ∧ σ'.1 94 = 0 ∧ σ'.1 106 = -1 ∧ σ'.1 114 = 0))
theorem frZ_si {σ : rS} {k : Nat} {x : Int32} (hk : k ∈ zFF) : frH zFF zRR σ (siU σ k x) := ⟨fun q z => if_neg (fun e => z (by rw [e]; exact hk)), fun _ => rfl, fun _ _ => rfl, fun _ _ _ => rfl⟩
theorem frZ_q {σ τ : rS} (h : frH qFF qRR σ τ) : frH zFF zRR σ τ := ⟨fun k z => h.1 k (fun e => z ((by decide : ∀ k ∈ qFF, k ∈ zFF) k e)), h.2.1, fun k z => h.2.2.1 k (fun e => z ((by decide : ∀ k ∈ qRR, k ∈ zRR) k e)), h.2.2.2⟩
theorem ty_s {σ τ : rS} (h : tyAll σ) (hf : ∀ k, k = 15 ∨ k = 16 ∨ k = 17 ∨ k = 18 ∨ k = 19 ∨ k = 40 ∨ k = 41 ∨ k = 42 → τ.1 k = σ.1 k) (hr : ∀ k, k ≠ 54 → k ≠ 56 → τ.2.2.1 k = σ.2.2.1 k) : tyAll τ := by
  obtain ⟨h1, h3, h4, h5, h6⟩ := h
  refine ⟨?_, ?_, ?_, ?_, by rw [hr 37 (by decide) (by decide)]; exact h6⟩
  · show tyF _ _ _ _ _ _ _ _
    rw [hf 15 (by decide), hf 16 (by decide), hf 17 (by decide), hf 18 (by decide), hf 19 (by decide), hf 40 (by decide), hf 41 (by decide), hf 42 (by decide)]
    exact h1
  · show tyN _ _ _ _ _ _
    rw [hr 20 (by decide) (by decide), hr 22 (by decide) (by decide), hr 25 (by decide) (by decide), hr 28 (by decide) (by decide), hr 26 (by decide) (by decide), hr 27 (by decide) (by decide)]
    exact h3
  · show tyA _ _
    rw [hr 23 (by decide) (by decide), hr 24 (by decide) (by decide)]
    exact h4
  · show tyS _ _ _ _ _ _ _ _
    rw [hr 29 (by decide) (by decide), hr 33 (by decide) (by decide), hr 34 (by decide) (by decide), hr 35 (by decide) (by decide), hr 36 (by decide) (by decide), hr 38 (by decide) (by decide), hr 43 (by decide) (by decide), hr 44 (by decide) (by decide)]
    exact h5
theorem kept_s {σ τ υ : rS} (h : kept σ τ) (e : υ.2.2.1 54 = τ.2.2.1 54) : kept σ υ := by
  unfold kept at h ⊢
  rw [e]; exact h
theorem ty_back {σ σ7 υ : rS} (h : back σ σ7 υ) (h0 : tyAll σ) (h7 : tyAll σ7) : tyAll υ := by
  obtain ⟨b1, b15, b16, b17, b18, b19, b40, b3, b5, b6, b7, b8⟩ := h
  obtain ⟨f0, n0, a0, s0, t0⟩ := h0
  obtain ⟨f7, n7, a7, s7, t7⟩ := h7
  have m := fun (p : Nat × Nat × Nat) (hp : p ∈ kPt) lo hi (x0 : eB (σ.2.2.1 p.1) lo hi) (x7 : eB (σ7.2.2.1 p.1) lo hi) => eB_mix x0 x7 (b8 p hp).1 (b8 p hp).2
  have k43 : υ.2.2.1 43 = σ7.2.2.1 43 := b7 43 (by decide) (by decide)
  have k44 : υ.2.2.1 44 = σ7.2.2.1 44 := b7 44 (by decide) (by decide)
  refine ⟨?_, ⟨m (20, 8, 10) (by decide) _ _ n0.1 n7.1, m (22, 28, 3) (by decide) _ _ n0.2.1 n7.2.1, m (25, 37, 10) (by decide) _ _ n0.2.2.1 n7.2.2.1, m (28, 67, 80) (by decide) _ _ n0.2.2.2.1 n7.2.2.2.1, m (26, 47, 10) (by decide) _ _ n0.2.2.2.2.1 n7.2.2.2.2.1, m (27, 57, 10) (by decide) _ _ n0.2.2.2.2.2 n7.2.2.2.2.2⟩, ⟨m (23, 31, 3) (by decide) _ _ a0.1 a7.1, m (24, 34, 3) (by decide) _ _ a0.2 a7.2⟩, ⟨m (29, 147, 10) (by decide) _ _ s0.1 s7.1, m (33, 607, 150) (by decide) _ _ s0.2.1 s7.2.1, m (34, 757, 150) (by decide) _ _ s0.2.2.1 s7.2.2.1, m (35, 907, 150) (by decide) _ _ s0.2.2.2.1 s7.2.2.2.1, m (36, 1057, 150) (by decide) _ _ s0.2.2.2.2.1 s7.2.2.2.2.1, m (38, 1357, 150) (by decide) _ _ s0.2.2.2.2.2.1 s7.2.2.2.2.2.1, by rw [k43]; exact s7.2.2.2.2.2.2.1, by rw [k44]; exact s7.2.2.2.2.2.2.2⟩, m (37, 1207, 150) (by decide) _ _ t0 t7⟩
  show tyF _ _ _ _ _ _ _ _
  rw [b15, b16, b17, b18, b19, b40, b1 41 (by decide) (by decide) (by decide) (by decide) (by decide) (by decide) (by decide) (by decide), b1 42 (by decide) (by decide) (by decide) (by decide) (by decide) (by decide) (by decide) (by decide)]
  have g0 : tyF (σ.1 15) (σ.1 16) (σ.1 17) (σ.1 18) (σ.1 19) (σ.1 40) (σ.1 41) (σ.1 42) := f0
  have g7 : tyF (σ7.1 15) (σ7.1 16) (σ7.1 17) (σ7.1 18) (σ7.1 19) (σ7.1 40) (σ7.1 41) (σ7.1 42) := f7
  clear b1 b5 b6 b7 b8 n0 n7 a0 a7 s0 s7 t0 t7 m f0 f7
  grind [tyF]
theorem program_c {C : rCx} (hC : cOK C)  {σ : rS}  {Q : Int32 → rS → Prop} (hp : (σ.1 3 = 0 ∨ σ.1 3 = 65537) ∧ 0 ≤ σ.1 2 ∧ σ.1 2 ≤ 65536 ∧ tyAll σ ∧ (σ.1 14 ≠ 0 → ∃ T, progOK σ (σ.1 3) T)) (h : ∀ (v : Int32) (σ' : rS), (prQ σ σ') → Q v σ') : cI C 13 m_program [.ref (co C)] σ Q := by
  refine m_program_run hC ?_
  unfold w_program_0
  obtain ⟨hb, hs0, hs1, hT, hP⟩ := hp
  intro σ_1 hσ_1
  refine swingAll_c_s hC  (fun σ_2 q3 => ?_)
  have e1 : ∀ k, k ≠ 0 → σ_1.1 k = σ.1 k := fun k hk => by rw [hσ_1, si1, if_neg hk]
  have s1 : σ_1.2 = σ.2 := by rw [hσ_1, si2]
  have e2 : ∀ k, k ≠ 0 → k ≠ 55 → σ_2.1 k = σ.1 k := fun k z1 z2 => (q3.1.1 k z2).trans (e1 k z1)
  have r2 : ∀ k, k ≠ 54 → k ≠ 56 → σ_2.2.2.1 k = σ.2.2.1 k := fun k z1 z2 => (q3.1.2.2.1 k z1 z2).trans (by rw [s1])
  have T1 : tyAll σ_1 := ty_s hT (fun k hk => e1 k (by omega)) (fun k _ _ => by rw [s1])
  have T2 : tyAll σ_2 := ty_s hT (fun k hk => e2 k (by omega) (by omega)) r2
  have F2 : frH zFF zRR σ σ_2 := ⟨fun k z => e2 k (fun e => z (by rw [e]; decide)) (fun e => z (by rw [e]; decide)), fun k => (q3.1.2.1 k).trans (by rw [s1]), fun k z => r2 k (fun e => z (by rw [e]; decide)) (fun e => z (by rw [e]; decide)), fun k j _ => (q3.1.2.2.2.2 k j).trans (by rw [s1])⟩
  refine tellProgram_c hC  ?_ (fun σ_4 q5 => ?_)
  · clear h; exact ⟨by rw [e2 3 (by decide) (by decide)]; exact hb, by rw [e2 2 (by decide) (by decide)]; exact hs0, by rw [e2 2 (by decide) (by decide)]; exact hs1, T2⟩  -- p1
  intro σ_6 hσ_6
  intro σ_7 hσ_7
  obtain ⟨t1, t2, t3, t4, t5, t6, t7⟩ := q5
  have e7 : ∀ k, k ≠ 2 → k ≠ 53 → σ_7.1 k = σ_4.1 k := fun k z1 z2 => by rw [hσ_7, si1, if_neg z2, hσ_6, si1, if_neg z1]
  have v7 : σ_7.1 2 = 0 := by rw [hσ_7, si1, if_neg (by decide), hσ_6, si1, if_pos rfl]
  have s7 : σ_7.2 = σ_4.2 := by rw [hσ_7, si2, hσ_6, si2]
  have F7 : frH zFF zRR σ σ_7 := frH_tr F2 (frH_tr (frZ_q t1) (by rw [hσ_7, hσ_6]; exact frH_tr (frZ_si (by decide)) (frZ_si (by decide))))
  have T7 : tyAll σ_7 := ty_s t2 (fun k hk => e7 k (by omega) (by omega)) (fun k _ _ => by rw [s7])
  have k7 : ∀ k, k ∉ qFF → k ≠ 0 → k ≠ 55 → k ≠ 2 → k ≠ 53 → σ_7.1 k = σ.1 k := fun k z1 z2 z3 z4 z5 => (e7 k z4 z5).trans ((t1.1 k z1).trans (e2 k z2 z3))
  refine ⟨fun c8 => ?_, fun c8 => ?_⟩
  · skip
    intro σ_9 hσ_9
    intro σ_10 hσ_10
    intro σ_11 hσ_11
    intro σ_12 hσ_12
    intro σ_13 hσ_13
    intro σ_14 hσ_14
    intro σ_15 hσ_15
    intro σ_16 hσ_16
    refine h _ _ ?_
    · clear h; have s16 : σ_16.2 = σ_4.2 := by rw [hσ_16, si2, hσ_15, si2, hσ_14, si2, hσ_13, si2, hσ_12, si2, hσ_11, si2, hσ_10, si2, hσ_9, si2]; exact s7
      have e16 : ∀ k, k ≠ 14 → k ≠ 69 → k ≠ 94 → k ≠ 114 → k ≠ 106 → k ≠ 70 → k ≠ 71 → k ≠ 72 → σ_16.1 k = σ_7.1 k := fun k z1 z2 z3 z4 z5 z6 z7 z8 => by rw [hσ_16, si1, if_neg z8, hσ_15, si1, if_neg z7, hσ_14, si1, if_neg z6, hσ_13, si1, if_neg z5, hσ_12, si1, if_neg z4, hσ_11, si1, if_neg z3, hσ_10, si1, if_neg z2, hσ_9, si1, if_neg z1]
      have e4 : ∀ k, k ≠ 2 → k ≠ 53 → k ≠ 14 → k ≠ 69 → k ≠ 94 → k ≠ 114 → k ≠ 106 → k ≠ 70 → k ≠ 71 → k ≠ 72 → σ_16.1 k = σ_4.1 k := fun k y1 y2 z1 z2 z3 z4 z5 z6 z7 z8 => (e16 k z1 z2 z3 z4 z5 z6 z7 z8).trans (e7 k y1 y2)
      have f0 : σ_4.1 11 = 0 := by
        rw [e7 11 (by decide) (by decide)] at c8
        exact Int32.le_antisymm c8 t7
      obtain ⟨T, pk⟩ := t6 f0
      have d3 := e4 3 (by decide) (by decide) (by decide) (by decide) (by decide) (by decide) (by decide) (by decide) (by decide) (by decide)
      refine ⟨by rw [d3]; exact t3, by rw [e16 2 (by decide) (by decide) (by decide) (by decide) (by decide) (by decide) (by decide) (by decide)]; exact v7, ?_, fun _ => ⟨T, ?_⟩, ?_, Or.inr ⟨?_, ?_, ?_, ?_, ?_, ?_, ?_, ?_⟩⟩
      · exact ty_s t2 (fun k hk => e4 k (by omega) (by omega) (by omega) (by omega) (by omega) (by omega) (by omega) (by omega) (by omega) (by omega)) (fun k _ _ => by rw [s16])
      · rw [d3]
        exact progOK_L t2 pk (fun t _ _ => by rw [s16]) (fun t _ _ => by rw [s16]) (fun t _ _ => by rw [s16]) (e4 18 (by decide) (by decide) (by decide) (by decide) (by decide) (by decide) (by decide) (by decide) (by decide) (by decide)) (e4 19 (by decide) (by decide) (by decide) (by decide) (by decide) (by decide) (by decide) (by decide) (by decide) (by decide)) (e4 40 (by decide) (by decide) (by decide) (by decide) (by decide) (by decide) (by decide) (by decide) (by decide) (by decide)) (fun k _ j _ => by rw [s16]) (fun k _ j _ => by rw [s16])
      · refine frH_tr F7 ⟨fun k z => e16 k ?_ ?_ ?_ ?_ ?_ ?_ ?_ ?_, fun k => by rw [s16, s7], fun k _ => by rw [s16, s7], fun k j _ => by rw [s16, s7]⟩ <;> exact fun e => z (by rw [e]; decide)
      · rw [hσ_16, si1, if_neg (by decide), hσ_15, si1, if_neg (by decide), hσ_14, si1, if_neg (by decide), hσ_13, si1, if_neg (by decide), hσ_12, si1, if_neg (by decide), hσ_11, si1, if_neg (by decide), hσ_10, si1, if_neg (by decide), hσ_9, si1, if_pos rfl]
      · rw [hσ_16, si1, if_neg (by decide), hσ_15, si1, if_neg (by decide), hσ_14, si1, if_neg (by decide), hσ_13, si1, if_neg (by decide), hσ_12, si1, if_neg (by decide), hσ_11, si1, if_neg (by decide), hσ_10, si1, if_pos rfl]
      · rw [hσ_16, si1, if_neg (by decide), hσ_15, si1, if_neg (by decide), hσ_14, si1, if_pos rfl]
      · rw [hσ_16, si1, if_neg (by decide), hσ_15, si1, if_pos rfl]
      · rw [hσ_16, si1, if_pos rfl]
      · rw [hσ_16, si1, if_neg (by decide), hσ_15, si1, if_neg (by decide), hσ_14, si1, if_neg (by decide), hσ_13, si1, if_neg (by decide), hσ_12, si1, if_neg (by decide), hσ_11, si1, if_pos rfl]
      · rw [hσ_16, si1, if_neg (by decide), hσ_15, si1, if_neg (by decide), hσ_14, si1, if_neg (by decide), hσ_13, si1, if_pos rfl]
      · rw [hσ_16, si1, if_neg (by decide), hσ_15, si1, if_neg (by decide), hσ_14, si1, if_neg (by decide), hσ_13, si1, if_neg (by decide), hσ_12, si1, if_pos rfl]
  · skip
    refine swingAll_c_b hC σ_1 ?_ (fun σ_17 q18 => ?_)
    · clear h; exact kept_s q3.2 (by rw [s7]; exact t1.2.2.1 54 (by decide))  -- p3
    refine h _ _ ?_
    · clear h; have T17 := ty_back q18 T1 T7
      obtain ⟨b1, b15, b16, b17, b18, b19, b40, b3, b5, b6, b7, b8⟩ := q18
      have bf : ∀ k, k ∉ [55, 15, 16, 17, 18, 19, 40, 3] → σ_17.1 k = σ_7.1 k := fun k z => b1 k (fun e => z (by rw [e]; decide)) (fun e => z (by rw [e]; decide)) (fun e => z (by rw [e]; decide)) (fun e => z (by rw [e]; decide)) (fun e => z (by rw [e]; decide)) (fun e => z (by rw [e]; decide)) (fun e => z (by rw [e]; decide)) (fun e => z (by rw [e]; decide))
      have d3 : σ_17.1 3 = σ.1 3 := b3.trans (e1 3 (by decide))
      have kk : ∀ k, k ∉ [55, 15, 16, 17, 18, 19, 40, 3] → k ∉ qFF → k ≠ 0 → k ≠ 55 → k ≠ 2 → k ≠ 53 → σ_17.1 k = σ.1 k := fun k z1 z2 z3 z4 z5 z6 => (bf k z1).trans (k7 k z2 z3 z4 z5 z6)
      have d14 : σ_17.1 14 = σ.1 14 := kk 14 (by decide) (by decide) (by decide) (by decide) (by decide) (by decide)
      refine ⟨by rw [d3]; exact hb, by rw [bf 2 (by decide)]; exact v7, T17, fun z => ?_, ?_, Or.inl ⟨d14, kk 69 (by decide) (by decide) (by decide) (by decide) (by decide) (by decide), kk 70 (by decide) (by decide) (by decide) (by decide) (by decide) (by decide), kk 71 (by decide) (by decide) (by decide) (by decide) (by decide) (by decide), kk 72 (by decide) (by decide) (by decide) (by decide) (by decide) (by decide), kk 94 (by decide) (by decide) (by decide) (by decide) (by decide) (by decide), kk 106 (by decide) (by decide) (by decide) (by decide) (by decide) (by decide), kk 114 (by decide) (by decide) (by decide) (by decide) (by decide) (by decide)⟩⟩
      · rw [d14] at z
        obtain ⟨T, pk⟩ := hP z
        have tok : ∀ k, k = 5 ∨ k = 7 ∨ k = 39 → lc (σ.2.2.1 k) (σ_17.2.2.1 k) (σ.1 3) T := fun k hk t ht ht2 => by
          have w := two_b hb t3 (by rw [← e2 3 (by decide) (by decide)]; exact t4) pk.2.2.1 pk.2.2.2.1 ht ht2
          have x := t5 k (by omega) t w.1 w.2
          have y : σ_17.2.2.1 k = σ_4.2.2.1 k := by
            rcases hk with rfl | rfl | rfl
            · rw [b7 5 (by decide) (by decide), s7]
            · rw [b7 7 (by decide) (by decide), s7]
            · rw [b7 39 (by decide) (by decide), s7]
          rw [y]
          refine x.trans ?_
          rw [rd, r2 k (by omega) (by omega)]
        have rw1 : ∀ p ∈ kPt, ∀ j, j < p.2.2 → σ_17.2.2.1 p.1 j = σ.2.2.1 p.1 j := fun p hp j hj => by rw [(b8 p hp).1 j hj, s1]
        refine ⟨T, ?_⟩
        rw [d3]
        refine progOK_L hT pk (tok 5 (by decide)) (tok 7 (by decide)) (tok 39 (by decide)) (b18.trans (e1 18 (by decide))) (b19.trans (e1 19 (by decide))) (b40.trans (e1 40 (by decide))) (fun k hk j hj => ?_) (fun k hk j hj => ?_)
        · rcases hk with rfl | rfl | rfl | rfl | rfl | rfl | rfl | rfl
          · exact rw1 (30, 157, 150) (by decide) j hj
          · exact rw1 (31, 307, 150) (by decide) j hj
          · exact rw1 (32, 457, 150) (by decide) j hj
          · exact rw1 (33, 607, 150) (by decide) j hj
          · exact rw1 (34, 757, 150) (by decide) j hj
          · exact rw1 (35, 907, 150) (by decide) j hj
          · exact rw1 (36, 1057, 150) (by decide) j hj
          · exact rw1 (37, 1207, 150) (by decide) j hj
        · rcases hk with rfl | rfl
          · exact rw1 (26, 47, 10) (by decide) j hj
          · exact rw1 (29, 147, 10) (by decide) j hj
      · refine frH_tr F7 ⟨fun k z => bf k (fun e => z ((by decide : ∀ q ∈ [55, 15, 16, 17, 18, 19, 40, 3], q ∈ zFF) k e)), b5, fun k z => b7 k (fun e => z (by rw [e]; decide)) (fun p hp e => z (by rw [← e]; exact (by decide : ∀ p ∈ kPt, p.1 ∈ zRR) p hp)), fun k j _ => b6 k j⟩
