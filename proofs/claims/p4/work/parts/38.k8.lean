set_option maxHeartbeats 1600000
/-! the reference: declarations, blocks, a new statement -/
theorem eB_upd {r : Nat → Int32} {lo hi x : Int32} {i : Nat} (h : eB r lo hi) (h1 : lo ≤ x) (h2 : x < hi) : eB (upd r i x) lo hi := by
  intro k
  unfold upd
  split
  · exact ⟨h1, h2⟩
  · exact h k
/-- ranges of a program's rows: statements -/
def tyS (r29 r33 r34 r35 r36 r38 r43 r44 : Nat → Int32) : Prop := eB r29 (-1) 150 ∧ eB r33 (-1) 150 ∧ eB r34 (-1) 150 ∧ eB r35 (-1) 150 ∧ eB r36 (-1) 150 ∧ eB r38 0 10 ∧ eB r43 (-1) 150 ∧ eB r44 (-1) 150
abbrev tS (σ : rS) : Prop := tyS (σ.2.2.1 29) (σ.2.2.1 33) (σ.2.2.1 34) (σ.2.2.1 35) (σ.2.2.1 36) (σ.2.2.1 38) (σ.2.2.1 43) (σ.2.2.1 44)
/-- the links of a statement lie below n -/
def lkS (σ : rS) (j : Nat) (n : Int32) : Prop := σ.2.2.1 33 j < n ∧ σ.2.2.1 34 j < n ∧ σ.2.2.1 35 j < n
/-- links stay below the number of statements while one statement is added -/
def lkN (σ τ : rS) : Prop := (∀ j, lkS σ j (σ.1 19) → lkS τ j (τ.1 19)) ∧ lkS τ (σ.1 19).toNatClampNeg (τ.1 19) ∧ (∀ j, σ.2.2.1 29 j < σ.1 19 → τ.2.2.1 29 j < τ.1 19)
theorem lkS_w {σ : rS} {k i j : Nat} {s n : Int32} (h : lkS σ j n) (hs : s < n) : lkS (riU σ k i s) j n := by
  have w : ∀ q, σ.2.2.1 q j < n → (riU σ k i s).2.2.1 q j < n := fun q hq => by
    by_cases e : q = k
    · subst e
      rw [ri4]
      split
      · exact hs
      · exact hq
    · rw [ri3 e]; exact hq
  exact ⟨w _ h.1, w _ h.2.1, w _ h.2.2⟩
theorem lkN_w {σ τ : rS} {k i : Nat} {s : Int32} (h : lkN σ τ) (hs : s < τ.1 19) : lkN σ (riU τ k i s) := by
  refine ⟨fun j hj => lkS_w (h.1 j hj) hs, lkS_w h.2.1 hs, fun j hj => ?_⟩
  by_cases e : 29 = k
  · subst e
    rw [ri4]
    split
    · exact hs
    · exact h.2.2 j hj
  · rw [ri3 e]; exact h.2.2 j hj
theorem lkN_o {σ τ υ : rS} (h : lkN σ τ) (h29 : υ.2.2.1 29 = τ.2.2.1 29) (h33 : υ.2.2.1 33 = τ.2.2.1 33) (h34 : υ.2.2.1 34 = τ.2.2.1 34) (h35 : υ.2.2.1 35 = τ.2.2.1 35) (h19 : υ.1 19 = τ.1 19) : lkN σ υ := by
  unfold lkN lkS at h ⊢
  rw [h29, h33, h34, h35, h19]; exact h
theorem lkN_new {σ τ : rS} (h19 : τ.1 19 = σ.1 19 + 1) (h0 : 0 ≤ σ.1 19) (h1 : σ.1 19 < 150) (h29 : τ.2.2.1 29 = σ.2.2.1 29) (h33 : τ.2.2.1 33 = upd (σ.2.2.1 33) (σ.1 19).toNatClampNeg (-1)) (h34 : τ.2.2.1 34 = upd (σ.2.2.1 34) (σ.1 19).toNatClampNeg (-1)) (h35 : τ.2.2.1 35 = upd (σ.2.2.1 35) (σ.1 19).toNatClampNeg (-1)) : lkN σ τ := by
  have u : ∀ x : Int32, x < σ.1 19 → x < τ.1 19 := fun x hx => by rw [h19]; grind
  have v : (-1 : Int32) < τ.1 19 := by rw [h19]; grind
  have w : ∀ (r r' : Nat → Int32) j, r' = upd r (σ.1 19).toNatClampNeg (-1) → r j < σ.1 19 → r' j < τ.1 19 := fun r r' j e hj => by
    rw [e]; unfold upd; split
    · exact v
    · exact u _ hj
  have z : ∀ (r r' : Nat → Int32), r' = upd r (σ.1 19).toNatClampNeg (-1) → r' (σ.1 19).toNatClampNeg < τ.1 19 := fun r r' e => by
    rw [e]; unfold upd; rw [if_pos rfl]; exact v
  exact ⟨fun j hj => ⟨w _ _ j h33 hj.1, w _ _ j h34 hj.2.1, w _ _ j h35 hj.2.2⟩, ⟨z _ _ h33, z _ _ h34, z _ _ h35⟩, fun j hj => by rw [h29]; exact u _ hj⟩
theorem openBlock_c {C : rCx} (hC : cOK C)  {σ : rS} {a1 : Int32} {a2 : Int32} {Q : rS → Prop} (hp : 0 ≤ σ.1 42 ∧ σ.1 42 < 64 ∧ -1 ≤ a1 ∧ a1 < 150 ∧ tS σ) (h : ∀ (σ' : rS), (((∀ k, k ≠ 42 → σ'.1 k = σ.1 k) ∧ (∀ k,  σ'.2.1 k = σ.2.1 k) ∧ (∀ k, k ≠ 43 → k ≠ 44 → k ≠ 45 → σ'.2.2.1 k = σ.2.2.1 k) ∧ (∀ k j, k ≠ 43 → k ≠ 44 → k ≠ 45 → σ'.2.2.1 k j = σ.2.2.1 k j) ∧ (∀ k j,  σ'.2.2.2 k j = σ.2.2.2 k j)) ∧ tS σ' ∧ σ'.1 42 = σ.1 42 + 1 ∧ rd σ' 43 (σ.1 42) = a1 ∧ (∀ i : Int32, 0 ≤ i → i < σ.1 42 → rd σ' 43 i = rd σ 43 i)) → Q σ') : cV C 0 m_openBlock [.ref (co C), .int a1, .int a2] σ Q := by
  refine m_openBlock_run hC ?_
  unfold w_openBlock_0
  refine ⟨ib_64.mpr ?_, ?_⟩
  · clear h; grind (splits := 24) [si1, si2, ri1, ri2, ri3, ri34, ri5, ri_row, eB_upd]  -- b1
  intro σ_1 hσ_1
  refine ⟨ib_64.mpr ?_, ?_⟩
  · clear h; grind (splits := 24) [si1, si2, ri1, ri2, ri3, ri34, ri5, ri_row, eB_upd]  -- b2
  intro σ_2 hσ_2
  refine ⟨ib_64.mpr ?_, ?_⟩
  · clear h; grind (splits := 24) [si1, si2, ri1, ri2, ri3, ri34, ri5, ri_row, eB_upd]  -- b3
  intro σ_3 hσ_3
  intro σ_4 hσ_4
  refine h _ ?_
  · clear h; refine ⟨by grind [si1, si2, ri1, ri2, ri3, ri34, ri5], by grind [si1, si2, ri1, ri3, ri_row, eB_upd, tyS], by grind [si1, ri1], by grind [si1, si2, ri1, ri34], fun i hi hj => ?_⟩
    have := cn_ne hi hj
    grind [si1, si2, ri1, ri34]

theorem newStatement_c {C : rCx} (hC : cOK C) (B T : Int32) {σ : rS} {a1 : Int32} {Q : Int32 → rS → Prop} (hp : tK σ B T ∧ tF σ ∧ tS σ ∧ 1 ≤ σ.1 42 ∧ σ.1 42 ≤ 64 ∧ rd σ 5 (σ.1 10) ≠ 5) (h : ∀ (v : Int32) (σ' : rS), (((∀ k, k ≠ 11 → k ≠ 12 → k ≠ 19 → σ'.1 k = σ.1 k) ∧ (∀ k,  σ'.2.1 k = σ.2.1 k) ∧ (∀ k, k ≠ 29 → k ≠ 30 → k ≠ 31 → k ≠ 32 → k ≠ 33 → k ≠ 34 → k ≠ 35 → k ≠ 36 → k ≠ 38 → k ≠ 44 → σ'.2.2.1 k = σ.2.2.1 k) ∧ (∀ k j, k ≠ 29 → k ≠ 30 → k ≠ 31 → k ≠ 32 → k ≠ 33 → k ≠ 34 → k ≠ 35 → k ≠ 36 → k ≠ 38 → k ≠ 44 → σ'.2.2.1 k j = σ.2.2.1 k j) ∧ (∀ k j,  σ'.2.2.2 k j = σ.2.2.2 k j)) ∧ tF σ' ∧ tS σ' ∧ 0 ≤ v ∧ v < 150 ∧ (σ'.1 11 = 0 → σ.1 11 = 0 ∧ v = σ.1 19 ∧ σ'.1 19 = σ.1 19 + 1 ∧ rd σ' 30 v = a1 ∧ rd σ' 31 v = σ.1 10 ∧ rd σ' 36 v = rd σ 43 (σ.1 42 - 1) ∧ (∀ j, j ≠ v.toNatClampNeg → σ'.2.2.1 30 j = σ.2.2.1 30 j ∧ σ'.2.2.1 31 j = σ.2.2.1 31 j ∧ σ'.2.2.1 32 j = σ.2.2.1 32 j ∧ σ'.2.2.1 36 j = σ.2.2.1 36 j) ∧ lkN σ σ') ∧ (σ.1 11 ≠ 0 → σ'.1 11 ≠ 0) ∧ (0 ≤ σ.1 11 → 0 ≤ σ'.1 11)) → Q v σ') : cI C 1 m_newStatement [.ref (co C), .int a1] σ Q := by
  refine m_newStatement_run hC ?_
  unfold w_newStatement_0
  have hj221 : ∀ (l2 : Int32) (l3 : Int32) (τ : rS), (((∀ k, k ≠ 11 → k ≠ 12 → k ≠ 19 → τ.1 k = σ.1 k) ∧ (∀ k,  τ.2.1 k = σ.2.1 k) ∧ (∀ k, k ≠ 29 → k ≠ 30 → k ≠ 31 → k ≠ 32 → k ≠ 33 → k ≠ 34 → k ≠ 35 → k ≠ 36 → k ≠ 38 → τ.2.2.1 k = σ.2.2.1 k) ∧ (∀ k j, k ≠ 29 → k ≠ 30 → k ≠ 31 → k ≠ 32 → k ≠ 33 → k ≠ 34 → k ≠ 35 → k ≠ 36 → k ≠ 38 → τ.2.2.1 k j = σ.2.2.1 k j) ∧ (∀ k j,  τ.2.2.2 k j = σ.2.2.2 k j)) ∧ tF τ ∧ tS τ ∧ 0 ≤ l2 ∧ l2 < 150 ∧ l3 = σ.1 42 - 1 ∧ (τ.1 11 = 0 ∧ σ.1 11 = 0) ∧ l2 = σ.1 19 ∧ τ.1 19 = σ.1 19 + 1 ∧ rd τ 30 l2 = a1 ∧ rd τ 31 l2 = σ.1 10 ∧ rd τ 36 l2 = rd σ 43 (σ.1 42 - 1) ∧ (∀ j, j ≠ l2.toNatClampNeg → τ.2.2.1 30 j = σ.2.2.1 30 j ∧ τ.2.2.1 31 j = σ.2.2.1 31 j ∧ τ.2.2.1 32 j = σ.2.2.1 32 j ∧ τ.2.2.1 36 j = σ.2.2.1 36 j) ∧ lkN σ τ) → w_newStatement_221 C Q  l2 l3 τ := by
    rintro y221_2 y221_3 τ221 j221
    unfold w_newStatement_221
    refine ⟨ib_64.mpr ?_, ?_⟩
    · clear h; grind (splits := 24) [si1, si2, ri1, ri2, ri3, ri34, ri5, ri_row, eB_upd, tyF, tyS, tK, lkN_w]  -- b1
    intro σ_1 hσ_1
    refine h _ _ ?_
    · clear h; obtain ⟨jF, jf, js, j1, j2, j3, j4, j5, j6, j7, j8, j9, ja, jl⟩ := j221
      have ts : tS σ_1 := by clear jF jf ja jl; grind [ri3, ri_row, eB_upd, tyS]
      have tf : tF σ_1 := by clear jF js ja jl; grind [ri1]
      refine ⟨by clear js jf ja jl; grind [ri1, ri2, ri3, ri34, ri5], tf, ts, j1, j2, fun _ => ⟨?_, j5, ?_, ?_, ?_, ?_, ?_, ?_⟩, fun z => ?_, fun _ => ?_⟩
      · exact j4.2
      · rw [hσ_1, ri1]; exact j6
      · rw [hσ_1]; exact (congrFun (ri3 (by decide)) _).trans j7
      · rw [hσ_1]; exact (congrFun (ri3 (by decide)) _).trans j8
      · rw [hσ_1]; exact (congrFun (ri3 (by decide)) _).trans j9
      · intro j hj
        rw [hσ_1]
        exact ⟨(congrFun (ri3 (by decide)) _).trans (ja j hj).1, (congrFun (ri3 (by decide)) _).trans (ja j hj).2.1, (congrFun (ri3 (by decide)) _).trans (ja j hj).2.2.1, (congrFun (ri3 (by decide)) _).trans (ja j hj).2.2.2⟩
      · rw [hσ_1]; exact lkN_o jl (ri3 (by decide)) (ri3 (by decide)) (ri3 (by decide)) (ri3 (by decide)) ri1
      · exact absurd j4.2 z
      · rw [hσ_1, ri1, j4.1]; decide
  have hj51 : ∀ (l1 : Int32) (s0 : Int32) (τ : rS), (l1 = a1 ∧ ((∀ k, k ≠ 11 → k ≠ 12 → τ.1 k = σ.1 k) ∧ τ.2 = σ.2) ∧ (τ.1 11 = 0 → σ.1 11 = 0 ∧ s0 = σ.1 19 ∧ σ.1 19 < 150) ∧ (σ.1 11 ≠ 0 → τ.1 11 ≠ 0) ∧ 0 ≤ s0 ∧ s0 < 150 ∧ (0 ≤ σ.1 11 → 0 ≤ τ.1 11)) → w_newStatement_51 C Q  l1 s0 τ := by
    rintro y51_1 y51_s0 τ51 j51
    unfold w_newStatement_51
    refine isRight_c hC  (fun r2 q4 => ?_)
    refine ⟨fun c5 => ?_, fun c5 => ?_⟩
    · skip
      intro σ_6 hσ_6
      refine ⟨ib_150.mpr ?_, ?_⟩
      · clear h; grind (splits := 24) [si1, si2, ri1, ri2, ri3, ri34, ri5, ri_row, eB_upd, tyF, tyS, tK, lkN_w]  -- b3
      intro σ_7 hσ_7
      refine ⟨ib_150.mpr ?_, ?_⟩
      · clear h; grind (splits := 24) [si1, si2, ri1, ri2, ri3, ri34, ri5, ri_row, eB_upd, tyF, tyS, tK, lkN_w]  -- b4
      intro σ_8 hσ_8
      refine ⟨ib_150.mpr ?_, ?_⟩
      · clear h; grind (splits := 24) [si1, si2, ri1, ri2, ri3, ri34, ri5, ri_row, eB_upd, tyF, tyS, tK, lkN_w]  -- b5
      intro σ_9 hσ_9
      refine ⟨ib_150.mpr ?_, ?_⟩
      · clear h; grind (splits := 24) [si1, si2, ri1, ri2, ri3, ri34, ri5, ri_row, eB_upd, tyF, tyS, tK, lkN_w]  -- b6
      intro σ_10 hσ_10
      refine ⟨ib_150.mpr ?_, ?_⟩
      · clear h; grind (splits := 24) [si1, si2, ri1, ri2, ri3, ri34, ri5, ri_row, eB_upd, tyF, tyS, tK, lkN_w]  -- b7
      intro σ_11 hσ_11
      refine ⟨ib_150.mpr ?_, ?_⟩
      · clear h; grind (splits := 24) [si1, si2, ri1, ri2, ri3, ri34, ri5, ri_row, eB_upd, tyF, tyS, tK, lkN_w]  -- b8
      intro σ_12 hσ_12
      refine ⟨ib_150.mpr ?_, ?_⟩
      · clear h; grind (splits := 24) [si1, si2, ri1, ri2, ri3, ri34, ri5, ri_row, eB_upd, tyF, tyS, tK, lkN_w]  -- b9
      intro σ_13 hσ_13
      intro x14 hx14
      refine ⟨ib_64.mpr ?_, ?_⟩
      · clear h; grind (splits := 24) [si1, si2, ri1, ri2, ri3, ri34, ri5, ri_row, eB_upd, tyF, tyS, tK, lkN_w]  -- b10
      intro x15 hx15
      refine ⟨ib_150.mpr ?_, ?_⟩
      · clear h; grind (splits := 24) [si1, si2, ri1, ri2, ri3, ri34, ri5, ri_row, eB_upd, tyF, tyS, tK, lkN_w]  -- b11
      intro σ_16 hσ_16
      refine ⟨ib_64.mpr ?_, ?_⟩
      · clear h; grind (splits := 24) [si1, si2, ri1, ri2, ri3, ri34, ri5, ri_row, eB_upd, tyF, tyS, tK, lkN_w]  -- b12
      have p0 : σ.1 11 = 0 ∧ y51_s0 = σ.1 19 ∧ σ.1 19 < 150 ∧ τ51.1 11 = 0 := by clear hσ_6 hσ_7 hσ_8 hσ_9 hσ_10 hσ_11 hσ_12 hσ_13 hσ_16; grind
      have p1 : ((∀ k, k ≠ 11 → k ≠ 12 → k ≠ 19 → σ_16.1 k = σ.1 k) ∧ (∀ k,  σ_16.2.1 k = σ.2.1 k) ∧ (∀ k, k ≠ 30 → k ≠ 31 → k ≠ 32 → k ≠ 33 → k ≠ 34 → k ≠ 35 → k ≠ 36 → k ≠ 38 → σ_16.2.2.1 k = σ.2.2.1 k) ∧ (∀ k j, k ≠ 30 → k ≠ 31 → k ≠ 32 → k ≠ 33 → k ≠ 34 → k ≠ 35 → k ≠ 36 → k ≠ 38 → σ_16.2.2.1 k j = σ.2.2.1 k j) ∧ (∀ k j,  σ_16.2.2.2 k j = σ.2.2.2 k j)) := by
        have b1 := j51.2.1
        have rw3 : ∀ k, k ≠ 30 → k ≠ 31 → k ≠ 32 → k ≠ 33 → k ≠ 34 → k ≠ 35 → k ≠ 36 → k ≠ 38 → σ_16.2.2.1 k = σ.2.2.1 k := by
          intro k w30 w31 w32 w33 w34 w35 w36 w38
          rw [hσ_16, ri3 w36, hσ_13, ri3 w35, hσ_12, ri3 w34, hσ_11, ri3 w33, hσ_10, ri3 w32, hσ_9, ri3 w31, hσ_8, ri3 w38, hσ_7, ri3 w30, hσ_6, si2, b1.2]
        refine ⟨fun k h1 h2 h3 => ?_, fun k => ?_, rw3, fun k j w30 w31 w32 w33 w34 w35 w36 w38 => congrFun (rw3 k w30 w31 w32 w33 w34 w35 w36 w38) j, fun k j => ?_⟩
        · rw [hσ_16, ri1, hσ_13, ri1, hσ_12, ri1, hσ_11, ri1, hσ_10, ri1, hσ_9, ri1, hσ_8, ri1, hσ_7, ri1, hσ_6, si1, if_neg h3]; exact b1.1 k h1 h2
        · rw [hσ_16, ri2, hσ_13, ri2, hσ_12, ri2, hσ_11, ri2, hσ_10, ri2, hσ_9, ri2, hσ_8, ri2, hσ_7, ri2, hσ_6, si2, b1.2]
        · rw [hσ_16, ri5, hσ_13, ri5, hσ_12, ri5, hσ_11, ri5, hσ_10, ri5, hσ_9, ri5, hσ_8, ri5, hσ_7, ri5, hσ_6, si2, b1.2]
      have p2 : tS σ_16 := by
        have z : tS σ_13 := by
          have y : tS σ := hp.2.2.1
          have y2 : tS τ51 := by clear hσ_6 hσ_7 hσ_8 hσ_9 hσ_10 hσ_11 hσ_12 hσ_13 hσ_16; grind
          have y3 : 0 ≤ σ_7.1 41 ∧ σ_7.1 41 < 10 := by clear hσ_8 hσ_9 hσ_10 hσ_11 hσ_12 hσ_13 hσ_16; grind [tyF, si1, ri1]
          clear hp p1; grind (gen := 30) [si2, ri3, ri_row, eB_upd, tyS]
        have z2 : -1 ≤ x15 ∧ x15 < 150 := by rw [hx15]; exact z.2.2.2.2.2.2.1 _
        clear hp p1 hσ_6 hσ_7 hσ_8 hσ_9 hσ_10 hσ_11 hσ_12 hσ_13; grind [ri3, ri_row, eB_upd, tyS]
      have p4 : σ_16.1 11 = 0 ∧ σ_16.1 19 = σ.1 19 + 1 ∧ x14 = σ.1 42 - 1 ∧ x15 = rd σ 43 (σ.1 42 - 1) ∧ rd σ_16 30 y51_s0 = a1 ∧ rd σ_16 31 y51_s0 = σ.1 10 ∧ rd σ_16 36 y51_s0 = x15 := by clear p1 p2; grind (gen := 30) [si1, si2, ri1, ri2, ri3, ri34, ri5]
      have p3 : tF σ_16 := by clear p2 hσ_6 hσ_7 hσ_8 hσ_9 hσ_10 hσ_11 hσ_12 hσ_13 hσ_16; grind [tyF]
      have p5 : ∀ j, j ≠ y51_s0.toNatClampNeg → σ_16.2.2.1 30 j = σ.2.2.1 30 j ∧ σ_16.2.2.1 31 j = σ.2.2.1 31 j ∧ σ_16.2.2.1 32 j = σ.2.2.1 32 j ∧ σ_16.2.2.1 36 j = σ.2.2.1 36 j := by clear p1 p2 p4; grind (gen := 30) [si1, si2, ri1, ri2, ri3, ri34, ri5]
      have p6 : -1 ≤ x15 ∧ x15 < 150 := by rw [hx15, show σ_13.2.2.1 43 = σ_16.2.2.1 43 from by rw [hσ_16, ri3 (by decide)]]; exact p2.2.2.2.2.2.2.1 _
      have p7 : -1 ≤ rd σ_16 44 x14 ∧ rd σ_16 44 x14 < 150 := p2.2.2.2.2.2.2.2 _
      have p8 : lkN σ σ_16 := by
        have b1 := j51.2.1
        have t19 : 0 ≤ σ.1 19 := by have := hp.2.1; clear p1 p2 p3 p4 p5 p6 p7 hσ_6 hσ_7 hσ_8 hσ_9 hσ_10 hσ_11 hσ_12 hσ_13 hσ_16 j51 hp b1; grind [tyF]
        refine lkN_new p4.2.1 t19 p0.2.2.1 ?_ ?_ ?_ ?_
        · exact p1.2.2.1 29 (by decide) (by decide) (by decide) (by decide) (by decide) (by decide) (by decide) (by decide)
        · rw [hσ_16, ri3 (by decide), hσ_13, ri3 (by decide), hσ_12, ri3 (by decide), hσ_11, ri_row, hσ_10, ri3 (by decide), hσ_9, ri3 (by decide), hσ_8, ri3 (by decide), hσ_7, ri3 (by decide), hσ_6, si2, b1.2, p0.2.1]
        · rw [hσ_16, ri3 (by decide), hσ_13, ri3 (by decide), hσ_12, ri_row, hσ_11, ri3 (by decide), hσ_10, ri3 (by decide), hσ_9, ri3 (by decide), hσ_8, ri3 (by decide), hσ_7, ri3 (by decide), hσ_6, si2, b1.2, p0.2.1]
        · rw [hσ_16, ri3 (by decide), hσ_13, ri_row, hσ_12, ri3 (by decide), hσ_11, ri3 (by decide), hσ_10, ri3 (by decide), hσ_9, ri3 (by decide), hσ_8, ri3 (by decide), hσ_7, ri3 (by decide), hσ_6, si2, b1.2, p0.2.1]
      have p9 : y51_s0 < σ_16.1 19 := by rw [p4.2.1, p0.2.1]; have := p0.2.2.1; clear p1 p2 p3 p4 p5 p6 p7 p8 hσ_6 hσ_7 hσ_8 hσ_9 hσ_10 hσ_11 hσ_12 hσ_13 hσ_16 j51 hp; grind
      clear hσ_6 hσ_7 hσ_8 hσ_9 hσ_10 hσ_11 hσ_12 hσ_13 hσ_16 j51
      refine ⟨fun c17 => ?_, fun c17 => ?_⟩
      · skip
        refine ⟨fun c18 => ?_, fun c18 => ?_⟩
        · skip
          refine ⟨ib_64.mpr ?_, ?_⟩
          · clear h; grind (splits := 24) [si1, si2, ri1, ri2, ri3, ri34, ri5, ri_row, eB_upd, tyF, tyS, tK, lkN_w]  -- b13
          refine ⟨fun c19 => ?_, fun c19 => ?_⟩
          · skip
            refine ⟨ib_150.mpr ?_, ?_⟩
            · clear h; grind (splits := 24) [si1, si2, ri1, ri2, ri3, ri34, ri5, ri_row, eB_upd, tyF, tyS, tK, lkN_w]  -- b14
            intro σ_20 hσ_20
            refine hj221 _ _ _ ?_
            · clear h; grind (splits := 24) [si1, si2, ri1, ri2, ri3, ri34, ri5, ri_row, eB_upd, tyF, tyS, tK, lkN_w]  -- k15
          · skip
            refine ⟨ib_150.mpr ?_, ?_⟩
            · clear h; grind (splits := 24) [si1, si2, ri1, ri2, ri3, ri34, ri5, ri_row, eB_upd, tyF, tyS, tK, lkN_w]  -- b16
            intro σ_21 hσ_21
            refine hj221 _ _ _ ?_
            · clear h; grind (splits := 24) [si1, si2, ri1, ri2, ri3, ri34, ri5, ri_row, eB_upd, tyF, tyS, tK, lkN_w]  -- k17
        · skip
          refine ⟨ib_10.mpr ?_, ?_⟩
          · clear h; grind (splits := 24) [si1, si2, ri1, ri2, ri3, ri34, ri5, ri_row, eB_upd, tyF, tyS, tK, lkN_w]  -- b18
          intro σ_22 hσ_22
          refine hj221 _ _ _ ?_
          · clear h; grind (splits := 24) [si1, si2, ri1, ri2, ri3, ri34, ri5, ri_row, eB_upd, tyF, tyS, tK, lkN_w]  -- k19
      · skip
        refine ⟨ib_64.mpr ?_, ?_⟩
        · clear h; grind (splits := 24) [si1, si2, ri1, ri2, ri3, ri34, ri5, ri_row, eB_upd, tyF, tyS, tK, lkN_w]  -- b20
        refine ⟨ib_150.mpr ?_, ?_⟩
        · clear h; grind (splits := 24) [si1, si2, ri1, ri2, ri3, ri34, ri5, ri_row, eB_upd, tyF, tyS, tK, lkN_w]  -- b21
        intro σ_23 hσ_23
        refine hj221 _ _ _ ?_
        · clear h; grind (splits := 24) [si1, si2, ri1, ri2, ri3, ri34, ri5, ri_row, eB_upd, tyF, tyS, tK, lkN_w]  -- k22
    · skip
      refine h _ _ ?_
      · clear h; grind (splits := 24) [si1, si2, ri1, ri2, ri3, ri34, ri5, ri_row, eB_upd, tyF, tyS, tK, lkN_w]  -- q23
  have hj33 : ∀ (l1 : Int32) (τ : rS), (l1 = a1 ∧ ((∀ k, k ≠ 11 → k ≠ 12 → τ.1 k = σ.1 k) ∧ τ.2 = σ.2) ∧ (τ.1 11 = 0 → σ.1 11 = 0 ∧ σ.1 19 < 150) ∧ (σ.1 11 ≠ 0 → τ.1 11 ≠ 0) ∧ (0 ≤ σ.1 11 → 0 ≤ τ.1 11)) → w_newStatement_33 C Q  l1 τ := by
    rintro y33_1 τ33 j33
    unfold w_newStatement_33
    refine ⟨fun c24 => ?_, fun c24 => ?_⟩
    · skip
      refine hj51 _ _ _ ?_
      · clear h; grind (splits := 24) [si1, si2, ri1, ri2, ri3, ri34, ri5, ri_row, eB_upd, tyF, tyS, tK, lkN_w]  -- k24
    · skip
      refine hj51 _ _ _ ?_
      · clear h; grind (splits := 24) [si1, si2, ri1, ri2, ri3, ri34, ri5, ri_row, eB_upd, tyF, tyS, tK, lkN_w]  -- k25
  refine ⟨ib_131074.mpr ?_, ?_⟩
  · clear h; grind (splits := 24) [si1, si2, ri1, ri2, ri3, ri34, ri5, ri_row, eB_upd, tyF, tyS, tK, lkN_w]  -- b26
  refine ⟨fun c25 => ?_, fun c25 => ?_⟩
  · skip
    refine hj33 _ _ ?_
    · clear h; grind (splits := 24) [si1, si2, ri1, ri2, ri3, ri34, ri5, ri_row, eB_upd, tyF, tyS, tK, lkN_w]  -- k27
  · skip
    refine ⟨fun c26 => ?_, fun c26 => ?_⟩
    · skip
      refine hj33 _ _ ?_
      · clear h; grind (splits := 24) [si1, si2, ri1, ri2, ri3, ri34, ri5, ri_row, eB_upd, tyF, tyS, tK, lkN_w]  -- k28
    · skip
      refine flaw_c hC  ?_ (fun σ_27 q28 => ?_)
      · clear h; grind (splits := 24) [si1, si2, ri1, ri2, ri3, ri34, ri5, ri_row, eB_upd, tyF, tyS, tK, lkN_w]  -- p29
      refine hj33 _ _ ?_
      · clear h; grind (splits := 24) [si1, si2, ri1, ri2, ri3, ri34, ri5, ri_row, eB_upd, tyF, tyS, tK, lkN_w]  -- k30

theorem tk_b {σ : rS} {B T : Int32} (h : tK σ B T) : 0 ≤ σ.1 10 ∧ σ.1 10 < 131074 := ⟨Int32.le_trans h.1 h.2.2.2.2.1, Int32.lt_of_le_of_lt h.2.2.2.2.2 h.2.2.1⟩
theorem lt1p {a b : Int32} (h0 : 0 ≤ a) (h1 : a < 131074) (e : b = a + 1) : a < b := by grind
theorem tk_fl {τ υ : rS} {B T : Int32} (h : tK τ B T) (q : ((∀ k, k ≠ 11 → k ≠ 12 → υ.1 k = τ.1 k) ∧ υ.2 = τ.2) ∧ (τ.1 11 ≠ 0 → υ = τ) ∧ υ.1 11 ≠ 0 ∧ (0 ≤ τ.1 11 → 0 ≤ υ.1 11)) : tK υ B T := by
  obtain ⟨t1, t2, t3, t4, t5, t6⟩ := h
  have e10 := q.1.1 10 (by decide) (by decide)
  exact ⟨t1, t2, t3, ⟨by rw [rd, q.1.2]; exact t4.1, q.2.2.2 t4.2.1, by rw [q.1.1 47 (by decide) (by decide)]; exact t4.2.2⟩, by rw [e10]; exact t5, by rw [e10]; exact t6⟩
theorem tellVar_c {C : rCx} (hC : cOK C) (B T : Int32) {σ : rS}  {Q : rS → Prop} (hp : tK σ B T ∧ tF σ ∧ tN σ ∧ rd σ 5 (σ.1 10) ≠ 5) (h : ∀ (σ' : rS), (((∀ k, k ≠ 10 → k ≠ 11 → k ≠ 12 → k ≠ 15 → σ'.1 k = σ.1 k) ∧ (∀ k,  σ'.2.1 k = σ.2.1 k) ∧ (∀ k, k ≠ 20 → k ≠ 21 → σ'.2.2.1 k = σ.2.2.1 k) ∧ (∀ k j, k ≠ 20 → k ≠ 21 → σ'.2.2.1 k j = σ.2.2.1 k j) ∧ (∀ k j,  σ'.2.2.2 k j = σ.2.2.2 k j)) ∧ tK σ' B T ∧ tF σ' ∧ tN σ' ∧ (σ'.1 11 = 0 → σ.1 11 = 0 ∧ σ.1 10 < σ'.1 10)) → Q σ') : cV C 4 m_tellVar [.ref (co C)] σ Q := by
  refine m_tellVar_run hC ?_
  unfold w_tellVar_0
  have hj87 : ∀ (l1 : Int32) (l2 : Int32) (τ : rS), (((∀ k, k ≠ 10 → k ≠ 11 → k ≠ 12 → τ.1 k = σ.1 k) ∧ τ.2 = σ.2) ∧ tK τ B T ∧ (τ.1 11 = 0 → σ.1 11 = 0 ∧ σ.1 10 < τ.1 10 ∧ σ.1 15 < 10) ∧ 0 ≤ l1 ∧ l1 < 131074) → w_tellVar_87 C Q  l1 l2 τ := by
    rintro y87_1 y87_2 τ87 j87
    unfold w_tellVar_87
    refine sign_c hC B T ?_ (fun σ_1 q2 => ?_)
    · clear h; grind (splits := 24) [si1, si2, ri1, ri2, ri3, ri34, ri5, ri_row, eB_upd, tyF, tyN, tK]  -- p1
    refine isRight_c hC  (fun r3 q5 => ?_)
    refine ⟨fun c6 => ?_, fun c6 => ?_⟩
    · skip
      refine h _ ?_
      · clear h; grind (splits := 24) [si1, si2, ri1, ri2, ri3, ri34, ri5, ri_row, eB_upd, tyF, tyN, tK]  -- q2
    · skip
      refine ⟨ib_10.mpr ?_, ?_⟩
      · clear h; grind (splits := 24) [si1, si2, ri1, ri2, ri3, ri34, ri5, ri_row, eB_upd, tyF, tyN, tK]  -- b3
      intro σ_7 hσ_7
      refine ⟨ib_10.mpr ?_, ?_⟩
      · clear h; grind (splits := 24) [si1, si2, ri1, ri2, ri3, ri34, ri5, ri_row, eB_upd, tyF, tyN, tK]  -- b4
      intro σ_8 hσ_8
      intro σ_9 hσ_9
      refine h _ ?_
      · clear h; have fS : ((∀ k, k ≠ 10 → k ≠ 11 → k ≠ 12 → σ_1.1 k = σ.1 k) ∧ σ_1.2 = σ.2) := by clear hσ_7 hσ_8 hσ_9; grind
        have f : σ.1 11 = 0 ∧ σ.1 10 < σ_1.1 10 ∧ σ.1 15 < 10 ∧ σ_1.1 11 = 0 ∧ 0 ≤ y87_1 ∧ y87_1 < 131074 := by clear hσ_7 hσ_8 hσ_9; grind [tK]
        have mT : tK σ_1 B T := q2.2.1
        obtain ⟨hK, hF, hN, -⟩ := hp
        clear q2 j87 q5
        refine ⟨by grind [si1, si2, ri1, ri2, ri3, ri34, ri5], by grind [tK, si1, si2, ri1, ri34], by clear hN; grind [tyF, si1, si2, ri1], by clear hF mT; grind [tyN, si2, ri3, ri_row, eB_upd], fun _ => ⟨f.1, by grind [si1, ri1]⟩⟩
  have hj82 : ∀ (l1 : Int32) (s0 : Int32) (τ : rS), (((∀ k, k ≠ 10 → k ≠ 11 → k ≠ 12 → τ.1 k = σ.1 k) ∧ τ.2 = σ.2) ∧ tK τ B T ∧ (τ.1 11 = 0 → σ.1 11 = 0 ∧ σ.1 10 < τ.1 10 ∧ σ.1 15 < 10 ∧ rd σ 5 (τ.1 10) = 2) ∧ 0 ≤ l1 ∧ l1 < 131074) → w_tellVar_82 C Q  l1 s0 τ := by
    rintro y82_1 y82_s0 τ82 j82
    unfold w_tellVar_82
    refine go_c hC B T ?_ (fun σ_10 q11 => ?_)
    · clear h; grind (splits := 24) [si1, si2, ri1, ri2, ri3, ri34, ri5, ri_row, eB_upd, tyF, tyN, tK]  -- p6
    refine hj87 _ _ _ ?_
    · clear h; grind (splits := 24) [si1, si2, ri1, ri2, ri3, ri34, ri5, ri_row, eB_upd, tyF, tyN, tK]  -- k7
  have hj53 : ∀ (l1 : Int32) (l3 : Int32) (τ : rS), (((∀ k, k ≠ 10 → k ≠ 11 → k ≠ 12 → τ.1 k = σ.1 k) ∧ τ.2 = σ.2) ∧ tK τ B T ∧ (τ.1 11 = 0 → σ.1 11 = 0 ∧ σ.1 10 < τ.1 10 ∧ σ.1 15 < 10) ∧ 0 ≤ l1 ∧ l1 < 131074) → w_tellVar_53 C Q  l1 l3 τ := by
    rintro y53_1 y53_3 τ53 j53
    unfold w_tellVar_53
    refine due_c hC B T ?_ (fun r12 σ_13 q14 => ?_)
    · clear h; grind (splits := 24) [si1, si2, ri1, ri2, ri3, ri34, ri5, ri_row, eB_upd, tyF, tyN, tK]  -- p8
    refine ⟨fun c15 => ?_, fun c15 => ?_⟩
    · skip
      refine ⟨ib_131074.mpr ?_, ?_⟩
      · clear h; grind (splits := 24) [si1, si2, ri1, ri2, ri3, ri34, ri5, ri_row, eB_upd, tyF, tyN, tK]  -- b9
      refine hj82 _ _ _ ?_
      · clear h; grind (splits := 24) [si1, si2, ri1, ri2, ri3, ri34, ri5, ri_row, eB_upd, tyF, tyN, tK]  -- k10
    · skip
      refine ⟨ib_131074.mpr ?_, ?_⟩
      · clear h; grind (splits := 24) [si1, si2, ri1, ri2, ri3, ri34, ri5, ri_row, eB_upd, tyF, tyN, tK]  -- b11
      refine hj82 _ _ _ ?_
      · clear h; grind (splits := 24) [si1, si2, ri1, ri2, ri3, ri34, ri5, ri_row, eB_upd, tyF, tyN, tK]  -- k12
  refine go_c hC B T ?_ (fun σ_16 q17 => ?_)
  · clear h; grind (splits := 24) [si1, si2, ri1, ri2, ri3, ri34, ri5, ri_row, eB_upd, tyF, tyN, tK]  -- p13
  refine fresh_c hC B T ?_ (fun r18 σ_19 q20 => ?_)
  · clear h; grind (splits := 24) [si1, si2, ri1, ri2, ri3, ri34, ri5, ri_row, eB_upd, tyF, tyN, tK]  -- p14
  refine isRight_c hC  (fun r21 q23 => ?_)
  refine ⟨fun c24 => ?_, fun c24 => ?_⟩
  · skip
    refine hj87 _ _ _ ?_
    · clear h; grind (splits := 24) [si1, si2, ri1, ri2, ri3, ri34, ri5, ri_row, eB_upd, tyF, tyN, tK]  -- k15
  · skip
    refine isAt_c hC  ?_ (fun r25 q27 => ?_)
    · clear h; grind (splits := 24) [si1, si2, ri1, ri2, ri3, ri34, ri5, ri_row, eB_upd, tyF, tyN, tK]  -- p16
    refine ⟨fun c28 => ?_, fun c28 => ?_⟩
    · skip
      refine hj87 _ _ _ ?_
      · clear h; grind (splits := 24) [si1, si2, ri1, ri2, ri3, ri34, ri5, ri_row, eB_upd, tyF, tyN, tK]  -- k17
    · skip
      refine go_c hC B T ?_ (fun σ_29 q30 => ?_)
      · clear h; grind (splits := 24) [si1, si2, ri1, ri2, ri3, ri34, ri5, ri_row, eB_upd, tyF, tyN, tK]  -- p18
      refine isAt_c hC  ?_ (fun r31 q33 => ?_)
      · clear h; grind (splits := 24) [si1, si2, ri1, ri2, ri3, ri34, ri5, ri_row, eB_upd, tyF, tyN, tK]  -- p19
      refine ⟨fun c34 => ?_, fun c34 => ?_⟩
      · skip
        refine hj53 _ _ _ ?_
        · clear h; grind (splits := 24) [si1, si2, ri1, ri2, ri3, ri34, ri5, ri_row, eB_upd, tyF, tyN, tK]  -- k20
      · skip
        refine go_c hC B T ?_ (fun σ_35 q36 => ?_)
        · clear h; grind (splits := 24) [si1, si2, ri1, ri2, ri3, ri34, ri5, ri_row, eB_upd, tyF, tyN, tK]  -- p21
        refine hj53 _ _ _ ?_
        · clear h; grind (splits := 24) [si1, si2, ri1, ri2, ri3, ri34, ri5, ri_row, eB_upd, tyF, tyN, tK]  -- k22

theorem tellArr_c {C : rCx} (hC : cOK C) (B T : Int32) {σ : rS}  {Q : rS → Prop} (hp : tK σ B T ∧ tF σ ∧ tN σ ∧ tA σ ∧ rd σ 5 (σ.1 10) ≠ 5) (h : ∀ (σ' : rS), (((∀ k, k ≠ 10 → k ≠ 11 → k ≠ 12 → k ≠ 13 → k ≠ 16 → k ≠ 17 → σ'.1 k = σ.1 k) ∧ (∀ k,  σ'.2.1 k = σ.2.1 k) ∧ (∀ k, k ≠ 22 → k ≠ 23 → k ≠ 24 → σ'.2.2.1 k = σ.2.2.1 k) ∧ (∀ k j, k ≠ 22 → k ≠ 23 → k ≠ 24 → σ'.2.2.1 k j = σ.2.2.1 k j) ∧ (∀ k j,  σ'.2.2.2 k j = σ.2.2.2 k j)) ∧ tK σ' B T ∧ tF σ' ∧ tN σ' ∧ tA σ' ∧ (σ'.1 11 = 0 → σ.1 11 = 0 ∧ σ.1 10 < σ'.1 10 ∧ σ'.1 13 = σ.1 13)) → Q σ') : cV C 5 m_tellArr [.ref (co C)] σ Q := by
  refine m_tellArr_run hC ?_
  unfold w_tellArr_0
  have hj56 : ∀ (l1 : Int32) (l2 : Int32) (τ : rS), (((∀ k, k ≠ 10 → k ≠ 11 → k ≠ 12 → k ≠ 13 → τ.1 k = σ.1 k) ∧ τ.2 = σ.2) ∧ tK τ B T ∧ 0 ≤ l1 ∧ l1 < 131074 ∧ 0 ≤ l2 ∧ l2 < 131074 ∧ (τ.1 11 = 0 → σ.1 11 = 0 ∧ σ.1 10 < τ.1 10 ∧ σ.1 16 < 3 ∧ rd σ 5 (τ.1 10) = 2 ∧ 1 ≤ rd σ 7 l2 ∧ rd σ 7 l2 ≤ 8 ∧ τ.1 13 = σ.1 13 + 1)) → w_tellArr_56 C Q  l1 l2 τ := by
    rintro y56_1 y56_2 τ56 j56
    unfold w_tellArr_56
    refine go_c hC B T ?_ (fun σ_1 q2 => ?_)
    · clear h; grind (splits := 24) [tyF, tyN, tK, nb]  -- p1
    refine close_c hC B T ?_ (fun σ_3 q4 => ?_)
    · clear h; grind (splits := 24) [tyF, tyN, tK, nb]  -- p2
    refine sign_c hC B T ?_ (fun σ_5 q6 => ?_)
    · clear h; grind (splits := 24) [tyF, tyN, tK, nb]  -- p3
    refine isRight_c hC  (fun r7 q9 => ?_)
    refine ⟨fun c10 => ?_, fun c10 => ?_⟩
    · skip
      refine h _ ?_
      · clear h; grind (splits := 24) [tyF, tyN, tK, nb]  -- q4
    · skip
      refine ⟨ib_3.mpr ?_, ?_⟩
      · clear h; grind (splits := 24) [ri1, si1, tyF, tK, nb]  -- b5
      intro σ_11 hσ_11
      refine ⟨ib_131074.mpr ?_, ?_⟩
      · clear h; grind (splits := 24) [ri1, si1, tyF, tK, nb]  -- b6
      refine ⟨ib_3.mpr ?_, ?_⟩
      · clear h; grind (splits := 24) [ri1, si1, tyF, tK, nb]  -- b7
      intro σ_12 hσ_12
      refine ⟨ib_3.mpr ?_, ?_⟩
      · clear h; grind (splits := 24) [ri1, si1, tyF, tK, nb]  -- b8
      intro σ_13 hσ_13
      refine ⟨ib_131074.mpr ?_, ?_⟩
      · clear h; grind (splits := 24) [ri1, si1, tyF, tK, nb]  -- b9
      intro σ_14 hσ_14
      intro σ_15 hσ_15
      refine h _ ?_
      · clear h; have fS : ((∀ k, k ≠ 10 → k ≠ 11 → k ≠ 12 → k ≠ 13 → σ_5.1 k = σ.1 k) ∧ σ_5.2 = σ.2) := by clear hσ_11 hσ_12 hσ_13 hσ_14 hσ_15; grind
        have f : σ.1 11 = 0 ∧ σ.1 10 < σ_5.1 10 ∧ σ.1 16 < 3 ∧ σ_5.1 11 = 0 ∧ 0 ≤ y56_1 ∧ y56_1 < 131074 ∧ 1 ≤ rd σ 7 y56_2 ∧ rd σ 7 y56_2 ≤ 8 ∧ σ_5.1 13 = σ.1 13 := by clear hσ_11 hσ_12 hσ_13 hσ_14 hσ_15; grind [tK]
        have mT : tK σ_5 B T := q6.2.1
        obtain ⟨hK, hF, hN, hA, -⟩ := hp
        clear q2 q4 q6 j56 q9
        have e7 : rd σ_11 7 y56_2 = rd σ 7 y56_2 ∧ rd σ_13 7 y56_2 = rd σ 7 y56_2 := by clear hF hN hA mT; grind [si2, ri34]
        have e17 : σ_12.1 17 = σ.1 17 ∧ σ_12.1 16 = σ.1 16 ∧ σ_13.1 17 = σ.1 17 ∧ σ_14.1 16 = σ.1 16 := by clear hF hN hA mT e7; grind [si1, si2, ri1]
        refine ⟨by clear hF hN hA mT e7 e17; grind (gen := 20) [si1, si2, ri1, ri2, ri3, ri34, ri5], by clear hF hN hA e7 e17; grind (gen := 20) [tK, si1, si2, ri1, ri34], by clear hN hA mT; grind [tyF, si1, si2, ri1], by clear hF hA mT e7 e17; grind [tyN, si2, ri3, ri_row, eB_upd], ?_, fun _ => ⟨f.1, by clear hF hN hA mT e7; grind [si1, si2, ri1], by clear hF hN hA mT e7; grind [si1, si2, ri1]⟩⟩
        have h17 : 0 ≤ σ.1 17 ∧ σ.1 17 < 17 := by clear hN hA mT e7; grind [tyF]
        clear hF hN mT
        grind [tyA, si2, ri3, ri_row, eB_upd]
  refine go_c hC B T ?_ (fun σ_16 q17 => ?_)
  · clear h; grind (splits := 24) [tyF, tyN, tK, nb]  -- p11
  refine fresh_c hC B T ?_ (fun r18 σ_19 q20 => ?_)
  · clear h; grind (splits := 24) [tyF, tyN, tK, nb]  -- p12
  refine open_c hC B T ?_ (fun σ_21 q22 => ?_)
  · clear h; grind (splits := 24) [tyF, tyN, tK, nb]  -- p13
  refine due_c hC B T ?_ (fun r23 σ_24 q25 => ?_)
  · clear h; grind (splits := 24) [tyF, tyN, tK, nb]  -- p14
  have F : ((∀ k, k ≠ 10 → k ≠ 11 → k ≠ 12 → k ≠ 13 → σ_24.1 k = σ.1 k) ∧ σ_24.2 = σ.2) := ⟨fun k z1 z2 z3 z4 => (q25.1.1 k z2 z3).trans ((q22.1.1 k z1 z2 z3 z4).trans ((q20.1.1 k z1 z2 z3).trans (q17.1.1 k z1 z2 z3))), by rw [q25.1.2, q22.1.2, q20.1.2, q17.1.2]⟩
  have R : σ_21.2 = σ.2 := by rw [q22.1.2, q20.1.2, q17.1.2]
  have t16 := tk_b q17.2.1
  have t21 := tk_b q22.2.1
  have t0 := tk_b hp.1
  have t19 := tk_b q20.2.1
  have G : σ_24.1 11 = 0 → σ.1 11 = 0 ∧ σ.1 10 < σ_24.1 10 ∧ σ.1 16 < 3 ∧ rd σ 5 (σ_24.1 10) = 2 ∧ σ_24.1 13 = σ.1 13 + 1 := fun f => by
    obtain ⟨f1, f2⟩ := q25.2.2.2.2 f
    have e1 := q22.2.2.1.mp f1
    have e2 := q22.2.2.2 f1
    obtain ⟨f3, -, f5, f6, -⟩ := q20.2.2.2.2 e1.1
    have e4 := (q17.2.2.2.2.mp f3).1
    have e5 := q17.2.2.2.1 e4
    have l1 : σ.1 10 < σ_16.1 10 := lt1p t0.1 t0.2 e5
    have l2 : σ_16.1 10 < σ_19.1 10 := lt1p t16.1 t16.2 f6
    have l3 : σ_19.1 10 < σ_21.1 10 := lt1p t19.1 t19.2 e2.1
    have a24 : σ_24.1 10 = σ_21.1 10 := q25.1.1 10 (by decide) (by decide)
    refine ⟨e4, by rw [a24]; exact Int32.lt_trans l1 (Int32.lt_trans l2 l3), by rw [← q17.1.1 16 (by decide) (by decide) (by decide)]; exact f5, ?_, ?_⟩
    · rw [rd, R] at f2; rw [a24]; exact f2
    · rw [q25.1.1 13 (by decide) (by decide), e2.2, q20.1.1 13 (by decide) (by decide) (by decide), q17.1.1 13 (by decide) (by decide) (by decide)]
  have r18b : 0 ≤ r18 ∧ r18 < 131074 := by rw [q20.2.2.1]; exact t16
  have r23b : 0 ≤ r23 ∧ r23 < 131074 := by rw [q25.2.2.1]; exact t21
  refine isRight_c hC  (fun r26 q28 => ?_)
  refine ⟨fun c29 => ?_, fun c29 => ?_⟩
  · skip
    refine hj56 _ _ _ ?_
    · clear h; exact ⟨F, q25.2.1, r18b.1, r18b.2, r23b.1, r23b.2, fun f => absurd c29 (q28.2.mpr f)⟩  -- k15
  · skip
    refine ⟨ib_131074.mpr ?_, ?_⟩
    · clear h; exact r23b  -- b16
    refine within_c hC  (fun r30 q32 => ?_)
    refine ⟨fun c33 => ?_, fun c33 => ?_⟩
    · skip
      refine hj56 _ _ _ ?_
      · clear h; refine ⟨F, q25.2.1, r18b.1, r18b.2, r23b.1, r23b.2, fun f => ?_⟩
        obtain ⟨g1, g2, g3, g4, g5⟩ := G f
        have w := q32.2.mp c33
        rw [F.2] at w
        exact ⟨g1, g2, g3, g4, w.1, w.2, g5⟩
    · skip
      refine flaw_c hC  ?_ (fun σ_34 q35 => ?_)
      · clear h; exact ⟨r23b.1, r23b.2, by decide⟩  -- p18
      refine hj56 _ _ _ ?_
      · clear h; refine ⟨⟨fun k z1 z2 z3 z4 => (q35.1.1 k z2 z3).trans (F.1 k z1 z2 z3 z4), by rw [q35.1.2]; exact F.2⟩, tk_fl q25.2.1 q35, r18b.1, r18b.2, r23b.1, r23b.2, fun f => absurd f q35.2.2.1⟩  -- k19
