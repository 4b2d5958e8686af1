section
set_option maxHeartbeats 1600000
/-! the reference: declarations, blocks, a new statement -/
theorem eB_upd {r : Nat → Int32} {lo hi x : Int32} {i : Nat} (h : eB r lo hi) (h1 : lo ≤ x) (h2 : x < hi) : eB (upd r i x) lo hi := by
  intro k
  unfold upd
  split
  · exact ⟨h1, h2⟩
  · exact h k
/-- ranges of a program's rows: statements -/
def tyS (r29 r33 r34 r35 r36 r38 r43 r44 : Nat → Int32) : Prop := eB r29 (-1) 150 ∧ eB r33 (-1) 150 ∧ eB r34 (-1) 150 ∧ eB r35 (-1) 150 ∧ eB r36 (-1) 150 ∧ eB r38 0 10 ∧ eB r43 (-1) 150 ∧ eB r44 (-1) 150
abbrev tS (σ : rS) : Prop := tyS (σ.2.2.1 29) (σ.2.2.1 33) (σ.2.2.1 34) (σ.2.2.1 35) (σ.2.2.1 36) (σ.2.2.1 38) (σ.2.2.1 43) (σ.2.2.1 44)
/-- the links of a statement lie below n -/
def lkS (σ : rS) (j : Nat) (n : Int32) : Prop := σ.2.2.1 33 j < n ∧ σ.2.2.1 34 j < n ∧ σ.2.2.1 35 j < n
/-- links stay below the number of statements while one statement is added -/
def lkN (σ τ : rS) : Prop := (∀ j, lkS σ j (σ.1 19) → lkS τ j (τ.1 19)) ∧ lkS τ (σ.1 19).toNatClampNeg (τ.1 19) ∧ (∀ j, σ.2.2.1 29 j < σ.1 19 → τ.2.2.1 29 j < τ.1 19)
theorem lkS_w {σ : rS} {k i j : Nat} {s n : Int32} (h : lkS σ j n) (hs : s < n) : lkS (riU σ k i s) j n := by
  have w : ∀ q, σ.2.2.1 q j < n → (riU σ k i s).2.2.1 q j < n := fun q hq => by
    by_cases e : q = k
    · subst e
      rw [ri4]
      split
      · exact hs
      · exact hq
    · rw [ri3 e]; exact hq
  exact ⟨w _ h.1, w _ h.2.1, w _ h.2.2⟩
theorem lkN_w {σ τ : rS} {k i : Nat} {s : Int32} (h : lkN σ τ) (hs : s < τ.1 19) : lkN σ (riU τ k i s) := by
  refine ⟨fun j hj => lkS_w (h.1 j hj) hs, lkS_w h.2.1 hs, fun j hj => ?_⟩
  by_cases e : 29 = k
  · subst e
    rw [ri4]
    split
    · exact hs
    · exact h.2.2 j hj
  · rw [ri3 e]; exact h.2.2 j hj
theorem lkN_o {σ τ υ : rS} (h : lkN σ τ) (h29 : υ.2.2.1 29 = τ.2.2.1 29) (h33 : υ.2.2.1 33 = τ.2.2.1 33) (h34 : υ.2.2.1 34 = τ.2.2.1 34) (h35 : υ.2.2.1 35 = τ.2.2.1 35) (h19 : υ.1 19 = τ.1 19) : lkN σ υ := by
  unfold lkN lkS at h ⊢
  rw [h29, h33, h34, h35, h19]; exact h
theorem lkN_new {σ τ : rS} (h19 : τ.1 19 = σ.1 19 + 1) (h0 : 0 ≤ σ.1 19) (h1 : σ.1 19 < 150) (h29 : τ.2.2.1 29 = σ.2.2.1 29) (h33 : τ.2.2.1 33 = upd (σ.2.2.1 33) (σ.1 19).toNatClampNeg (-1)) (h34 : τ.2.2.1 34 = upd (σ.2.2.1 34) (σ.1 19).toNatClampNeg (-1)) (h35 : τ.2.2.1 35 = upd (σ.2.2.1 35) (σ.1 19).toNatClampNeg (-1)) : lkN σ τ := by
  have u : ∀ x : Int32, x < σ.1 19 → x < τ.1 19 := fun x hx => by rw [h19]; grind
  have v : (-1 : Int32) < τ.1 19 := by rw [h19]; grind
  have w : ∀ (r r' : Nat → Int32) j, r' = upd r (σ.1 19).toNatClampNeg (-1) → r j < σ.1 19 → r' j < τ.1 19 := fun r r' j e hj => by
    rw [e]; unfold upd; split
    · exact v
    · exact u _ hj
  have z : ∀ (r r' : Nat → Int32), r' = upd r (σ.1 19).toNatClampNeg (-1) → r' (σ.1 19).toNatClampNeg < τ.1 19 := fun r r' e => by
    rw [e]; unfold upd; rw [if_pos rfl]; exact v
  exact ⟨fun j hj => ⟨w _ _ j h33 hj.1, w _ _ j h34 hj.2.1, w _ _ j h35 hj.2.2⟩, ⟨z _ _ h33, z _ _ h34, z _ _ h35⟩, fun j hj => by rw [h29]; exact u _ hj⟩
theorem openBlock_c {C : rCx} (hC : cOK C)  {σ : rS} {a1 : Int32} {a2 : Int32} {Q : rS → Prop} (hp : 0 ≤ σ.1 42 ∧ σ.1 42 < 64 ∧ -1 ≤ a1 ∧ a1 < 150 ∧ tS σ) (h : ∀ (σ' : rS), (((∀ k, k ≠ 42 → σ'.1 k = σ.1 k) ∧ (∀ k,  σ'.2.1 k = σ.2.1 k) ∧ (∀ k, k ≠ 43 → k ≠ 44 → k ≠ 45 → σ'.2.2.1 k = σ.2.2.1 k) ∧ (∀ k j, k ≠ 43 → k ≠ 44 → k ≠ 45 → σ'.2.2.1 k j = σ.2.2.1 k j) ∧ (∀ k j,  σ'.2.2.2 k j = σ.2.2.2 k j)) ∧ tS σ' ∧ σ'.1 42 = σ.1 42 + 1 ∧ rd σ' 43 (σ.1 42) = a1 ∧ (∀ i : Int32, 0 ≤ i → i < σ.1 42 → rd σ' 43 i = rd σ 43 i)) → Q σ') : cV C 0 m_openBlock [.ref (co C), .int a1, .int a2] σ Q := by
  refine m_openBlock_run hC ?_
  unfold w_openBlock_0
  refine ⟨ib_64.mpr ?_, ?_⟩
  · clear h; grind (splits := 24) [si1, si2, ri1, ri2, ri3, ri34, ri5, ri_row, eB_upd]  -- b1
  intro σ_1 hσ_1
  refine ⟨ib_64.mpr ?_, ?_⟩
  · clear h; grind (splits := 24) [si1, si2, ri1, ri2, ri3, ri34, ri5, ri_row, eB_upd]  -- b2
  intro σ_2 hσ_2
  refine ⟨ib_64.mpr ?_, ?_⟩
  · clear h; grind (splits := 24) [si1, si2, ri1, ri2, ri3, ri34, ri5, ri_row, eB_upd]  -- b3
  intro σ_3 hσ_3
  intro σ_4 hσ_4
  refine h _ ?_
  · clear h; refine ⟨by grind [si1, si2, ri1, ri2, ri3, ri34, ri5], by grind [si1, si2, ri1, ri3, ri_row, eB_upd, tyS], by grind [si1, ri1], by grind [si1, si2, ri1, ri34], fun i hi hj => ?_⟩
    have := cn_ne hi hj
    grind [si1, si2, ri1, ri34]

theorem newStatement_c {C : rCx} (hC : cOK C) (B T : Int32) {σ : rS} {a1 : Int32} {Q : Int32 → rS → Prop} (hp : tK σ B T ∧ tF σ ∧ tS σ ∧ 1 ≤ σ.1 42 ∧ σ.1 42 ≤ 64 ∧ rd σ 5 (σ.1 10) ≠ 5) (h : ∀ (v : Int32) (σ' : rS), (((∀ k, k ≠ 11 → k ≠ 12 → k ≠ 19 → σ'.1 k = σ.1 k) ∧ (∀ k,  σ'.2.1 k = σ.2.1 k) ∧ (∀ k, k ≠ 29 → k ≠ 30 → k ≠ 31 → k ≠ 32 → k ≠ 33 → k ≠ 34 → k ≠ 35 → k ≠ 36 → k ≠ 38 → k ≠ 44 → σ'.2.2.1 k = σ.2.2.1 k) ∧ (∀ k j, k ≠ 29 → k ≠ 30 → k ≠ 31 → k ≠ 32 → k ≠ 33 → k ≠ 34 → k ≠ 35 → k ≠ 36 → k ≠ 38 → k ≠ 44 → σ'.2.2.1 k j = σ.2.2.1 k j) ∧ (∀ k j,  σ'.2.2.2 k j = σ.2.2.2 k j)) ∧ tF σ' ∧ tS σ' ∧ 0 ≤ v ∧ v < 150 ∧ (σ'.1 11 = 0 → σ.1 11 = 0 ∧ v = σ.1 19 ∧ σ'.1 19 = σ.1 19 + 1 ∧ rd σ' 30 v = a1 ∧ rd σ' 31 v = σ.1 10 ∧ rd σ' 36 v = rd σ 43 (σ.1 42 - 1) ∧ (∀ j, j ≠ v.toNatClampNeg → σ'.2.2.1 30 j = σ.2.2.1 30 j ∧ σ'.2.2.1 31 j = σ.2.2.1 31 j ∧ σ'.2.2.1 32 j = σ.2.2.1 32 j ∧ σ'.2.2.1 36 j = σ.2.2.1 36 j) ∧ lkN σ σ') ∧ (σ.1 11 ≠ 0 → σ'.1 11 ≠ 0) ∧ (0 ≤ σ.1 11 → 0 ≤ σ'.1 11)) → Q v σ') : cI C 1 m_newStatement [.ref (co C), .int a1] σ Q := by
  refine m_newStatement_run hC ?_
  unfold w_newStatement_0
  have hj221 : ∀ (l2 : Int32) (l3 : Int32) (τ : rS), (((∀ k, k ≠ 11 → k ≠ 12 → k ≠ 19 → τ.1 k = σ.1 k) ∧ (∀ k,  τ.2.1 k = σ.2.1 k) ∧ (∀ k, k ≠ 29 → k ≠ 30 → k ≠ 31 → k ≠ 32 → k ≠ 33 → k ≠ 34 → k ≠ 35 → k ≠ 36 → k ≠ 38 → τ.2.2.1 k = σ.2.2.1 k) ∧ (∀ k j, k ≠ 29 → k ≠ 30 → k ≠ 31 → k ≠ 32 → k ≠ 33 → k ≠ 34 → k ≠ 35 → k ≠ 36 → k ≠ 38 → τ.2.2.1 k j = σ.2.2.1 k j) ∧ (∀ k j,  τ.2.2.2 k j = σ.2.2.2 k j)) ∧ tF τ ∧ tS τ ∧ 0 ≤ l2 ∧ l2 < 150 ∧ l3 = σ.1 42 - 1 ∧ (τ.1 11 = 0 ∧ σ.1 11 = 0) ∧ l2 = σ.1 19 ∧ τ.1 19 = σ.1 19 + 1 ∧ rd τ 30 l2 = a1 ∧ rd τ 31 l2 = σ.1 10 ∧ rd τ 36 l2 = rd σ 43 (σ.1 42 - 1) ∧ (∀ j, j ≠ l2.toNatClampNeg → τ.2.2.1 30 j = σ.2.2.1 30 j ∧ τ.2.2.1 31 j = σ.2.2.1 31 j ∧ τ.2.2.1 32 j = σ.2.2.1 32 j ∧ τ.2.2.1 36 j = σ.2.2.1 36 j) ∧ lkN σ τ) → w_newStatement_221 C Q  l2 l3 τ := by
    rintro y221_2 y221_3 τ221 j221
    unfold w_newStatement_221
    refine ⟨ib_64.mpr ?_, ?_⟩
    · clear h; grind (splits := 24) [si1, si2, ri1, ri2, ri3, ri34, ri5, ri_row, eB_upd, tyF, tyS, tK, lkN_w]  -- b1
    intro σ_1 hσ_1
    refine h _ _ ?_
    · clear h; obtain ⟨jF, jf, js, j1, j2, j3, j4, j5, j6, j7, j8, j9, ja, jl⟩ := j221
      have ts : tS σ_1 := by clear jF jf ja jl; grind [ri3, ri_row, eB_upd, tyS]
      have tf : tF σ_1 := by clear jF js ja jl; grind [ri1]
      refine ⟨by clear js jf ja jl; grind [ri1, ri2, ri3, ri34, ri5], tf, ts, j1, j2, fun _ => ⟨?_, j5, ?_, ?_, ?_, ?_, ?_, ?_⟩, fun z => ?_, fun _ => ?_⟩
      · exact j4.2
      · rw [hσ_1, ri1]; exact j6
      · rw [hσ_1]; exact (congrFun (ri3 (by decide)) _).trans j7
      · rw [hσ_1]; exact (congrFun (ri3 (by decide)) _).trans j8
      · rw [hσ_1]; exact (congrFun (ri3 (by decide)) _).trans j9
      · intro j hj
        rw [hσ_1]
        exact ⟨(congrFun (ri3 (by decide)) _).trans (ja j hj).1, (congrFun (ri3 (by decide)) _).trans (ja j hj).2.1, (congrFun (ri3 (by decide)) _).trans (ja j hj).2.2.1, (congrFun (ri3 (by decide)) _).trans (ja j hj).2.2.2⟩
      · rw [hσ_1]; exact lkN_o jl (ri3 (by decide)) (ri3 (by decide)) (ri3 (by decide)) (ri3 (by decide)) ri1
      · exact absurd j4.2 z
      · rw [hσ_1, ri1, j4.1]; decide
  have hj51 : ∀ (l1 : Int32) (s0 : Int32) (τ : rS), (l1 = a1 ∧ ((∀ k, k ≠ 11 → k ≠ 12 → τ.1 k = σ.1 k) ∧ τ.2 = σ.2) ∧ (τ.1 11 = 0 → σ.1 11 = 0 ∧ s0 = σ.1 19 ∧ σ.1 19 < 150) ∧ (σ.1 11 ≠ 0 → τ.1 11 ≠ 0) ∧ 0 ≤ s0 ∧ s0 < 150 ∧ (0 ≤ σ.1 11 → 0 ≤ τ.1 11)) → w_newStatement_51 C Q  l1 s0 τ := by
    rintro y51_1 y51_s0 τ51 j51
    unfold w_newStatement_51
    refine isRight_c hC  (fun r2 q4 => ?_)
    refine ⟨fun c5 => ?_, fun c5 => ?_⟩
    · skip
      intro σ_6 hσ_6
      refine ⟨ib_150.mpr ?_, ?_⟩
      · clear h; grind (splits := 24) [si1, si2, ri1, ri2, ri3, ri34, ri5, ri_row, eB_upd, tyF, tyS, tK, lkN_w]  -- b3
      intro σ_7 hσ_7
      refine ⟨ib_150.mpr ?_, ?_⟩
      · clear h; grind (splits := 24) [si1, si2, ri1, ri2, ri3, ri34, ri5, ri_row, eB_upd, tyF, tyS, tK, lkN_w]  -- b4
      intro σ_8 hσ_8
      refine ⟨ib_150.mpr ?_, ?_⟩
      · clear h; grind (splits := 24) [si1, si2, ri1, ri2, ri3, ri34, ri5, ri_row, eB_upd, tyF, tyS, tK, lkN_w]  -- b5
      intro σ_9 hσ_9
      refine ⟨ib_150.mpr ?_, ?_⟩
      · clear h; grind (splits := 24) [si1, si2, ri1, ri2, ri3, ri34, ri5, ri_row, eB_upd, tyF, tyS, tK, lkN_w]  -- b6
      intro σ_10 hσ_10
      refine ⟨ib_150.mpr ?_, ?_⟩
      · clear h; grind (splits := 24) [si1, si2, ri1, ri2, ri3, ri34, ri5, ri_row, eB_upd, tyF, tyS, tK, lkN_w]  -- b7
      intro σ_11 hσ_11
      refine ⟨ib_150.mpr ?_, ?_⟩
      · clear h; grind (splits := 24) [si1, si2, ri1, ri2, ri3, ri34, ri5, ri_row, eB_upd, tyF, tyS, tK, lkN_w]  -- b8
      intro σ_12 hσ_12
      refine ⟨ib_150.mpr ?_, ?_⟩
      · clear h; grind (splits := 24) [si1, si2, ri1, ri2, ri3, ri34, ri5, ri_row, eB_upd, tyF, tyS, tK, lkN_w]  -- b9
      intro σ_13 hσ_13
      intro x14 hx14
      refine ⟨ib_64.mpr ?_, ?_⟩
      · clear h; grind (splits := 24) [si1, si2, ri1, ri2, ri3, ri34, ri5, ri_row, eB_upd, tyF, tyS, tK, lkN_w]  -- b10
      intro x15 hx15
      refine ⟨ib_150.mpr ?_, ?_⟩
      · clear h; grind (splits := 24) [si1, si2, ri1, ri2, ri3, ri34, ri5, ri_row, eB_upd, tyF, tyS, tK, lkN_w]  -- b11
      intro σ_16 hσ_16
      refine ⟨ib_64.mpr ?_, ?_⟩
      · clear h; grind (splits := 24) [si1, si2, ri1, ri2, ri3, ri34, ri5, ri_row, eB_upd, tyF, tyS, tK, lkN_w]  -- b12
      have p0 : σ.1 11 = 0 ∧ y51_s0 = σ.1 19 ∧ σ.1 19 < 150 ∧ τ51.1 11 = 0 := by clear hσ_6 hσ_7 hσ_8 hσ_9 hσ_10 hσ_11 hσ_12 hσ_13 hσ_16; grind
      have p1 : ((∀ k, k ≠ 11 → k ≠ 12 → k ≠ 19 → σ_16.1 k = σ.1 k) ∧ (∀ k,  σ_16.2.1 k = σ.2.1 k) ∧ (∀ k, k ≠ 30 → k ≠ 31 → k ≠ 32 → k ≠ 33 → k ≠ 34 → k ≠ 35 → k ≠ 36 → k ≠ 38 → σ_16.2.2.1 k = σ.2.2.1 k) ∧ (∀ k j, k ≠ 30 → k ≠ 31 → k ≠ 32 → k ≠ 33 → k ≠ 34 → k ≠ 35 → k ≠ 36 → k ≠ 38 → σ_16.2.2.1 k j = σ.2.2.1 k j) ∧ (∀ k j,  σ_16.2.2.2 k j = σ.2.2.2 k j)) := by
        have b1 := j51.2.1
        have rw3 : ∀ k, k ≠ 30 → k ≠ 31 → k ≠ 32 → k ≠ 33 → k ≠ 34 → k ≠ 35 → k ≠ 36 → k ≠ 38 → σ_16.2.2.1 k = σ.2.2.1 k := by
          intro k w30 w31 w32 w33 w34 w35 w36 w38
          rw [hσ_16, ri3 w36, hσ_13, ri3 w35, hσ_12, ri3 w34, hσ_11, ri3 w33, hσ_10, ri3 w32, hσ_9, ri3 w31, hσ_8, ri3 w38, hσ_7, ri3 w30, hσ_6, si2, b1.2]
        refine ⟨fun k h1 h2 h3 => ?_, fun k => ?_, rw3, fun k j w30 w31 w32 w33 w34 w35 w36 w38 => congrFun (rw3 k w30 w31 w32 w33 w34 w35 w36 w38) j, fun k j => ?_⟩
        · rw [hσ_16, ri1, hσ_13, ri1, hσ_12, ri1, hσ_11, ri1, hσ_10, ri1, hσ_9, ri1, hσ_8, ri1, hσ_7, ri1, hσ_6, si1, if_neg h3]; exact b1.1 k h1 h2
        · rw [hσ_16, ri2, hσ_13, ri2, hσ_12, ri2, hσ_11, ri2, hσ_10, ri2, hσ_9, ri2, hσ_8, ri2, hσ_7, ri2, hσ_6, si2, b1.2]
        · rw [hσ_16, ri5, hσ_13, ri5, hσ_12, ri5, hσ_11, ri5, hσ_10, ri5, hσ_9, ri5, hσ_8, ri5, hσ_7, ri5, hσ_6, si2, b1.2]
      have p2 : tS σ_16 := by
        have z : tS σ_13 := by
          have y : tS σ := hp.2.2.1
          have y2 : tS τ51 := by clear hσ_6 hσ_7 hσ_8 hσ_9 hσ_10 hσ_11 hσ_12 hσ_13 hσ_16; grind
          have y3 : 0 ≤ σ_7.1 41 ∧ σ_7.1 41 < 10 := by clear hσ_8 hσ_9 hσ_10 hσ_11 hσ_12 hσ_13 hσ_16; grind [tyF, si1, ri1]
          clear hp p1; grind (gen := 30) [si2, ri3, ri_row, eB_upd, tyS]
        have z2 : -1 ≤ x15 ∧ x15 < 150 := by rw [hx15]; exact z.2.2.2.2.2.2.1 _
        clear hp p1 hσ_6 hσ_7 hσ_8 hσ_9 hσ_10 hσ_11 hσ_12 hσ_13; grind [ri3, ri_row, eB_upd, tyS]
      have p4 : σ_16.1 11 = 0 ∧ σ_16.1 19 = σ.1 19 + 1 ∧ x14 = σ.1 42 - 1 ∧ x15 = rd σ 43 (σ.1 42 - 1) ∧ rd σ_16 30 y51_s0 = a1 ∧ rd σ_16 31 y51_s0 = σ.1 10 ∧ rd σ_16 36 y51_s0 = x15 := by clear p1 p2; grind (gen := 30) [si1, si2, ri1, ri2, ri3, ri34, ri5]
      have p3 : tF σ_16 := by clear p2 hσ_6 hσ_7 hσ_8 hσ_9 hσ_10 hσ_11 hσ_12 hσ_13 hσ_16; grind [tyF]
      have p5 : ∀ j, j ≠ y51_s0.toNatClampNeg → σ_16.2.2.1 30 j = σ.2.2.1 30 j ∧ σ_16.2.2.1 31 j = σ.2.2.1 31 j ∧ σ_16.2.2.1 32 j = σ.2.2.1 32 j ∧ σ_16.2.2.1 36 j = σ.2.2.1 36 j := by clear p1 p2 p4; grind (gen := 30) [si1, si2, ri1, ri2, ri3, ri34, ri5]
      have p6 : -1 ≤ x15 ∧ x15 < 150 := by rw [hx15, show σ_13.2.2.1 43 = σ_16.2.2.1 43 from by rw [hσ_16, ri3 (by decide)]]; exact p2.2.2.2.2.2.2.1 _
      have p7 : -1 ≤ rd σ_16 44 x14 ∧ rd σ_16 44 x14 < 150 := p2.2.2.2.2.2.2.2 _
      have p8 : lkN σ σ_16 := by
        have b1 := j51.2.1
        have t19 : 0 ≤ σ.1 19 := by have := hp.2.1; clear p1 p2 p3 p4 p5 p6 p7 hσ_6 hσ_7 hσ_8 hσ_9 hσ_10 hσ_11 hσ_12 hσ_13 hσ_16 j51 hp b1; grind [tyF]
        refine lkN_new p4.2.1 t19 p0.2.2.1 ?_ ?_ ?_ ?_
        · exact p1.2.2.1 29 (by decide) (by decide) (by decide) (by decide) (by decide) (by decide) (by decide) (by decide)
        · rw [hσ_16, ri3 (by decide), hσ_13, ri3 (by decide), hσ_12, ri3 (by decide), hσ_11, ri_row, hσ_10, ri3 (by decide), hσ_9, ri3 (by decide), hσ_8, ri3 (by decide), hσ_7, ri3 (by decide), hσ_6, si2, b1.2, p0.2.1]
        · rw [hσ_16, ri3 (by decide), hσ_13, ri3 (by decide), hσ_12, ri_row, hσ_11, ri3 (by decide), hσ_10, ri3 (by decide), hσ_9, ri3 (by decide), hσ_8, ri3 (by decide), hσ_7, ri3 (by decide), hσ_6, si2, b1.2, p0.2.1]
        · rw [hσ_16, ri3 (by decide), hσ_13, ri_row, hσ_12, ri3 (by decide), hσ_11, ri3 (by decide), hσ_10, ri3 (by decide), hσ_9, ri3 (by decide), hσ_8, ri3 (by decide), hσ_7, ri3 (by decide), hσ_6, si2, b1.2, p0.2.1]
      have p9 : y51_s0 < σ_16.1 19 := by rw [p4.2.1, p0.2.1]; have := p0.2.2.1; clear p1 p2 p3 p4 p5 p6 p7 p8 hσ_6 hσ_7 hσ_8 hσ_9 hσ_10 hσ_11 hσ_12 hσ_13 hσ_16 j51 hp; grind
      clear hσ_6 hσ_7 hσ_8 hσ_9 hσ_10 hσ_11 hσ_12 hσ_13 hσ_16 j51
      refine ⟨fun c17 => ?_, fun c17 => ?_⟩
      · skip
        refine ⟨fun c18 => ?_, fun c18 => ?_⟩
        · skip
          refine ⟨ib_64.mpr ?_, ?_⟩
          · clear h; grind (splits := 24) [si1, si2, ri1, ri2, ri3, ri34, ri5, ri_row, eB_upd, tyF, tyS, tK, lkN_w]  -- b13
          refine ⟨fun c19 => ?_, fun c19 => ?_⟩
          · skip
            refine ⟨ib_150.mpr ?_, ?_⟩
            · clear h; grind (splits := 24) [si1, si2, ri1, ri2, ri3, ri34, ri5, ri_row, eB_upd, tyF, tyS, tK, lkN_w]  -- b14
            intro σ_20 hσ_20
            refine hj221 _ _ _ ?_
            · clear h; grind (splits := 24) [si1, si2, ri1, ri2, ri3, ri34, ri5, ri_row, eB_upd, tyF, tyS, tK, lkN_w]  -- k15
          · skip
            refine ⟨ib_150.mpr ?_, ?_⟩
            · clear h; grind (splits := 24) [si1, si2, ri1, ri2, ri3, ri34, ri5, ri_row, eB_upd, tyF, tyS, tK, lkN_w]  -- b16
            intro σ_21 hσ_21
            refine hj221 _ _ _ ?_
            · clear h; grind (splits := 24) [si1, si2, ri1, ri2, ri3, ri34, ri5, ri_row, eB_upd, tyF, tyS, tK, lkN_w]  -- k17
        · skip
          refine ⟨ib_10.mpr ?_, ?_⟩
          · clear h; grind (splits := 24) [si1, si2, ri1, ri2, ri3, ri34, ri5, ri_row, eB_upd, tyF, tyS, tK, lkN_w]  -- b18
          intro σ_22 hσ_22
          refine hj221 _ _ _ ?_
          · clear h; grind (splits := 24) [si1, si2, ri1, ri2, ri3, ri34, ri5, ri_row, eB_upd, tyF, tyS, tK, lkN_w]  -- k19
      · skip
        refine ⟨ib_64.mpr ?_, ?_⟩
        · clear h; grind (splits := 24) [si1, si2, ri1, ri2, ri3, ri34, ri5, ri_row, eB_upd, tyF, tyS, tK, lkN_w]  -- b20
        refine ⟨ib_150.mpr ?_, ?_⟩
        · clear h; grind (splits := 24) [si1, si2, ri1, ri2, ri3, ri34, ri5, ri_row, eB_upd, tyF, tyS, tK, lkN_w]  -- b21
        intro σ_23 hσ_23
        refine hj221 _ _ _ ?_
        · clear h; grind (splits := 24) [si1, si2, ri1, ri2, ri3, ri34, ri5, ri_row, eB_upd, tyF, tyS, tK, lkN_w]  -- k22
    · skip
      refine h _ _ ?_
      · clear h; grind (splits := 24) [si1, si2, ri1, ri2, ri3, ri34, ri5, ri_row, eB_upd, tyF, tyS, tK, lkN_w]  -- q23
  have hj33 : ∀ (l1 : Int32) (τ : rS), (l1 = a1 ∧ ((∀ k, k ≠ 11 → k ≠ 12 → τ.1 k = σ.1 k) ∧ τ.2 = σ.2) ∧ (τ.1 11 = 0 → σ.1 11 = 0 ∧ σ.1 19 < 150) ∧ (σ.1 11 ≠ 0 → τ.1 11 ≠ 0) ∧ (0 ≤ σ.1 11 → 0 ≤ τ.1 11)) → w_newStatement_33 C Q  l1 τ := by
    rintro y33_1 τ33 j33
    unfold w_newStatement_33
    refine ⟨fun c24 => ?_, fun c24 => ?_⟩
    · skip
      refine hj51 _ _ _ ?_
      · clear h; grind (splits := 24) [si1, si2, ri1, ri2, ri3, ri34, ri5, ri_row, eB_upd, tyF, tyS, tK, lkN_w]  -- k24
    · skip
      refine hj51 _ _ _ ?_
      · clear h; grind (splits := 24) [si1, si2, ri1, ri2, ri3, ri34, ri5, ri_row, eB_upd, tyF, tyS, tK, lkN_w]  -- k25
  refine ⟨ib_131074.mpr ?_, ?_⟩
  · clear h; grind (splits := 24) [si1, si2, ri1, ri2, ri3, ri34, ri5, ri_row, eB_upd, tyF, tyS, tK, lkN_w]  -- b26
  refine ⟨fun c25 => ?_, fun c25 => ?_⟩
  · skip
    refine hj33 _ _ ?_
    · clear h; grind (splits := 24) [si1, si2, ri1, ri2, ri3, ri34, ri5, ri_row, eB_upd, tyF, tyS, tK, lkN_w]  -- k27
  · skip
    refine ⟨fun c26 => ?_, fun c26 => ?_⟩
    · skip
      refine hj33 _ _ ?_
      · clear h; grind (splits := 24) [si1, si2, ri1, ri2, ri3, ri34, ri5, ri_row, eB_upd, tyF, tyS, tK, lkN_w]  -- k28
    · skip
      refine flaw_c hC  ?_ (fun σ_27 q28 => ?_)
      · clear h; grind (splits := 24) [si1, si2, ri1, ri2, ri3, ri34, ri5, ri_row, eB_upd, tyF, tyS, tK, lkN_w]  -- p29
      refine hj33 _ _ ?_
      · clear h; grind (splits := 24) [si1, si2, ri1, ri2, ri3, ri34, ri5, ri_row, eB_upd, tyF, tyS, tK, lkN_w]  -- k30

theorem tk_b {σ : rS} {B T : Int32} (h : tK σ B T) : 0 ≤ σ.1 10 ∧ σ.1 10 < 131074 := ⟨Int32.le_trans h.1 h.2.2.2.2.1, Int32.lt_of_le_of_lt h.2.2.2.2.2 h.2.2.1⟩
theorem lt1p {a b : Int32} (h0 : 0 ≤ a) (h1 : a < 131074) (e : b = a + 1) : a < b := by grind
theorem tk_fl {τ υ : rS} {B T : Int32} (h : tK τ B T) (q : ((∀ k, k ≠ 11 → k ≠ 12 → υ.1 k = τ.1 k) ∧ υ.2 = τ.2) ∧ (τ.1 11 ≠ 0 → υ = τ) ∧ υ.1 11 ≠ 0 ∧ (0 ≤ τ.1 11 → 0 ≤ υ.1 11)) : tK υ B T := by
  obtain ⟨t1, t2, t3, t4, t5, t6⟩ := h
  have e10 := q.1.1 10 (by decide) (by decide)
  exact ⟨t1, t2, t3, ⟨by rw [rd, q.1.2]; exact t4.1, q.2.2.2 t4.2.1, by rw [q.1.1 47 (by decide) (by decide)]; exact t4.2.2⟩, by rw [e10]; exact t5, by rw [e10]; exact t6⟩
theorem tellVar_c {C : rCx} (hC : cOK C) (B T : Int32) {σ : rS}  {Q : rS → Prop} (hp : tK σ B T ∧ tF σ ∧ tN σ ∧ rd σ 5 (σ.1 10) ≠ 5) (h : ∀ (σ' : rS), (((∀ k, k ≠ 10 → k ≠ 11 → k ≠ 12 → k ≠ 15 → σ'.1 k = σ.1 k) ∧ (∀ k,  σ'.2.1 k = σ.2.1 k) ∧ (∀ k, k ≠ 20 → k ≠ 21 → σ'.2.2.1 k = σ.2.2.1 k) ∧ (∀ k j, k ≠ 20 → k ≠ 21 → σ'.2.2.1 k j = σ.2.2.1 k j) ∧ (∀ k j,  σ'.2.2.2 k j = σ.2.2.2 k j)) ∧ tK σ' B T ∧ tF σ' ∧ tN σ' ∧ (σ'.1 11 = 0 → σ.1 11 = 0 ∧ σ.1 10 < σ'.1 10)) → Q σ') : cV C 4 m_tellVar [.ref (co C)] σ Q := by
  refine m_tellVar_run hC ?_
  unfold w_tellVar_0
  have hj87 : ∀ (l1 : Int32) (l2 : Int32) (τ : rS), (((∀ k, k ≠ 10 → k ≠ 11 → k ≠ 12 → τ.1 k = σ.1 k) ∧ τ.2 = σ.2) ∧ tK τ B T ∧ (τ.1 11 = 0 → σ.1 11 = 0 ∧ σ.1 10 < τ.1 10 ∧ σ.1 15 < 10) ∧ 0 ≤ l1 ∧ l1 < 131074) → w_tellVar_87 C Q  l1 l2 τ := by
    rintro y87_1 y87_2 τ87 j87
    unfold w_tellVar_87
    refine sign_c hC B T ?_ (fun σ_1 q2 => ?_)
    · clear h; grind (splits := 24) [si1, si2, ri1, ri2, ri3, ri34, ri5, ri_row, eB_upd, tyF, tyN, tK]  -- p1
    refine isRight_c hC  (fun r3 q5 => ?_)
    refine ⟨fun c6 => ?_, fun c6 => ?_⟩
    · skip
      refine h _ ?_
      · clear h; grind (splits := 24) [si1, si2, ri1, ri2, ri3, ri34, ri5, ri_row, eB_upd, tyF, tyN, tK]  -- q2
    · skip
      refine ⟨ib_10.mpr ?_, ?_⟩
      · clear h; grind (splits := 24) [si1, si2, ri1, ri2, ri3, ri34, ri5, ri_row, eB_upd, tyF, tyN, tK]  -- b3
      intro σ_7 hσ_7
      refine ⟨ib_10.mpr ?_, ?_⟩
      · clear h; grind (splits := 24) [si1, si2, ri1, ri2, ri3, ri34, ri5, ri_row, eB_upd, tyF, tyN, tK]  -- b4
      intro σ_8 hσ_8
      intro σ_9 hσ_9
      refine h _ ?_
      · clear h; have fS : ((∀ k, k ≠ 10 → k ≠ 11 → k ≠ 12 → σ_1.1 k = σ.1 k) ∧ σ_1.2 = σ.2) := by clear hσ_7 hσ_8 hσ_9; grind
        have f : σ.1 11 = 0 ∧ σ.1 10 < σ_1.1 10 ∧ σ.1 15 < 10 ∧ σ_1.1 11 = 0 ∧ 0 ≤ y87_1 ∧ y87_1 < 131074 := by clear hσ_7 hσ_8 hσ_9; grind [tK]
        have mT : tK σ_1 B T := q2.2.1
        obtain ⟨hK, hF, hN, -⟩ := hp
        clear q2 j87 q5
        refine ⟨by grind [si1, si2, ri1, ri2, ri3, ri34, ri5], by grind [tK, si1, si2, ri1, ri34], by clear hN; grind [tyF, si1, si2, ri1], by clear hF mT; grind [tyN, si2, ri3, ri_row, eB_upd], fun _ => ⟨f.1, by grind [si1, ri1]⟩⟩
  have hj82 : ∀ (l1 : Int32) (s0 : Int32) (τ : rS), (((∀ k, k ≠ 10 → k ≠ 11 → k ≠ 12 → τ.1 k = σ.1 k) ∧ τ.2 = σ.2) ∧ tK τ B T ∧ (τ.1 11 = 0 → σ.1 11 = 0 ∧ σ.1 10 < τ.1 10 ∧ σ.1 15 < 10 ∧ rd σ 5 (τ.1 10) = 2) ∧ 0 ≤ l1 ∧ l1 < 131074) → w_tellVar_82 C Q  l1 s0 τ := by
    rintro y82_1 y82_s0 τ82 j82
    unfold w_tellVar_82
    refine go_c hC B T ?_ (fun σ_10 q11 => ?_)
    · clear h; grind (splits := 24) [si1, si2, ri1, ri2, ri3, ri34, ri5, ri_row, eB_upd, tyF, tyN, tK]  -- p6
    refine hj87 _ _ _ ?_
    · clear h; grind (splits := 24) [si1, si2, ri1, ri2, ri3, ri34, ri5, ri_row, eB_upd, tyF, tyN, tK]  -- k7
  have hj53 : ∀ (l1 : Int32) (l3 : Int32) (τ : rS), (((∀ k, k ≠ 10 → k ≠ 11 → k ≠ 12 → τ.1 k = σ.1 k) ∧ τ.2 = σ.2) ∧ tK τ B T ∧ (τ.1 11 = 0 → σ.1 11 = 0 ∧ σ.1 10 < τ.1 10 ∧ σ.1 15 < 10) ∧ 0 ≤ l1 ∧ l1 < 131074) → w_tellVar_53 C Q  l1 l3 τ := by
    rintro y53_1 y53_3 τ53 j53
    unfold w_tellVar_53
    refine due_c hC B T ?_ (fun r12 σ_13 q14 => ?_)
    · clear h; grind (splits := 24) [si1, si2, ri1, ri2, ri3, ri34, ri5, ri_row, eB_upd, tyF, tyN, tK]  -- p8
    refine ⟨fun c15 => ?_, fun c15 => ?_⟩
    · skip
      refine ⟨ib_131074.mpr ?_, ?_⟩
      · clear h; grind (splits := 24) [si1, si2, ri1, ri2, ri3, ri34, ri5, ri_row, eB_upd, tyF, tyN, tK]  -- b9
      refine hj82 _ _ _ ?_
      · clear h; grind (splits := 24) [si1, si2, ri1, ri2, ri3, ri34, ri5, ri_row, eB_upd, tyF, tyN, tK]  -- k10
    · skip
      refine ⟨ib_131074.mpr ?_, ?_⟩
      · clear h; grind (splits := 24) [si1, si2, ri1, ri2, ri3, ri34, ri5, ri_row, eB_upd, tyF, tyN, tK]  -- b11
      refine hj82 _ _ _ ?_
      · clear h; grind (splits := 24) [si1, si2, ri1, ri2, ri3, ri34, ri5, ri_row, eB_upd, tyF, tyN, tK]  -- k12
  refine go_c hC B T ?_ (fun σ_16 q17 => ?_)
  · clear h; grind (splits := 24) [si1, si2, ri1, ri2, ri3, ri34, ri5, ri_row, eB_upd, tyF, tyN, tK]  -- p13
  refine fresh_c hC B T ?_ (fun r18 σ_19 q20 => ?_)
  · clear h; grind (splits := 24) [si1, si2, ri1, ri2, ri3, ri34, ri5, ri_row, eB_upd, tyF, tyN, tK]  -- p14
  refine isRight_c hC  (fun r21 q23 => ?_)
  refine ⟨fun c24 => ?_, fun c24 => ?_⟩
  · skip
    refine hj87 _ _ _ ?_
    · clear h; grind (splits := 24) [si1, si2, ri1, ri2, ri3, ri34, ri5, ri_row, eB_upd, tyF, tyN, tK]  -- k15
  · skip
    refine isAt_c hC  ?_ (fun r25 q27 => ?_)
    · clear h; grind (splits := 24) [si1, si2, ri1, ri2, ri3, ri34, ri5, ri_row, eB_upd, tyF, tyN, tK]  -- p16
    refine ⟨fun c28 => ?_, fun c28 => ?_⟩
    · skip
      refine hj87 _ _ _ ?_
      · clear h; grind (splits := 24) [si1, si2, ri1, ri2, ri3, ri34, ri5, ri_row, eB_upd, tyF, tyN, tK]  -- k17
    · skip
      refine go_c hC B T ?_ (fun σ_29 q30 => ?_)
      · clear h; grind (splits := 24) [si1, si2, ri1, ri2, ri3, ri34, ri5, ri_row, eB_upd, tyF, tyN, tK]  -- p18
      refine isAt_c hC  ?_ (fun r31 q33 => ?_)
      · clear h; grind (splits := 24) [si1, si2, ri1, ri2, ri3, ri34, ri5, ri_row, eB_upd, tyF, tyN, tK]  -- p19
      refine ⟨fun c34 => ?_, fun c34 => ?_⟩
      · skip
        refine hj53 _ _ _ ?_
        · clear h; grind (splits := 24) [si1, si2, ri1, ri2, ri3, ri34, ri5, ri_row, eB_upd, tyF, tyN, tK]  -- k20
      · skip
        refine go_c hC B T ?_ (fun σ_35 q36 => ?_)
        · clear h; grind (splits := 24) [si1, si2, ri1, ri2, ri3, ri34, ri5, ri_row, eB_upd, tyF, tyN, tK]  -- p21
        refine hj53 _ _ _ ?_
        · clear h; grind (splits := 24) [si1, si2, ri1, ri2, ri3, ri34, ri5, ri_row, eB_upd, tyF, tyN, tK]  -- k22

theorem tellArr_c {C : rCx} (hC : cOK C) (B T : Int32) {σ : rS}  {Q : rS → Prop} (hp : tK σ B T ∧ tF σ ∧ tN σ ∧ tA σ ∧ rd σ 5 (σ.1 10) ≠ 5) (h : ∀ (σ' : rS), (((∀ k, k ≠ 10 → k ≠ 11 → k ≠ 12 → k ≠ 13 → k ≠ 16 → k ≠ 17 → σ'.1 k = σ.1 k) ∧ (∀ k,  σ'.2.1 k = σ.2.1 k) ∧ (∀ k, k ≠ 22 → k ≠ 23 → k ≠ 24 → σ'.2.2.1 k = σ.2.2.1 k) ∧ (∀ k j, k ≠ 22 → k ≠ 23 → k ≠ 24 → σ'.2.2.1 k j = σ.2.2.1 k j) ∧ (∀ k j,  σ'.2.2.2 k j = σ.2.2.2 k j)) ∧ tK σ' B T ∧ tF σ' ∧ tN σ' ∧ tA σ' ∧ (σ'.1 11 = 0 → σ.1 11 = 0 ∧ σ.1 10 < σ'.1 10 ∧ σ'.1 13 = σ.1 13)) → Q σ') : cV C 5 m_tellArr [.ref (co C)] σ Q := by
  refine m_tellArr_run hC ?_
  unfold w_tellArr_0
  have hj56 : ∀ (l1 : Int32) (l2 : Int32) (τ : rS), (((∀ k, k ≠ 10 → k ≠ 11 → k ≠ 12 → k ≠ 13 → τ.1 k = σ.1 k) ∧ τ.2 = σ.2) ∧ tK τ B T ∧ 0 ≤ l1 ∧ l1 < 131074 ∧ 0 ≤ l2 ∧ l2 < 131074 ∧ (τ.1 11 = 0 → σ.1 11 = 0 ∧ σ.1 10 < τ.1 10 ∧ σ.1 16 < 3 ∧ rd σ 5 (τ.1 10) = 2 ∧ 1 ≤ rd σ 7 l2 ∧ rd σ 7 l2 ≤ 8 ∧ τ.1 13 = σ.1 13 + 1)) → w_tellArr_56 C Q  l1 l2 τ := by
    rintro y56_1 y56_2 τ56 j56
    unfold w_tellArr_56
    refine go_c hC B T ?_ (fun σ_1 q2 => ?_)
    · clear h; grind (splits := 24) [tyF, tyN, tK, nb]  -- p1
    refine close_c hC B T ?_ (fun σ_3 q4 => ?_)
    · clear h; grind (splits := 24) [tyF, tyN, tK, nb]  -- p2
    refine sign_c hC B T ?_ (fun σ_5 q6 => ?_)
    · clear h; grind (splits := 24) [tyF, tyN, tK, nb]  -- p3
    refine isRight_c hC  (fun r7 q9 => ?_)
    refine ⟨fun c10 => ?_, fun c10 => ?_⟩
    · skip
      refine h _ ?_
      · clear h; grind (splits := 24) [tyF, tyN, tK, nb]  -- q4
    · skip
      refine ⟨ib_3.mpr ?_, ?_⟩
      · clear h; grind (splits := 24) [ri1, si1, tyF, tK, nb]  -- b5
      intro σ_11 hσ_11
      refine ⟨ib_131074.mpr ?_, ?_⟩
      · clear h; grind (splits := 24) [ri1, si1, tyF, tK, nb]  -- b6
      refine ⟨ib_3.mpr ?_, ?_⟩
      · clear h; grind (splits := 24) [ri1, si1, tyF, tK, nb]  -- b7
      intro σ_12 hσ_12
      refine ⟨ib_3.mpr ?_, ?_⟩
      · clear h; grind (splits := 24) [ri1, si1, tyF, tK, nb]  -- b8
      intro σ_13 hσ_13
      refine ⟨ib_131074.mpr ?_, ?_⟩
      · clear h; grind (splits := 24) [ri1, si1, tyF, tK, nb]  -- b9
      intro σ_14 hσ_14
      intro σ_15 hσ_15
      refine h _ ?_
      · clear h; have fS : ((∀ k, k ≠ 10 → k ≠ 11 → k ≠ 12 → k ≠ 13 → σ_5.1 k = σ.1 k) ∧ σ_5.2 = σ.2) := by clear hσ_11 hσ_12 hσ_13 hσ_14 hσ_15; grind
        have f : σ.1 11 = 0 ∧ σ.1 10 < σ_5.1 10 ∧ σ.1 16 < 3 ∧ σ_5.1 11 = 0 ∧ 0 ≤ y56_1 ∧ y56_1 < 131074 ∧ 1 ≤ rd σ 7 y56_2 ∧ rd σ 7 y56_2 ≤ 8 ∧ σ_5.1 13 = σ.1 13 := by clear hσ_11 hσ_12 hσ_13 hσ_14 hσ_15; grind [tK]
        have mT : tK σ_5 B T := q6.2.1
        obtain ⟨hK, hF, hN, hA, -⟩ := hp
        clear q2 q4 q6 j56 q9
        have e7 : rd σ_11 7 y56_2 = rd σ 7 y56_2 ∧ rd σ_13 7 y56_2 = rd σ 7 y56_2 := by clear hF hN hA mT; grind [si2, ri34]
        have e17 : σ_12.1 17 = σ.1 17 ∧ σ_12.1 16 = σ.1 16 ∧ σ_13.1 17 = σ.1 17 ∧ σ_14.1 16 = σ.1 16 := by clear hF hN hA mT e7; grind [si1, si2, ri1]
        refine ⟨by clear hF hN hA mT e7 e17; grind (gen := 20) [si1, si2, ri1, ri2, ri3, ri34, ri5], by clear hF hN hA e7 e17; grind (gen := 20) [tK, si1, si2, ri1, ri34], by clear hN hA mT; grind [tyF, si1, si2, ri1], by clear hF hA mT e7 e17; grind [tyN, si2, ri3, ri_row, eB_upd], ?_, fun _ => ⟨f.1, by clear hF hN hA mT e7; grind [si1, si2, ri1], by clear hF hN hA mT e7; grind [si1, si2, ri1]⟩⟩
        have h17 : 0 ≤ σ.1 17 ∧ σ.1 17 < 17 := by clear hN hA mT e7; grind [tyF]
        clear hF hN mT
        grind [tyA, si2, ri3, ri_row, eB_upd]
  refine go_c hC B T ?_ (fun σ_16 q17 => ?_)
  · clear h; grind (splits := 24) [tyF, tyN, tK, nb]  -- p11
  refine fresh_c hC B T ?_ (fun r18 σ_19 q20 => ?_)
  · clear h; grind (splits := 24) [tyF, tyN, tK, nb]  -- p12
  refine open_c hC B T ?_ (fun σ_21 q22 => ?_)
  · clear h; grind (splits := 24) [tyF, tyN, tK, nb]  -- p13
  refine due_c hC B T ?_ (fun r23 σ_24 q25 => ?_)
  · clear h; grind (splits := 24) [tyF, tyN, tK, nb]  -- p14
  have F : ((∀ k, k ≠ 10 → k ≠ 11 → k ≠ 12 → k ≠ 13 → σ_24.1 k = σ.1 k) ∧ σ_24.2 = σ.2) := ⟨fun k z1 z2 z3 z4 => (q25.1.1 k z2 z3).trans ((q22.1.1 k z1 z2 z3 z4).trans ((q20.1.1 k z1 z2 z3).trans (q17.1.1 k z1 z2 z3))), by rw [q25.1.2, q22.1.2, q20.1.2, q17.1.2]⟩
  have R : σ_21.2 = σ.2 := by rw [q22.1.2, q20.1.2, q17.1.2]
  have t16 := tk_b q17.2.1
  have t21 := tk_b q22.2.1
  have t0 := tk_b hp.1
  have t19 := tk_b q20.2.1
  have G : σ_24.1 11 = 0 → σ.1 11 = 0 ∧ σ.1 10 < σ_24.1 10 ∧ σ.1 16 < 3 ∧ rd σ 5 (σ_24.1 10) = 2 ∧ σ_24.1 13 = σ.1 13 + 1 := fun f => by
    obtain ⟨f1, f2⟩ := q25.2.2.2.2 f
    have e1 := q22.2.2.1.mp f1
    have e2 := q22.2.2.2 f1
    obtain ⟨f3, -, f5, f6, -⟩ := q20.2.2.2.2 e1.1
    have e4 := (q17.2.2.2.2.mp f3).1
    have e5 := q17.2.2.2.1 e4
    have l1 : σ.1 10 < σ_16.1 10 := lt1p t0.1 t0.2 e5
    have l2 : σ_16.1 10 < σ_19.1 10 := lt1p t16.1 t16.2 f6
    have l3 : σ_19.1 10 < σ_21.1 10 := lt1p t19.1 t19.2 e2.1
    have a24 : σ_24.1 10 = σ_21.1 10 := q25.1.1 10 (by decide) (by decide)
    refine ⟨e4, by rw [a24]; exact Int32.lt_trans l1 (Int32.lt_trans l2 l3), by rw [← q17.1.1 16 (by decide) (by decide) (by decide)]; exact f5, ?_, ?_⟩
    · rw [rd, R] at f2; rw [a24]; exact f2
    · rw [q25.1.1 13 (by decide) (by decide), e2.2, q20.1.1 13 (by decide) (by decide) (by decide), q17.1.1 13 (by decide) (by decide) (by decide)]
  have r18b : 0 ≤ r18 ∧ r18 < 131074 := by rw [q20.2.2.1]; exact t16
  have r23b : 0 ≤ r23 ∧ r23 < 131074 := by rw [q25.2.2.1]; exact t21
  refine isRight_c hC  (fun r26 q28 => ?_)
  refine ⟨fun c29 => ?_, fun c29 => ?_⟩
  · skip
    refine hj56 _ _ _ ?_
    · clear h; exact ⟨F, q25.2.1, r18b.1, r18b.2, r23b.1, r23b.2, fun f => absurd c29 (q28.2.mpr f)⟩  -- k15
  · skip
    refine ⟨ib_131074.mpr ?_, ?_⟩
    · clear h; exact r23b  -- b16
    refine within_c hC  (fun r30 q32 => ?_)
    refine ⟨fun c33 => ?_, fun c33 => ?_⟩
    · skip
      refine hj56 _ _ _ ?_
      · clear h; refine ⟨F, q25.2.1, r18b.1, r18b.2, r23b.1, r23b.2, fun f => ?_⟩
        obtain ⟨g1, g2, g3, g4, g5⟩ := G f
        have w := q32.2.mp c33
        rw [F.2] at w
        exact ⟨g1, g2, g3, g4, w.1, w.2, g5⟩
    · skip
      refine flaw_c hC  ?_ (fun σ_34 q35 => ?_)
      · clear h; exact ⟨r23b.1, r23b.2, by decide⟩  -- p18
      refine hj56 _ _ _ ?_
      · clear h; refine ⟨⟨fun k z1 z2 z3 z4 => (q35.1.1 k z2 z3).trans (F.1 k z1 z2 z3 z4), by rw [q35.1.2]; exact F.2⟩, tk_fl q25.2.1 q35, r18b.1, r18b.2, r23b.1, r23b.2, fun f => absurd f q35.2.2.1⟩  -- k19

end
section
set_option maxHeartbeats 1600000
/-! the reference: expressions while a text is read; arguments -/
theorem expression_f {C : rCx} (hC : cOK C) {σ : rS} {Q : Int32 → rS → Prop} (hp : σ.1 11 ≠ 0) (h : ∀ (v : Int32) (σ' : rS), ((∀ k, k ≠ 48 → k ≠ 49 → σ'.1 k = σ.1 k) ∧ σ'.2 = σ.2) → Q v σ') : cI C 6 m_expression [.ref (co C)] σ Q := by
  refine m_expression_run hC ?_
  unfold w_expression_0
  intro σ_1 hσ_1 σ_2 hσ_2
  have hf : σ_2.1 11 ≠ 0 := by rw [hσ_2, si1, if_neg (by decide), hσ_1, si1, if_neg (by decide)]; exact hp
  unfold w_expression_12
  refine ⟨fun n l τ => σ_2 = τ, ⟨0, rfl⟩, ?_⟩
  rintro n l _ rfl
  refine goesOn_c hC (fun r q => ⟨fun c => ?_, fun c => absurd (q.2.mp c).1 hf⟩)
  unfold w_expression_51
  refine ⟨ib_66000.mpr ⟨by decide, by decide⟩, h _ _ ?_⟩
  grind [si1, si2]
/-- what holds while a text is read, fault or no fault -/
def p0 (σ : rS) (B T : Int32) : Prop := tK σ B T ∧ T.toInt - B.toInt ≤ 65536 ∧ tF σ ∧ tN σ ∧ tA σ ∧ σ.1 46 = 0 ∧ σ.1 47 = 0
/-- only references of tokens from a on were changed -/
def rLo (R R' : Nat → Int32) (a : Int32) : Prop := ∀ t : Int32, 0 ≤ t → t < a → R' t.toNatClampNeg = R t.toNatClampNeg
/-- nor were those behind T -/
def rHi (R R' : Nat → Int32) (T : Int32) : Prop := ∀ t : Int32, T < t → R' t.toNatClampNeg = R t.toNatClampNeg
theorem rHi_refl {R : Nat → Int32} {T : Int32} : rHi R R T := fun _ _ => rfl
theorem rHi_tr {R R' R'' : Nat → Int32} {T : Int32} (h : rHi R R' T) (h2 : rHi R' R'' T) : rHi R R'' T := fun t ht => (h2 t ht).trans (h t ht)
theorem rLo_refl {R : Nat → Int32} {a : Int32} : rLo R R a := fun _ _ _ => rfl
theorem rLo_tr {R R' R'' : Nat → Int32} {a b : Int32} (h : rLo R R' a) (h2 : rLo R' R'' b) (hab : a ≤ b) : rLo R R'' a := fun t h0 h1 => (h2 t h0 (Int32.lt_of_lt_of_le h1 hab)).trans (h t h0 h1)
theorem p0_fr {σ σ' : rS} {B T : Int32} (h : p0 σ B T) (hT : tK σ' B T) (hf : ∀ k, k ≠ 10 → k ≠ 11 → k ≠ 12 → k ≠ 13 → k ≠ 48 → k ≠ 49 → σ'.1 k = σ.1 k) (hr : ∀ k, k ≠ 39 → k ≠ 50 → k ≠ 51 → k ≠ 52 → σ'.2.2.1 k = σ.2.2.1 k) : p0 σ' B T := by
  obtain ⟨h1, h2, h3, h4, h5, h6, h7⟩ := h
  exact ⟨hT, h2, by grind, by grind, by grind, by grind, by grind⟩
/-- an expression while a text is read -/
theorem expr0_c {C : rCx} (hC : cOK C) (B T : Int32) {σ : rS} {Q : Int32 → rS → Prop} (hp : p0 σ B T ∧ (σ.1 11 = 0 → 0 ≤ σ.1 13 ∧ σ.1 13 ≤ 40)) (h : ∀ (v : Int32) (σ' : rS), (((∀ k, k ≠ 10 → k ≠ 11 → k ≠ 12 → k ≠ 13 → k ≠ 48 → k ≠ 49 → σ'.1 k = σ.1 k) ∧ (∀ k,  σ'.2.1 k = σ.2.1 k) ∧ (∀ k, k ≠ 39 → k ≠ 50 → k ≠ 51 → k ≠ 52 → σ'.2.2.1 k = σ.2.2.1 k) ∧ (∀ k j, k ≠ 39 → k ≠ 50 → k ≠ 51 → k ≠ 52 → σ'.2.2.1 k j = σ.2.2.1 k j) ∧ (∀ k j,  σ'.2.2.2 k j = σ.2.2.2 k j)) ∧ p0 σ' B T ∧ (σ.1 11 ≠ 0 → σ'.1 11 ≠ 0 ∧ σ'.2 = σ.2) ∧ rLo (σ.2.2.1 39) (σ'.2.2.1 39) (σ.1 10) ∧ (σ'.1 11 = 0 → σ.1 11 = 0 ∧ σ.1 10 ≤ σ'.1 10 ∧ σ'.1 13 = σ.1 13 ∧ ePa (σ.2.2.1 5) (σ.2.2.1 7) (σ'.2.2.1 39) (σ.1 10) (σ'.1 10)) ∧ rHi (σ.2.2.1 39) (σ'.2.2.1 39) T) → Q v σ') : cI C 6 m_expression [.ref (co C)] σ Q := by
  obtain ⟨hP, ho⟩ := hp
  by_cases e : σ.1 11 = 0
  · obtain ⟨hK, hB, hF, hN, hA, h46, h47⟩ := hP
    have ho := ho e
    refine expression_c hC B T (σ.1 13).toNatClampNeg ⟨hK, ⟨hK.1, hK.2.2.2.2.1, Int32.le_refl _, hK.2.2.2.2.2, hK.2.2.1, hB⟩, Or.inl h46, hF, hN, hA, ⟨ho.1, ho.2, rfl⟩, fun _ => h47, fun z => absurd h46 z⟩ (fun v σ' q => h v σ' ?_)
    obtain ⟨q1, q2, q3, q4, q5, q6, q7⟩ := q
    have f47 : σ'.1 47 = 0 := q3 h46
    have hfr : ∀ k, k ≠ 10 → k ≠ 11 → k ≠ 12 → k ≠ 13 → k ≠ 48 → k ≠ 49 → σ'.1 k = σ.1 k := by
      intro k z1 z2 z3 z4 z5 z6
      by_cases e7 : k = 47
      · subst e7; rw [f47, h47]
      · exact q1.1 k z1 z2 z3 z4 e7 z5 z6
    refine ⟨⟨hfr, q1.2⟩, p0_fr ⟨hK, hB, hF, hN, hA, h46, h47⟩ q2 hfr q1.2.2.1, fun z => absurd e z, q5, fun f1 => ?_, q7⟩
    obtain ⟨z1, z2, z3, z4⟩ := q6 f1 f47
    exact ⟨z1, z2.2.2.1, cn_inj z4.1 ho.1 (by rw [z4.2.2]; rfl), z3⟩
  · refine expression_f hC e (fun v σ' q => h v σ' ?_)
    have hfr : ∀ k, k ≠ 10 → k ≠ 11 → k ≠ 12 → k ≠ 13 → k ≠ 48 → k ≠ 49 → σ'.1 k = σ.1 k := fun k _ _ _ _ z5 z6 => q.1 k z5 z6
    have e11 : σ'.1 11 = σ.1 11 := q.1 11 (by decide) (by decide)
    refine ⟨⟨hfr, fun k => by rw [q.2], fun k _ _ _ _ => by rw [q.2], fun k j _ _ _ _ => by rw [q.2], fun k j => by rw [q.2]⟩, p0_fr hP ?_ hfr (fun k _ _ _ _ => by rw [q.2]), fun _ => ⟨by rw [e11]; exact e, q.2⟩, by rw [q.2]; exact rLo_refl, fun z => absurd z (by rw [e11]; exact e), by rw [q.2]; exact rHi_refl⟩
    have := hP.1
    grind [tK]
/-- i expressions from token a0 on, a comma behind each, up to token a -/
def gP (S N R : Nat → Int32) (a0 : Int32) : Nat → Int32 → Prop
  | 0, a => a = a0
  | i + 1, a => ∃ b e, gP S N R a0 i b ∧ ePa S N R b e ∧ b ≤ e ∧ e < a ∧ a = e + 1 ∧ sg S N e 44
/-- k + 1 expressions from token a on, commas between them, a closing bracket behind; all below P -/
def gB (S N R : Nat → Int32) (P : Int32) : Nat → Int32 → Prop
  | 0, a => ∃ e, ePa S N R a e ∧ a ≤ e ∧ e < P ∧ sg S N e 41
  | k + 1, a => ∃ e, ePa S N R a e ∧ a ≤ e ∧ e < P ∧ sg S N e 44 ∧ gB S N R P k (e + 1)
def gN (S N R : Nat → Int32) (P : Int32) (n : Nat) (a : Int32) : Prop := match n with
  | 0 => sg S N a 41 ∧ a < P
  | k + 1 => gB S N R P k a
theorem gP_ge {S N R : Nat → Int32} {a0 : Int32} {i : Nat} : ∀ {a : Int32}, gP S N R a0 i a → a0 ≤ a := by
  induction i with
  | zero => rintro a rfl; exact Int32.le_refl _
  | succ i ih =>
    rintro a ⟨b, e, h1, -, h3, h4, -⟩
    exact Int32.le_trans (ih h1) (Int32.le_trans h3 (Int32.le_of_lt h4))
theorem gP_R {S N R R' : Nat → Int32} {a0 : Int32} (h0 : 0 ≤ a0) {i : Nat} : ∀ {a : Int32}, gP S N R a0 i a → rLo R R' a → gP S N R' a0 i a := by
  induction i with
  | zero => rintro a h _; exact h
  | succ i ih =>
    rintro a ⟨b, e, h1, h2, h3, h4, h5, h6⟩ hR
    have hb := gP_ge h1
    refine ⟨b, e, ih h1 (fun t ht ht2 => hR t ht (Int32.lt_of_lt_of_le ht2 (Int32.le_trans h3 (Int32.le_of_lt h4)))), ePa_R h2 (fun t ht ht2 _ => hR t (Int32.le_trans h0 (Int32.le_trans hb ht)) (Int32.lt_trans ht2 h4)), h3, h4, h5, h6⟩
theorem gP_B {S N R : Nat → Int32} {a0 P : Int32} {i : Nat} : ∀ {k : Nat} {a : Int32}, gP S N R a0 i a → a ≤ P → gB S N R P k a → gB S N R P (i + k) a0 := by
  induction i with
  | zero => rintro k a rfl _ h; rwa [Nat.zero_add]
  | succ i ih =>
    rintro k a ⟨b, e, h1, h2, h3, h4, h5, h6⟩ hP hB
    have := ih (k := k + 1) h1 (Int32.le_trans h3 (Int32.le_trans (Int32.le_of_lt h4) hP)) ⟨e, h2, h3, Int32.lt_of_lt_of_le h4 hP, h6, h5 ▸ hB⟩
    rwa [show i + 1 + k = i + (k + 1) by omega]

end
section
set_option maxHeartbeats 1600000
/-! the reference: arguments -/
abbrev aI (σ τ : rS) (B T : Int32) : Prop := ((∀ k, k ≠ 10 → k ≠ 11 → k ≠ 12 → k ≠ 13 → k ≠ 48 → k ≠ 49 → τ.1 k = σ.1 k) ∧ (∀ k,  τ.2.1 k = σ.2.1 k) ∧ (∀ k, k ≠ 39 → k ≠ 50 → k ≠ 51 → k ≠ 52 → τ.2.2.1 k = σ.2.2.1 k) ∧ (∀ k j, k ≠ 39 → k ≠ 50 → k ≠ 51 → k ≠ 52 → τ.2.2.1 k j = σ.2.2.1 k j) ∧ (∀ k j,  τ.2.2.2 k j = σ.2.2.2 k j)) ∧ p0 τ B T ∧ rLo (σ.2.2.1 39) (τ.2.2.1 39) (σ.1 10) ∧ (σ.1 11 ≠ 0 → τ.1 11 ≠ 0) ∧ rHi (σ.2.2.1 39) (τ.2.2.1 39) T
theorem aI_fr {σ τ υ : rS} {B T : Int32} (h : aI σ τ B T) (hT : tK υ B T) (hf : (∀ k, k ≠ 10 → k ≠ 11 → k ≠ 12 → k ≠ 13 → υ.1 k = τ.1 k) ∧ υ.2 = τ.2) (h11 : τ.1 11 ≠ 0 → υ.1 11 ≠ 0) : aI σ υ B T := by
  obtain ⟨h1, h2, h3, h4, h5⟩ := h
  refine ⟨by grind, p0_fr h2 hT (fun k z1 z2 z3 z4 _ _ => hf.1 k z1 z2 z3 z4) (fun k _ _ _ _ => by rw [hf.2]), by rw [hf.2]; exact h3, fun z => h11 (h4 z), by rw [hf.2]; exact h5⟩
theorem aI_ex {σ τ υ : rS} {B T : Int32} (h : aI σ τ B T) (hf : (∀ k, k ≠ 10 → k ≠ 11 → k ≠ 12 → k ≠ 13 → k ≠ 48 → k ≠ 49 → υ.1 k = τ.1 k) ∧ (∀ k,  υ.2.1 k = τ.2.1 k) ∧ (∀ k, k ≠ 39 → k ≠ 50 → k ≠ 51 → k ≠ 52 → υ.2.2.1 k = τ.2.2.1 k) ∧ (∀ k j, k ≠ 39 → k ≠ 50 → k ≠ 51 → k ≠ 52 → υ.2.2.1 k j = τ.2.2.1 k j) ∧ (∀ k j,  υ.2.2.2 k j = τ.2.2.2 k j)) (hp : p0 υ B T) (h11 : τ.1 11 ≠ 0 → υ.1 11 ≠ 0 ∧ υ.2 = τ.2) (hr : rLo (τ.2.2.1 39) (υ.2.2.1 39) (τ.1 10)) (hh : rHi (τ.2.2.1 39) (υ.2.2.1 39) T) (ha : τ.1 11 = 0 → σ.1 10 ≤ τ.1 10) : aI σ υ B T := by
  obtain ⟨h1, h2, h3, h4, h5⟩ := h
  refine ⟨by clear h2 hp h3 hr; grind, hp, ?_, fun z => (h11 (h4 z)).1, rHi_tr h5 hh⟩
  by_cases e : τ.1 11 = 0
  · exact rLo_tr h3 hr (ha e)
  · rw [(h11 e).2]; exact h3
theorem aI_refl {σ : rS} {B T : Int32} (h : p0 σ B T) : aI σ σ B T := ⟨⟨fun _ _ _ _ _ _ _ => rfl, fun _ => rfl, fun _ _ _ _ _ => rfl, fun _ _ _ _ _ _ => rfl, fun _ _ => rfl⟩, h, rLo_refl, fun z => z, rHi_refl⟩
theorem arguments_c {C : rCx} (hC : cOK C) (B T : Int32) {σ : rS}  {Q : rS → Prop} (hp : p0 σ B T ∧ (σ.1 11 = 0 → 0 ≤ σ.1 13 ∧ σ.1 13 ≤ 40)) (h : ∀ (σ' : rS), (aI σ σ' B T ∧ (σ'.1 11 = 0 → σ.1 11 = 0 ∧ σ.1 10 < σ'.1 10 ∧ σ'.1 13 = σ.1 13 ∧ sg (σ.2.2.1 5) (σ.2.2.1 7) (σ.1 10) 40 ∧ ∃ n, gN (σ.2.2.1 5) (σ.2.2.1 7) (σ'.2.2.1 39) (σ'.1 10) n (σ.1 10 + 1))) → Q σ') : cV C 7 m_arguments [.ref (co C)] σ Q := by
  refine m_arguments_run hC ?_
  unfold w_arguments_0
  obtain ⟨hP, hO⟩ := hp
  have hj77 : ∀  (τ : rS), (aI σ τ B T ∧ (τ.1 11 = 0 → σ.1 11 = 0 ∧ sg (σ.2.2.1 5) (σ.2.2.1 7) (σ.1 10) 40 ∧ σ.1 10 < τ.1 10 ∧ σ.1 13 < 40 ∧ τ.1 13 = σ.1 13 + 1 ∧ ((τ.1 10 = σ.1 10 + 1) ∨ ∃ i b, gP (σ.2.2.1 5) (σ.2.2.1 7) (τ.2.2.1 39) (σ.1 10 + 1) i b ∧ ePa (σ.2.2.1 5) (σ.2.2.1 7) (τ.2.2.1 39) b (τ.1 10) ∧ b ≤ τ.1 10))) → w_arguments_77 C Q   τ := by
    rintro  τ77 j77
    unfold w_arguments_77
    refine close_c hC B T ?_ (fun σ_1 q2 => ?_)
    · clear h; exact j77.1.2.1.1  -- p1
    refine sign_c hC B T ?_ (fun σ_3 q4 => ?_)
    · clear h; exact q2.2.1  -- p2
    refine h _ ?_
    · clear h; have a1 := aI_fr j77.1 q2.2.1 q2.1 (fun z e => z (q2.2.2.1.mp e).1)
      have a2 := aI_fr a1 q4.2.1 ⟨fun k z1 z2 z3 _ => q4.1.1 k z1 z2 z3, q4.1.2⟩ (fun z e => z (q4.2.2.2.1.mp e).1)
      refine ⟨a2, fun f => ?_⟩
      have f1 := (q4.2.2.2.1.mp f).1
      have f0 := q2.2.2.1.mp f1
      obtain ⟨n1, n2, n3, n4, n5, n6⟩ := j77.2 f0.1
      have r5 : τ77.2.2.1 5 = σ.2.2.1 5 := j77.1.1.2.2.1 5 (by decide) (by decide) (by decide) (by decide)
      have r7 : τ77.2.2.1 7 = σ.2.2.1 7 := j77.1.1.2.2.1 7 (by decide) (by decide) (by decide) (by decide)
      have sg41 : sg (σ.2.2.1 5) (σ.2.2.1 7) (τ77.1 10) 41 := ⟨by rw [← r5]; exact f0.2.1, by rw [← r7]; exact f0.2.2.1⟩
      have at1 := q2.2.2.2 f1
      have at3 := q4.2.2.2.2 f
      have R3 : σ_3.2.2.1 39 = τ77.2.2.1 39 := by rw [q4.1.2, q2.1.2]
      have lt : τ77.1 10 < σ_3.1 10 := by
        have t1 := j77.1.2.1.1
        clear j77 n6 q4 q2 a1 a2 hP hO
        grind [tK]
      refine ⟨n1, Int32.lt_trans n3 lt, by rw [q4.1.1 13 (by decide) (by decide) (by decide), at1.2, n5]; grind, n2, ?_⟩
      rw [R3]
      rcases n6 with e | ⟨i, b, m1, m2, m3⟩
      · exact ⟨0, by rw [← e]; exact ⟨sg41, lt⟩⟩
      · exact ⟨i + 0 + 1, gP_B (k := 0) m1 (Int32.le_trans m3 (Int32.le_of_lt lt)) ⟨τ77.1 10, m2, m3, lt, sg41⟩⟩
  have hh28 : ∀ (l1 : Int32) (τ : rS), (aI σ τ B T ∧ nb l1 ∧ (τ.1 11 = 0 → σ.1 11 = 0 ∧ sg (σ.2.2.1 5) (σ.2.2.1 7) (σ.1 10) 40 ∧ σ.1 10 < τ.1 10 ∧ σ.1 13 < 40 ∧ τ.1 13 = σ.1 13 + 1 ∧ (l1 ≠ 0 → ∃ i, gP (σ.2.2.1 5) (σ.2.2.1 7) (τ.2.2.1 39) (σ.1 10 + 1) i (τ.1 10)) ∧ (l1 = 0 → (τ.1 10 = σ.1 10 + 1) ∨ ∃ i b, gP (σ.2.2.1 5) (σ.2.2.1 7) (τ.2.2.1 39) (σ.1 10 + 1) i b ∧ ePa (σ.2.2.1 5) (σ.2.2.1 7) (τ.2.2.1 39) b (τ.1 10) ∧ b ≤ τ.1 10))) → w_arguments_28 C Q  l1 τ := by
    intro z1 τi hinit
    unfold w_arguments_28
    refine ⟨fun n l1 τ => n = eMs (τ.1 11) 0 (if l1 = 0 then 2 else 0) (τ.1 10) T ∧ (aI σ τ B T ∧ nb l1 ∧ (τ.1 11 = 0 → σ.1 11 = 0 ∧ sg (σ.2.2.1 5) (σ.2.2.1 7) (σ.1 10) 40 ∧ σ.1 10 < τ.1 10 ∧ σ.1 13 < 40 ∧ τ.1 13 = σ.1 13 + 1 ∧ (l1 ≠ 0 → ∃ i, gP (σ.2.2.1 5) (σ.2.2.1 7) (τ.2.2.1 39) (σ.1 10 + 1) i (τ.1 10)) ∧ (l1 = 0 → (τ.1 10 = σ.1 10 + 1) ∨ ∃ i b, gP (σ.2.2.1 5) (σ.2.2.1 7) (τ.2.2.1 39) (σ.1 10 + 1) i b ∧ ePa (σ.2.2.1 5) (σ.2.2.1 7) (τ.2.2.1 39) b (τ.1 10) ∧ b ≤ τ.1 10))), ⟨_, rfl, hinit⟩, ?_⟩
    clear hinit
    rintro n28 x28_1 σ28 ⟨hn28, i28⟩
    have hj65 : ∀ (s0 : Int32) (τ : rS), (σ28.1 11 = 0 ∧ x28_1 ≠ 0 ∧ aI σ τ B T ∧ nb s0 ∧ (τ.1 11 ≠ 0 → s0 = 0) ∧ (τ.1 11 = 0 → σ28.1 10 ≤ τ.1 10 ∧ σ.1 11 = 0 ∧ sg (σ.2.2.1 5) (σ.2.2.1 7) (σ.1 10) 40 ∧ σ.1 10 < τ.1 10 ∧ σ.1 13 < 40 ∧ τ.1 13 = σ.1 13 + 1 ∧ (s0 ≠ 0 → sg (σ.2.2.1 5) (σ.2.2.1 7) (τ.1 10) 44) ∧ ∃ i b, gP (σ.2.2.1 5) (σ.2.2.1 7) (τ.2.2.1 39) (σ.1 10 + 1) i b ∧ ePa (σ.2.2.1 5) (σ.2.2.1 7) (τ.2.2.1 39) b (τ.1 10) ∧ b ≤ τ.1 10)) → w_arguments_65 C Q (fun l1' τ => ∃ k < n28, (fun n l1 τ => n = eMs (τ.1 11) 0 (if l1 = 0 then 2 else 0) (τ.1 10) T ∧ (aI σ τ B T ∧ nb l1 ∧ (τ.1 11 = 0 → σ.1 11 = 0 ∧ sg (σ.2.2.1 5) (σ.2.2.1 7) (σ.1 10) 40 ∧ σ.1 10 < τ.1 10 ∧ σ.1 13 < 40 ∧ τ.1 13 = σ.1 13 + 1 ∧ (l1 ≠ 0 → ∃ i, gP (σ.2.2.1 5) (σ.2.2.1 7) (τ.2.2.1 39) (σ.1 10 + 1) i (τ.1 10)) ∧ (l1 = 0 → (τ.1 10 = σ.1 10 + 1) ∨ ∃ i b, gP (σ.2.2.1 5) (σ.2.2.1 7) (τ.2.2.1 39) (σ.1 10 + 1) i b ∧ ePa (σ.2.2.1 5) (σ.2.2.1 7) (τ.2.2.1 39) b (τ.1 10) ∧ b ≤ τ.1 10)))) k l1' τ) s0 τ := by
      rintro y65_s0 τ65 j65
      unfold w_arguments_65
      have a0 : 0 ≤ σ28.1 10 := Int32.le_trans i28.1.2.1.1.1 i28.1.2.1.1.2.2.2.2.1
      refine ⟨fun c5 => ?_, fun c5 => ?_⟩
      · skip
        refine ⟨_, ?_, rfl, ?_⟩
        · clear h; obtain ⟨k1, k2, k3, k4, k5, k6⟩ := j65
          show eMs (τ65.1 11) 0 (if y65_s0 = 0 then 2 else 0) (τ65.1 10) T < n28
          rw [if_pos c5, hn28, k1, if_neg k2]
          exact eMs_lt (by decide) (fun _ _ z => absurd rfl z) (Int32.le_trans i28.1.2.1.1.1 i28.1.2.1.1.2.2.2.2.1) k3.2.1.1.2.2.2.2.2
        · clear h; obtain ⟨k1, k2, k3, k4, k5, k6⟩ := j65
          refine ⟨k3, k4, fun f => ?_⟩
          obtain ⟨m1, m2, m3, m4, m5, m6, m7, i, b, m8, m9, m10⟩ := k6 f
          exact ⟨m2, m3, m4, m5, m6, fun z => absurd c5 z, fun _ => Or.inr ⟨i, b, m8, m9, m10⟩⟩
      · skip
        refine go_c hC B T ?_ (fun σ_6 q7 => ?_)
        · clear h; obtain ⟨k1, k2, k3, k4, k5, k6⟩ := j65
          refine ⟨k3.2.1.1, fun f => ?_⟩
          obtain ⟨m1, m2, m3, m4, m5, m6, m7, i, b, m8, m9, m10⟩ := k6 f
          have r5 : τ65.2.2.1 5 = σ.2.2.1 5 := k3.1.2.2.1 5 (by decide) (by decide) (by decide) (by decide)
          have := (m7 c5).1
          rw [rd, r5, this]; decide
        refine ⟨_, ?_, rfl, ?_⟩
        · clear h; obtain ⟨k1, k2, k3, k4, k5, k6⟩ := j65
          show eMs (σ_6.1 11) 0 (if y65_s0 = 0 then 2 else 0) (σ_6.1 10) T < n28
          have f0 : τ65.1 11 = 0 := Decidable.byContradiction (fun z => c5 (k5 z))
          obtain ⟨m1, -⟩ := k6 f0
          rw [if_neg c5, hn28, k1, if_neg k2]
          refine eMs_lt (by decide) (fun _ _ _ => ?_) (Int32.le_trans i28.1.2.1.1.1 i28.1.2.1.1.2.2.2.2.1) q7.2.1.2.2.2.2.2
          have t1 := k3.2.1.1
          have t2 := q7.2.2.2.1 f0
          rw [t2]
          clear q7 k3 k6 i28 hP hO
          grind [tK]
        · clear h; obtain ⟨k1, k2, k3, k4, k5, k6⟩ := j65
          have f0 : τ65.1 11 = 0 := Decidable.byContradiction (fun z => c5 (k5 z))
          obtain ⟨m1, m2, m3, m4, m5, m6, m7, i, b, m8, m9, m10⟩ := k6 f0
          have a2 := aI_fr k3 q7.2.1 ⟨fun k z1 z2 z3 _ => q7.1.1 k z1 z2 z3, q7.1.2⟩ (fun z => absurd f0 z)
          have t2 := q7.2.2.2.1 f0
          have lt : τ65.1 10 < σ_6.1 10 := by
            have t1 := k3.2.1.1
            rw [t2]
            clear q7 k3 k6 i28 hP hO m8 m9 a2
            grind [tK]
          refine ⟨a2, k4, fun f => ⟨m2, m3, Int32.lt_trans m4 lt, m5, by rw [q7.1.1 13 (by decide) (by decide) (by decide)]; exact m6, fun _ => ⟨i + 1, b, τ65.1 10, ?_, ?_, m10, lt, t2, m7 c5⟩, fun z => absurd z c5⟩⟩
          · rw [q7.1.2]; exact m8
          · rw [q7.1.2]; exact m9
    refine isRight_c hC  (fun r8 q10 => ?_)
    refine ⟨fun c11 => ?_, fun c11 => ?_⟩
    · skip
      refine hj77 _ ?_
      · clear h; exact ⟨i28.1, fun f => absurd c11 (q10.2.mpr f)⟩  -- k9
    · skip
      refine ⟨fun c12 => ?_, fun c12 => ?_⟩
      · skip
        refine hj77 _ ?_
        · clear h; exact ⟨i28.1, fun f => ⟨(i28.2.2 f).1, (i28.2.2 f).2.1, (i28.2.2 f).2.2.1, (i28.2.2 f).2.2.2.1, (i28.2.2 f).2.2.2.2.1, (i28.2.2 f).2.2.2.2.2.2 c12⟩⟩  -- k10
      · skip
        refine expr0_c hC B T ?_ (fun r13 σ_14 q15 => ?_)
        · clear h; refine ⟨i28.1.2.1, fun f => ?_⟩
          have z := i28.2.2 f
          have z2 := hO z.1
          rw [z.2.2.2.2.1]
          have z3 := z.2.2.2.1
          clear z i28 q10 hP
          grind
        have e11 : σ28.1 11 = 0 := q10.2.mp c11
        have i3 := i28.2.2 e11
        have aE := aI_ex i28.1 q15.1 q15.2.1 q15.2.2.1 q15.2.2.2.1 q15.2.2.2.2.2 (fun _ => Int32.le_of_lt i3.2.2.1)
        obtain ⟨i, hgp⟩ := i3.2.2.2.2.2.1 c12
        have r5 : σ28.2.2.1 5 = σ.2.2.1 5 := i28.1.1.2.2.1 5 (by decide) (by decide) (by decide) (by decide)
        have r7 : σ28.2.2.1 7 = σ.2.2.1 7 := i28.1.1.2.2.1 7 (by decide) (by decide) (by decide) (by decide)
        have A1 : 0 ≤ σ.1 10 + 1 := by
          have t1 := hP.1
          clear hP hO i28 i3 aE hgp q15
          grind [tK]
        have nx : σ_14.1 11 = 0 → (σ28.1 10 ≤ σ_14.1 10 ∧ σ.1 10 < σ_14.1 10 ∧ σ_14.1 13 = σ.1 13 + 1 ∧ gP (σ.2.2.1 5) (σ.2.2.1 7) (σ_14.2.2.1 39) (σ.1 10 + 1) i (σ28.1 10) ∧ ePa (σ.2.2.1 5) (σ.2.2.1 7) (σ_14.2.2.1 39) (σ28.1 10) (σ_14.1 10)) := fun f => by
          obtain ⟨z1, z2, z3, z4⟩ := q15.2.2.2.2.1 f
          exact ⟨z2, Int32.lt_of_lt_of_le i3.2.2.1 z2, by rw [z3]; exact i3.2.2.2.2.1, gP_R A1 hgp q15.2.2.2.1, by rw [← r5, ← r7]; exact z4⟩
        refine isRight_c hC  (fun r16 q18 => ?_)
        refine ⟨fun c19 => ?_, fun c19 => ?_⟩
        · skip
          refine hj65 _ _ ?_
          · clear h; exact ⟨e11, c12, aE, nb_0, fun _ => rfl, fun f => absurd c19 (q18.2.mpr f)⟩  -- k12
        · skip
          refine isAt_c hC  ?_ (fun r20 q22 => ?_)
          · clear h; exact ⟨Int32.le_trans aE.2.1.1.1 aE.2.1.1.2.2.2.2.1, by have := aE.2.1.1; clear i28 i3 aE hgp q15 hP nx; grind [tK]⟩  -- p13
          refine ⟨fun c23 => ?_, fun c23 => ?_⟩
          · skip
            refine hj65 _ _ ?_
            · clear h; exact ⟨e11, c12, aE, nb_0, fun _ => rfl, fun f => ⟨(nx f).1, i3.1, i3.2.1, (nx f).2.1, i3.2.2.2.1, (nx f).2.2.1, fun z => absurd rfl z, i, σ28.1 10, (nx f).2.2.2.1, (nx f).2.2.2.2, (nx f).1⟩⟩  -- k14
          · skip
            refine hj65 _ _ ?_
            · clear h; have s5 : σ_14.2.2.1 5 = σ.2.2.1 5 := aE.1.2.2.1 5 (by decide) (by decide) (by decide) (by decide)
              have s7 : σ_14.2.2.1 7 = σ.2.2.1 7 := aE.1.2.2.1 7 (by decide) (by decide) (by decide) (by decide)
              have sq : sg (σ.2.2.1 5) (σ.2.2.1 7) (σ_14.1 10) 44 := by
                have := q22.2.mp c23
                exact ⟨by rw [← s5]; exact this.1, by rw [← s7]; exact this.2⟩
              exact ⟨e11, c12, aE, nb_1, fun z => absurd (q18.2.mp c19) z, fun f => ⟨(nx f).1, i3.1, i3.2.1, (nx f).2.1, i3.2.2.2.1, (nx f).2.2.1, fun _ => sq, i, σ28.1 10, (nx f).2.2.2.1, (nx f).2.2.2.2, (nx f).1⟩⟩
  refine open_c hC B T ?_ (fun σ_24 q25 => ?_)
  · clear h; exact hP.1  -- p16
  have aO := aI_fr (aI_refl hP) q25.2.1 q25.1 (fun z e => z (q25.2.2.1.mp e).1)
  have nO : σ_24.1 11 = 0 → σ.1 11 = 0 ∧ sg (σ.2.2.1 5) (σ.2.2.1 7) (σ.1 10) 40 ∧ σ.1 10 < σ_24.1 10 ∧ σ.1 13 < 40 ∧ σ_24.1 13 = σ.1 13 + 1 ∧ σ_24.1 10 = σ.1 10 + 1 := fun f => by
    have z := q25.2.2.1.mp f
    have z2 := q25.2.2.2 f
    have t1 := hP.1
    have o1 := hO z.1
    refine ⟨z.1, ⟨z.2.1, z.2.2.1⟩, ?_, ?_, z2.2, z2.1⟩
    · rw [z2.1]; clear hP hO aO q25 z2 z o1; grind [tK]
    · have := z.2.2.2.2; clear hP hO aO q25 z2 z t1; grind
  refine isRight_c hC  (fun r26 q28 => ?_)
  refine ⟨fun c29 => ?_, fun c29 => ?_⟩
  · skip
    refine hh28 _ _ ?_
    · clear h; exact ⟨aO, nb_0, fun f => absurd c29 (q28.2.mpr f)⟩  -- j17
  · skip
    refine isAt_c hC  ?_ (fun r30 q32 => ?_)
    · clear h; exact ⟨Int32.le_trans aO.2.1.1.1 aO.2.1.1.2.2.2.2.1, by have := aO.2.1.1; clear aO q25 hP nO; grind [tK]⟩  -- p18
    refine ⟨fun c33 => ?_, fun c33 => ?_⟩
    · skip
      refine hh28 _ _ ?_
      · clear h; exact ⟨aO, nb_0, fun f => ⟨(nO f).1, (nO f).2.1, (nO f).2.2.1, (nO f).2.2.2.1, (nO f).2.2.2.2.1, fun z => absurd rfl z, fun _ => Or.inl (nO f).2.2.2.2.2⟩⟩  -- j19
    · skip
      refine hh28 _ _ ?_
      · clear h; exact ⟨aO, nb_1, fun f => ⟨(nO f).1, (nO f).2.1, (nO f).2.2.1, (nO f).2.2.2.1, (nO f).2.2.2.2.1, fun _ => ⟨0, (nO f).2.2.2.2.2⟩, fun z => absurd z (by decide)⟩⟩  -- j20

end
section
set_option maxHeartbeats 1600000
/-! the reference: steps over a text, one behind the other -/
theorem at_up {σ : rS} {B T a : Int32} (h : tK σ B T) (ha : a ≤ T) (e : a = σ.1 10 + 1) : σ.1 10 < a := by
  subst e
  obtain ⟨h1, h2, h3, -, h5, h6⟩ := h
  grind
theorem aI_at {σ τ : rS} {B T : Int32} (h : aI σ τ B T) : τ.2.2.1 5 = σ.2.2.1 5 ∧ τ.2.2.1 7 = σ.2.2.1 7 ∧ tK τ B T ∧ 0 ≤ τ.1 10 ∧ τ.1 10 < 131074 :=
  ⟨h.1.2.2.1 5 (by decide) (by decide) (by decide) (by decide), h.1.2.2.1 7 (by decide) (by decide) (by decide) (by decide), h.2.1.1, Int32.le_trans h.2.1.1.1 h.2.1.1.2.2.2.2.1, by have := h.2.1.1; clear h; grind [tK]⟩
/-- behind a step of the text: faultless only from faultless, further on -/
def nxt (σ τ υ : rS) : Prop := υ.1 11 = 0 → τ.1 11 = 0 ∧ τ.1 10 < υ.1 10
theorem aI_sign {σ τ υ : rS} {B T c : Int32} (h : aI σ τ B T) (q : ((∀ k, k ≠ 10 → k ≠ 11 → k ≠ 12 → υ.1 k = τ.1 k) ∧ υ.2 = τ.2) ∧ tK υ B T ∧ (τ.1 11 ≠ 0 → υ = τ) ∧ (υ.1 11 = 0 ↔ τ.1 11 = 0 ∧ rd τ 5 (τ.1 10) = 3 ∧ rd τ 7 (τ.1 10) = c ∧ rd τ 5 (τ.1 10 + 1) ≠ 4) ∧ (υ.1 11 = 0 → υ.1 10 = τ.1 10 + 1)) : aI σ υ B T ∧ υ.2 = τ.2 ∧ (υ.1 11 = 0 → τ.1 11 = 0 ∧ τ.1 10 < υ.1 10 ∧ υ.1 10 = τ.1 10 + 1 ∧ υ.1 13 = τ.1 13 ∧ sg (σ.2.2.1 5) (σ.2.2.1 7) (τ.1 10) c) := by
  have a := aI_at h
  refine ⟨aI_fr h q.2.1 ⟨fun k z1 z2 z3 _ => q.1.1 k z1 z2 z3, q.1.2⟩ (fun z e => z (q.2.2.2.1.mp e).1), q.1.2, fun f => ?_⟩
  have z := q.2.2.2.1.mp f
  have z2 := q.2.2.2.2 f
  exact ⟨z.1, at_up a.2.2.1 q.2.1.2.2.2.2.2 z2, z2, q.1.1 13 (by decide) (by decide) (by decide), by rw [← a.1]; exact z.2.1, by rw [← a.2.1]; exact z.2.2.1⟩
theorem aI_open {σ τ υ : rS} {B T c : Int32} (h : aI σ τ B T) (q : ((∀ k, k ≠ 10 → k ≠ 11 → k ≠ 12 → k ≠ 13 → υ.1 k = τ.1 k) ∧ υ.2 = τ.2) ∧ tK υ B T ∧ (υ.1 11 = 0 ↔ τ.1 11 = 0 ∧ rd τ 5 (τ.1 10) = 3 ∧ rd τ 7 (τ.1 10) = c ∧ rd τ 5 (τ.1 10 + 1) ≠ 4 ∧ τ.1 13 ≠ 40) ∧ (υ.1 11 = 0 → υ.1 10 = τ.1 10 + 1 ∧ υ.1 13 = τ.1 13 + 1)) : aI σ υ B T ∧ υ.2 = τ.2 ∧ (υ.1 11 = 0 → τ.1 11 = 0 ∧ τ.1 10 < υ.1 10 ∧ υ.1 10 = τ.1 10 + 1 ∧ υ.1 13 = τ.1 13 + 1 ∧ sg (σ.2.2.1 5) (σ.2.2.1 7) (τ.1 10) c ∧ τ.1 13 ≠ 40) := by
  have a := aI_at h
  refine ⟨aI_fr h q.2.1 q.1 (fun z e => z (q.2.2.1.mp e).1), q.1.2, fun f => ?_⟩
  have z := q.2.2.1.mp f
  have z2 := q.2.2.2 f
  exact ⟨z.1, at_up a.2.2.1 q.2.1.2.2.2.2.2 z2.1, z2.1, z2.2, ⟨by rw [← a.1]; exact z.2.1, by rw [← a.2.1]; exact z.2.2.1⟩, z.2.2.2.2⟩
theorem aI_close {σ τ υ : rS} {B T c : Int32} (h : aI σ τ B T) (q : ((∀ k, k ≠ 10 → k ≠ 11 → k ≠ 12 → k ≠ 13 → υ.1 k = τ.1 k) ∧ υ.2 = τ.2) ∧ tK υ B T ∧ (υ.1 11 = 0 ↔ τ.1 11 = 0 ∧ rd τ 5 (τ.1 10) = 3 ∧ rd τ 7 (τ.1 10) = c ∧ rd τ 5 (τ.1 10 + 1) ≠ 4) ∧ (υ.1 11 = 0 → υ.1 10 = τ.1 10 + 1 ∧ υ.1 13 = τ.1 13 - 1)) : aI σ υ B T ∧ υ.2 = τ.2 ∧ (υ.1 11 = 0 → τ.1 11 = 0 ∧ τ.1 10 < υ.1 10 ∧ υ.1 10 = τ.1 10 + 1 ∧ υ.1 13 = τ.1 13 - 1 ∧ sg (σ.2.2.1 5) (σ.2.2.1 7) (τ.1 10) c) := by
  have a := aI_at h
  refine ⟨aI_fr h q.2.1 q.1 (fun z e => z (q.2.2.1.mp e).1), q.1.2, fun f => ?_⟩
  have z := q.2.2.1.mp f
  have z2 := q.2.2.2 f
  exact ⟨z.1, at_up a.2.2.1 q.2.1.2.2.2.2.2 z2.1, z2.1, z2.2, by rw [← a.1]; exact z.2.1, by rw [← a.2.1]; exact z.2.2.1⟩
theorem aI_go {σ τ υ : rS} {B T : Int32} (h : aI σ τ B T) (q : ((∀ k, k ≠ 10 → k ≠ 11 → k ≠ 12 → υ.1 k = τ.1 k) ∧ υ.2 = τ.2) ∧ tK υ B T ∧ (τ.1 11 ≠ 0 → υ = τ) ∧ (τ.1 11 = 0 → υ.1 10 = τ.1 10 + 1) ∧ (υ.1 11 = 0 ↔ τ.1 11 = 0 ∧ rd τ 5 (τ.1 10 + 1) ≠ 4)) : aI σ υ B T ∧ υ.2 = τ.2 ∧ (υ.1 11 = 0 → τ.1 11 = 0 ∧ τ.1 10 < υ.1 10 ∧ υ.1 10 = τ.1 10 + 1 ∧ υ.1 13 = τ.1 13) := by
  have a := aI_at h
  refine ⟨aI_fr h q.2.1 ⟨fun k z1 z2 z3 _ => q.1.1 k z1 z2 z3, q.1.2⟩ (fun z e => z (q.2.2.2.2.mp e).1), q.1.2, fun f => ?_⟩
  have z := q.2.2.2.2.mp f
  have z2 := q.2.2.2.1 z.1
  exact ⟨z.1, at_up a.2.2.1 q.2.1.2.2.2.2.2 z2, z2, q.1.1 13 (by decide) (by decide) (by decide)⟩
theorem aI_flaw {σ τ υ : rS} {B T : Int32} (h : aI σ τ B T) (q : ((∀ k, k ≠ 11 → k ≠ 12 → υ.1 k = τ.1 k) ∧ υ.2 = τ.2) ∧ (τ.1 11 ≠ 0 → υ = τ) ∧ υ.1 11 ≠ 0 ∧ (0 ≤ τ.1 11 → 0 ≤ υ.1 11)) : aI σ υ B T ∧ υ.2 = τ.2 ∧ υ.1 11 ≠ 0 :=
  ⟨aI_fr h (by have := h.2.1.1; clear h; grind [tK]) ⟨fun k _ z1 z2 _ => q.1.1 k z1 z2, q.1.2⟩ (fun _ => q.2.2.1), q.1.2, q.2.2.1⟩
theorem aI_expr {σ τ υ : rS} {B T : Int32} (h : aI σ τ B T) (q : ((∀ k, k ≠ 10 → k ≠ 11 → k ≠ 12 → k ≠ 13 → k ≠ 48 → k ≠ 49 → υ.1 k = τ.1 k) ∧ (∀ k,  υ.2.1 k = τ.2.1 k) ∧ (∀ k, k ≠ 39 → k ≠ 50 → k ≠ 51 → k ≠ 52 → υ.2.2.1 k = τ.2.2.1 k) ∧ (∀ k j, k ≠ 39 → k ≠ 50 → k ≠ 51 → k ≠ 52 → υ.2.2.1 k j = τ.2.2.1 k j) ∧ (∀ k j,  υ.2.2.2 k j = τ.2.2.2 k j)) ∧ p0 υ B T ∧ (τ.1 11 ≠ 0 → υ.1 11 ≠ 0 ∧ υ.2 = τ.2) ∧ rLo (τ.2.2.1 39) (υ.2.2.1 39) (τ.1 10) ∧ (υ.1 11 = 0 → τ.1 11 = 0 ∧ τ.1 10 ≤ υ.1 10 ∧ υ.1 13 = τ.1 13 ∧ ePa (τ.2.2.1 5) (τ.2.2.1 7) (υ.2.2.1 39) (τ.1 10) (υ.1 10)) ∧ rHi (τ.2.2.1 39) (υ.2.2.1 39) T) (ha : τ.1 11 = 0 → σ.1 10 ≤ τ.1 10) : aI σ υ B T ∧ rLo (τ.2.2.1 39) (υ.2.2.1 39) (τ.1 10) ∧ (υ.1 11 = 0 → τ.1 11 = 0 ∧ τ.1 10 ≤ υ.1 10 ∧ υ.1 13 = τ.1 13 ∧ ePa (σ.2.2.1 5) (σ.2.2.1 7) (υ.2.2.1 39) (τ.1 10) (υ.1 10)) := by
  have a := aI_at h
  refine ⟨aI_ex h q.1 q.2.1 q.2.2.1 q.2.2.2.1 q.2.2.2.2.2 ha, q.2.2.2.1, fun f => ?_⟩
  obtain ⟨z1, z2, z3, z4⟩ := q.2.2.2.2.1 f
  exact ⟨z1, z2, z3, by rw [← a.1, ← a.2.1]; exact z4⟩
theorem ePa_lo {S N R R' : Nat → Int32} {a e b : Int32} (h : ePa S N R a e) (h0 : 0 ≤ a) (hR : rLo R R' b) (hb : e ≤ b) : ePa S N R' a e := ePa_R h (fun t ht ht2 _ => hR t (Int32.le_trans h0 ht) (Int32.lt_of_lt_of_le ht2 hb))
/-- i pairs of expressions from token p0 on, a comma behind each, the last at token p -/
def prP (S N R : Nat → Int32) (p0 : Int32) : Nat → Int32 → Prop
  | 0, p => p = p0
  | i + 1, p => ∃ b e, prP S N R p0 i b ∧ b < b + 1 ∧ ePa S N R (b + 1) e ∧ b + 1 ≤ e ∧ e < e + 1 ∧ ePa S N R (e + 1) p ∧ e + 1 ≤ p ∧ sg S N p 44
/-- k + 1 pairs of expressions behind token p, commas between them -/
def prB (S N R : Nat → Int32) (P : Int32) : Nat → Int32 → Prop
  | 0, p => ∃ e1 e2, ePa S N R (p + 1) e1 ∧ p + 1 ≤ e1 ∧ p < p + 1 ∧ ePa S N R (e1 + 1) e2 ∧ e1 < e1 + 1 ∧ e1 + 1 ≤ e2 ∧ e2 < P ∧ ¬ sg S N e2 44
  | k + 1, p => ∃ e1 e2, ePa S N R (p + 1) e1 ∧ p + 1 ≤ e1 ∧ p < p + 1 ∧ ePa S N R (e1 + 1) e2 ∧ e1 < e1 + 1 ∧ e1 + 1 ≤ e2 ∧ e2 < P ∧ sg S N e2 44 ∧ prB S N R P k e2
theorem prP_ge {S N R : Nat → Int32} {p0 : Int32} {i : Nat} : ∀ {p : Int32}, prP S N R p0 i p → p0 ≤ p := by
  induction i with
  | zero => rintro a rfl; exact Int32.le_refl _
  | succ i ih =>
    rintro p ⟨b, e, h1, hb, -, h3, he, -, h5, -⟩
    exact Int32.le_trans (ih h1) (Int32.le_trans (Int32.le_of_lt hb) (Int32.le_trans h3 (Int32.le_trans (Int32.le_of_lt he) h5)))
theorem prP_R {S N R R' : Nat → Int32} {p0 : Int32} (h0 : 0 ≤ p0) {i : Nat} : ∀ {p : Int32}, prP S N R p0 i p → rLo R R' p → prP S N R' p0 i p := by
  induction i with
  | zero => rintro a h _; exact h
  | succ i ih =>
    rintro p ⟨b, e, h1, hb, h2, h3, he, h4, h5, h6⟩ hR
    have g0 : 0 ≤ b := Int32.le_trans h0 (prP_ge h1)
    have g1 : 0 ≤ b + 1 := Int32.le_trans g0 (Int32.le_of_lt hb)
    have g2 : 0 ≤ e + 1 := Int32.le_trans g1 (Int32.le_trans h3 (Int32.le_of_lt he))
    have g3 : e ≤ p := Int32.le_trans (Int32.le_of_lt he) h5
    have g4 : b ≤ p := Int32.le_trans (Int32.le_of_lt hb) (Int32.le_trans h3 g3)
    refine ⟨b, e, ih h1 (fun t ht ht2 => hR t ht (Int32.lt_of_lt_of_le ht2 g4)), hb, ePa_lo h2 g1 hR g3, h3, he, ePa_lo h4 g2 hR (Int32.le_refl _), h5, h6⟩
theorem prP_B {S N R : Nat → Int32} {p0 P : Int32} {i : Nat} : ∀ {k : Nat} {p : Int32}, prP S N R p0 i p → p < P → prB S N R P k p → prB S N R P (i + k) p0 := by
  induction i with
  | zero => rintro k a rfl _ h; rwa [Nat.zero_add]
  | succ i ih =>
    rintro k p ⟨b, e, h1, hb, h2, h3, he, h4, h5, h6⟩ hP hB
    have g3 : e ≤ p := Int32.le_trans (Int32.le_of_lt he) h5
    have g4 : b ≤ p := Int32.le_trans (Int32.le_of_lt hb) (Int32.le_trans h3 g3)
    have := ih (k := k + 1) h1 (Int32.lt_of_le_of_lt g4 hP) ⟨e, p, h2, h3, hb, h4, he, h5, hP, h6, hB⟩
    rwa [show i + 1 + k = i + (k + 1) by omega]
/-- what is drawn, at token x: pick, flip, or pairs -/
def drO (S N R : Nat → Int32) (P x : Int32) : Prop :=
  (S x.toNatClampNeg = 6 ∧ N x.toNatClampNeg = 11 → ∃ e, ePa S N R (x + 2) e ∧ e < P) ∧
  (S x.toNatClampNeg = 6 ∧ N x.toNatClampNeg = 12 → ∃ e1 e2, ePa S N R (x + 2) e1 ∧ e1 < e1 + 1 ∧ e1 + 1 ≤ e2 ∧ ePa S N R (e1 + 1) e2 ∧ e2 < P) ∧
  (¬ (S x.toNatClampNeg = 6 ∧ (N x.toNatClampNeg = 11 ∨ N x.toNatClampNeg = 12)) → ∃ k, k < 8 ∧ prB S N R P k x)

end
section
set_option maxHeartbeats 1600000
/-! the reference: what is drawn -/
abbrev dB0 (σ τ : rS) : Prop := σ.1 11 = 0 ∧ σ.1 10 < τ.1 10 ∧ σ.1 13 ≠ 40 ∧ τ.1 13 = σ.1 13 + 1 ∧ ¬ (rd σ 5 (σ.1 10) = 6 ∧ (rd σ 7 (σ.1 10) = 11 ∨ rd σ 7 (σ.1 10) = 12))
theorem oc_up {x : Int32} (h0 : 0 ≤ x) (h1 : x ≤ 40) (h2 : x ≠ 40) : 0 ≤ x + 1 ∧ x + 1 ≤ 40 := by grind
theorem oc_dn {x : Int32} : x + 1 - 1 = x := by grind
theorem up_2 {a : Int32} : a + 1 + 1 = a + 2 := by grind
theorem lt_up {a : Int32} (h0 : 0 ≤ a) (h1 : a < 131074) : a < a + 1 := by grind
theorem le9 {x : Int32} (h0 : 0 ≤ x) (h1 : x ≤ 8) : 0 ≤ x + 1 := by grind
theorem lt8 {x : Int32} (h1 : x < 8) : x + 1 ≤ 8 := by grind
theorem ne8 {x : Int32} (h1 : x ≤ 8) (h : ¬ x = 8) : x < 8 := by grind
theorem tellDraw_c {C : rCx} (hC : cOK C) (B T : Int32) {σ : rS}  {Q : rS → Prop} (hp : p0 σ B T ∧ (σ.1 11 = 0 → 0 ≤ σ.1 13 ∧ σ.1 13 ≤ 40)) (h : ∀ (σ' : rS), (aI σ σ' B T ∧ (σ'.1 11 = 0 → σ.1 11 = 0 ∧ σ.1 10 < σ'.1 10 ∧ σ'.1 13 = σ.1 13 ∧ drO (σ.2.2.1 5) (σ.2.2.1 7) (σ'.2.2.1 39) (σ'.1 10) (σ.1 10))) → Q σ') : cV C 7 m_tellDraw [.ref (co C)] σ Q := by
  refine m_tellDraw_run hC ?_
  unfold w_tellDraw_0
  obtain ⟨hP, hO⟩ := hp
  have hS := aI_refl hP
  have hj172 : ∀  (τ : rS), (aI σ τ B T ∧ (τ.1 11 = 0 → dB0 σ τ ∧ ∃ i p e, i < 8 ∧ prP (σ.2.2.1 5) (σ.2.2.1 7) (τ.2.2.1 39) (σ.1 10) i p ∧ p < p + 1 ∧ ePa (σ.2.2.1 5) (σ.2.2.1 7) (τ.2.2.1 39) (p + 1) e ∧ p + 1 ≤ e ∧ e < e + 1 ∧ ePa (σ.2.2.1 5) (σ.2.2.1 7) (τ.2.2.1 39) (e + 1) (τ.1 10) ∧ e + 1 ≤ τ.1 10 ∧ ¬ sg (σ.2.2.1 5) (σ.2.2.1 7) (τ.1 10) 44)) → w_tellDraw_172 C Q   τ := by
    rintro  τ172 j172
    unfold w_tellDraw_172
    refine close_c hC B T ?_ (fun σ_1 q2 => ?_)
    · clear h; exact j172.1.2.1.1  -- p1
    refine sign_c hC B T ?_ (fun σ_3 q4 => ?_)
    · clear h; exact q2.2.1  -- p2
    refine h _ ?_
    · clear h; have a1 := aI_close j172.1 q2
      have a2 := aI_sign a1.1 q4
      refine ⟨a2.1, fun f => ?_⟩
      obtain ⟨f1, l1, e1, o1, -⟩ := a2.2.2 f
      obtain ⟨f0, l0, e0, o0, -⟩ := a1.2.2 f1
      obtain ⟨d0, i, p, e, m1, m2, m3, m4, m5, m6, m7, m8, m9⟩ := j172.2 f0
      have lP := Int32.lt_trans l0 l1
      refine ⟨d0.1, Int32.lt_trans d0.2.1 lP, by rw [o1, o0, d0.2.2.2.1]; exact oc_dn, fun z => absurd ⟨z.1, Or.inl z.2⟩ d0.2.2.2.2, fun z => absurd ⟨z.1, Or.inr z.2⟩ d0.2.2.2.2, fun _ => ⟨i + 0, m1, ?_⟩⟩
      rw [a2.2.1, a1.2.1]
      exact prP_B (k := 0) m2 (Int32.lt_of_lt_of_le m3 (Int32.le_trans m5 (Int32.le_trans (Int32.le_of_lt m6) (Int32.le_trans m8 (Int32.le_of_lt lP))))) ⟨e, τ172.1 10, m4, m5, m3, m7, m6, m8, lP, m9⟩
  have hj55 : ∀  (τ : rS), (aI σ τ B T ∧ (τ.1 11 = 0 → σ.1 11 = 0 ∧ σ.1 10 < τ.1 10 ∧ τ.1 13 = σ.1 13 + 1 ∧ rd σ 5 (σ.1 10) = 6 ∧ (rd σ 7 (σ.1 10) = 11 ∨ rd σ 7 (σ.1 10) = 12) ∧ (rd σ 7 (σ.1 10) = 11 → ePa (σ.2.2.1 5) (σ.2.2.1 7) (τ.2.2.1 39) (σ.1 10 + 2) (τ.1 10)) ∧ (rd σ 7 (σ.1 10) = 12 → ∃ e, ePa (σ.2.2.1 5) (σ.2.2.1 7) (τ.2.2.1 39) (σ.1 10 + 2) e ∧ e < e + 1 ∧ e + 1 ≤ τ.1 10 ∧ ePa (σ.2.2.1 5) (σ.2.2.1 7) (τ.2.2.1 39) (e + 1) (τ.1 10)))) → w_tellDraw_55 C Q   τ := by
    rintro  τ55 j55
    unfold w_tellDraw_55
    refine close_c hC B T ?_ (fun σ_5 q6 => ?_)
    · clear h; exact j55.1.2.1.1  -- p4
    refine sign_c hC B T ?_ (fun σ_7 q8 => ?_)
    · clear h; exact q6.2.1  -- p5
    refine h _ ?_
    · clear h; have a1 := aI_close j55.1 q6
      have a2 := aI_sign a1.1 q8
      refine ⟨a2.1, fun f => ?_⟩
      obtain ⟨f1, l1, e1, o1, -⟩ := a2.2.2 f
      obtain ⟨f0, l0, e0, o0, -⟩ := a1.2.2 f1
      obtain ⟨n1, n2, n3, n4, n5, n6, n7⟩ := j55.2 f0
      have lP := Int32.lt_trans l0 l1
      rw [a2.2.1, a1.2.1]
      refine ⟨n1, Int32.lt_trans n2 lP, by rw [o1, o0, n3]; exact oc_dn, fun z => ⟨τ55.1 10, n6 z.2, lP⟩, fun z => ?_, fun z => absurd ⟨n4, n5⟩ z⟩
      obtain ⟨e, m1, m2, m3, m4⟩ := n7 z.2
      exact ⟨e, τ55.1 10, m1, m2, m3, m4, lP⟩
  have hj18 : ∀  (τ : rS), (σ = τ ∧ rd σ 5 (σ.1 10) = 6 ∧ (rd σ 7 (σ.1 10) = 11 ∨ rd σ 7 (σ.1 10) = 12)) → w_tellDraw_18 C Q   τ := by
    rintro  _ ⟨rfl, j18⟩
    unfold w_tellDraw_18
    refine isWord_c hC  ?_ (fun r9 q11 => ?_)
    · clear h; exact (aI_at hS).2.2.2  -- p7
    refine go_c hC B T ?_ (fun σ_12 q13 => ?_)
    · clear h; exact ⟨hP.1, fun _ => by rw [j18.1]; decide⟩  -- p8
    refine open_c hC B T ?_ (fun σ_14 q15 => ?_)
    · clear h; exact q13.2.1  -- p9
    have b1 := aI_go hS q13
    have b2 := aI_open b1.1 q15
    have nx : σ_14.1 11 = 0 → σ.1 11 = 0 ∧ σ.1 10 < σ_14.1 10 ∧ σ_14.1 10 = σ.1 10 + 2 ∧ σ_14.1 13 = σ.1 13 + 1 ∧ 0 ≤ σ_14.1 13 ∧ σ_14.1 13 ≤ 40 := fun f => by
      obtain ⟨f1, l1, e1, o1, s1, o2⟩ := b2.2.2 f
      obtain ⟨f0, l0, e0, o0⟩ := b1.2.2 f1
      have z := hO f0
      rw [o0] at o2 o1
      have w := oc_up z.1 z.2 o2
      exact ⟨f0, Int32.lt_trans l0 l1, by rw [e1, e0]; exact up_2, o1, by rw [o1]; exact w.1, by rw [o1]; exact w.2⟩
    refine expr0_c hC B T ?_ (fun r16 σ_17 q18 => ?_)
    · clear h; exact ⟨b2.1.2.1, fun f => (nx f).2.2.2.2⟩  -- p10
    have b3 := aI_expr b2.1 q18 (fun f => Int32.le_of_lt (nx f).2.1)
    have ny : σ_17.1 11 = 0 → σ.1 11 = 0 ∧ σ.1 10 < σ_17.1 10 ∧ σ_17.1 13 = σ.1 13 + 1 ∧ 0 ≤ σ_17.1 13 ∧ σ_17.1 13 ≤ 40 ∧ ePa (σ.2.2.1 5) (σ.2.2.1 7) (σ_17.2.2.1 39) (σ.1 10 + 2) (σ_17.1 10) ∧ 0 ≤ σ.1 10 + 2 := fun f => by
      obtain ⟨g1, g2, g3, g4⟩ := b3.2.2 f
      have w := nx g1
      rw [w.2.2.1] at g4
      refine ⟨w.1, Int32.lt_of_lt_of_le w.2.1 g2, by rw [g3]; exact w.2.2.2.1, by rw [g3]; exact w.2.2.2.2.1, by rw [g3]; exact w.2.2.2.2.2, g4, ?_⟩
      rw [← w.2.2.1]; exact Int32.le_trans (aI_at hS).2.2.2.1 (Int32.le_of_lt w.2.1)
    refine ⟨fun c19 => ?_, fun c19 => ?_⟩
    · skip
      refine hj55 _ ?_
      · clear h; refine ⟨b3.1, fun f => ?_⟩
        have w := ny f
        exact ⟨w.1, w.2.1, w.2.2.1, j18.1, j18.2, fun _ => w.2.2.2.2.2.1, fun z => absurd c19 (q11.2.mpr ⟨j18.1, z⟩)⟩
    · skip
      refine sign_c hC B T ?_ (fun σ_20 q21 => ?_)
      · clear h; exact q18.2.1.1  -- p12
      have b4 := aI_sign b3.1 q21
      refine expr0_c hC B T ?_ (fun r22 σ_23 q24 => ?_)
      · clear h; exact ⟨b4.1.2.1, fun f => by obtain ⟨f1, l1, e1, o1, -⟩ := b4.2.2 f; have w := ny f1; rw [o1]; exact ⟨w.2.2.2.1, w.2.2.2.2.1⟩⟩  -- p13
      refine hj55 _ ?_
      · clear h; have b5 := aI_expr b4.1 q24 (fun f => by obtain ⟨f1, l1, -⟩ := b4.2.2 f; exact Int32.le_of_lt (Int32.lt_trans (ny f1).2.1 l1))
        refine ⟨b5.1, fun f => ?_⟩
        obtain ⟨g1, g2, g3, g4⟩ := b5.2.2 f
        obtain ⟨f1, l1, e1, o1, -⟩ := b4.2.2 g1
        have w := ny f1
        have r9c := q11.2.mp c19
        refine ⟨w.1, Int32.lt_of_lt_of_le (Int32.lt_trans w.2.1 l1) g2, by rw [g3, o1]; exact w.2.2.1, j18.1, j18.2, fun z => absurd (z.symm.trans r9c.2) (by decide), fun _ => ⟨σ_17.1 10, ?_, by rw [← e1]; exact l1, by rw [← e1]; exact g2, by rw [← e1]; exact g4⟩⟩
        have hw := w.2.2.2.2.2.1
        have hb := b5.2.1
        rw [b4.2.1] at hb
        exact ePa_lo hw w.2.2.2.2.2.2 hb (Int32.le_of_lt l1)
  refine isWord_c hC  ?_ (fun r25 q27 => ?_)
  · clear h; exact (aI_at hS).2.2.2  -- p15
  refine ⟨fun c28 => ?_, fun c28 => ?_⟩
  · skip
    refine hj18 _ ?_
    · clear h; exact ⟨rfl, (q27.2.mp c28).1, Or.inl (q27.2.mp c28).2⟩  -- k16
  · skip
    refine isWord_c hC  ?_ (fun r29 q31 => ?_)
    · clear h; exact (aI_at hS).2.2.2  -- p17
    refine ⟨fun c32 => ?_, fun c32 => ?_⟩
    · skip
      refine open_c hC B T ?_ (fun σ_33 q34 => ?_)
      · clear h; exact hP.1  -- p18
      refine isRight_c hC  (fun r35 q37 => ?_)
      unfold w_tellDraw_77
      refine ⟨fun n l1 l2 τ => n = eMs (τ.1 11) 0 (if l2 = 0 then 2 else 0) (τ.1 10) T ∧ (aI σ τ B T ∧ nb l2 ∧ 0 ≤ l1 ∧ (τ.1 11 = 0 → dB0 σ τ ∧ l1 ≤ 8 ∧ (l2 ≠ 0 → ∃ p, prP (σ.2.2.1 5) (σ.2.2.1 7) (τ.2.2.1 39) (σ.1 10) l1.toNatClampNeg p ∧ τ.1 10 = p + 1 ∧ p < p + 1) ∧ (l2 = 0 → ∃ i p e, i < 8 ∧ prP (σ.2.2.1 5) (σ.2.2.1 7) (τ.2.2.1 39) (σ.1 10) i p ∧ p < p + 1 ∧ ePa (σ.2.2.1 5) (σ.2.2.1 7) (τ.2.2.1 39) (p + 1) e ∧ p + 1 ≤ e ∧ e < e + 1 ∧ ePa (σ.2.2.1 5) (σ.2.2.1 7) (τ.2.2.1 39) (e + 1) (τ.1 10) ∧ e + 1 ≤ τ.1 10 ∧ ¬ sg (σ.2.2.1 5) (σ.2.2.1 7) (τ.1 10) 44))), ⟨_, rfl, ?_⟩, ?_⟩
      · clear h; have b1 := aI_open hS q34
        refine ⟨b1.1, q37.1, by decide, fun f => ?_⟩
        obtain ⟨f0, l0, e0, o0, s0, o2⟩ := b1.2.2 f
        refine ⟨⟨f0, l0, o2, o0, fun z => by rcases z.2 with w | w; exact (q27.2.mpr ⟨z.1, w⟩) c28; exact (q31.2.mpr ⟨z.1, w⟩) c32⟩, by decide, fun _ => ⟨σ.1 10, ?_, e0, by rw [← e0]; exact l0⟩, fun z => absurd z (q37.2.mpr f)⟩
        rw [show (0 : Int32).toNatClampNeg = 0 from rfl]
        rfl
      rintro n77 x77_1 x77_2 σ77 ⟨hn77, i77⟩
      have hj160 : ∀ (l1 : Int32) (s0 : Int32) (τ : rS), (σ77.1 11 = 0 ∧ x77_2 ≠ 0 ∧ 0 ≤ x77_1 ∧ x77_1 ≤ 8 ∧ l1 = x77_1 + 1 ∧ aI σ τ B T ∧ nb s0 ∧ (τ.1 11 ≠ 0 → s0 = 0) ∧ (τ.1 11 = 0 → dB0 σ τ ∧ σ77.1 10 < τ.1 10 ∧ x77_1 < 8 ∧ (s0 ≠ 0 ↔ sg (σ.2.2.1 5) (σ.2.2.1 7) (τ.1 10) 44) ∧ ∃ p e, prP (σ.2.2.1 5) (σ.2.2.1 7) (τ.2.2.1 39) (σ.1 10) x77_1.toNatClampNeg p ∧ p < p + 1 ∧ ePa (σ.2.2.1 5) (σ.2.2.1 7) (τ.2.2.1 39) (p + 1) e ∧ p + 1 ≤ e ∧ e < e + 1 ∧ ePa (σ.2.2.1 5) (σ.2.2.1 7) (τ.2.2.1 39) (e + 1) (τ.1 10) ∧ e + 1 ≤ τ.1 10)) → w_tellDraw_160 C Q (fun l1' l2' τ => ∃ k < n77, (fun n l1 l2 τ => n = eMs (τ.1 11) 0 (if l2 = 0 then 2 else 0) (τ.1 10) T ∧ (aI σ τ B T ∧ nb l2 ∧ 0 ≤ l1 ∧ (τ.1 11 = 0 → dB0 σ τ ∧ l1 ≤ 8 ∧ (l2 ≠ 0 → ∃ p, prP (σ.2.2.1 5) (σ.2.2.1 7) (τ.2.2.1 39) (σ.1 10) l1.toNatClampNeg p ∧ τ.1 10 = p + 1 ∧ p < p + 1) ∧ (l2 = 0 → ∃ i p e, i < 8 ∧ prP (σ.2.2.1 5) (σ.2.2.1 7) (τ.2.2.1 39) (σ.1 10) i p ∧ p < p + 1 ∧ ePa (σ.2.2.1 5) (σ.2.2.1 7) (τ.2.2.1 39) (p + 1) e ∧ p + 1 ≤ e ∧ e < e + 1 ∧ ePa (σ.2.2.1 5) (σ.2.2.1 7) (τ.2.2.1 39) (e + 1) (τ.1 10) ∧ e + 1 ≤ τ.1 10 ∧ ¬ sg (σ.2.2.1 5) (σ.2.2.1 7) (τ.1 10) 44)))) k l1' l2' τ) l1 s0 τ := by
        rintro y160_1 y160_s0 τ160 j160
        unfold w_tellDraw_160
        refine ⟨fun c38 => ?_, fun c38 => ?_⟩
        · skip
          refine ⟨_, ?_, rfl, ?_⟩
          · clear h; obtain ⟨k1, k2, k3, k9, k4, k5, k6, k7, k8⟩ := j160
            show eMs (τ160.1 11) 0 (if y160_s0 = 0 then 2 else 0) (τ160.1 10) T < n77
            rw [if_pos c38, hn77, k1, if_neg k2]
            exact eMs_lt (by decide) (fun _ _ z => absurd rfl z) (Int32.le_trans i77.1.2.1.1.1 i77.1.2.1.1.2.2.2.2.1) k5.2.1.1.2.2.2.2.2
          · clear h; obtain ⟨k1, k2, k3, k9, k4, k5, k6, k7, k8⟩ := j160
            refine ⟨k5, k6, by rw [k4]; exact le9 k3 k9, fun f => ?_⟩
            obtain ⟨m1, m2, m3, m4, p, e, m5, m6, m7, m8, m9, m10, m11⟩ := k8 f
            exact ⟨m1, by rw [k4]; exact lt8 m3, fun z => absurd c38 z, fun _ => ⟨x77_1.toNatClampNeg, p, e, Nat.lt_of_lt_of_eq (cn_lt k3 m3) rfl, m5, m6, m7, m8, m9, m10, m11, fun z => (m4.mpr z) c38⟩⟩
        · skip
          refine go_c hC B T ?_ (fun σ_39 q40 => ?_)
          · clear h; obtain ⟨k1, k2, k3, k9, k4, k5, k6, k7, k8⟩ := j160
            refine ⟨k5.2.1.1, fun f => ?_⟩
            obtain ⟨m1, m2, m3, m4, -⟩ := k8 f
            rw [rd, (aI_at k5).1, (m4.mp c38).1]; decide
          refine ⟨_, ?_, rfl, ?_⟩
          · clear h; obtain ⟨k1, k2, k3, k9, k4, k5, k6, k7, k8⟩ := j160
            have b := aI_go k5 q40
            have f0 : τ160.1 11 = 0 := Decidable.byContradiction (fun z => c38 (k7 z))
            show eMs (σ_39.1 11) 0 (if y160_s0 = 0 then 2 else 0) (σ_39.1 10) T < n77
            rw [if_neg c38, hn77, k1, if_neg k2]
            exact eMs_lt (by decide) (fun f _ _ => Int32.lt_trans (k8 f0).2.1 (b.2.2 f).2.1) (Int32.le_trans i77.1.2.1.1.1 i77.1.2.1.1.2.2.2.2.1) b.1.2.1.1.2.2.2.2.2
          · clear h; obtain ⟨k1, k2, k3, k9, k4, k5, k6, k7, k8⟩ := j160
            have b := aI_go k5 q40
            refine ⟨b.1, k6, by rw [k4]; exact le9 k3 k9, fun f => ?_⟩
            obtain ⟨f0, l0, e0, o0⟩ := b.2.2 f
            obtain ⟨m1, m2, m3, m4, p, e, m5, m6, m7, m8, m9, m10, m11⟩ := k8 f0
            refine ⟨⟨m1.1, Int32.lt_trans m1.2.1 l0, m1.2.2.1, by rw [o0]; exact m1.2.2.2.1, m1.2.2.2.2⟩, by rw [k4]; exact lt8 m3, fun _ => ⟨τ160.1 10, ?_, e0, by rw [← e0]; exact l0⟩, fun z => absurd z c38⟩
            rw [b.2.1, k4, cn_succ k3 (Int32.lt_trans m3 (by decide))]
            exact ⟨p, e, m5, m6, m7, m8, m9, m10, m11, m4.mp c38⟩
      have hj125 : ∀ (l1 : Int32) (τ : rS), (σ77.1 11 = 0 ∧ x77_2 ≠ 0 ∧ 0 ≤ x77_1 ∧ x77_1 ≤ 8 ∧ l1 = x77_1 ∧ aI σ τ B T ∧ (τ.1 11 = 0 → dB0 σ τ ∧ σ77.1 10 ≤ τ.1 10 ∧ (sg (σ.2.2.1 5) (σ.2.2.1 7) (τ.1 10) 58 → l1 < 8) ∧ ∃ p, prP (σ.2.2.1 5) (σ.2.2.1 7) (τ.2.2.1 39) (σ.1 10) l1.toNatClampNeg p ∧ p < p + 1 ∧ σ77.1 10 = p + 1 ∧ ePa (σ.2.2.1 5) (σ.2.2.1 7) (τ.2.2.1 39) (p + 1) (τ.1 10))) → w_tellDraw_125 C Q (fun l1' l2' τ => ∃ k < n77, (fun n l1 l2 τ => n = eMs (τ.1 11) 0 (if l2 = 0 then 2 else 0) (τ.1 10) T ∧ (aI σ τ B T ∧ nb l2 ∧ 0 ≤ l1 ∧ (τ.1 11 = 0 → dB0 σ τ ∧ l1 ≤ 8 ∧ (l2 ≠ 0 → ∃ p, prP (σ.2.2.1 5) (σ.2.2.1 7) (τ.2.2.1 39) (σ.1 10) l1.toNatClampNeg p ∧ τ.1 10 = p + 1 ∧ p < p + 1) ∧ (l2 = 0 → ∃ i p e, i < 8 ∧ prP (σ.2.2.1 5) (σ.2.2.1 7) (τ.2.2.1 39) (σ.1 10) i p ∧ p < p + 1 ∧ ePa (σ.2.2.1 5) (σ.2.2.1 7) (τ.2.2.1 39) (p + 1) e ∧ p + 1 ≤ e ∧ e < e + 1 ∧ ePa (σ.2.2.1 5) (σ.2.2.1 7) (τ.2.2.1 39) (e + 1) (τ.1 10) ∧ e + 1 ≤ τ.1 10 ∧ ¬ sg (σ.2.2.1 5) (σ.2.2.1 7) (τ.1 10) 44)))) k l1' l2' τ) l1 τ := by
        rintro y125_1 τ125 j125
        unfold w_tellDraw_125
        obtain ⟨k1, k2, k3, k9, k4, k5, k6⟩ := j125
        refine sign_c hC B T ?_ (fun σ_41 q42 => ?_)
        · clear h; exact k5.2.1.1  -- p25
        have b1 := aI_sign k5 q42
        refine expr0_c hC B T ?_ (fun r43 σ_44 q45 => ?_)
        · clear h; exact ⟨b1.1.2.1, fun f => by obtain ⟨f1, l1, e1, o1, -⟩ := b1.2.2 f; have w := (k6 f1).1; have z := hO w.1; rw [o1, w.2.2.2.1]; exact oc_up z.1 z.2 w.2.2.1⟩  -- p26
        intro x46 hx46
        have b2 := aI_expr b1.1 q45 (fun f => by obtain ⟨f1, l1, -⟩ := b1.2.2 f; exact Int32.le_of_lt (Int32.lt_trans (k6 f1).1.2.1 l1))
        have ny : σ_44.1 11 = 0 → dB0 σ σ_44 ∧ σ77.1 10 < σ_44.1 10 ∧ x77_1 < 8 ∧ ∃ p e, prP (σ.2.2.1 5) (σ.2.2.1 7) (σ_44.2.2.1 39) (σ.1 10) x77_1.toNatClampNeg p ∧ p < p + 1 ∧ ePa (σ.2.2.1 5) (σ.2.2.1 7) (σ_44.2.2.1 39) (p + 1) e ∧ p + 1 ≤ e ∧ e < e + 1 ∧ ePa (σ.2.2.1 5) (σ.2.2.1 7) (σ_44.2.2.1 39) (e + 1) (σ_44.1 10) ∧ e + 1 ≤ σ_44.1 10 := fun f => by
          obtain ⟨g1, g2, g3, g4⟩ := b2.2.2 f
          obtain ⟨f1, l1, e1, o1, s58⟩ := b1.2.2 g1
          obtain ⟨m1, m2, m3, p, m4, m5, m6, m7⟩ := k6 f1
          have hR := b2.2.1
          rw [b1.2.1] at hR
          have p0 : 0 ≤ p := Int32.le_trans (aI_at hS).2.2.2.1 (prP_ge m4)
          have pl : p + 1 ≤ τ125.1 10 := by rw [← m6]; exact m2
          have pl2 : p ≤ σ_41.1 10 := Int32.le_trans (Int32.le_of_lt m5) (Int32.le_trans pl (Int32.le_of_lt l1))
          refine ⟨⟨m1.1, Int32.lt_of_lt_of_le (Int32.lt_trans m1.2.1 l1) g2, m1.2.2.1, by rw [g3, o1]; exact m1.2.2.2.1, m1.2.2.2.2⟩, Int32.lt_of_le_of_lt m2 (Int32.lt_of_lt_of_le l1 g2), by rw [← k4]; exact m3 s58, p, τ125.1 10, ?_, m5, ?_, pl, by rw [← e1]; exact l1, by rw [← e1]; exact g4, by rw [← e1]; exact g2⟩
          · rw [← k4]
            exact prP_R (aI_at hS).2.2.2.1 m4 (fun t ht ht2 => hR t ht (Int32.lt_of_lt_of_le ht2 pl2))
          · exact ePa_lo m7 (Int32.le_trans p0 (Int32.le_of_lt m5)) hR (Int32.le_of_lt l1)
        have kx : x46 = x77_1 + 1 := by rw [hx46, k4]
        refine isRight_c hC  (fun r47 q49 => ?_)
        refine ⟨fun c50 => ?_, fun c50 => ?_⟩
        · skip
          refine hj160 _ _ _ ?_
          · clear h; exact ⟨k1, k2, k3, k9, kx, b2.1, nb_0, fun _ => rfl, fun f => absurd c50 (q49.2.mpr f)⟩  -- k27
        · skip
          refine isAt_c hC  ?_ (fun r51 q53 => ?_)
          · clear h; exact (aI_at b2.1).2.2.2  -- p28
          refine ⟨fun c54 => ?_, fun c54 => ?_⟩
          · skip
            refine hj160 _ _ _ ?_
            · clear h; refine ⟨k1, k2, k3, k9, kx, b2.1, nb_0, fun _ => rfl, fun f => ?_⟩
              obtain ⟨w1, w2, w3, w4⟩ := ny f
              refine ⟨w1, w2, w3, ⟨fun z => absurd rfl z, fun z => absurd c54 (q53.2.mpr ?_)⟩, w4⟩
              rw [← (aI_at b2.1).1, ← (aI_at b2.1).2.1] at z
              exact z
          · skip
            refine hj160 _ _ _ ?_
            · clear h; refine ⟨k1, k2, k3, k9, kx, b2.1, nb_1, fun z => absurd (q49.2.mp c50) z, fun f => ?_⟩
              obtain ⟨w1, w2, w3, w4⟩ := ny f
              refine ⟨w1, w2, w3, ⟨fun _ => ?_, fun _ => by decide⟩, w4⟩
              rw [← (aI_at b2.1).1, ← (aI_at b2.1).2.1]
              exact q53.2.mp c54
      refine isRight_c hC  (fun r55 q57 => ?_)
      refine ⟨fun c58 => ?_, fun c58 => ?_⟩
      · skip
        refine hj172 _ ?_
        · clear h; exact ⟨i77.1, fun f => absurd c58 (q57.2.mpr f)⟩  -- k31
      · skip
        refine ⟨fun c59 => ?_, fun c59 => ?_⟩
        · skip
          refine hj172 _ ?_
          · clear h; exact ⟨i77.1, fun f => ⟨(i77.2.2.2 f).1, (i77.2.2.2 f).2.2.2 c59⟩⟩  -- k32
        · skip
          have e11 : σ77.1 11 = 0 := q57.2.mp c58
          have i3 := i77.2.2.2 e11
          refine expr0_c hC B T ?_ (fun r60 σ_61 q62 => ?_)
          · clear h; exact ⟨i77.1.2.1, fun _ => by have z := hO i3.1.1; rw [i3.1.2.2.2.1]; exact oc_up z.1 z.2 i3.1.2.2.1⟩  -- p33
          have b := aI_expr i77.1 q62 (fun _ => Int32.le_of_lt i3.1.2.1)
          obtain ⟨p, hp1, hp2, hp3⟩ := i3.2.2.1 c59
          have ny : σ_61.1 11 = 0 → dB0 σ σ_61 ∧ σ77.1 10 ≤ σ_61.1 10 ∧ ∃ p, prP (σ.2.2.1 5) (σ.2.2.1 7) (σ_61.2.2.1 39) (σ.1 10) x77_1.toNatClampNeg p ∧ p < p + 1 ∧ σ77.1 10 = p + 1 ∧ ePa (σ.2.2.1 5) (σ.2.2.1 7) (σ_61.2.2.1 39) (p + 1) (σ_61.1 10) := fun f => by
            obtain ⟨g1, g2, g3, g4⟩ := b.2.2 f
            refine ⟨⟨i3.1.1, Int32.lt_of_lt_of_le i3.1.2.1 g2, i3.1.2.2.1, by rw [g3]; exact i3.1.2.2.2.1, i3.1.2.2.2.2⟩, g2, p, ?_, hp3, hp2, by rw [← hp2]; exact g4⟩
            exact prP_R (aI_at hS).2.2.2.1 hp1 (fun t ht ht2 => b.2.1 t ht (Int32.lt_trans ht2 (by rw [hp2]; exact hp3)))
          refine isRight_c hC  (fun r63 q65 => ?_)
          refine ⟨fun c66 => ?_, fun c66 => ?_⟩
          · skip
            refine hj125 _ _ ?_
            · clear h; exact ⟨e11, c59, i77.2.2.1, i3.2.1, rfl, b.1, fun f => absurd c66 (q65.2.mpr f)⟩  -- k34
          · skip
            refine isAt_c hC  ?_ (fun r67 q69 => ?_)
            · clear h; exact (aI_at b.1).2.2.2  -- p35
            refine ⟨fun c70 => ?_, fun c70 => ?_⟩
            · skip
              refine hj125 _ _ ?_
              · clear h; refine ⟨e11, c59, i77.2.2.1, i3.2.1, rfl, b.1, fun f => ?_⟩
                obtain ⟨w1, w2, w3⟩ := ny f
                refine ⟨w1, w2, fun z => absurd c70 (q69.2.mpr ?_), w3⟩
                rw [← (aI_at b.1).1, ← (aI_at b.1).2.1] at z
                exact z
            · skip
              refine ⟨fun c71 => ?_, fun c71 => ?_⟩
              · skip
                refine hj125 _ _ ?_
                · clear h; refine ⟨e11, c59, i77.2.2.1, i3.2.1, rfl, b.1, fun f => ?_⟩
                  obtain ⟨w1, w2, w3⟩ := ny f
                  exact ⟨w1, w2, fun _ => ne8 i3.2.1 c71, w3⟩
              · skip
                refine flaw_c hC  ?_ (fun σ_72 q73 => ?_)
                · clear h; exact ⟨(aI_at b.1).2.2.2.1, (aI_at b.1).2.2.2.2, by decide⟩  -- p38
                refine hj125 _ _ ?_
                · clear h; have b' := aI_flaw b.1 q73
                  exact ⟨e11, c59, i77.2.2.1, i3.2.1, rfl, b'.1, fun f => absurd f b'.2.2⟩
    · skip
      refine hj18 _ ?_
      · clear h; exact ⟨rfl, (q31.2.mp c32).1, Or.inr (q31.2.mp c32).2⟩  -- k40

end
section
set_option maxHeartbeats 1600000
/-! the reference: what a statement's tokens must be -/
/-- an expression at token a that ends below P -/
def xO (S N R : Nat → Int32) (B P a : Int32) : Prop := B ≤ a ∧ ∃ e, ePa S N R a e ∧ a ≤ e ∧ e < P
/-- the name that a statement gives a value to, at token b: a variable, or an array's cell with its expression -/
def tgO (S N R : Nat → Int32) (B P b : Int32) : Prop := B ≤ b ∧ b < P ∧ ¬ sg S N (b + 1) 40 ∧ (validV (R b.toNatClampNeg) ∨ (validC (R b.toNatClampNeg) ∧ xO S N R B P (b + 2)))
/-- the arguments of a call whose name stands at token x -/
def cO (S N R : Nat → Int32) (B P x : Int32) : Prop := B ≤ x ∧ x < P ∧ S x.toNatClampNeg = 1 ∧ sg S N (x + 1) 40 ∧ ∃ n, gN S N R P n (x + 2)
/-- a statement of kind k that begins at token b, its expression at token x, all below P -/
def stK (S N R : Nat → Int32) (B P k b x : Int32) : Prop :=
  (k = 1 ∧ B ≤ b ∧ b < b + 1 ∧ b + 1 < P ∧ ¬ sg S N (b + 2) 40 ∧ validV (R (b + 1).toNatClampNeg) ∧ xO S N R B P x) ∨
  (k = 2 ∧ tgO S N R B P b ∧ xO S N R B P x) ∨
  (k = 3 ∧ tgO S N R B P b ∧ B ≤ x ∧ x < P ∧ drO S N R P x) ∨
  (k = 4 ∧ tgO S N R B P b ∧ B ≤ x ∧ x < P ∧ xO S N R B P (x + 2)) ∨
  (k = 5 ∧ cO S N R B P x ∧ (b ≠ x → B ≤ b ∧ b < P ∧ ¬ sg S N (b + 1) 40 ∧ validV (R b.toNatClampNeg))) ∨
  ((k = 6 ∨ k = 7 ∨ k = 8 ∨ k = 9 ∨ k = 10) ∧ xO S N R B P x)
theorem xO_up {S N R R' : Nat → Int32} {B P P' a : Int32} (h0 : 0 ≤ B) (h : xO S N R B P a) (hR : rLo R R' P) (hP : P ≤ P') : xO S N R' B P' a := by
  obtain ⟨h1, e, h2, h3, h4⟩ := h
  exact ⟨h1, e, ePa_lo h2 (Int32.le_trans h0 h1) hR (Int32.le_of_lt h4), h3, Int32.lt_of_lt_of_le h4 hP⟩
theorem tgO_up {S N R R' : Nat → Int32} {B P P' a : Int32} (h0 : 0 ≤ B) (h : tgO S N R B P a) (hR : rLo R R' P) (hP : P ≤ P') : tgO S N R' B P' a := by
  obtain ⟨h1, h2, h4, h5⟩ := h
  have e : R' a.toNatClampNeg = R a.toNatClampNeg := hR a (Int32.le_trans h0 h1) h2
  refine ⟨h1, Int32.lt_of_lt_of_le h2 hP, h4, ?_⟩
  rw [e]
  rcases h5 with q | q
  · exact Or.inl q
  · exact Or.inr ⟨q.1, xO_up h0 q.2 hR hP⟩
theorem lt2 {a P : Int32} (h0 : 0 ≤ a) (h : a < P) (hP : P < 131074) : 0 ≤ a + 2 ∧ 0 ≤ a + 1 := by grind
theorem gB_up {S N R R' : Nat → Int32} {P P' : Int32} (hP2 : P < 131074) (hR : rLo R R' P) (hP : P ≤ P') {k : Nat} : ∀ {a : Int32}, 0 ≤ a → gB S N R P k a → gB S N R' P' k a := by
  induction k with
  | zero =>
    rintro a h0 ⟨e, h1, h2, h3, h4⟩
    exact ⟨e, ePa_lo h1 h0 hR (Int32.le_of_lt h3), h2, Int32.lt_of_lt_of_le h3 hP, h4⟩
  | succ k ih =>
    rintro a h0 ⟨e, h1, h2, h3, h4, h6⟩
    exact ⟨e, ePa_lo h1 h0 hR (Int32.le_of_lt h3), h2, Int32.lt_of_lt_of_le h3 hP, h4, ih (lt2 (Int32.le_trans h0 h2) h3 hP2).2 h6⟩
theorem gN_up {S N R R' : Nat → Int32} {P P' a : Int32} {n : Nat} (hP2 : P < 131074) (h0 : 0 ≤ a) (h : gN S N R P n a) (hR : rLo R R' P) (hP : P ≤ P') : gN S N R' P' n a := by
  cases n with
  | zero => exact ⟨h.1, Int32.lt_of_lt_of_le h.2 hP⟩
  | succ k => exact gB_up hP2 hR hP h0 h
theorem prB_up {S N R R' : Nat → Int32} {P P' : Int32} (hR : rLo R R' P) (hP : P ≤ P') {k : Nat} : ∀ {p : Int32}, 0 ≤ p → prB S N R P k p → prB S N R' P' k p := by
  induction k with
  | zero =>
    rintro p h0 ⟨e1, e2, h1, h2, h3, h4, h5, h6, h7, h8⟩
    have g1 := Int32.le_trans h0 (Int32.le_of_lt h3)
    have g2 := Int32.le_trans g1 (Int32.le_trans h2 (Int32.le_of_lt h5))
    exact ⟨e1, e2, ePa_lo h1 g1 hR (Int32.le_trans (Int32.le_of_lt h5) (Int32.le_trans h6 (Int32.le_of_lt h7))), h2, h3, ePa_lo h4 g2 hR (Int32.le_of_lt h7), h5, h6, Int32.lt_of_lt_of_le h7 hP, h8⟩
  | succ k ih =>
    rintro p h0 ⟨e1, e2, h1, h2, h3, h4, h5, h6, h7, h8, h9⟩
    have g1 := Int32.le_trans h0 (Int32.le_of_lt h3)
    have g2 := Int32.le_trans g1 (Int32.le_trans h2 (Int32.le_of_lt h5))
    exact ⟨e1, e2, ePa_lo h1 g1 hR (Int32.le_trans (Int32.le_of_lt h5) (Int32.le_trans h6 (Int32.le_of_lt h7))), h2, h3, ePa_lo h4 g2 hR (Int32.le_of_lt h7), h5, h6, Int32.lt_of_lt_of_le h7 hP, h8, ih (Int32.le_trans g2 h6) h9⟩
theorem drO_up {S N R R' : Nat → Int32} {P P' x : Int32} (h0 : 0 ≤ x) (h2 : 0 ≤ x + 2) (h : drO S N R P x) (hR : rLo R R' P) (hP : P ≤ P') : drO S N R' P' x := by
  obtain ⟨d1, d2, d3⟩ := h
  refine ⟨fun z => ?_, fun z => ?_, fun z => ?_⟩
  · obtain ⟨e, e1, e2⟩ := d1 z
    exact ⟨e, ePa_lo e1 h2 hR (Int32.le_of_lt e2), Int32.lt_of_lt_of_le e2 hP⟩
  · obtain ⟨e1, e2, g1, g2, g3, g4, g5⟩ := d2 z
    have m0 : x + 2 ≤ e1 := by obtain ⟨n, hn⟩ := g1; exact eTo_ge hn
    have m1 : 0 ≤ e1 + 1 := Int32.le_trans h2 (Int32.le_trans m0 (Int32.le_of_lt g2))
    exact ⟨e1, e2, ePa_lo g1 h2 hR (Int32.le_trans (Int32.le_of_lt g2) (Int32.le_trans g3 (Int32.le_of_lt g5))), g2, g3, ePa_lo g4 m1 hR (Int32.le_of_lt g5), Int32.lt_of_lt_of_le g5 hP⟩
  · obtain ⟨k, hk, hb⟩ := d3 z
    exact ⟨k, hk, prB_up hR hP h0 hb⟩
theorem stK_up {S N R R' : Nat → Int32} {B P P' k b x : Int32} (h0 : 0 ≤ B) (hP2 : P < 131074) (h : stK S N R B P k b x) (hR : rLo R R' P) (hP : P ≤ P') : stK S N R' B P' k b x := by
  rcases h with ⟨rfl, h1, h2, h3, h5, h6, h7⟩ | ⟨rfl, h1, h2⟩ | ⟨rfl, h1, h2, h3, h4⟩ | ⟨rfl, h1, h2, h3, h4⟩ | ⟨rfl, h1, h2⟩ | ⟨h1, h2⟩
  · refine Or.inl ⟨rfl, h1, h2, Int32.lt_of_lt_of_le h3 hP, h5, ?_, xO_up h0 h7 hR hP⟩
    rw [hR (b + 1) (Int32.le_trans h0 (Int32.le_trans h1 (Int32.le_of_lt h2))) h3]; exact h6
  · exact Or.inr (Or.inl ⟨rfl, tgO_up h0 h1 hR hP, xO_up h0 h2 hR hP⟩)
  · exact Or.inr (Or.inr (Or.inl ⟨rfl, tgO_up h0 h1 hR hP, h2, Int32.lt_of_lt_of_le h3 hP, drO_up (Int32.le_trans h0 h2) (lt2 (Int32.le_trans h0 h2) h3 hP2).1 h4 hR hP⟩))
  · exact Or.inr (Or.inr (Or.inr (Or.inl ⟨rfl, tgO_up h0 h1 hR hP, h2, Int32.lt_of_lt_of_le h3 hP, xO_up h0 h4 hR hP⟩)))
  · refine Or.inr (Or.inr (Or.inr (Or.inr (Or.inl ⟨rfl, ?_, fun z => ?_⟩))))
    · obtain ⟨c1, c2, c4, c5, n, c6⟩ := h1
      exact ⟨c1, Int32.lt_of_lt_of_le c2 hP, c4, c5, n, gN_up hP2 (lt2 (Int32.le_trans h0 c1) c2 hP2).1 c6 hR hP⟩
    · obtain ⟨c1, c2, c4, c5⟩ := h2 z
      refine ⟨c1, Int32.lt_of_lt_of_le c2 hP, c4, ?_⟩
      rw [hR b (Int32.le_trans h0 c1) c2]; exact c5
  · exact Or.inr (Or.inr (Or.inr (Or.inr (Or.inr ⟨h1, xO_up h0 h2 hR hP⟩))))
/-- from a statement's beginning (state σ) on: what stays, what its number s has got -/
def mSR9 (σ τ : rS) (s B T : Int32) : Prop :=
  ((∀ k, k ≠ 10 → k ≠ 11 → k ≠ 12 → k ≠ 13 → k ≠ 19 → k ≠ 48 → k ≠ 49 → τ.1 k = σ.1 k) ∧ (∀ k,  τ.2.1 k = σ.2.1 k) ∧ (∀ k, k ≠ 29 → k ≠ 30 → k ≠ 31 → k ≠ 32 → k ≠ 33 → k ≠ 34 → k ≠ 35 → k ≠ 36 → k ≠ 38 → k ≠ 39 → k ≠ 44 → k ≠ 50 → k ≠ 51 → k ≠ 52 → τ.2.2.1 k = σ.2.2.1 k) ∧ (∀ k j, k ≠ 29 → k ≠ 30 → k ≠ 31 → k ≠ 32 → k ≠ 33 → k ≠ 34 → k ≠ 35 → k ≠ 36 → k ≠ 38 → k ≠ 39 → k ≠ 44 → k ≠ 50 → k ≠ 51 → k ≠ 52 → τ.2.2.1 k j = σ.2.2.1 k j) ∧ (∀ k j,  τ.2.2.2 k j = σ.2.2.2 k j)) ∧ p0 τ B T ∧ tS τ ∧ (rHi (σ.2.2.1 39) (τ.2.2.1 39) T ∧ rLo (σ.2.2.1 39) (τ.2.2.1 39) B) ∧ 0 ≤ s ∧ s < 150 ∧ (σ.1 11 ≠ 0 → τ.1 11 ≠ 0) ∧
  (τ.1 11 = 0 → s = σ.1 19 ∧ (σ.1 10 ≤ τ.1 10 ∧ rLo (σ.2.2.1 39) (τ.2.2.1 39) (σ.1 10)) ∧ τ.1 19 = σ.1 19 + 1 ∧ rd τ 36 s = rd σ 43 (σ.1 42 - 1) ∧ rd τ 31 s = σ.1 10 ∧ (∀ j, j ≠ s.toNatClampNeg → τ.2.2.1 30 j = σ.2.2.1 30 j ∧ τ.2.2.1 31 j = σ.2.2.1 31 j ∧ τ.2.2.1 32 j = σ.2.2.1 32 j ∧ τ.2.2.1 36 j = σ.2.2.1 36 j) ∧ lkN σ τ)
theorem p0_gen {σ σ' : rS} {B T : Int32} (h : p0 σ B T) (hT : tK σ' B T) (hF : tF σ') (hr : ∀ k, k = 20 ∨ k = 22 ∨ k = 23 ∨ k = 24 ∨ k = 25 ∨ k = 26 ∨ k = 27 ∨ k = 28 → σ'.2.2.1 k = σ.2.2.1 k) (h46 : σ'.1 46 = σ.1 46) (h47 : σ'.1 47 = σ.1 47) : p0 σ' B T := by
  obtain ⟨h1, h2, h3, h4, h5, h6, h7⟩ := h
  refine ⟨hT, h2, hF, ?_, ?_, by rw [h46]; exact h6, by rw [h47]; exact h7⟩
  · show tyN _ _ _ _ _ _
    rw [hr 20 (by decide), hr 22 (by decide), hr 25 (by decide), hr 28 (by decide), hr 26 (by decide), hr 27 (by decide)]; exact h4
  · show tyA _ _
    rw [hr 23 (by decide), hr 24 (by decide)]; exact h5
theorem mS_aI {σ τ υ : rS} {s B T : Int32} (h : mSR9 σ τ s B T) (a : aI τ υ B T) (hlt : υ.1 11 = 0 → τ.1 10 ≤ υ.1 10) : mSR9 σ υ s B T := by
  obtain ⟨h1, h2, h3, h4, h5, h6, h7, h8⟩ := h
  obtain ⟨a1, a2, a3, a4, a5⟩ := a
  have fz : υ.1 11 = 0 → τ.1 11 = 0 := fun f => Decidable.byContradiction (fun z => a4 z f)
  have rr : ∀ k, k ≠ 39 → k ≠ 50 → k ≠ 51 → k ≠ 52 → υ.2.2.1 k = τ.2.2.1 k := a1.2.2.1
  refine ⟨?_, a2, ?_, ?_, h5, h6, fun z => a4 (h7 z), fun f => ?_⟩
  · clear h2 h3 h4 h8 a2 a3; grind
  · show tyS _ _ _ _ _ _ _ _
    rw [rr 29 (by decide) (by decide) (by decide) (by decide), rr 33 (by decide) (by decide) (by decide) (by decide), rr 34 (by decide) (by decide) (by decide) (by decide), rr 35 (by decide) (by decide) (by decide) (by decide), rr 36 (by decide) (by decide) (by decide) (by decide), rr 38 (by decide) (by decide) (by decide) (by decide), rr 43 (by decide) (by decide) (by decide) (by decide), rr 44 (by decide) (by decide) (by decide) (by decide)]
    exact h3
  · exact ⟨rHi_tr h4.1 a5, rLo_tr h4.2 a3 h2.1.2.2.2.2.1⟩
  · obtain ⟨m1, m2, m3, m4, m5, m6⟩ := h8 (fz f)
    simp only [rd]
    rw [rr 36 (by decide) (by decide) (by decide) (by decide), rr 31 (by decide) (by decide) (by decide) (by decide), rr 30 (by decide) (by decide) (by decide) (by decide), rr 32 (by decide) (by decide) (by decide) (by decide), a1.1 19 (by decide) (by decide) (by decide) (by decide) (by decide) (by decide)]
    exact ⟨m1, ⟨Int32.le_trans m2.1 (hlt f), rLo_tr m2.2 a3 m2.1⟩, m3, m4, m5, m6.1, lkN_o m6.2 (rr 29 (by decide) (by decide) (by decide) (by decide)) (rr 33 (by decide) (by decide) (by decide) (by decide)) (rr 34 (by decide) (by decide) (by decide) (by decide)) (rr 35 (by decide) (by decide) (by decide) (by decide)) (a1.1 19 (by decide) (by decide) (by decide) (by decide) (by decide) (by decide))⟩
theorem mS_ri {σ τ : rS} {s B T x : Int32} {k : Nat} (h : mSR9 σ τ s B T) (hk : k = 30 ∨ k = 32) : mSR9 σ (riU τ k s.toNatClampNeg x) s B T := by
  obtain ⟨h1, h2, h3, h4, h5, h6, h7, h8⟩ := h
  have rr : ∀ q, q ≠ 30 → q ≠ 32 → (riU τ k s.toNatClampNeg x).2.2.1 q = τ.2.2.1 q := fun q z1 z2 => ri3 (by rcases hk with rfl | rfl; exact z1; exact z2)
  have ff : ∀ q, (riU τ k s.toNatClampNeg x).1 q = τ.1 q := fun q => rfl
  have ro : ∀ q j, j ≠ s.toNatClampNeg → (riU τ k s.toNatClampNeg x).2.2.1 q j = τ.2.2.1 q j := fun q j hj => by
    by_cases e : q = k
    · subst e; rw [ri4, if_neg hj]
    · rw [ri3 e]
  refine ⟨⟨h1.1, h1.2.1, fun q z1 z2 z3 z4 z5 z6 z7 z8 z9 za zb zc zd ze => (rr q z2 z4).trans (h1.2.2.1 q z1 z2 z3 z4 z5 z6 z7 z8 z9 za zb zc zd ze), fun q j z1 z2 z3 z4 z5 z6 z7 z8 z9 za zb zc zd ze => (congrFun (rr q z2 z4) j).trans (h1.2.2.2.1 q j z1 z2 z3 z4 z5 z6 z7 z8 z9 za zb zc zd ze), h1.2.2.2.2⟩, p0_gen h2 ?_ h2.2.2.1 (fun q hq => rr q (by rcases hq with rfl | rfl | rfl | rfl | rfl | rfl | rfl | rfl <;> decide) (by rcases hq with rfl | rfl | rfl | rfl | rfl | rfl | rfl | rfl <;> decide)) rfl rfl, ?_, ?_, h5, h6, h7, fun f => ?_⟩
  · obtain ⟨t1, t2, t3, t4, t5, t6⟩ := h2.1
    exact ⟨t1, t2, t3, ⟨by rw [rd, rr 5 (by decide) (by decide)]; exact t4.1, t4.2⟩, t5, t6⟩
  · show tyS _ _ _ _ _ _ _ _
    rw [rr 29 (by decide) (by decide), rr 33 (by decide) (by decide), rr 34 (by decide) (by decide), rr 35 (by decide) (by decide), rr 36 (by decide) (by decide), rr 38 (by decide) (by decide), rr 43 (by decide) (by decide), rr 44 (by decide) (by decide)]
    exact h3
  · rw [rr 39 (by decide) (by decide)]; exact h4
  · obtain ⟨m1, m2, m3, m4, m5, m6⟩ := h8 f
    refine ⟨m1, ⟨m2.1, by rw [rr 39 (by decide) (by decide)]; exact m2.2⟩, m3, by rw [rd, rr 36 (by decide) (by decide)]; exact m4, by rw [rd, rr 31 (by decide) (by decide)]; exact m5, fun j hj => ?_, lkN_o m6.2 (rr 29 (by decide) (by decide)) (rr 33 (by decide) (by decide)) (rr 34 (by decide) (by decide)) (rr 35 (by decide) (by decide)) rfl⟩
    rw [ro 30 j hj, ro 31 j hj, ro 32 j hj, ro 36 j hj]
    exact m6.1 j hj

end
section
set_option maxHeartbeats 1600000
/-! the reference: steps within a statement -/
theorem mS_rows {σ τ : rS} {s B T : Int32} (h : mSR9 σ τ s B T) : τ.2.2.1 5 = σ.2.2.1 5 ∧ τ.2.2.1 7 = σ.2.2.1 7 ∧ tK τ B T ∧ 0 ≤ τ.1 10 ∧ τ.1 10 < 131074 :=
  ⟨h.1.2.2.1 5 (by decide) (by decide) (by decide) (by decide) (by decide) (by decide) (by decide) (by decide) (by decide) (by decide) (by decide) (by decide) (by decide) (by decide), h.1.2.2.1 7 (by decide) (by decide) (by decide) (by decide) (by decide) (by decide) (by decide) (by decide) (by decide) (by decide) (by decide) (by decide) (by decide) (by decide), h.2.1.1, (aI_at (aI_refl h.2.1)).2.2.2⟩
theorem mS_sign {σ τ υ : rS} {s B T c : Int32} (h : mSR9 σ τ s B T) (q : ((∀ k, k ≠ 10 → k ≠ 11 → k ≠ 12 → υ.1 k = τ.1 k) ∧ υ.2 = τ.2) ∧ tK υ B T ∧ (τ.1 11 ≠ 0 → υ = τ) ∧ (υ.1 11 = 0 ↔ τ.1 11 = 0 ∧ rd τ 5 (τ.1 10) = 3 ∧ rd τ 7 (τ.1 10) = c ∧ rd τ 5 (τ.1 10 + 1) ≠ 4) ∧ (υ.1 11 = 0 → υ.1 10 = τ.1 10 + 1)) : mSR9 σ υ s B T ∧ υ.2 = τ.2 ∧ (υ.1 11 = 0 → τ.1 11 = 0 ∧ τ.1 10 < υ.1 10 ∧ υ.1 10 = τ.1 10 + 1 ∧ υ.1 13 = τ.1 13 ∧ sg (σ.2.2.1 5) (σ.2.2.1 7) (τ.1 10) c) := by
  have a := aI_sign (aI_refl h.2.1) q
  have r := mS_rows h
  refine ⟨mS_aI h a.1 (fun f => Int32.le_of_lt (a.2.2 f).2.1), a.2.1, fun f => ?_⟩
  rw [← r.1, ← r.2.1]
  exact a.2.2 f
theorem mS_open {σ τ υ : rS} {s B T c : Int32} (h : mSR9 σ τ s B T) (q : ((∀ k, k ≠ 10 → k ≠ 11 → k ≠ 12 → k ≠ 13 → υ.1 k = τ.1 k) ∧ υ.2 = τ.2) ∧ tK υ B T ∧ (υ.1 11 = 0 ↔ τ.1 11 = 0 ∧ rd τ 5 (τ.1 10) = 3 ∧ rd τ 7 (τ.1 10) = c ∧ rd τ 5 (τ.1 10 + 1) ≠ 4 ∧ τ.1 13 ≠ 40) ∧ (υ.1 11 = 0 → υ.1 10 = τ.1 10 + 1 ∧ υ.1 13 = τ.1 13 + 1)) : mSR9 σ υ s B T ∧ υ.2 = τ.2 ∧ (υ.1 11 = 0 → τ.1 11 = 0 ∧ τ.1 10 < υ.1 10 ∧ υ.1 10 = τ.1 10 + 1 ∧ υ.1 13 = τ.1 13 + 1 ∧ sg (σ.2.2.1 5) (σ.2.2.1 7) (τ.1 10) c ∧ τ.1 13 ≠ 40) := by
  have a := aI_open (aI_refl h.2.1) q
  have r := mS_rows h
  refine ⟨mS_aI h a.1 (fun f => Int32.le_of_lt (a.2.2 f).2.1), a.2.1, fun f => ?_⟩
  rw [← r.1, ← r.2.1]
  exact a.2.2 f
theorem mS_close {σ τ υ : rS} {s B T c : Int32} (h : mSR9 σ τ s B T) (q : ((∀ k, k ≠ 10 → k ≠ 11 → k ≠ 12 → k ≠ 13 → υ.1 k = τ.1 k) ∧ υ.2 = τ.2) ∧ tK υ B T ∧ (υ.1 11 = 0 ↔ τ.1 11 = 0 ∧ rd τ 5 (τ.1 10) = 3 ∧ rd τ 7 (τ.1 10) = c ∧ rd τ 5 (τ.1 10 + 1) ≠ 4) ∧ (υ.1 11 = 0 → υ.1 10 = τ.1 10 + 1 ∧ υ.1 13 = τ.1 13 - 1)) : mSR9 σ υ s B T ∧ υ.2 = τ.2 ∧ (υ.1 11 = 0 → τ.1 11 = 0 ∧ τ.1 10 < υ.1 10 ∧ υ.1 10 = τ.1 10 + 1 ∧ υ.1 13 = τ.1 13 - 1 ∧ sg (σ.2.2.1 5) (σ.2.2.1 7) (τ.1 10) c) := by
  have a := aI_close (aI_refl h.2.1) q
  have r := mS_rows h
  refine ⟨mS_aI h a.1 (fun f => Int32.le_of_lt (a.2.2 f).2.1), a.2.1, fun f => ?_⟩
  rw [← r.1, ← r.2.1]
  exact a.2.2 f
theorem mS_go {σ τ υ : rS} {s B T : Int32} (h : mSR9 σ τ s B T) (q : ((∀ k, k ≠ 10 → k ≠ 11 → k ≠ 12 → υ.1 k = τ.1 k) ∧ υ.2 = τ.2) ∧ tK υ B T ∧ (τ.1 11 ≠ 0 → υ = τ) ∧ (τ.1 11 = 0 → υ.1 10 = τ.1 10 + 1) ∧ (υ.1 11 = 0 ↔ τ.1 11 = 0 ∧ rd τ 5 (τ.1 10 + 1) ≠ 4)) : mSR9 σ υ s B T ∧ υ.2 = τ.2 ∧ (υ.1 11 = 0 → τ.1 11 = 0 ∧ τ.1 10 < υ.1 10 ∧ υ.1 10 = τ.1 10 + 1 ∧ υ.1 13 = τ.1 13) := by
  have a := aI_go (aI_refl h.2.1) q
  exact ⟨mS_aI h a.1 (fun f => Int32.le_of_lt (a.2.2 f).2.1), a.2.1, a.2.2⟩
theorem mS_flaw {σ τ υ : rS} {s B T : Int32} (h : mSR9 σ τ s B T) (q : ((∀ k, k ≠ 11 → k ≠ 12 → υ.1 k = τ.1 k) ∧ υ.2 = τ.2) ∧ (τ.1 11 ≠ 0 → υ = τ) ∧ υ.1 11 ≠ 0 ∧ (0 ≤ τ.1 11 → 0 ≤ υ.1 11)) : mSR9 σ υ s B T ∧ υ.1 11 ≠ 0 := by
  have a := aI_flaw (aI_refl h.2.1) q
  exact ⟨mS_aI h a.1 (fun f => absurd f a.2.2), a.2.2⟩
theorem mS_expr {σ τ υ : rS} {s B T : Int32} (h : mSR9 σ τ s B T) (q : ((∀ k, k ≠ 10 → k ≠ 11 → k ≠ 12 → k ≠ 13 → k ≠ 48 → k ≠ 49 → υ.1 k = τ.1 k) ∧ (∀ k,  υ.2.1 k = τ.2.1 k) ∧ (∀ k, k ≠ 39 → k ≠ 50 → k ≠ 51 → k ≠ 52 → υ.2.2.1 k = τ.2.2.1 k) ∧ (∀ k j, k ≠ 39 → k ≠ 50 → k ≠ 51 → k ≠ 52 → υ.2.2.1 k j = τ.2.2.1 k j) ∧ (∀ k j,  υ.2.2.2 k j = τ.2.2.2 k j)) ∧ p0 υ B T ∧ (τ.1 11 ≠ 0 → υ.1 11 ≠ 0 ∧ υ.2 = τ.2) ∧ rLo (τ.2.2.1 39) (υ.2.2.1 39) (τ.1 10) ∧ (υ.1 11 = 0 → τ.1 11 = 0 ∧ τ.1 10 ≤ υ.1 10 ∧ υ.1 13 = τ.1 13 ∧ ePa (τ.2.2.1 5) (τ.2.2.1 7) (υ.2.2.1 39) (τ.1 10) (υ.1 10)) ∧ rHi (τ.2.2.1 39) (υ.2.2.1 39) T) : mSR9 σ υ s B T ∧ rLo (τ.2.2.1 39) (υ.2.2.1 39) (τ.1 10) ∧ rd υ 30 s = rd τ 30 s ∧ rd υ 32 s = rd τ 32 s ∧ (υ.1 11 = 0 → τ.1 11 = 0 ∧ τ.1 10 ≤ υ.1 10 ∧ υ.1 13 = τ.1 13 ∧ ePa (σ.2.2.1 5) (σ.2.2.1 7) (υ.2.2.1 39) (τ.1 10) (υ.1 10)) := by
  have a := aI_expr (aI_refl h.2.1) q (fun _ => Int32.le_refl _)
  have r := mS_rows h
  refine ⟨mS_aI h a.1 (fun f => (a.2.2 f).2.1), a.2.1, by rw [rd, rd, a.1.1.2.2.1 30 (by decide) (by decide) (by decide) (by decide)], by rw [rd, rd, a.1.1.2.2.1 32 (by decide) (by decide) (by decide) (by decide)], fun f => ?_⟩
  rw [← r.1, ← r.2.1]
  exact a.2.2 f
theorem mS_new {σ σ' : rS} {v k B T : Int32} (hP : p0 σ B T) (q : ((∀ k, k ≠ 11 → k ≠ 12 → k ≠ 19 → σ'.1 k = σ.1 k) ∧ (∀ k,  σ'.2.1 k = σ.2.1 k) ∧ (∀ k, k ≠ 29 → k ≠ 30 → k ≠ 31 → k ≠ 32 → k ≠ 33 → k ≠ 34 → k ≠ 35 → k ≠ 36 → k ≠ 38 → k ≠ 44 → σ'.2.2.1 k = σ.2.2.1 k) ∧ (∀ k j, k ≠ 29 → k ≠ 30 → k ≠ 31 → k ≠ 32 → k ≠ 33 → k ≠ 34 → k ≠ 35 → k ≠ 36 → k ≠ 38 → k ≠ 44 → σ'.2.2.1 k j = σ.2.2.1 k j) ∧ (∀ k j,  σ'.2.2.2 k j = σ.2.2.2 k j)) ∧ tF σ' ∧ tS σ' ∧ 0 ≤ v ∧ v < 150 ∧ (σ'.1 11 = 0 → σ.1 11 = 0 ∧ v = σ.1 19 ∧ σ'.1 19 = σ.1 19 + 1 ∧ rd σ' 30 v = k ∧ rd σ' 31 v = σ.1 10 ∧ rd σ' 36 v = rd σ 43 (σ.1 42 - 1) ∧ (∀ j, j ≠ v.toNatClampNeg → σ'.2.2.1 30 j = σ.2.2.1 30 j ∧ σ'.2.2.1 31 j = σ.2.2.1 31 j ∧ σ'.2.2.1 32 j = σ.2.2.1 32 j ∧ σ'.2.2.1 36 j = σ.2.2.1 36 j) ∧ lkN σ σ') ∧ (σ.1 11 ≠ 0 → σ'.1 11 ≠ 0) ∧ (0 ≤ σ.1 11 → 0 ≤ σ'.1 11)) : mSR9 σ σ' v B T ∧ (σ'.1 11 = 0 → rd σ' 30 v = k) ∧ σ'.1 10 = σ.1 10 ∧ σ'.1 13 = σ.1 13 ∧ σ'.2.2.1 39 = σ.2.2.1 39 := by
  obtain ⟨q1, q2, q3, q4, q5, q6, q7⟩ := q
  have rr := q1.2.2.1
  have e39 : σ'.2.2.1 39 = σ.2.2.1 39 := rr 39 (by decide) (by decide) (by decide) (by decide) (by decide) (by decide) (by decide) (by decide) (by decide) (by decide)
  have e10 : σ'.1 10 = σ.1 10 := q1.1 10 (by decide) (by decide) (by decide)
  refine ⟨⟨by clear q2 q3 q6 q7 hP; grind, p0_gen hP ?_ q2 (fun z hz => rr z (by omega) (by omega) (by omega) (by omega) (by omega) (by omega) (by omega) (by omega) (by omega) (by omega)) (q1.1 46 (by decide) (by decide) (by decide)) (q1.1 47 (by decide) (by decide) (by decide)), q3, ?_, q4, q5, q7.1, fun f => ?_⟩, fun f => (q6 f).2.2.2.1, e10, q1.1 13 (by decide) (by decide) (by decide), e39⟩
  · obtain ⟨t1, t2, t3, t4, t5, t6⟩ := hP.1
    rw [← e10] at t5 t6
    exact ⟨t1, t2, t3, ⟨by rw [rd, rr 5 (by decide) (by decide) (by decide) (by decide) (by decide) (by decide) (by decide) (by decide) (by decide) (by decide)]; exact t4.1, q7.2 t4.2.1, by rw [q1.1 47 (by decide) (by decide) (by decide)]; exact t4.2.2⟩, t5, t6⟩
  · rw [e39]; exact ⟨rHi_refl, rLo_refl⟩
  · obtain ⟨m1, m2, m3, m4, m5, m6, m7⟩ := q6 f
    exact ⟨m2, ⟨by rw [e10]; exact Int32.le_refl _, by rw [e39]; exact rLo_refl⟩, m3, m6, m5, m7⟩
theorem mS_look {σ τ υ : rS} {s x B T : Int32} (h : mSR9 σ τ s B T) (hB : B ≤ σ.1 10) (hT : σ.1 10 ≤ T) (h0 : 0 ≤ σ.1 10) (q : ((∀ k, k ≠ 11 → k ≠ 12 → υ.1 k = τ.1 k) ∧ (∀ k,  υ.2.1 k = τ.2.1 k) ∧ (∀ k, k ≠ 39 → υ.2.2.1 k = τ.2.2.1 k) ∧ (∀ k j, k ≠ 39 → υ.2.2.1 k j = τ.2.2.1 k j) ∧ (∀ k j,  υ.2.2.2 k j = τ.2.2.2 k j)) ∧ (∀ j, j ≠ (σ.1 10).toNatClampNeg → υ.2.2.1 39 j = τ.2.2.1 39 j) ∧ rd υ 39 (σ.1 10) = x ∧ (υ.1 11 = 0 → τ.1 11 = 0 ∧ x ≠ -1) ∧ (0 ≤ τ.1 11 → 0 ≤ υ.1 11)) : mSR9 σ υ s B T := by
  obtain ⟨h1, h2, h3, h4, h5, h6, h7, h8⟩ := h
  obtain ⟨q1, q2, q3, q4, q5⟩ := q
  have rr := q1.2.2.1
  have lo : ∀ a : Int32, a ≤ σ.1 10 → rLo (τ.2.2.1 39) (υ.2.2.1 39) a := fun a ha t ht ht2 => q2 _ (cn_ne ht (Int32.lt_of_lt_of_le ht2 ha))
  have hi : rHi (τ.2.2.1 39) (υ.2.2.1 39) T := fun t ht => q2 _ (cn_ne h0 (Int32.lt_of_le_of_lt hT ht)).symm
  have e10 : υ.1 10 = τ.1 10 := q1.1 10 (by decide) (by decide)
  refine ⟨by clear h2 h3 h4 h8 q2 q3 q4 lo hi; grind, p0_gen h2 ?_ ?_ (fun z hz => rr z (by omega)) (q1.1 46 (by decide) (by decide)) (q1.1 47 (by decide) (by decide)), ?_, ⟨rHi_tr h4.1 hi, rLo_tr h4.2 (lo B hB) (Int32.le_refl _)⟩, h5, h6, fun z e => h7 z (q4 e).1, fun f => ?_⟩
  · obtain ⟨t1, t2, t3, t4, t5, t6⟩ := h2.1
    rw [← e10] at t5 t6
    exact ⟨t1, t2, t3, ⟨by rw [rd, rr 5 (by decide)]; exact t4.1, q5 t4.2.1, by rw [q1.1 47 (by decide) (by decide)]; exact t4.2.2⟩, t5, t6⟩
  · show tyF _ _ _ _ _ _ _ _
    rw [q1.1 15 (by decide) (by decide), q1.1 16 (by decide) (by decide), q1.1 17 (by decide) (by decide), q1.1 18 (by decide) (by decide), q1.1 19 (by decide) (by decide), q1.1 40 (by decide) (by decide), q1.1 41 (by decide) (by decide), q1.1 42 (by decide) (by decide)]
    exact h2.2.2.1
  · show tyS _ _ _ _ _ _ _ _
    rw [rr 29 (by decide), rr 33 (by decide), rr 34 (by decide), rr 35 (by decide), rr 36 (by decide), rr 38 (by decide), rr 43 (by decide), rr 44 (by decide)]
    exact h3
  · obtain ⟨m1, m2, m3, m4, m5, m6⟩ := h8 (q4 f).1
    simp only [rd]
    rw [rr 36 (by decide), rr 31 (by decide), rr 30 (by decide), rr 32 (by decide), q1.1 19 (by decide) (by decide), e10]
    exact ⟨m1, ⟨m2.1, rLo_tr m2.2 (lo _ (Int32.le_refl _)) (Int32.le_refl _)⟩, m3, m4, m5, m6.1, lkN_o m6.2 (rr 29 (by decide)) (rr 33 (by decide)) (rr 34 (by decide)) (rr 35 (by decide)) (q1.1 19 (by decide) (by decide))⟩

end
