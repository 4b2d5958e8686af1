set_option maxHeartbeats 1600000
/-! the reference: a call -/
theorem c96 {c k : Int32} (h1 : 1 ≤ c) (h2 : c ≤ 12) (k0 : 0 ≤ k) (k1 : k < 8) : 0 ≤ 8 * (c - 1) + k ∧ 8 * (c - 1) + k < 96 := by grind
theorem c_up {c : Int32} (h1 : 1 ≤ c) (h2 : c ≤ 12) (h : ¬ c = 12) : 1 ≤ c + 1 ∧ c + 1 ≤ 12 ∧ c + 1 - 1 = c := by grind
theorem c_sp {c x : Int32} (h1 : 1 ≤ x) (h2 : x ≤ 12) (hc : c < x) : c = x - 1 ∨ c < x - 1 := by grind
theorem g4 {x k : Int32} (h : x < 5) (hk : ¬ x ≤ k) : k < 4 := by grind
theorem g_dn {x k : Int32} (h : x < 5) (k0 : 0 ≤ k) (hk : ¬ x ≤ k) : 0 ≤ x - (k + 1) ∧ x - (k + 1) < x - k ∧ 0 ≤ k + 1 ∧ k + 1 ≤ x ∧ k < 1000000 := by grind
theorem e_up {e T : Int32} (h : e < T) (hT : T < 131074) : e < e + 1 ∧ e + 1 ≤ T := by grind
theorem csL_up {σ τ : rS} {s : Int32} (hc : csF σ) (hs : s = rd σ 59 (σ.1 58 - 1)) (h5 : rd σ 30 s = 5) (h59 : τ.2.2.1 59 = σ.2.2.1 59) (h30 : τ.2.2.1 30 = σ.2.2.1 30) (h19 : τ.1 19 = σ.1 19) : csL τ (σ.1 58) := by
  intro c c0 c1
  simp only [rd]
  rw [h59, h30, h19]
  rcases c_sp hc.1.1 hc.1.2 c1 with z | z
  · rw [z]; exact ⟨hc.2.2.1, hc.2.2.2, by rw [hs] at h5; exact h5⟩
  · exact hc.2.1 c c0 z
abbrev clFR9 : List Nat := [10, 11, 12, 13, 47, 48, 49, 58, 61]
abbrev clR : List Nat := [50, 51, 52, 57, 59, 60, 68]
/-- the arguments that are left of a call -/
def agL (S N R : Nat → Int32) (B T n k a : Int32) : Prop := k < n → B ≤ a ∧ ∃ m, m + 1 + k.toNatClampNeg = n.toNatClampNeg ∧ gB S N R T m a
theorem ti {x y : Int32} (h : x ≤ y) : x.toInt ≤ y.toInt := Int32.le_iff_toInt_le.mp h
theorem t0 {x : Int32} (h : 0 ≤ x) : 0 ≤ x.toInt := by have := ti h; rwa [Int32.toInt_zero] at this
theorem f300c {x n : Int32} (h1 : 300 ≤ x) (h2 : x < 300 + n) (n0 : 0 ≤ n) (n1 : n ≤ 10) : 0 ≤ x - 300 ∧ x - 300 < n := by
  have a1 := ti h1
  have a2 := Int32.lt_iff_toInt_lt.mp h2
  have a3 := t0 n0
  have a4 := ti n1
  rw [show (300 : Int32).toInt = 300 from rfl] at a1
  rw [show (10 : Int32).toInt = 10 from rfl] at a4
  rw [i_add (by decide) n0 (by rw [show (300 : Int32).toInt = 300 from rfl]; omega), show (300 : Int32).toInt = 300 from rfl] at a2
  have e := i_sub (Int32.le_trans (by decide) h1) (by decide : (0 : Int32) ≤ 300)
  rw [show (300 : Int32).toInt = 300 from rfl] at e
  exact ⟨Int32.le_iff_toInt_le.mpr (by rw [e, Int32.toInt_zero]; omega), Int32.lt_iff_toInt_lt.mpr (by rw [e]; omega)⟩
theorem f18_b {a b c d e f g i : Int32} (h : tyF a b c d e f g i) : 0 ≤ d ∧ d ≤ 10 := by
  obtain ⟨-, -, -, -, -, -, h1, h2, -⟩ := h
  exact ⟨h1, h2⟩
theorem ag_0 {S N R : Nat → Int32} {B T n a : Int32} (hB : B ≤ a) (h : gN S N R T n.toNatClampNeg a) : agL S N R B T n 0 a := by
  intro lt
  have l := cn_lt (Int32.le_refl 0) lt
  cases hn : n.toNatClampNeg with
  | zero => omega
  | succ m =>
    rw [hn] at h
    exact ⟨hB, m, rfl, h⟩
theorem gB_e {S N R : Nat → Int32} {T a : Int32} {m : Nat} (h : gB S N R T m a) : ∃ e, ePa S N R a e ∧ a ≤ e ∧ e < T ∧ ∀ k, m = k + 1 → gB S N R T k (e + 1) := by
  cases m with
  | zero =>
    obtain ⟨e, h1, h2, h3, -⟩ := h
    exact ⟨e, h1, h2, h3, fun k hk => absurd hk (by omega)⟩
  | succ m =>
    obtain ⟨e, h1, h2, h3, -, h4⟩ := h
    refine ⟨e, h1, h2, h3, fun k hk => ?_⟩
    have ek : m = k := by omega
    rw [← ek]; exact h4
theorem ag_s {S N R : Nat → Int32} {B T n k e : Int32} {m : Nat} (hB : B ≤ e + 1) (hm : m + 1 + k.toNatClampNeg = n.toNatClampNeg) (hg : ∀ j, m = j + 1 → gB S N R T j (e + 1)) (k0 : 0 ≤ k) (k1 : k < 1000000) (k2 : 0 ≤ k + 1) : agL S N R B T n (k + 1) (e + 1) := by
  intro lt
  have l := cn_lt k2 lt
  rw [cn_succ k0 k1] at l
  cases m with
  | zero => omega
  | succ j => exact ⟨hB, j, by rw [cn_succ k0 k1]; omega, hg j rfl⟩
theorem call_c {C : rCx} (hC : cOK C) (B T : Int32) {σ : rS} {a1 : Int32} {Q : Int32 → rS → Prop} (hp : m1 σ B T ∧ csF σ ∧ a1 = rd σ 59 (σ.1 58 - 1) ∧ rd σ 30 a1 = 5) (h : ∀ (v : Int32) (σ' : rS), (frG clFR9 clR σ σ' ∧ ((v = 0 ∧ csF σ') ∨ v = 1 ∨ v = 2)) → Q v σ') : cI C 7 m_call [.ref (co C), .int a1] σ Q := by
  refine m_call_run hC ?_
  unfold w_call_0
  obtain ⟨hm, hc, ha, h5⟩ := hp
  have h0 : 0 ≤ a1 := by rw [ha]; exact hc.2.2.1
  have h1 : a1 < σ.1 19 := by rw [ha]; exact hc.2.2.2
  have hT := m1_T hm
  have hcO := stK_call (m1_st hm h0 h1) h5
  have hkO := hm.1.2.2.2.2.2.2.2.2.2.1 a1 h0 h1 h5
  have fb : 0 ≤ rd σ 39 (rd σ 32 a1) - 300 ∧ rd σ 39 (rd σ 32 a1) - 300 < σ.1 18 := by
    have t : tyF (σ.1 15) (σ.1 16) (σ.1 17) (σ.1 18) (σ.1 19) (σ.1 40) (σ.1 41) (σ.1 42) := hm.1.1.1
    exact f300c hkO.1 hkO.2.1 (f18_b t).1 (f18_b t).2
  have hj89 : ∀  (τ : rS), (frG [10, 11, 12, 13, 47, 48, 49] [50, 51, 52, 68] σ τ) → w_call_89 C Q   τ := by
    rintro  τ89 j89
    unfold w_call_89
    refine ⟨fun c1 => ?_, fun c1 => ?_⟩
    · skip
      refine fail_c hC  (fun r2 σ_3 q4 => ?_)
      refine h _ _ ?_
      · clear h; exact ⟨frG_tr (frG_mono j89 (by decide) (by decide)) (frG_61 q4.1 (by decide)), Or.inr (Or.inr q4.2)⟩  -- q1
    · skip
      refine fail_c hC  (fun r5 σ_6 q7 => ?_)
      refine h _ _ ?_
      · clear h; exact ⟨frG_tr (frG_mono j89 (by decide) (by decide)) (frG_61 q7.1 (by decide)), Or.inr (Or.inr q7.2)⟩  -- q2
  have hj73 : ∀ (l3 : Int32) (τ : rS), (frG [10, 11, 12, 13, 47, 48, 49] [50, 51, 52, 68] σ τ ∧ l3 = rd σ 39 (rd σ 32 a1) - 300) → w_call_73 C Q  l3 τ := by
    rintro y73_3 τ73 j73
    unfold w_call_73
    refine ⟨fun c8 => ?_, fun c8 => ?_⟩
    · skip
      refine hj89 _ ?_
      · clear h; exact j73.1  -- k3
    · skip
      refine ⟨fun c9 => ?_, fun c9 => ?_⟩
      · skip
        intro σ_10 hσ_10
        unfold w_call_122
        refine ⟨fun n l3 l4 τ => n = (8 - l4).toNatClampNeg ∧ (frG [10, 11, 12, 13, 47, 48, 49, 58] [50, 51, 52, 60, 68] σ τ ∧ l3 = rd σ 39 (rd σ 32 a1) - 300 ∧ τ.1 58 = σ.1 58 + 1 ∧ ¬ σ.1 58 = 12 ∧ 0 ≤ l4 ∧ l4 ≤ 8), ⟨_, rfl, ?_⟩, ?_⟩
        · clear h; exact ⟨frG_tr (frG_mono j73.1 (by decide) (by decide)) (by rw [hσ_10]; exact frG_0 (by decide)), j73.2, by rw [hσ_10, si1, if_pos rfl, j73.1.1 58 (by decide)], by rw [← j73.1.1 58 (by decide)]; exact c9, by decide, by decide⟩  -- j4
        rintro n122 x122_3 x122_4 σ122 ⟨hn122, i122⟩
        have hj167 : ∀ (l3 : Int32) (l4 : Int32) (s1 : Int32) (s2 : Int32) (τ : rS), (τ = σ122 ∧ l3 = x122_3 ∧ l4 = x122_4 ∧ ¬ 8 ≤ x122_4 ∧ s1 = 8 * (σ122.1 58 - 1) + x122_4) → w_call_167 C Q (fun l3' l4' τ => ∃ k < n122, (fun n l3 l4 τ => n = (8 - l4).toNatClampNeg ∧ (frG [10, 11, 12, 13, 47, 48, 49, 58] [50, 51, 52, 60, 68] σ τ ∧ l3 = rd σ 39 (rd σ 32 a1) - 300 ∧ τ.1 58 = σ.1 58 + 1 ∧ ¬ σ.1 58 = 12 ∧ 0 ≤ l4 ∧ l4 ≤ 8)) k l3' l4' τ) l3 l4 s1 s2 τ := by
          rintro y167_3 y167_4 y167_s1 y167_s2 τ167 j167
          unfold w_call_167
          obtain ⟨je, j1, j2, j3, j4⟩ := j167
          have cu := c_up hc.1.1 hc.1.2 i122.2.2.2.1
          have u := up8 i122.2.2.2.2.1 j3
          refine ⟨ib_96.mpr ?_, ?_⟩
          · clear h; rw [j4, i122.2.2.1]; exact c96 cu.1 cu.2.1 i122.2.2.2.2.1 u.2.2.2.2.1  -- b5
          intro σ_11 hσ_11
          intro x12 hx12
          refine ⟨_, cn_lt2 hn122 ?_ ?_, rfl, ?_⟩
          · clear h; rw [hx12, j2]; exact u.1  -- d6
          · clear h; rw [hx12, j2]; exact u.2.1  -- d7
          · clear h; rw [hx12, j2, j1]; exact ⟨frG_tr i122.1 (by rw [hσ_11, je]; exact frG_1 (by decide)), i122.2.1, by rw [hσ_11, ri1, je]; exact i122.2.2.1, i122.2.2.2.1, u.2.2.1, u.2.2.2.1⟩  -- i8
        refine ⟨fun c13 => ?_, fun c13 => ?_⟩
        · skip
          refine ⟨ib_10.mpr ?_, ?_⟩
          · clear h; rw [i122.2.1]; exact ⟨fb.1, fn_10 hm.1 fb.2⟩  -- b9
          refine moveTo_c hC B T ?_ (fun r14 σ_15 q16 => ?_)
          · clear h; have cu := c_up hc.1.1 hc.1.2 i122.2.2.2.1
            refine ⟨rI_fr hm.1 (frG_mono i122.1 (by decide) (by decide)), by rw [i122.2.2.1]; exact cu.1, by rw [i122.2.2.1]; exact cu.2.1, ?_, fun z => ?_⟩
            · rw [i122.2.2.1, cu.2.2]
              exact csL_up hc ha h5 (i122.1.2.2.1 59 (by decide)) (i122.1.2.2.1 30 (by decide)) (i122.1.1 19 (by decide))
            · rw [i122.2.1, i122.1.2.2.1 29 (by decide)] at z ⊢
              rw [i122.1.1 19 (by decide)]
              exact fo_b hm.1 fb.1 fb.2 z
          refine h _ _ ?_
          · clear h; refine ⟨frG_tr (frG_mono i122.1 (by decide) (by decide)) (frG_mono q16.1 (by decide) (by decide)), ?_⟩
            rcases q16.2 with z | z
            · exact Or.inl z
            · exact Or.inr (Or.inl z)
        · skip
          refine ⟨ib_10.mpr ?_, ?_⟩
          · clear h; rw [i122.2.1]; exact ⟨fb.1, fn_10 hm.1 fb.2⟩  -- b12
          refine ⟨fun c17 => ?_, fun c17 => ?_⟩
          · skip
            refine hj167 _ _ _ _ _ ?_
            · clear h; exact ⟨rfl, rfl, rfl, c13, rfl⟩  -- k13
          · skip
            refine ⟨ib_4.mpr ?_, ?_⟩
            · clear h; exact ⟨i122.2.2.2.2.1, g4 ((rI_fr hm.1 (frG_mono i122.1 (by decide) (by decide))).1.2.1.2.2.2.2.1 _).2 c17⟩  -- b14
            refine hj167 _ _ _ _ _ ?_
            · clear h; exact ⟨rfl, rfl, rfl, c13, rfl⟩  -- k15
      · skip
        refine hj89 _ ?_
        · clear h; exact j73.1  -- k16
  refine ⟨ib_150.mpr ?_, ?_⟩
  · clear h; exact ⟨h0, s150 hm.1 h1⟩  -- b17
  intro x18 hx18
  refine ⟨ib_131074.mpr ?_, ?_⟩
  · clear h; rw [hx18]; exact ⟨Int32.le_trans hT.1 hcO.1, Int32.lt_trans hcO.2.1 hT.2⟩  -- b18
  intro x19 hx19
  intro σ_20 hσ_20
  unfold w_call_28
  refine ⟨fun n l3 l4 τ => n = (rd σ 26 (rd σ 39 (rd σ 32 a1) - 300) - l4).toNatClampNeg ∧ (frG [10, 11, 12, 13, 47, 48, 49] [50, 51, 52, 68] σ τ ∧ l3 = rd σ 39 (rd σ 32 a1) - 300 ∧ 0 ≤ l4 ∧ l4 ≤ rd σ 26 l3 ∧ 0 ≤ τ.1 47 ∧ (τ.1 47 = 0 → m1 τ B T ∧ agL (σ.2.2.1 5) (σ.2.2.1 7) (σ.2.2.1 39) B T (rd σ 26 l3) l4 (τ.1 10))), ⟨_, rfl, ?_⟩, ?_⟩
  · clear h; have e20 : ∀ k, k ≠ 10 → σ_20.1 k = σ.1 k := fun k hk => by rw [hσ_20, si1, if_neg hk]
    have ex : x19 = rd σ 39 (rd σ 32 a1) - 300 := by rw [hx19, hx18]
    have f20 : frG [10, 11, 12, 13, 47, 48, 49] [50, 51, 52, 68] σ σ_20 := by rw [hσ_20]; exact frG_0 (by decide)
    have m20 : m1 σ_20 B T := m1_fr hm (frG_mono f20 (by decide) (by decide)) (e20 46 (by decide)) (e20 58 (by decide)) (e20 11 (by decide)) (e20 47 (by decide)) (e20 13 (by decide))
    have a20 : σ_20.1 10 = rd σ 32 a1 + 2 := by rw [hσ_20, si1, if_pos rfl, hx18]
    refine ⟨f20, ex, by decide, (hm.1.1.2.1.2.2.2.2.1 _).1, by rw [m20.2.2.2.2.1]; decide, fun _ => ⟨m20, ?_⟩⟩
    rw [a20, ex]
    exact ag_0 (lc_2 hT.1 hcO.1 hcO.2.1 hT.2) hkO.2.2
  rintro n28 x28_3 x28_4 σ28 ⟨hn28, i28⟩
  refine ⟨ib_10.mpr ?_, ?_⟩
  · clear h; rw [i28.2.1]; exact ⟨fb.1, fn_10 hm.1 fb.2⟩  -- b20
  refine ⟨fun c21 => ?_, fun c21 => ?_⟩
  · skip
    refine hj73 _ _ ?_
    · clear h; exact ⟨i28.1, i28.2.1⟩  -- k21
  · skip
    refine ⟨fun c22 => ?_, fun c22 => ?_⟩
    · skip
      refine hj73 _ _ ?_
      · clear h; exact ⟨i28.1, i28.2.1⟩  -- k22
    · skip
      obtain ⟨y1, y2, y3, y4, y5, y6⟩ := i28
      have c21' : ¬ rd σ 26 x28_3 ≤ x28_4 := by rw [rd, ← y1.2.2.1 26 (by decide)]; exact c21
      obtain ⟨w1, w2⟩ := y6 c22
      obtain ⟨hB, m, hmn, hg⟩ := w2 (Int32.not_le.mp c21')
      obtain ⟨e, e1, e2, e3, e4⟩ := gB_e hg
      have r26 := (hm.1.1.2.1.2.2.2.2.1 x28_3.toNatClampNeg).2
      have gd := g_dn r26 y3 c21'
      refine expr1_c hC B T ?_ (fun r23 σ_24 q25 => ?_)
      · clear h; exact ⟨w1, hB, Int32.le_trans e2 (Int32.le_of_lt e3), e, by rw [y1.2.2.1 5 (by decide), y1.2.2.1 7 (by decide), y1.2.2.1 39 (by decide)]; exact e1⟩  -- p23
      refine ⟨ib_4.mpr ?_, ?_⟩
      · clear h; exact ⟨y3, g4 r26 c21'⟩  -- b24
      intro σ_26 hσ_26
      intro σ_27 hσ_27
      intro x28 hx28
      refine ⟨_, cn_lt2 hn28 ?_ ?_, rfl, ?_⟩
      · clear h; rw [hx28, ← y2]; exact gd.1  -- d25
      · clear h; rw [hx28, ← y2]; exact gd.2.1  -- d26
      · clear h; have f27 : frG [10, 11, 12, 13, 47, 48, 49] [50, 51, 52, 68] σ_24 σ_27 := by rw [hσ_27, hσ_26]; exact frG_tr (frG_1 (by decide)) (frG_0 (by decide))
        have k27 : ∀ k, k ≠ 10 → σ_27.1 k = σ_24.1 k := fun k hk => by rw [hσ_27, si1, if_neg hk, hσ_26, ri1]
        have a27 : σ_27.1 10 = σ_24.1 10 + 1 := by rw [hσ_27, si1, if_pos rfl, hσ_26, ri1]
        rw [hx28]
        refine ⟨frG_tr y1 (frG_tr (frG_mono q25.1 (by decide) (by decide)) f27), y2, gd.2.2.1, gd.2.2.2.1, by rw [k27 47 (by decide)]; exact q25.2.1, fun z => ?_⟩
        rw [k27 47 (by decide)] at z
        obtain ⟨v1, v2⟩ := q25.2.2.2 z
        have ae : σ_24.1 10 = e := v2 e (by rw [y1.2.2.1 5 (by decide), y1.2.2.1 7 (by decide), y1.2.2.1 39 (by decide)]; exact e1)
        have eu := e_up e3 hT.2
        refine ⟨m1_fr v1 (frG_mono f27 (by decide) (by decide)) (k27 46 (by decide)) (k27 58 (by decide)) (k27 11 (by decide)) (k27 47 (by decide)) (k27 13 (by decide)), ?_⟩
        rw [a27, ae]
        exact ag_s (Int32.le_trans hB (Int32.le_trans e2 (Int32.le_of_lt eu.1))) hmn e4 y3 gd.2.2.2.2 gd.2.2.1
