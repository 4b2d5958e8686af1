set_option maxHeartbeats 1600000
/-! the reference: calls that read -/
theorem vc34 {σ : rS} (h : tyAll σ) : 0 ≤ σ.1 15 + σ.1 17 ∧ σ.1 15 + σ.1 17 ≤ 34 := by
  have t : tyF (σ.1 15) (σ.1 16) (σ.1 17) (σ.1 18) (σ.1 19) (σ.1 40) (σ.1 41) (σ.1 42) := h.1
  obtain ⟨a1, a2, a3, a4, a5, a6, -⟩ := t
  clear h
  grind
theorem nx_in {a b i : Int32} (a0 : 0 ≤ a) (ab : a ≤ b) (b1 : b ≤ 20000) (i0 : 0 ≤ i) (i1 : i < b - a) : 0 ≤ a + i ∧ a + i < b := by
  have e := i_sub (Int32.le_trans a0 ab) a0
  have l := Int32.lt_iff_toInt_lt.mp i1
  have h1 := ti b1
  have h2 := t0 a0
  have h3 := t0 i0
  rw [show (20000 : Int32).toInt = 20000 from rfl] at h1
  rw [e] at l
  have f := i_add a0 i0 (by omega)
  exact ⟨Int32.le_iff_toInt_le.mpr (by rw [f, Int32.toInt_zero]; omega), Int32.lt_iff_toInt_lt.mpr (by rw [f]; omega)⟩
theorem xe2 {k i : Int32} (k0 : 0 ≤ k) (k1 : k < 1000) (i0 : -1 ≤ i) (i1 : i < 34) : 0 ≤ 35 * k + 1 + i ∧ 35 * k + 1 + i < 35000 := by grind
theorem lt_89 {a x : Int32} (h : ¬ x ≤ a) (hx : x < 9) : a < 8 := by grind
theorem edN_0 {σ τ : rS} {l : Int32} {o a b : Nat} (hr : ∀ k, k = 76 ∨ k = 77 ∨ k = 78 → τ.2.2.1 k = σ.2.2.1 k) (hl : l ≠ 0) (h : edN τ 0 o l a b) : edN σ 0 o l a b := by
  unfold edN edI edg at h ⊢
  simp only [rd] at h ⊢
  rw [hr 76 (by decide), hr 77 (by decide), hr 78 (by decide)] at h
  obtain ⟨i, a1, a2, a3, a4, -, -⟩ := h
  exact ⟨i, a1, a2, a3, a4, Or.inl trivial, Or.inl hl⟩
theorem st_ns {σ : rS} {j : Int32} (h : exO σ) (j0 : 0 ≤ j) (j1 : j < σ.1 70) : 0 ≤ rd σ 76 j ∧ rd σ 76 j ≤ rd σ 76 (j + 1) ∧ rd σ 76 (j + 1) ≤ 20000 := by
  have s := (h.2.2.2.1 j j0 j1).1
  exact ⟨s.1, Int32.le_of_lt s.2.1, Int32.le_trans s.2.2 h.2.2.1.2⟩
theorem count_c {C : rCx} (hC : cOK C)  {σ : rS} {a1 : Int32} {Q : Int32 → rS → Prop} (hp : 0 ≤ σ.1 70 ∧ σ.1 70 ≤ 1000) (h : ∀ (v : Int32) (σ' : rS), (frG [0] [] σ σ') → Q v σ') : cI C 1 m_count [.ref (co C), .int a1] σ Q := by
  refine m_count_run hC ?_
  unfold w_count_0
  have hj98 : ∀ (l1 : Int32) (l2 : Int32) (l3 : Int32) (s0 : Int32) (τ : rS), (l1 = a1 ∧ frG [0] [] σ τ) → w_count_98 C Q  l1 l2 l3 s0 τ := by
    rintro y98_1 y98_2 y98_3 y98_s0 τ98 j98
    unfold w_count_98
    refine ⟨fun c1 => ?_, fun c1 => ?_, fun c1 => ?_, fun c1 => ?_, fun c1 => ?_, fun c1 => ?_, fun c1 => ?_, fun c1 => ?_, fun c1 => ?_, fun c1 => ?_, fun c1 => ?_, fun c1 => ?_⟩
    · skip
      refine h _ _ ?_
      · clear h; exact j98.2  -- q1
    · skip
      refine ⟨fun c2 => ?_, fun c2 => ?_⟩
      · skip
        refine h _ _ ?_
        · clear h; exact j98.2  -- q2
      · skip
        refine h _ _ ?_
        · clear h; exact j98.2  -- q3
    · skip
      refine ⟨fun c3 => ?_, fun c3 => ?_⟩
      · skip
        refine h _ _ ?_
        · clear h; exact j98.2  -- q4
      · skip
        refine h _ _ ?_
        · clear h; exact j98.2  -- q5
    · skip
      refine ⟨fun c4 => ?_, fun c4 => ?_⟩
      · skip
        refine h _ _ ?_
        · clear h; exact j98.2  -- q6
      · skip
        refine h _ _ ?_
        · clear h; exact j98.2  -- q7
    · skip
      refine ⟨fun c5 => ?_, fun c5 => ?_⟩
      · skip
        refine h _ _ ?_
        · clear h; exact j98.2  -- q8
      · skip
        refine h _ _ ?_
        · clear h; exact j98.2  -- q9
    · skip
      refine h _ _ ?_
      · clear h; exact j98.2  -- q10
    · skip
      refine h _ _ ?_
      · clear h; exact j98.2  -- q11
    · skip
      refine h _ _ ?_
      · clear h; exact j98.2  -- q12
    · skip
      refine ⟨fun c6 => ?_, fun c6 => ?_⟩
      · skip
        refine h _ _ ?_
        · clear h; exact j98.2  -- q13
      · skip
        refine h _ _ ?_
        · clear h; exact j98.2  -- q14
    · skip
      refine ⟨fun c7 => ?_, fun c7 => ?_⟩
      · skip
        refine h _ _ ?_
        · clear h; exact j98.2  -- q15
      · skip
        refine h _ _ ?_
        · clear h; exact j98.2  -- q16
    · skip
      refine h _ _ ?_
      · clear h; exact j98.2  -- q17
    · skip
      refine h _ _ ?_
      · clear h; exact j98.2  -- q18
  have hj16 : ∀ (l1 : Int32) (s1 : Int32) (τ : rS), (l1 = a1 ∧ σ = τ) → w_count_16 C Q  l1 s1 τ := by
    rintro y16_1 y16_s1 τ16 j16
    unfold w_count_16
    intro σ_8 hσ_8
    have f8 : frG [0] [] σ σ_8 := by rw [hσ_8, ← j16.2]; exact frG_0 (by decide)
    refine ⟨fun c9 => ?_, fun c9 => ?_⟩
    · skip
      unfold w_count_35
      refine ⟨fun n l1 l2 l3 l4 τ => n = (σ.1 70 - l4).toNatClampNeg ∧ (l1 = a1 ∧ frG [0] [] σ τ ∧ 0 ≤ l4 ∧ l4 ≤ σ.1 70), ⟨_, rfl, ?_⟩, ?_⟩
      · clear h; exact ⟨j16.1, f8, by decide, hp.1⟩  -- j19
      rintro n35 x35_1 x35_2 x35_3 x35_4 σ35 ⟨hn35, i35⟩
      have hj78 : ∀ (l1 : Int32) (l2 : Int32) (l4 : Int32) (s0 : Int32) (s1 : Int32) (τ : rS), (l1 = a1 ∧ frG [0] [] σ τ ∧ l4 = x35_4 ∧ ¬ σ.1 70 ≤ x35_4) → w_count_78 C Q (fun l1' l2' l3' l4' τ => ∃ k < n35, (fun n l1 l2 l3 l4 τ => n = (σ.1 70 - l4).toNatClampNeg ∧ (l1 = a1 ∧ frG [0] [] σ τ ∧ 0 ≤ l4 ∧ l4 ≤ σ.1 70)) k l1' l2' l3' l4' τ) l1 l2 l4 s0 s1 τ := by
        rintro y78_1 y78_2 y78_4 y78_s0 y78_s1 τ78 j78
        unfold w_count_78
        intro x10 hx10
        intro x11 hx11
        have u := uk i35.2.2.1 j78.2.2.2 hp.2
        refine ⟨_, cn_lt2 hn35 ?_ ?_, rfl, ?_⟩
        · clear h; rw [hx11, j78.2.2.1]; exact u.1  -- d20
        · clear h; rw [hx11, j78.2.2.1]; exact u.2.1  -- d21
        · clear h; rw [hx11, j78.2.2.1]; exact ⟨j78.1, j78.2.1, u.2.2.1, u.2.2.2.1⟩  -- i22
      have hj60 : ∀ (l1 : Int32) (l3 : Int32) (l4 : Int32) (s0 : Int32) (s1 : Int32) (τ : rS), (l1 = a1 ∧ frG [0] [] σ τ ∧ l4 = x35_4 ∧ ¬ σ.1 70 ≤ x35_4) → w_count_60 C Q (fun l1' l2' l3' l4' τ => ∃ k < n35, (fun n l1 l2 l3 l4 τ => n = (σ.1 70 - l4).toNatClampNeg ∧ (l1 = a1 ∧ frG [0] [] σ τ ∧ 0 ≤ l4 ∧ l4 ≤ σ.1 70)) k l1' l2' l3' l4' τ) l1 l3 l4 s0 s1 τ := by
        rintro y60_1 y60_3 y60_4 y60_s0 y60_s1 τ60 j60
        unfold w_count_60
        intro x12 hx12
        refine ⟨ib_1000.mpr ?_, ?_⟩
        · clear h; rw [j60.2.2.1]; exact ⟨i35.2.2.1, (uk i35.2.2.1 j60.2.2.2 hp.2).2.2.2.2.2⟩  -- b23
        refine ⟨fun c13 => ?_, fun c13 => ?_⟩
        · skip
          refine hj78 _ _ _ _ _ _ ?_
          · clear h; exact j60  -- k24
        · skip
          refine hj78 _ _ _ _ _ _ ?_
          · clear h; exact j60  -- k25
      refine ⟨fun c14 => ?_, fun c14 => ?_⟩
      · skip
        refine ⟨fun c15 => ?_, fun c15 => ?_⟩
        · skip
          refine hj98 _ _ _ _ _ ?_
          · clear h; exact ⟨i35.1, i35.2.1⟩  -- k26
        · skip
          refine hj98 _ _ _ _ _ ?_
          · clear h; exact ⟨i35.1, i35.2.1⟩  -- k27
      · skip
        have c' : ¬ σ.1 70 ≤ x35_4 := by rw [← i35.2.1.1 70 (by decide)]; exact c14
        refine ⟨ib_1000.mpr ?_, ?_⟩
        · clear h; exact ⟨i35.2.2.1, (uk i35.2.2.1 c' hp.2).2.2.2.2.2⟩  -- b28
        refine ⟨fun c16 => ?_, fun c16 => ?_⟩
        · skip
          refine hj60 _ _ _ _ _ _ ?_
          · clear h; exact ⟨i35.1, i35.2.1, rfl, c'⟩  -- k29
        · skip
          refine hj60 _ _ _ _ _ _ ?_
          · clear h; exact ⟨i35.1, i35.2.1, rfl, c'⟩  -- k30
    · skip
      refine h _ _ ?_
      · clear h; exact f8  -- q31
  refine within_c hC  (fun r17 q19 => ?_)
  refine ⟨fun c20 => ?_, fun c20 => ?_⟩
  · skip
    refine hj16 _ _ _ ?_
    · clear h; exact ⟨rfl, rfl⟩  -- k32
  · skip
    refine hj16 _ _ _ ?_
    · clear h; exact ⟨rfl, rfl⟩  -- k33

theorem latestAt_c {C : rCx} (hC : cOK C)  {σ : rS} {a1 : Int32} {Q : Int32 → rS → Prop} (hp : 0 ≤ a1 ∧ a1 < 1000 ∧ rowR σ a1) (h : ∀ (v : Int32), (0 ≤ v ∧ v < 150) → Q v σ) : cI C 0 m_latestAt [.ref (co C), .int a1] σ Q := by
  refine m_latestAt_run hC ?_
  unfold w_latestAt_0
  obtain ⟨h0, h1, r1, r2, r3⟩ := hp
  have m := c_m1 r1 r2
  have d := c_d1 r1 r2
  refine ⟨ib_143000.mpr ?_, ?_⟩
  · clear h; exact (xr h0 h1 (Int32.le_refl 0) (by decide)).2  -- b1
  refine ⟨ib_143000.mpr ?_, ?_⟩
  · clear h; exact (xr9 h0 h1 m.1 m.2 (Int32.le_refl 0) (by decide)).2  -- b2
  refine h _ ?_
  · clear h; exact r3 _ m.1 d  -- q3

theorem state_c {C : rCx} (hC : cOK C)  {σ : rS} {a1 : Int32} {a2 : Int32} {Q : Int32 → rS → Prop} (hp : exP σ) (h : ∀ (v : Int32) (σ' : rS), (frG [0] [] σ σ') → Q v σ') : cI C 1 m_state [.ref (co C), .int a1, .int a2] σ Q := by
  refine m_state_run hC ?_
  unfold w_state_0
  have hj23 : ∀ (l1 : Int32) (l2 : Int32) (s1 : Int32) (τ : rS), (σ = τ ∧ l1 = a1 ∧ l2 = a2 ∧ (s1 ≤ 0 → 0 ≤ a1 ∧ a1 < σ.1 70)) → w_state_23 C Q  l1 l2 s1 τ := by
    rintro y23_1 y23_2 y23_s1 _ ⟨rfl, j23⟩
    unfold w_state_23
    intro σ_1 hσ_1
    have e0 : σ_1.1 0 = y23_s1 := by rw [hσ_1, si1, if_pos rfl]
    obtain ⟨e1, e2, jw⟩ := j23
    refine ⟨fun c2 => ?_, fun c2 => ?_⟩
    · skip
      refine ⟨fun c3 => ?_, fun c3 => ?_, fun c3 => ?_, fun c3 => ?_, fun c3 => ?_, fun c3 => ?_⟩
      · skip
        refine ⟨ib_1000.mpr ?_, ?_⟩
        · clear h; have w := jw (by rw [← e0]; exact c2)
          rw [e1]; exact ⟨w.1, Int32.lt_of_lt_of_le w.2 hp.1.1.2⟩
        refine h _ _ ?_
        · clear h; rw [hσ_1]; exact frG_0 (by decide)  -- q2
      · skip
        refine latestAt_c hC  ?_ (fun r4 q6 => ?_)
        · clear h; have w := jw (by rw [← e0]; exact c2)
          have r := hp.2.1 a1 w.1 w.2
          rw [e1, hσ_1]; exact ⟨w.1, Int32.lt_of_lt_of_le w.2 hp.1.1.2, r⟩
        refine h _ _ ?_
        · clear h; rw [hσ_1]; exact frG_0 (by decide)  -- q4
      · skip
        refine ⟨ib_143000.mpr ?_, ?_⟩
        · clear h; have w := jw (by rw [← e0]; exact c2)
          rw [e1]; exact (xr w.1 (Int32.lt_of_lt_of_le w.2 hp.1.1.2) (Int32.le_refl 0) (by decide)).2
        refine h _ _ ?_
        · clear h; rw [hσ_1]; exact frG_0 (by decide)  -- q6
      · skip
        refine ⟨ib_1001.mpr ?_, ?_⟩
        · clear h; have w := jw (by rw [← e0]; exact c2)
          have k := k1001 w.1 (Int32.lt_of_lt_of_le w.2 hp.1.1.2)
          rw [e1]; exact ⟨k.1, k.2.1⟩
        refine ⟨ib_1001.mpr ?_, ?_⟩
        · clear h; have w := jw (by rw [← e0]; exact c2)
          have k := k1001 w.1 (Int32.lt_of_lt_of_le w.2 hp.1.1.2)
          rw [e1]; exact ⟨w.1, k.2.2.1⟩
        refine h _ _ ?_
        · clear h; rw [hσ_1]; exact frG_0 (by decide)  -- q9
      · skip
        refine ⟨ib_1000.mpr ?_, ?_⟩
        · clear h; have w := jw (by rw [← e0]; exact c2)
          rw [e1]; exact ⟨w.1, Int32.lt_of_lt_of_le w.2 hp.1.1.2⟩
        refine ⟨fun c7 => ?_, fun c7 => ?_⟩
        · skip
          refine h _ _ ?_
          · clear h; rw [hσ_1]; exact frG_0 (by decide)  -- q11
        · skip
          refine h _ _ ?_
          · clear h; rw [hσ_1]; exact frG_0 (by decide)  -- q12
      · skip
        refine ⟨ib_1000.mpr ?_, ?_⟩
        · clear h; have w := jw (by rw [← e0]; exact c2)
          rw [e1]; exact ⟨w.1, Int32.lt_of_lt_of_le w.2 hp.1.1.2⟩
        refine ⟨fun c8 => ?_, fun c8 => ?_⟩
        · skip
          refine h _ _ ?_
          · clear h; rw [hσ_1]; exact frG_0 (by decide)  -- q14
        · skip
          refine h _ _ ?_
          · clear h; rw [hσ_1]; exact frG_0 (by decide)  -- q15
    · skip
      refine h _ _ ?_
      · clear h; rw [hσ_1]; exact frG_0 (by decide)  -- q16
  refine isState_c hC  (fun r9 q11 => ?_)
  refine ⟨fun c12 => ?_, fun c12 => ?_⟩
  · skip
    refine hj23 _ _ _ _ ?_
    · clear h; exact ⟨rfl, rfl, rfl, fun z => absurd z (by decide)⟩  -- k17
  · skip
    refine within_c hC  (fun r13 q15 => ?_)
    refine ⟨fun c16 => ?_, fun c16 => ?_⟩
    · skip
      refine hj23 _ _ _ _ ?_
      · clear h; exact ⟨rfl, rfl, rfl, fun _ => (q11.2.mp c12).2⟩  -- k18
    · skip
      refine hj23 _ _ _ _ ?_
      · clear h; exact ⟨rfl, rfl, rfl, fun z => absurd z (by decide)⟩  -- k19

theorem value_c {C : rCx} (hC : cOK C)  {σ : rS} {a1 : Int32} {a2 : Int32} {a3 : Int32} {Q : Int32 → rS → Prop} (hp : exP σ ∧ tyAll σ) (h : ∀ (v : Int32) (σ' : rS), (frG [0] [] σ σ') → Q v σ') : cI C 1 m_value [.ref (co C), .int a1, .int a2, .int a3] σ Q := by
  refine m_value_run hC ?_
  unfold w_value_0
  have hj126 : ∀ (l1 : Int32) (l2 : Int32) (l3 : Int32) (s1 : Int32) (τ : rS), (σ = τ ∧ l1 = a1 ∧ l2 = a2 ∧ l3 = a3 ∧ (s1 ≤ 0 → 0 ≤ a1 ∧ a1 < σ.1 70 ∧ 0 ≤ a3 ∧ ((a2 = -1 ∧ a3 < 34) ∨ (0 ≤ a2 ∧ a2 < 12 ∧ a3 < 8)))) → w_value_126 C Q  l1 l2 l3 s1 τ := by
    rintro y126_1 y126_2 y126_3 y126_s1 _ ⟨rfl, j126⟩
    unfold w_value_126
    intro σ_1 hσ_1
    have e0 : σ_1.1 0 = y126_s1 := by rw [hσ_1, si1, if_pos rfl]
    obtain ⟨e1, e2, e3, jw⟩ := j126
    refine ⟨fun c2 => ?_, fun c2 => ?_⟩
    · skip
      refine ⟨fun c3 => ?_, fun c3 => ?_⟩
      · skip
        refine ⟨ib_143000.mpr ?_, ?_⟩
        · clear h; obtain ⟨w1, w2, w3, w4⟩ := jw (by rw [← e0]; exact c2)
          rw [e2] at c3
          rw [e1, e2, e3]
          rcases w4 with z | z
          · exact absurd z.1 c3
          · exact (xr9 w1 (Int32.lt_of_lt_of_le w2 hp.1.1.1.2) z.1 z.2.1 w3 z.2.2).1
        refine h _ _ ?_
        · clear h; rw [hσ_1]; exact frG_0 (by decide)  -- q2
      · skip
        refine ⟨ib_143000.mpr ?_, ?_⟩
        · clear h; obtain ⟨w1, w2, w3, w4⟩ := jw (by rw [← e0]; exact c2)
          rw [e2] at c3
          rw [e1, e3]
          rcases w4 with z | z
          · exact xr1 w1 (Int32.lt_of_lt_of_le w2 hp.1.1.1.2) w3 z.2
          · rw [c3] at z; exact absurd z.1 (by decide)
        refine h _ _ ?_
        · clear h; rw [hσ_1]; exact frG_0 (by decide)  -- q4
    · skip
      refine h _ _ ?_
      · clear h; rw [hσ_1]; exact frG_0 (by decide)  -- q5
  have hj115 : ∀ (l1 : Int32) (l2 : Int32) (l3 : Int32) (l4 : Int32) (τ : rS), (σ = τ ∧ l1 = a1 ∧ l2 = a2 ∧ l3 = a3 ∧ (l4 ≠ 0 → 0 ≤ a1 ∧ a1 < σ.1 70 ∧ 0 ≤ a3 ∧ ((a2 = -1 ∧ a3 < 34) ∨ (0 ≤ a2 ∧ a2 < 12 ∧ a3 < 8)))) → w_value_115 C Q  l1 l2 l3 l4 τ := by
    rintro y115_1 y115_2 y115_3 y115_4 _ ⟨rfl, j115⟩
    unfold w_value_115
    obtain ⟨e1, e2, e3, jw⟩ := j115
    refine ⟨fun c4 => ?_, fun c4 => ?_⟩
    · skip
      refine hj126 _ _ _ _ _ ?_
      · clear h; exact ⟨rfl, e1, e2, e3, fun z => absurd z (by decide)⟩  -- k6
    · skip
      refine hj126 _ _ _ _ _ ?_
      · clear h; exact ⟨rfl, e1, e2, e3, fun _ => jw c4⟩  -- k7
  have hj57 : ∀ (l1 : Int32) (l2 : Int32) (l3 : Int32) (l4 : Int32) (τ : rS), (σ = τ ∧ l1 = a1 ∧ l2 = a2 ∧ l3 = a3 ∧ (l4 ≠ 0 → 0 ≤ a1 ∧ a1 < σ.1 70 ∧ 0 ≤ a3 ∧ 0 ≤ a2)) → w_value_57 C Q  l1 l2 l3 l4 τ := by
    rintro y57_1 y57_2 y57_3 y57_4 _ ⟨rfl, j57⟩
    unfold w_value_57
    obtain ⟨e1, e2, e3, jw⟩ := j57
    refine ⟨fun c5 => ?_, fun c5 => ?_⟩
    · skip
      refine hj115 _ _ _ _ _ ?_
      · clear h; exact ⟨rfl, e1, e2, e3, fun z => absurd c5 z⟩  -- k8
    · skip
      obtain ⟨w1, w2, w3, w4⟩ := jw c5
      have k1 := Int32.lt_of_lt_of_le w2 hp.1.1.1.2
      obtain ⟨r1, r2, r3⟩ := hp.1.2.1 a1 w1 w2
      refine ⟨ib_143000.mpr ?_, ?_⟩
      · clear h; rw [e1]; exact (xr w1 k1 (Int32.le_refl 0) (by decide)).2  -- b9
      refine ⟨fun c6 => ?_, fun c6 => ?_⟩
      · skip
        refine hj115 _ _ _ _ _ ?_
        · clear h; exact ⟨rfl, e1, e2, e3, fun z => absurd rfl z⟩  -- k10
      · skip
        rw [e1, e2] at c6
        have c12 : a2 < 12 := Int32.lt_of_lt_of_le (Int32.not_le.mp c6) r2
        have at_ := r3 a2 w4 (Int32.not_le.mp c6)
        refine ⟨ib_143000.mpr ?_, ?_⟩
        · clear h; rw [e1, e2]; exact (xr9 w1 k1 w4 c12 (Int32.le_refl 0) (by decide)).2  -- b11
        refine ⟨ib_150.mpr ?_, ?_⟩
        · clear h; rw [e1, e2]; exact at_  -- b12
        refine ⟨ib_10.mpr ?_, ?_⟩
        · clear h; exact hp.2.2.2.2.1.2.2.2.2.2.1 _  -- b13
        refine ⟨fun c7 => ?_, fun c7 => ?_⟩
        · skip
          refine hj115 _ _ _ _ _ ?_
          · clear h; exact ⟨rfl, e1, e2, e3, fun z => absurd rfl z⟩  -- k14
        · skip
          refine hj115 _ _ _ _ _ ?_
          · clear h; rw [e3] at c7
            exact ⟨rfl, e1, e2, e3, fun _ => ⟨w1, w2, w3, Or.inr ⟨w4, c12, lt_89 c7 (hp.2.2.1.2.2.2.2.2 _).2⟩⟩⟩
  have hj22 : ∀ (l1 : Int32) (l2 : Int32) (l3 : Int32) (s0 : Int32) (τ : rS), (σ = τ ∧ l1 = a1 ∧ l2 = a2 ∧ l3 = a3 ∧ nb s0 ∧ (s0 ≠ 0 → 0 ≤ a1 ∧ a1 < σ.1 70 ∧ 0 ≤ a3 ∧ -1 ≤ a2)) → w_value_22 C Q  l1 l2 l3 s0 τ := by
    rintro y22_1 y22_2 y22_3 y22_s0 _ ⟨rfl, j22⟩
    unfold w_value_22
    obtain ⟨e1, e2, e3, jn, jw⟩ := j22
    refine ⟨fun c8 => ?_, fun c8 => ?_⟩
    · skip
      refine hj57 _ _ _ _ _ ?_
      · clear h; exact ⟨rfl, e1, e2, e3, fun z => absurd c8 z⟩  -- k16
    · skip
      refine ⟨fun c9 => ?_, fun c9 => ?_⟩
      · skip
        refine hj57 _ _ _ _ _ ?_
        · clear h; obtain ⟨w1, w2, w3, w4⟩ := jw c8
          rw [e2] at c9
          exact ⟨rfl, e1, e2, e3, fun _ => ⟨w1, w2, w3, m1_0 w4 c9⟩⟩
      · skip
        refine ⟨fun c10 => ?_, fun c10 => ?_⟩
        · skip
          refine hj115 _ _ _ _ _ ?_
          · clear h; exact ⟨rfl, e1, e2, e3, fun z => absurd rfl z⟩  -- k18
        · skip
          refine hj115 _ _ _ _ _ ?_
          · clear h; obtain ⟨w1, w2, w3, w4⟩ := jw c8
            rw [e2] at c9
            rw [e3] at c10
            exact ⟨rfl, e1, e2, e3, fun _ => ⟨w1, w2, w3, Or.inl ⟨c9, Int32.lt_of_lt_of_le (Int32.not_le.mp c10) (vc34 hp.2).2⟩⟩⟩
  refine isState_c hC  (fun r11 q13 => ?_)
  refine ⟨fun c14 => ?_, fun c14 => ?_⟩
  · skip
    refine hj22 _ _ _ _ _ ?_
    · clear h; exact ⟨rfl, rfl, rfl, rfl, nb_0, fun z => absurd rfl z⟩  -- k20
  · skip
    refine ⟨fun c15 => ?_, fun c15 => ?_⟩
    · skip
      refine hj22 _ _ _ _ _ ?_
      · clear h; exact ⟨rfl, rfl, rfl, rfl, nb_0, fun z => absurd rfl z⟩  -- k21
    · skip
      refine ⟨fun c16 => ?_, fun c16 => ?_⟩
      · skip
        refine hj22 _ _ _ _ _ ?_
        · clear h; exact ⟨rfl, rfl, rfl, rfl, nb_0, fun z => absurd rfl z⟩  -- k22
      · skip
        refine hj22 _ _ _ _ _ ?_
        · clear h; exact ⟨rfl, rfl, rfl, rfl, nb_1, fun _ => ⟨(q13.2.mp c14).2.1, (q13.2.mp c14).2.2, Int32.not_lt.mp c15, Int32.not_lt.mp c16⟩⟩  -- k23

theorem next_c {C : rCx} (hC : cOK C)  {σ : rS} {a1 : Int32} {a2 : Int32} {a3 : Int32} {Q : Int32 → rS → Prop} (hp : exP σ) (h : ∀ (v : Int32) (σ' : rS), (frG [0] [] σ σ') → Q v σ') : cI C 1 m_next [.ref (co C), .int a1, .int a2, .int a3] σ Q := by
  refine m_next_run hC ?_
  unfold w_next_0
  have hj46 : ∀ (l1 : Int32) (l2 : Int32) (l3 : Int32) (s1 : Int32) (τ : rS), (σ = τ ∧ l1 = a1 ∧ l2 = a2 ∧ l3 = a3 ∧ (s1 ≤ 0 → 0 ≤ a1 ∧ a1 < σ.1 70 ∧ 0 ≤ a2 ∧ a2 < rd σ 76 (a1 + 1) - rd σ 76 a1)) → w_next_46 C Q  l1 l2 l3 s1 τ := by
    rintro y46_1 y46_2 y46_3 y46_s1 _ ⟨rfl, j46⟩
    unfold w_next_46
    intro σ_1 hσ_1
    have e0 : σ_1.1 0 = y46_s1 := by rw [hσ_1, si1, if_pos rfl]
    obtain ⟨e1, e2, e3, jw⟩ := j46
    refine ⟨fun c2 => ?_, fun c2 => ?_⟩
    · skip
      refine ⟨ib_1001.mpr ?_, ?_⟩
      · clear h; have w := jw (by rw [← e0]; exact c2)
        have k := k1001 w.1 (Int32.lt_of_lt_of_le w.2.1 hp.1.1.2)
        rw [e1]; exact ⟨w.1, k.2.2.1⟩
      intro x3 hx3
      have w := jw (by rw [← e0]; exact c2)
      have sn := st_ns hp.1 w.1 w.2.1
      have ni := nx_in sn.1 sn.2.1 sn.2.2 w.2.2.1 w.2.2.2
      have ex : x3 = rd σ 76 a1 + a2 := by rw [hx3, e1, e2, hσ_1, si2]
      have b : 0 ≤ x3 ∧ x3 < 20000 := by rw [ex]; exact ⟨ni.1, Int32.lt_of_lt_of_le ni.2 sn.2.2⟩
      refine ⟨fun c4 => ?_, fun c4 => ?_⟩
      · skip
        refine ⟨fun c5 => ?_, fun c5 => ?_⟩
        · skip
          refine ⟨ib_20000.mpr ?_, ?_⟩
          · clear h; exact b  -- b2
          refine h _ _ ?_
          · clear h; rw [hσ_1]; exact frG_0 (by decide)  -- q3
        · skip
          refine ⟨ib_20000.mpr ?_, ?_⟩
          · clear h; exact b  -- b4
          refine h _ _ ?_
          · clear h; rw [hσ_1]; exact frG_0 (by decide)  -- q5
      · skip
        refine ⟨ib_20000.mpr ?_, ?_⟩
        · clear h; exact b  -- b6
        refine h _ _ ?_
        · clear h; rw [hσ_1]; exact frG_0 (by decide)  -- q7
    · skip
      refine h _ _ ?_
      · clear h; rw [hσ_1]; exact frG_0 (by decide)  -- q8
  refine isState_c hC  (fun r6 q8 => ?_)
  refine ⟨fun c9 => ?_, fun c9 => ?_⟩
  · skip
    refine hj46 _ _ _ _ _ ?_
    · clear h; exact ⟨rfl, rfl, rfl, rfl, fun z => absurd z (by decide)⟩  -- k9
  · skip
    refine ⟨fun c10 => ?_, fun c10 => ?_⟩
    · skip
      refine hj46 _ _ _ _ _ ?_
      · clear h; exact ⟨rfl, rfl, rfl, rfl, fun z => absurd z (by decide)⟩  -- k10
    · skip
      have w := q8.2.mp c9
      have k := k1001 w.2.1 (Int32.lt_of_lt_of_le w.2.2 hp.1.1.2)
      refine ⟨ib_1001.mpr ?_, ?_⟩
      · clear h; exact ⟨k.1, k.2.1⟩  -- b11
      refine ⟨ib_1001.mpr ?_, ?_⟩
      · clear h; exact ⟨w.2.1, k.2.2.1⟩  -- b12
      refine ⟨fun c11 => ?_, fun c11 => ?_⟩
      · skip
        refine hj46 _ _ _ _ _ ?_
        · clear h; exact ⟨rfl, rfl, rfl, rfl, fun z => absurd z (by decide)⟩  -- k13
      · skip
        refine within_c hC  (fun r12 q14 => ?_)
        refine ⟨fun c15 => ?_, fun c15 => ?_⟩
        · skip
          refine hj46 _ _ _ _ _ ?_
          · clear h; exact ⟨rfl, rfl, rfl, rfl, fun _ => ⟨w.2.1, w.2.2, Int32.not_lt.mp c10, Int32.not_le.mp c11⟩⟩  -- k14
        · skip
          refine hj46 _ _ _ _ _ ?_
          · clear h; exact ⟨rfl, rfl, rfl, rfl, fun z => absurd z (by decide)⟩  -- k15

theorem ending_c {C : rCx} (hC : cOK C)  {σ : rS} {a1 : Int32} {a2 : Int32} {Q : Int32 → rS → Prop} (hp : exP σ ∧ tyAll σ) (h : ∀ (v : Int32) (σ' : rS), (frG [0] [] σ σ') → Q v σ') : cI C 0 m_ending [.ref (co C), .int a1, .int a2] σ Q := by
  refine m_ending_run hC ?_
  unfold w_ending_0
  have hj43 : ∀ (l1 : Int32) (l2 : Int32) (s1 : Int32) (τ : rS), (σ = τ ∧ l1 = a1 ∧ l2 = a2 ∧ (s1 ≤ 0 → 0 ≤ a1 ∧ a1 < 1000 ∧ -1 ≤ a2 ∧ a2 < 34)) → w_ending_43 C Q  l1 l2 s1 τ := by
    rintro y43_1 y43_2 y43_s1 _ ⟨rfl, j43⟩
    unfold w_ending_43
    intro σ_1 hσ_1
    have e0 : σ_1.1 0 = y43_s1 := by rw [hσ_1, si1, if_pos rfl]
    obtain ⟨e1, e2, jw⟩ := j43
    refine ⟨fun c2 => ?_, fun c2 => ?_⟩
    · skip
      refine ⟨ib_35000.mpr ?_, ?_⟩
      · clear h; obtain ⟨w1, w2, w3, w4⟩ := jw (by rw [← e0]; exact c2)
        rw [e1, e2]; exact xe2 w1 w2 w3 w4
      refine h _ _ ?_
      · clear h; rw [hσ_1]; exact frG_0 (by decide)  -- q2
    · skip
      refine h _ _ ?_
      · clear h; rw [hσ_1]; exact frG_0 (by decide)  -- q3
  refine ⟨fun c3 => ?_, fun c3 => ?_⟩
  · skip
    refine hj43 _ _ _ _ ?_
    · clear h; exact ⟨rfl, rfl, rfl, fun z => absurd z (by decide)⟩  -- k4
  · skip
    refine ⟨fun c4 => ?_, fun c4 => ?_⟩
    · skip
      refine hj43 _ _ _ _ ?_
      · clear h; exact ⟨rfl, rfl, rfl, fun z => absurd z (by decide)⟩  -- k5
    · skip
      refine ⟨fun c5 => ?_, fun c5 => ?_⟩
      · skip
        refine hj43 _ _ _ _ ?_
        · clear h; exact ⟨rfl, rfl, rfl, fun z => absurd z (by decide)⟩  -- k6
      · skip
        refine ⟨fun c6 => ?_, fun c6 => ?_⟩
        · skip
          refine hj43 _ _ _ _ ?_
          · clear h; exact ⟨rfl, rfl, rfl, fun z => absurd z (by decide)⟩  -- k7
        · skip
          refine ⟨fun c7 => ?_, fun c7 => ?_⟩
          · skip
            refine hj43 _ _ _ _ ?_
            · clear h; exact ⟨rfl, rfl, rfl, fun _ => ⟨Int32.not_lt.mp c4, Int32.lt_of_lt_of_le (Int32.not_le.mp c5) hp.1.1.2.1.2, Int32.not_lt.mp c6, Int32.lt_of_lt_of_le c7 (vc34 hp.2).2⟩⟩  -- k8
          · skip
            refine hj43 _ _ _ _ ?_
            · clear h; exact ⟨rfl, rfl, rfl, fun z => absurd z (by decide)⟩  -- k9

theorem decide_c {C : rCx} (hC : cOK C)  {σ : rS} {a1 : Int32} {a2 : Int32} {Q : Int32 → rS → Prop} (hp : exP σ) (h : ∀ (v : Int32) (σ' : rS), (frG [0, 94] [83] σ σ' ∧ exP σ' ∧ (frG [0] [] σ σ' ∨ σ'.1 94 = 0)) → Q v σ') : cI C 1 m_decide [.ref (co C), .int a1, .int a2] σ Q := by
  refine m_decide_run hC ?_
  unfold w_decide_0
  have hj46 : ∀ (l1 : Int32) (l2 : Int32) (s1 : Int32) (τ : rS), (σ = τ ∧ l1 = a1 ∧ l2 = a2 ∧ (s1 ≤ 0 → 0 ≤ a1 ∧ a1 < σ.1 70 ∧ 0 ≤ a2 ∧ a2 < rd σ 76 (a1 + 1) - rd σ 76 a1 ∧ rd σ 81 a1 ≠ 0)) → w_decide_46 C Q  l1 l2 s1 τ := by
    rintro y46_1 y46_2 y46_s1 _ ⟨rfl, j46⟩
    unfold w_decide_46
    intro σ_1 hσ_1
    have e0 : σ_1.1 0 = y46_s1 := by rw [hσ_1, si1, if_pos rfl]
    obtain ⟨e1, e2, jw⟩ := j46
    refine ⟨fun c2 => ?_, fun c2 => ?_⟩
    · skip
      refine ⟨ib_1000.mpr ?_, ?_⟩
      · clear h; have w := jw (by rw [← e0]; exact c2)
        rw [e1]; exact ⟨w.1, Int32.lt_of_lt_of_le w.2.1 hp.1.1.2⟩
      intro x3 hx3
      refine ⟨ib_1000.mpr ?_, ?_⟩
      · clear h; have w := jw (by rw [← e0]; exact c2)
        rw [e1]; exact ⟨w.1, Int32.lt_of_lt_of_le w.2.1 hp.1.1.2⟩
      intro σ_4 hσ_4
      intro σ_5 hσ_5
      refine h _ _ ?_
      · clear h; have w := jw (by rw [← e0]; exact c2)
        have k5 : ∀ k, k ≠ 0 → k ≠ 94 → σ_5.1 k = σ.1 k := fun k z1 z2 => by rw [hσ_5, si1, if_neg z2, hσ_4, ri1, hσ_1, si1, if_neg z1]
        have r5 : ∀ k, k ≠ 83 → σ_5.2.2.1 k = σ.2.2.1 k := fun k hk => by rw [hσ_5, si2, hσ_4, ri3 hk, hσ_1, si2]
        have r83 : σ_5.2.2.1 83 = upd (σ.2.2.1 83) a1.toNatClampNeg a2 := by rw [hσ_5, si2, hσ_4, ri_row, hσ_1, si2, e1, e2]
        have e70 := k5 70 (by decide) (by decide)
        obtain ⟨h1, h2, h3, h4, h5⟩ := hp
        refine ⟨?_, ⟨exO_o h1 (fun k hk => k5 k (by omega) (by omega)) (fun k hk => r5 k (by omega)), fun j j0 j1 => ?_, fun j j0 j1 => ?_, by rw [k5 88 (by decide) (by decide)]; exact h4, fun z a ha t => ?_⟩, Or.inr (by rw [hσ_5, si1, if_pos rfl])⟩
        · rw [hσ_5, hσ_4, hσ_1]; exact frG_tr (frG_tr (frG_0 (by decide)) (frG_1 (by decide))) (frG_0 (by decide))
        · rw [e70] at j1
          have := h2 j j0 j1
          unfold rowR at this ⊢
          simp only [rd] at this ⊢
          rw [r5 73 (by decide)]; exact this
        · rw [e70] at j1
          simp only [rd]
          rw [r5 76 (by decide), r5 81 (by decide), r83]
          by_cases e : j.toNatClampNeg = a1.toNatClampNeg
          · have ej := cn_inj j0 w.1 e
            rw [e, upd_eq, ej]
            exact ⟨fun z => absurd z w.2.2.2.2, fun _ => ⟨w.2.2.1, w.2.2.2.1⟩⟩
          · rw [upd_ne e]; exact h3 j j0 j1
        · rw [k5 88 (by decide) (by decide)] at z
          rw [e70] at ha
          exact h5 z a ha (Tr_congr (fun a b e => edN_0 (fun k hk => r5 k (by omega)) (by decide) e) t)
    · skip
      refine h _ _ ?_
      · clear h; have F : frG [0] [] σ σ_1 := by rw [hσ_1]; exact frG_0 (by decide)
        exact ⟨frG_mono F (by decide) (by decide), exP_o hp (fun k hk => by rw [hσ_1, si1, if_neg (by omega)]) (fun k _ => by rw [hσ_1, si2]), Or.inl F⟩
  refine isState_c hC  (fun r6 q8 => ?_)
  refine ⟨fun c9 => ?_, fun c9 => ?_⟩
  · skip
    refine hj46 _ _ _ _ ?_
    · clear h; exact ⟨rfl, rfl, rfl, fun z => absurd z (by decide)⟩  -- k5
  · skip
    have w := q8.2.mp c9
    have k1 := Int32.lt_of_lt_of_le w.2.2 hp.1.1.2
    have k := k1001 w.2.1 k1
    refine ⟨ib_1000.mpr ?_, ?_⟩
    · clear h; exact ⟨w.2.1, k1⟩  -- b6
    refine ⟨fun c10 => ?_, fun c10 => ?_⟩
    · skip
      refine hj46 _ _ _ _ ?_
      · clear h; exact ⟨rfl, rfl, rfl, fun z => absurd z (by decide)⟩  -- k7
    · skip
      refine ⟨fun c11 => ?_, fun c11 => ?_⟩
      · skip
        refine hj46 _ _ _ _ ?_
        · clear h; exact ⟨rfl, rfl, rfl, fun z => absurd z (by decide)⟩  -- k8
      · skip
        refine ⟨ib_1001.mpr ?_, ?_⟩
        · clear h; exact ⟨k.1, k.2.1⟩  -- b9
        refine ⟨ib_1001.mpr ?_, ?_⟩
        · clear h; exact ⟨w.2.1, k.2.2.1⟩  -- b10
        refine ⟨fun c12 => ?_, fun c12 => ?_⟩
        · skip
          refine hj46 _ _ _ _ ?_
          · clear h; exact ⟨rfl, rfl, rfl, fun _ => ⟨w.2.1, w.2.2, Int32.not_lt.mp c11, c12, c10⟩⟩  -- k11
        · skip
          refine hj46 _ _ _ _ ?_
          · clear h; exact ⟨rfl, rfl, rfl, fun z => absurd z (by decide)⟩  -- k12

theorem decided_c {C : rCx} (hC : cOK C)  {σ : rS} {a1 : Int32} {Q : Int32 → rS → Prop} (hp : exP σ) (h : ∀ (v : Int32) (σ' : rS), (frG [0] [] σ σ') → Q v σ') : cI C 1 m_decided [.ref (co C), .int a1] σ Q := by
  refine m_decided_run hC ?_
  unfold w_decided_0
  have hj23 : ∀ (l1 : Int32) (s1 : Int32) (τ : rS), (σ = τ ∧ l1 = a1 ∧ (s1 ≤ 0 → 0 ≤ a1 ∧ a1 < σ.1 70)) → w_decided_23 C Q  l1 s1 τ := by
    rintro y23_1 y23_s1 _ ⟨rfl, j23⟩
    unfold w_decided_23
    intro σ_1 hσ_1
    have e0 : σ_1.1 0 = y23_s1 := by rw [hσ_1, si1, if_pos rfl]
    obtain ⟨e1, jw⟩ := j23
    refine ⟨fun c2 => ?_, fun c2 => ?_⟩
    · skip
      refine ⟨ib_1000.mpr ?_, ?_⟩
      · clear h; have w := jw (by rw [← e0]; exact c2)
        rw [e1]; exact ⟨w.1, Int32.lt_of_lt_of_le w.2 hp.1.1.2⟩
      refine h _ _ ?_
      · clear h; rw [hσ_1]; exact frG_0 (by decide)  -- q2
    · skip
      refine h _ _ ?_
      · clear h; rw [hσ_1]; exact frG_0 (by decide)  -- q3
  refine isState_c hC  (fun r3 q5 => ?_)
  refine ⟨fun c6 => ?_, fun c6 => ?_⟩
  · skip
    refine hj23 _ _ _ ?_
    · clear h; exact ⟨rfl, rfl, fun z => absurd z (by decide)⟩  -- k4
  · skip
    have w := q5.2.mp c6
    refine ⟨ib_1000.mpr ?_, ?_⟩
    · clear h; exact ⟨w.2.1, Int32.lt_of_lt_of_le w.2.2 hp.1.1.2⟩  -- b5
    refine ⟨fun c7 => ?_, fun c7 => ?_⟩
    · skip
      refine hj23 _ _ _ ?_
      · clear h; exact ⟨rfl, rfl, fun _ => w.2⟩  -- k6
    · skip
      refine hj23 _ _ _ ?_
      · clear h; exact ⟨rfl, rfl, fun z => absurd z (by decide)⟩  -- k7
