section
set_option maxHeartbeats 1600000
/-! the reference: count by what it answers -/
noncomputable def cn8 (f : Nat → Int32) (n : Nat) : Nat := ct8 (fun k => f k ≠ 0) n
theorem cn_s8 {f : Nat → Int32} {n : Nat} (h : n < 1000) : (f n = 0 → Int32.ofNat (cn8 f n) + 0 = Int32.ofNat (cn8 f (n + 1))) ∧ (¬ f n = 0 → Int32.ofNat (cn8 f n) + 1 = Int32.ofNat (cn8 f (n + 1))) := by
  have b : cn8 f n ≤ n := ct_b8
  have e : cn8 f (n + 1) = cn8 f n + on8 (f n ≠ 0) := rfl
  refine ⟨fun z => ?_, fun z => ?_⟩
  · rw [e, on_0 (fun y => y z)]
    exact Int32.toInt_inj.mp (by rw [add_i (by rw [ofn_i (by omega), t0i]; omega) (by rw [ofn_i (by omega), t0i]; omega), ofn_i (by omega), ofn_i (by omega), t0i]; omega)
  · rw [e, on_1 z]
    exact Int32.toInt_inj.mp (by rw [add_i (by rw [ofn_i (by omega), t1i]; omega) (by rw [ofn_i (by omega), t1i]; omega), ofn_i (by omega), ofn_i (by omega), t1i]; omega)
def kc8 (_ : rS) (w : Int32) : Prop := 0 ≤ w ∧ w ≤ 11
noncomputable def kv8 (σ : rS) (w : Int32) : Int32 := if w.toInt = 0 then (if σ.1 14 = 0 then 0 else σ.1 15) else if w.toInt = 1 then (if σ.1 14 = 0 then 0 else σ.1 16) else if w.toInt = 2 then (if σ.1 14 = 0 then 0 else σ.1 18) else if w.toInt = 3 then (if σ.1 14 = 0 then 0 else σ.1 19) else if w.toInt = 4 then σ.1 70 else if w.toInt = 5 then σ.1 71 else if w.toInt = 6 then σ.1 72 else if w.toInt = 7 then (if σ.1 69 = 0 then 0 else σ.1 88) else if w.toInt = 8 then (if σ.1 69 = 0 then 0 else σ.1 89) else if w.toInt = 9 then Int32.ofNat (cn8 (σ.2.2.1 81) (σ.1 70).toNatClampNeg) else if w.toInt = 10 then Int32.ofNat (cn8 (σ.2.2.1 87) (σ.1 70).toNatClampNeg) else σ.1 2
def XK8 (w : Int32) (σ σ' : rS) (v : Int32) : Prop := (kc8 σ w ∧ σ'.1 0 = 0 ∧ v = kv8 σ w) ∨ (¬ kc8 σ w ∧ σ'.1 0 = 1)
theorem count_g5 {C : rCx} (hC : cOK C)  {σ : rS} {a1 : Int32} {Q : Int32 → rS → Prop} (hp : 0 ≤ σ.1 70 ∧ σ.1 70 ≤ 1000) (h : ∀ (v : Int32) (σ' : rS), ((frG [0] [] σ σ') ∧ (XK8 a1 σ σ' v)) → Q v σ') : cI C 1 m_count [.ref (co C), .int a1] σ Q := by
  refine m_count_run hC ?_
  unfold w_count_0
  have hj98 : ∀ (l1 : Int32) (l2 : Int32) (l3 : Int32) (s0 : Int32) (τ : rS), ((l1 = a1 ∧ frG [0] [] σ τ) ∧ (kc8 σ a1 ∧ τ.1 0 = 0) ∧ l2 = Int32.ofNat (cn8 (σ.2.2.1 81) (σ.1 70).toNatClampNeg) ∧ l3 = Int32.ofNat (cn8 (σ.2.2.1 87) (σ.1 70).toNatClampNeg) ∧ ((s0 = 0 ∧ ¬ σ.1 69 = 0) ∨ (s0 = 1 ∧ σ.1 69 = 0))) → w_count_98 C Q  l1 l2 l3 s0 τ := by
    rintro y98_1 y98_2 y98_3 y98_s0 τ98 ⟨j98, hE⟩
    unfold w_count_98
    refine ⟨fun c1 => ?_, fun c1 => ?_, fun c1 => ?_, fun c1 => ?_, fun c1 => ?_, fun c1 => ?_, fun c1 => ?_, fun c1 => ?_, fun c1 => ?_, fun c1 => ?_, fun c1 => ?_, fun c1 => ?_⟩
    · skip
      refine h _ _ ?_
      · refine and_5 ?_ (fun o9 => ?_)  -- q1
        · clear h; exact j98.2
        · clear o9
          rw [j98.1] at c1
          have f := j98.2.1
          refine Or.inl ⟨hE.1.1, hE.1.2, ?_⟩
          unfold kv8
          rw [if_neg (by omega), if_neg (by omega), if_neg (by omega), if_neg (by omega), if_neg (by omega), if_neg (by omega), if_neg (by omega), if_neg (by omega), if_neg (by omega), if_neg (by omega), if_neg (by omega)]
          exact f 2 (by decide)
    · skip
      refine ⟨fun c2 => ?_, fun c2 => ?_⟩
      · skip
        refine h _ _ ?_
        · refine and_5 ?_ (fun o9 => ?_)  -- q2
          · clear h; exact j98.2
          · clear o9
            rw [j98.1] at c1
            have f := j98.2.1
            rw [f 14 (by decide)] at c2
            refine Or.inl ⟨hE.1.1, hE.1.2, ?_⟩
            unfold kv8
            rw [if_pos c1, if_pos c2]
      · skip
        refine h _ _ ?_
        · refine and_5 ?_ (fun o9 => ?_)  -- q3
          · clear h; exact j98.2
          · clear o9
            rw [j98.1] at c1
            have f := j98.2.1
            rw [f 14 (by decide)] at c2
            refine Or.inl ⟨hE.1.1, hE.1.2, ?_⟩
            unfold kv8
            rw [if_pos c1, if_neg c2]
            exact f 15 (by decide)
    · skip
      refine ⟨fun c3 => ?_, fun c3 => ?_⟩
      · skip
        refine h _ _ ?_
        · refine and_5 ?_ (fun o9 => ?_)  -- q4
          · clear h; exact j98.2
          · clear o9
            rw [j98.1] at c1
            have f := j98.2.1
            rw [f 14 (by decide)] at c3
            refine Or.inl ⟨hE.1.1, hE.1.2, ?_⟩
            unfold kv8
            rw [if_neg (by omega), if_pos c1, if_pos c3]
      · skip
        refine h _ _ ?_
        · refine and_5 ?_ (fun o9 => ?_)  -- q5
          · clear h; exact j98.2
          · clear o9
            rw [j98.1] at c1
            have f := j98.2.1
            rw [f 14 (by decide)] at c3
            refine Or.inl ⟨hE.1.1, hE.1.2, ?_⟩
            unfold kv8
            rw [if_neg (by omega), if_pos c1, if_neg c3]
            exact f 16 (by decide)
    · skip
      refine ⟨fun c4 => ?_, fun c4 => ?_⟩
      · skip
        refine h _ _ ?_
        · refine and_5 ?_ (fun o9 => ?_)  -- q6
          · clear h; exact j98.2
          · clear o9
            rw [j98.1] at c1
            have f := j98.2.1
            rw [f 14 (by decide)] at c4
            refine Or.inl ⟨hE.1.1, hE.1.2, ?_⟩
            unfold kv8
            rw [if_neg (by omega), if_neg (by omega), if_pos c1, if_pos c4]
      · skip
        refine h _ _ ?_
        · refine and_5 ?_ (fun o9 => ?_)  -- q7
          · clear h; exact j98.2
          · clear o9
            rw [j98.1] at c1
            have f := j98.2.1
            rw [f 14 (by decide)] at c4
            refine Or.inl ⟨hE.1.1, hE.1.2, ?_⟩
            unfold kv8
            rw [if_neg (by omega), if_neg (by omega), if_pos c1, if_neg c4]
            exact f 18 (by decide)
    · skip
      refine ⟨fun c5 => ?_, fun c5 => ?_⟩
      · skip
        refine h _ _ ?_
        · refine and_5 ?_ (fun o9 => ?_)  -- q8
          · clear h; exact j98.2
          · clear o9
            rw [j98.1] at c1
            have f := j98.2.1
            rw [f 14 (by decide)] at c5
            refine Or.inl ⟨hE.1.1, hE.1.2, ?_⟩
            unfold kv8
            rw [if_neg (by omega), if_neg (by omega), if_neg (by omega), if_pos c1, if_pos c5]
      · skip
        refine h _ _ ?_
        · refine and_5 ?_ (fun o9 => ?_)  -- q9
          · clear h; exact j98.2
          · clear o9
            rw [j98.1] at c1
            have f := j98.2.1
            rw [f 14 (by decide)] at c5
            refine Or.inl ⟨hE.1.1, hE.1.2, ?_⟩
            unfold kv8
            rw [if_neg (by omega), if_neg (by omega), if_neg (by omega), if_pos c1, if_neg c5]
            exact f 19 (by decide)
    · skip
      refine h _ _ ?_
      · refine and_5 ?_ (fun o9 => ?_)  -- q10
        · clear h; exact j98.2
        · clear o9
          rw [j98.1] at c1
          have f := j98.2.1
          refine Or.inl ⟨hE.1.1, hE.1.2, ?_⟩
          unfold kv8
          rw [if_neg (by omega), if_neg (by omega), if_neg (by omega), if_neg (by omega), if_pos c1]
          exact f 70 (by decide)
    · skip
      refine h _ _ ?_
      · refine and_5 ?_ (fun o9 => ?_)  -- q11
        · clear h; exact j98.2
        · clear o9
          rw [j98.1] at c1
          have f := j98.2.1
          refine Or.inl ⟨hE.1.1, hE.1.2, ?_⟩
          unfold kv8
          rw [if_neg (by omega), if_neg (by omega), if_neg (by omega), if_neg (by omega), if_neg (by omega), if_pos c1]
          exact f 71 (by decide)
    · skip
      refine h _ _ ?_
      · refine and_5 ?_ (fun o9 => ?_)  -- q12
        · clear h; exact j98.2
        · clear o9
          rw [j98.1] at c1
          have f := j98.2.1
          refine Or.inl ⟨hE.1.1, hE.1.2, ?_⟩
          unfold kv8
          rw [if_neg (by omega), if_neg (by omega), if_neg (by omega), if_neg (by omega), if_neg (by omega), if_neg (by omega), if_pos c1]
          exact f 72 (by decide)
    · skip
      refine ⟨fun c6 => ?_, fun c6 => ?_⟩
      · skip
        refine h _ _ ?_
        · refine and_5 ?_ (fun o9 => ?_)  -- q13
          · clear h; exact j98.2
          · clear o9
            rw [j98.1] at c1
            have f := j98.2.1
            refine Or.inl ⟨hE.1.1, hE.1.2, ?_⟩
            unfold kv8
            rcases hE.2.2.2 with ⟨_, z⟩ | ⟨z, _⟩
            · rw [if_neg (by omega), if_neg (by omega), if_neg (by omega), if_neg (by omega), if_neg (by omega), if_neg (by omega), if_neg (by omega), if_pos c1, if_neg z]
              exact f 88 (by decide)
            · rw [z] at c6; exact absurd c6 (by decide)
      · skip
        refine h _ _ ?_
        · refine and_5 ?_ (fun o9 => ?_)  -- q14
          · clear h; exact j98.2
          · clear o9
            rw [j98.1] at c1
            have f := j98.2.1
            refine Or.inl ⟨hE.1.1, hE.1.2, ?_⟩
            unfold kv8
            rcases hE.2.2.2 with ⟨z, _⟩ | ⟨_, z⟩
            · exact absurd z c6
            · rw [if_neg (by omega), if_neg (by omega), if_neg (by omega), if_neg (by omega), if_neg (by omega), if_neg (by omega), if_neg (by omega), if_pos c1, if_pos z]
    · skip
      refine ⟨fun c7 => ?_, fun c7 => ?_⟩
      · skip
        refine h _ _ ?_
        · refine and_5 ?_ (fun o9 => ?_)  -- q15
          · clear h; exact j98.2
          · clear o9
            rw [j98.1] at c1
            have f := j98.2.1
            refine Or.inl ⟨hE.1.1, hE.1.2, ?_⟩
            unfold kv8
            rcases hE.2.2.2 with ⟨_, z⟩ | ⟨z, _⟩
            · rw [if_neg (by omega), if_neg (by omega), if_neg (by omega), if_neg (by omega), if_neg (by omega), if_neg (by omega), if_neg (by omega), if_neg (by omega), if_pos c1, if_neg z]
              exact f 89 (by decide)
            · rw [z] at c7; exact absurd c7 (by decide)
      · skip
        refine h _ _ ?_
        · refine and_5 ?_ (fun o9 => ?_)  -- q16
          · clear h; exact j98.2
          · clear o9
            rw [j98.1] at c1
            have f := j98.2.1
            refine Or.inl ⟨hE.1.1, hE.1.2, ?_⟩
            unfold kv8
            rcases hE.2.2.2 with ⟨z, _⟩ | ⟨_, z⟩
            · exact absurd z c7
            · rw [if_neg (by omega), if_neg (by omega), if_neg (by omega), if_neg (by omega), if_neg (by omega), if_neg (by omega), if_neg (by omega), if_neg (by omega), if_pos c1, if_pos z]
    · skip
      refine h _ _ ?_
      · refine and_5 ?_ (fun o9 => ?_)  -- q17
        · clear h; exact j98.2
        · clear o9
          rw [j98.1] at c1
          have f := j98.2.1
          refine Or.inl ⟨hE.1.1, hE.1.2, ?_⟩
          unfold kv8
          rw [if_neg (by omega), if_neg (by omega), if_neg (by omega), if_neg (by omega), if_neg (by omega), if_neg (by omega), if_neg (by omega), if_neg (by omega), if_neg (by omega), if_pos c1]
          exact hE.2.1
    · skip
      refine h _ _ ?_
      · refine and_5 ?_ (fun o9 => ?_)  -- q18
        · clear h; exact j98.2
        · clear o9
          rw [j98.1] at c1
          have f := j98.2.1
          refine Or.inl ⟨hE.1.1, hE.1.2, ?_⟩
          unfold kv8
          rw [if_neg (by omega), if_neg (by omega), if_neg (by omega), if_neg (by omega), if_neg (by omega), if_neg (by omega), if_neg (by omega), if_neg (by omega), if_neg (by omega), if_neg (by omega), if_pos c1]
          exact hE.2.2.1
  have hj16 : ∀ (l1 : Int32) (s1 : Int32) (τ : rS), ((l1 = a1 ∧ σ = τ) ∧ ((s1 = 0 ∧ kc8 σ a1) ∨ (s1 = 1 ∧ ¬ kc8 σ a1))) → w_count_16 C Q  l1 s1 τ := by
    rintro y16_1 y16_s1 τ16 ⟨j16, hE⟩
    unfold w_count_16
    intro σ_8 hσ_8
    have f8 : frG [0] [] σ σ_8 := by rw [hσ_8, ← j16.2]; exact frG_0 (by decide)
    refine ⟨fun c9 => ?_, fun c9 => ?_⟩
    · skip
      unfold w_count_35
      refine ⟨fun n l1 l2 l3 l4 τ => n = (σ.1 70 - l4).toNatClampNeg ∧ ((l1 = a1 ∧ frG [0] [] σ τ ∧ 0 ≤ l4 ∧ l4 ≤ σ.1 70) ∧ (kc8 σ a1 ∧ τ.1 0 = 0) ∧ l2 = Int32.ofNat (cn8 (σ.2.2.1 81) l4.toNatClampNeg) ∧ l3 = Int32.ofNat (cn8 (σ.2.2.1 87) l4.toNatClampNeg)), ⟨_, rfl, ?_⟩, ?_⟩
      · refine and_5 ?_ (fun o9 => ?_)  -- j19
        · clear h; exact ⟨j16.1, f8, by decide, hp.1⟩
        · clear o9
          have e0 : σ_8.1 0 = y16_s1 := by rw [hσ_8, si1, if_pos rfl]
          rcases hE with ⟨z1, z2⟩ | ⟨z1, z2⟩
          · exact ⟨⟨z2, e0.trans z1⟩, rfl, rfl⟩
          · rw [e0, z1] at c9; exact absurd c9 (by decide)
      rintro n35 x35_1 x35_2 x35_3 x35_4 σ35 ⟨hn35, i35, hE⟩
      have hj78 : ∀ (l1 : Int32) (l2 : Int32) (l4 : Int32) (s0 : Int32) (s1 : Int32) (τ : rS), ((l1 = a1 ∧ frG [0] [] σ τ ∧ l4 = x35_4 ∧ ¬ σ.1 70 ≤ x35_4) ∧ (kc8 σ a1 ∧ τ.1 0 = 0) ∧ l2 = Int32.ofNat (cn8 (σ.2.2.1 81) (x35_4.toNatClampNeg + 1)) ∧ s0 + s1 = Int32.ofNat (cn8 (σ.2.2.1 87) (x35_4.toNatClampNeg + 1))) → w_count_78 C Q (fun l1' l2' l3' l4' τ => ∃ k < n35, (fun n l1 l2 l3 l4 τ => n = (σ.1 70 - l4).toNatClampNeg ∧ ((l1 = a1 ∧ frG [0] [] σ τ ∧ 0 ≤ l4 ∧ l4 ≤ σ.1 70) ∧ (kc8 σ a1 ∧ τ.1 0 = 0) ∧ l2 = Int32.ofNat (cn8 (σ.2.2.1 81) l4.toNatClampNeg) ∧ l3 = Int32.ofNat (cn8 (σ.2.2.1 87) l4.toNatClampNeg))) k l1' l2' l3' l4' τ) l1 l2 l4 s0 s1 τ := by
        rintro y78_1 y78_2 y78_4 y78_s0 y78_s1 τ78 ⟨j78, hE⟩
        unfold w_count_78
        intro x10 hx10
        intro x11 hx11
        have u := uk i35.2.2.1 j78.2.2.2 hp.2
        refine lp_b5 (cn_lt2 hn35 ?_ ?_) (fun d9 => ⟨rfl, ?_⟩)
        · clear h; rw [hx11, j78.2.2.1]; exact u.1  -- d20
        · clear h; rw [hx11, j78.2.2.1]; exact u.2.1  -- d21
        · refine and_5 ?_ (fun o9 => ?_)  -- i22
          · clear h; rw [hx11, j78.2.2.1]; exact ⟨j78.1, j78.2.1, u.2.2.1, u.2.2.2.1⟩
          · clear o9
            have e1 : x11.toNatClampNeg = x35_4.toNatClampNeg + 1 := by rw [hx11, j78.2.2.1]; exact cn_succ i35.2.2.1 (Int32.lt_trans u.2.2.2.2.2 (by decide))
            rw [e1, hx10]
            exact hE
      have hj60 : ∀ (l1 : Int32) (l3 : Int32) (l4 : Int32) (s0 : Int32) (s1 : Int32) (τ : rS), ((l1 = a1 ∧ frG [0] [] σ τ ∧ l4 = x35_4 ∧ ¬ σ.1 70 ≤ x35_4) ∧ (kc8 σ a1 ∧ τ.1 0 = 0) ∧ s0 + s1 = Int32.ofNat (cn8 (σ.2.2.1 81) (x35_4.toNatClampNeg + 1)) ∧ l3 = Int32.ofNat (cn8 (σ.2.2.1 87) x35_4.toNatClampNeg)) → w_count_60 C Q (fun l1' l2' l3' l4' τ => ∃ k < n35, (fun n l1 l2 l3 l4 τ => n = (σ.1 70 - l4).toNatClampNeg ∧ ((l1 = a1 ∧ frG [0] [] σ τ ∧ 0 ≤ l4 ∧ l4 ≤ σ.1 70) ∧ (kc8 σ a1 ∧ τ.1 0 = 0) ∧ l2 = Int32.ofNat (cn8 (σ.2.2.1 81) l4.toNatClampNeg) ∧ l3 = Int32.ofNat (cn8 (σ.2.2.1 87) l4.toNatClampNeg))) k l1' l2' l3' l4' τ) l1 l3 l4 s0 s1 τ := by
        rintro y60_1 y60_3 y60_4 y60_s0 y60_s1 τ60 ⟨j60, hE⟩
        unfold w_count_60
        intro x12 hx12
        refine ⟨ib_1000.mpr ?_, ?_⟩
        · clear h; rw [j60.2.2.1]; exact ⟨i35.2.2.1, (uk i35.2.2.1 j60.2.2.2 hp.2).2.2.2.2.2⟩  -- b23
        refine ⟨fun c13 => ?_, fun c13 => ?_⟩
        · skip
          refine hj78 _ _ _ _ _ _ ?_
          · refine and_5 ?_ (fun o9 => ?_)  -- k24
            · clear h; exact j60
            · clear o9
              have b9 : x35_4.toNatClampNeg < 1000 := cn_lt i35.2.2.1 (uk i35.2.2.1 j60.2.2.2 hp.2).2.2.2.2.2
              rw [show τ60.2.2.1 87 = σ.2.2.1 87 from j60.2.1.2.2.1 87 List.not_mem_nil, j60.2.2.1] at c13
              refine ⟨hE.1, hx12.trans hE.2.1, ?_⟩
              rw [hE.2.2]
              exact (cn_s8 b9).1 c13
        · skip
          refine hj78 _ _ _ _ _ _ ?_
          · refine and_5 ?_ (fun o9 => ?_)  -- k25
            · clear h; exact j60
            · clear o9
              have b9 : x35_4.toNatClampNeg < 1000 := cn_lt i35.2.2.1 (uk i35.2.2.1 j60.2.2.2 hp.2).2.2.2.2.2
              rw [show τ60.2.2.1 87 = σ.2.2.1 87 from j60.2.1.2.2.1 87 List.not_mem_nil, j60.2.2.1] at c13
              refine ⟨hE.1, hx12.trans hE.2.1, ?_⟩
              rw [hE.2.2]
              exact (cn_s8 b9).2 c13
      refine ⟨fun c14 => ?_, fun c14 => ?_⟩
      · skip
        refine ⟨fun c15 => ?_, fun c15 => ?_⟩
        · skip
          refine hj98 _ _ _ _ _ ?_
          · refine and_5 ?_ (fun o9 => ?_)  -- k26
            · clear h; exact ⟨i35.1, i35.2.1⟩
            · clear o9
              have e : x35_4 = σ.1 70 := Int32.le_antisymm i35.2.2.2 (by rw [← i35.2.1.1 70 (by decide)]; exact c14)
              rw [e] at hE
              exact ⟨hE.1, hE.2.1, hE.2.2, Or.inl ⟨rfl, by rw [← i35.2.1.1 69 (by decide)]; exact c15⟩⟩
        · skip
          refine hj98 _ _ _ _ _ ?_
          · refine and_5 ?_ (fun o9 => ?_)  -- k27
            · clear h; exact ⟨i35.1, i35.2.1⟩
            · clear o9
              have e : x35_4 = σ.1 70 := Int32.le_antisymm i35.2.2.2 (by rw [← i35.2.1.1 70 (by decide)]; exact c14)
              rw [e] at hE
              exact ⟨hE.1, hE.2.1, hE.2.2, Or.inr ⟨rfl, by rw [← i35.2.1.1 69 (by decide)]; exact c15⟩⟩
      · skip
        have c' : ¬ σ.1 70 ≤ x35_4 := by rw [← i35.2.1.1 70 (by decide)]; exact c14
        refine ⟨ib_1000.mpr ?_, ?_⟩
        · clear h; exact ⟨i35.2.2.1, (uk i35.2.2.1 c' hp.2).2.2.2.2.2⟩  -- b28
        refine ⟨fun c16 => ?_, fun c16 => ?_⟩
        · skip
          refine hj60 _ _ _ _ _ _ ?_
          · refine and_5 ?_ (fun o9 => ?_)  -- k29
            · clear h; exact ⟨i35.1, i35.2.1, rfl, c'⟩
            · clear o9
              have b9 : x35_4.toNatClampNeg < 1000 := cn_lt i35.2.2.1 (uk i35.2.2.1 c' hp.2).2.2.2.2.2
              rw [show σ35.2.2.1 81 = σ.2.2.1 81 from i35.2.1.2.2.1 81 List.not_mem_nil] at c16
              refine ⟨hE.1, ?_, hE.2.2⟩
              rw [hE.2.1]
              exact (cn_s8 b9).1 c16
        · skip
          refine hj60 _ _ _ _ _ _ ?_
          · refine and_5 ?_ (fun o9 => ?_)  -- k30
            · clear h; exact ⟨i35.1, i35.2.1, rfl, c'⟩
            · clear o9
              have b9 : x35_4.toNatClampNeg < 1000 := cn_lt i35.2.2.1 (uk i35.2.2.1 c' hp.2).2.2.2.2.2
              rw [show σ35.2.2.1 81 = σ.2.2.1 81 from i35.2.1.2.2.1 81 List.not_mem_nil] at c16
              refine ⟨hE.1, ?_, hE.2.2⟩
              rw [hE.2.1]
              exact (cn_s8 b9).2 c16
    · skip
      refine h _ _ ?_
      · refine and_5 ?_ (fun o9 => ?_)  -- q31
        · clear h; exact f8
        · clear o9
          have e0 : σ_8.1 0 = y16_s1 := by rw [hσ_8, si1, if_pos rfl]
          rcases hE with ⟨z1, z2⟩ | ⟨z1, z2⟩
          · exact absurd (by rw [e0, z1]; decide) c9
          · exact Or.inr ⟨z2, e0.trans z1⟩
  refine within_c hC  (fun r17 q19 => ?_)
  refine ⟨fun c20 => ?_, fun c20 => ?_⟩
  · skip
    refine hj16 _ _ _ ?_
    · refine and_5 ?_ (fun o9 => Or.inr ⟨rfl, fun z => q19.2.mpr z c20⟩)  -- k32
      clear h; exact ⟨rfl, rfl⟩
  · skip
    refine hj16 _ _ _ ?_
    · refine and_5 ?_ (fun o9 => Or.inl ⟨rfl, q19.2.mp c20⟩)  -- k33
      clear h; exact ⟨rfl, rfl⟩

end
section
set_option maxHeartbeats 1600000
/-! the class: marks counted -/
noncomputable def hm8 (κ : zS) (t n : Nat) (w : Int32) : Int32 := if w.toInt = 4 then zI κ hoTotal (zR κ atStates t) else if w.toInt = 5 then zI κ hoTotal (zR κ atEndings t) else if w.toInt = 6 then zI κ atNexts t else if w.toInt = 7 then zI κ atRings t else if w.toInt = 8 then zI κ atGreatest t else if w = 9 then Int32.ofNat (cn8 (zA κ (zR κ atChooses t)) n) else Int32.ofNat (cn8 (zA κ (zR κ atHopeless t)) n)
theorem At_countTrue_q6 {C : zC} {n0 : Nat} {a0 : Nat} {a1 : Nat} {κ : zS} {Q : Int32 → zS → Prop} (W : zW C n0 κ) (Ta0 : zT κ a0 = 3) (Ta1 : zT κ a1 = 23) (n9 : Nat) (hn9 : zI κ hoTotal (zR κ atStates a0) = Int32.ofNat n9) (hb9 : n9 ≤ 1000) (hl9 : zN κ a1 = 1000) (h : ∀ (v : Int32), ((True) ∧ (v = Int32.ofNat (cn8 (zA κ a1) n9))) → Q v κ) : zRun C 0 mAt_countTrue [.ref a0, .ref a1] κ (oI Q noX) := by
  refine At_countTrue_run W Ta0 Ta1 ?_
  replace W := W.lo (Nat.le_trans W.1.2.1 W.1.2.2) (Nat.le_refl (zn κ))
  unfold w_At_countTrue_0
  have nN := W.n Ta1
  unfold w_At_countTrue_4
  refine ⟨fun n l0 l1 l2 l3 τ => n = (zN κ a1 - l3.toInt).toNat ∧ ((κ = τ ∧ a0 = l0 ∧ a1 = l1 ∧ 0 ≤ l3.toInt) ∧ l2 = Int32.ofNat (cn8 (zA κ a1) l3.toNatClampNeg) ∧ l3.toInt ≤ n9), ⟨_, rfl, ?_⟩, ?_⟩
  · refine and_5 ?_ (fun o9 => ⟨rfl, by show (0 : Int) ≤ (n9 : Int); omega⟩)  -- j1
    exact ⟨rfl, rfl, rfl, by decide⟩
  rintro n4 _ _ x4_2 x4_3 _ W4 T4_0 T4_1 ⟨hn4, ⟨rfl, rfl, rfl, i4⟩, hE⟩
  have hj33 : ∀ (l0 : Nat) (l1 : Nat) (l3 : Int32) (s0 : Int32) (s1 : Int32) (τ : zS), zW C (zn κ) τ → zT τ l0 = 3 → zT τ l1 = 23 → ((κ = τ ∧ a0 = l0 ∧ a1 = l1 ∧ l3 = x4_3 ∧ l3.toInt < zN κ a1) ∧ s0 + s1 = Int32.ofNat (cn8 (zA κ a1) (x4_3.toNatClampNeg + 1)) ∧ x4_3.toInt < n9) → w_At_countTrue_33 C (zn κ) Q (fun (l0' : Nat) (l1' : Nat) (l2' : Int32) (l3' : Int32) (τ : zS) => ∃ k < n4, (fun (n : Nat) (l0 : Nat) (l1 : Nat) (l2 : Int32) (l3 : Int32) (τ : zS) => n = (zN κ a1 - l3.toInt).toNat ∧ ((κ = τ ∧ a0 = l0 ∧ a1 = l1 ∧ 0 ≤ l3.toInt) ∧ l2 = Int32.ofNat (cn8 (zA κ a1) l3.toNatClampNeg) ∧ l3.toInt ≤ n9)) k l0' l1' l2' l3' τ) l0 l1 l3 s0 s1 τ := by
    rintro _ _ y33_3 y33_s0 y33_s1 _ W33 T33_0 T33_1 ⟨⟨rfl, rfl, rfl, j33⟩, hE⟩
    unfold w_At_countTrue_33
    intro x1 hx1
    intro x2 hx2
    refine lp_b5 ?_ (fun d9 => ⟨rfl, ?_⟩)
    · obtain ⟨e, l⟩ := j33
      have e1 := (cn1 (x := y33_3) (by rw [e]; exact i4) (by omega)).2
      rw [hn4, hx2, e1, e]; rw [e] at l; omega
    · refine and_5 ?_ (fun o9 => ?_)  -- i3
      · obtain ⟨e, l⟩ := j33
        have e1 := (cn1 (x := y33_3) (by rw [e]; exact i4) (by omega)).2
        exact ⟨rfl, rfl, rfl, by rw [hx2, e1, e]; omega⟩
      · obtain ⟨e, l⟩ := j33
        have e1 := cn1 (x := y33_3) (by rw [e]; exact i4) (by omega)
        rw [hx1, hx2, e1.1, e1.2, e]
        exact ⟨hE.1, by have := hE.2; omega⟩
  refine ⟨fun c3 => ?_, fun c3 => ?_⟩
  · skip
    refine h _ ?_
    · refine and_5 ?_ (fun o9 => ?_)  -- q4
      · trivial
      · rw [lei, hn9, ofn_i (by omega)] at c3
        have n3 := cnk i4
        rw [hE.1, show x4_3.toNatClampNeg = n9 by have := hE.2; omega]
  · skip
    refine ⟨fun c4 => ?_, fun c4 => ?_⟩
    · skip
      refine h _ ?_
      · refine and_5 ?_ (fun o9 => ?_)  -- q5
        · trivial
        · rw [lei, ofn_i nN] at c4
          have n3 := cnk i4
          rw [hE.1, show x4_3.toNatClampNeg = n9 by have := hE.2; omega]
    · skip
      rw [lei, ofn_i nN] at c4
      refine ⟨?_, ?_⟩
      · rw [inb_iff]; omega  -- b6
      refine ⟨fun c5 => ?_, fun c5 => ?_⟩
      · skip
        refine hj33 _ _ _ _ _ _ W4 ?_ ?_ ?_
        · exact Ta0  -- t7
        · exact Ta1  -- t8
        · refine and_5 ?_ (fun o9 => ?_)  -- k9
          · exact ⟨rfl, rfl, rfl, rfl, by omega⟩
          · rw [lei, hn9, ofn_i (by omega)] at c3
            have n3 := cnk i4
            refine ⟨?_, by omega⟩
            rw [hE.1]
            exact (cn_s8 (by omega)).1 c5
      · skip
        refine hj33 _ _ _ _ _ _ W4 ?_ ?_ ?_
        · exact Ta0  -- t10
        · exact Ta1  -- t11
        · refine and_5 ?_ (fun o9 => ?_)  -- k12
          · exact ⟨rfl, rfl, rfl, rfl, by omega⟩
          · rw [lei, hn9, ofn_i (by omega)] at c3
            have n3 := cnk i4
            refine ⟨?_, by omega⟩
            rw [hE.1]
            exact (cn_s8 (by omega)).2 c5

theorem At_howMany_q6 {C : zC} {n0 : Nat} {a0 : Nat} {a1 : Int32} {κ : zS} {Q : Int32 → zS → Prop} (W : zW C n0 κ) (Ta0 : zT κ a0 = 3) (n9 : Nat) (hn9 : zI κ hoTotal (zR κ atStates a0) = Int32.ofNat n9) (hb9 : n9 ≤ 1000) (hl9 : zN κ (zR κ atChooses a0) = 1000 ∧ zN κ (zR κ atHopeless a0) = 1000) (h : ∀ (v : Int32), ((True) ∧ (v = hm8 κ a0 n9 a1)) → Q v κ) : zRun C 1 mAt_howMany [.ref a0, .int a1] κ (oI Q noX) := by
  refine At_howMany_run W Ta0 ?_
  replace W := W.lo (Nat.le_trans W.1.2.1 W.1.2.2) (Nat.le_refl (zn κ))
  unfold w_At_howMany_0
  refine ⟨fun c1 => ?_, fun c1 => ?_, fun c1 => ?_, fun c1 => ?_, fun c1 => ?_, fun c1 => ?_⟩
  · skip
    refine ⟨fun c2 => ?_, fun c2 => ?_⟩
    · skip
      intro T3
      intro T4
      refine At_countTrue_q6 W T3 T4 n9 hn9 hb9 hl9.2 (fun r5 q7 => ?_)
      obtain ⟨q7, z9⟩ := q7
      intro W8
      intro M9
      refine h _ ?_
      · refine and_5 ?_ (fun o9 => ?_)  -- q1
        · trivial
        · unfold hm8
          rw [if_neg (by omega), if_neg (by omega), if_neg (by omega), if_neg (by omega), if_neg (by omega), if_neg c2]
          exact z9
    · skip
      intro T10
      intro T11
      refine At_countTrue_q6 W T10 T11 n9 hn9 hb9 hl9.1 (fun r12 q14 => ?_)
      obtain ⟨q14, z9⟩ := q14
      intro W15
      intro M16
      refine h _ ?_
      · refine and_5 ?_ (fun o9 => ?_)  -- q2
        · trivial
        · unfold hm8
          rw [if_neg (by omega), if_neg (by omega), if_neg (by omega), if_neg (by omega), if_neg (by omega), if_pos c2]
          exact z9
  · skip
    refine h _ ?_
    · refine and_5 ?_ (fun o9 => ?_)  -- q3
      · trivial
      · unfold hm8
        rw [if_pos c1]
  · skip
    refine h _ ?_
    · refine and_5 ?_ (fun o9 => ?_)  -- q4
      · trivial
      · unfold hm8
        rw [if_neg (by omega), if_pos c1]
  · skip
    refine h _ ?_
    · refine and_5 ?_ (fun o9 => ?_)  -- q5
      · trivial
      · unfold hm8
        rw [if_neg (by omega), if_neg (by omega), if_pos c1]
  · skip
    refine h _ ?_
    · refine and_5 ?_ (fun o9 => ?_)  -- q6
      · trivial
      · unfold hm8
        rw [if_neg (by omega), if_neg (by omega), if_neg (by omega), if_pos c1]
  · skip
    refine h _ ?_
    · refine and_5 ?_ (fun o9 => ?_)  -- q7
      · trivial
      · unfold hm8
        rw [if_neg (by omega), if_neg (by omega), if_neg (by omega), if_neg (by omega), if_pos c1]

end
section
set_option maxHeartbeats 1600000
/-! worths, by the tables alone: 0 firsts, 1 sorts, 2 numbers, 3 weights, 4 totals, 5 gains, 6 choices -/
abbrev Tw8 : Type := Nat → Nat → Int32
def loW8 (t : Tw8) (k : Nat) : Nat := (t 0 k).toNatClampNeg
/-- what stands behind a next -/
def bhW8 (t : Tw8) (V : Nat → Rat) (i : Nat) : Rat := if t 1 i = 0 then V (t 2 i).toNatClampNeg else 0
/-- the first of the greatest of those up to m -/
def biW8 (f : Nat → Rat) : Nat → Nat
  | 0 => 0
  | m + 1 => if f (biW8 f m) < f (m + 1) then m + 1 else biW8 f m
def smW8 (f : Nat → Rat) : Nat → Rat
  | 0 => 0
  | m + 1 => smW8 f m + f m
def maW8 (t : Tw8) (V : Nat → Rat) (k : Nat) : Nat := biW8 (fun j => bhW8 t V (loW8 t k + j)) (loW8 t (k + 1) - loW8 t k - 1)
/-- a state's worth out of those behind it -/
def wsW8 (t : Tw8) (V : Nat → Rat) (k : Nat) : Rat := if t 6 k ≠ 0 then bhW8 t V (loW8 t k + maW8 t V k) else smW8 (fun j => bhW8 t V (loW8 t k + j) * mkRat (t 3 (loW8 t k + j)).toInt (t 4 k).toInt.toNat) (loW8 t (k + 1) - loW8 t k) + ((t 5 k).toInt : Rat)
/-- worths by ways that are no longer than so much -/
def wnW8 (t : Tw8) : Nat → (Nat → Rat)
  | 0 => fun _ => 0
  | f + 1 => wsW8 t (wnW8 t f)
def eW8 (t : Tw8) (x y : Nat) : Prop := ∃ i, loW8 t x ≤ i ∧ i < loW8 t (x + 1) ∧ t 1 i = 0 ∧ (t 2 i).toNatClampNeg = y
theorem bi_l8 {f : Nat → Rat} : ∀ {m : Nat}, biW8 f m ≤ m
  | 0 => Nat.le_refl 0
  | m + 1 => by
    have e := bi_l8 (f := f) (m := m)
    show (if f (biW8 f m) < f (m + 1) then m + 1 else biW8 f m) ≤ m + 1
    by_cases c : f (biW8 f m) < f (m + 1)
    · rw [if_pos c]
      exact Nat.le_refl _
    · rw [if_neg c]
      omega
theorem bi_c8 {f g : Nat → Rat} : ∀ {m : Nat}, (∀ j, j ≤ m → f j = g j) → biW8 f m = biW8 g m
  | 0, _ => rfl
  | m + 1, h => by
    have e := bi_c8 (f := f) (g := g) (m := m) (fun j hj => h j (by omega))
    have l := bi_l8 (f := g) (m := m)
    show (if f (biW8 f m) < f (m + 1) then m + 1 else biW8 f m) = if g (biW8 g m) < g (m + 1) then m + 1 else biW8 g m
    rw [e, h _ (by omega), h (m + 1) (Nat.le_refl _)]
theorem sm_c8 {f g : Nat → Rat} : ∀ {m : Nat}, (∀ j, j < m → f j = g j) → smW8 f m = smW8 g m
  | 0, _ => rfl
  | m + 1, h => by
    show smW8 f m + f m = smW8 g m + g m
    rw [sm_c8 (fun j hj => h j (by omega)), h m (by omega)]
/-- only what stands behind counts -/
theorem bh_c8 {t : Tw8} {V U : Nat → Rat} {k i : Nat} (h : ∀ y, eW8 t k y → V y = U y) (h1 : loW8 t k ≤ i) (h2 : i < loW8 t (k + 1)) : bhW8 t V i = bhW8 t U i := by
  unfold bhW8
  by_cases c : t 1 i = 0
  · rw [if_pos c, if_pos c]
    exact h _ ⟨i, h1, h2, c, rfl⟩
  · rw [if_neg c, if_neg c]
theorem ma_c8 {t : Tw8} {V U : Nat → Rat} {k : Nat} (h : ∀ y, eW8 t k y → V y = U y) (hw : loW8 t k < loW8 t (k + 1)) : maW8 t V k = maW8 t U k := bi_c8 (fun j hj => bh_c8 h (by omega) (by omega))
theorem ma_l8 {t : Tw8} {V : Nat → Rat} {k : Nat} (hw : loW8 t k < loW8 t (k + 1)) : loW8 t k + maW8 t V k < loW8 t (k + 1) := by
  have e := bi_l8 (f := fun j => bhW8 t V (loW8 t k + j)) (m := loW8 t (k + 1) - loW8 t k - 1)
  unfold maW8
  omega
theorem ws_c8 {t : Tw8} {V U : Nat → Rat} {k : Nat} (h : ∀ y, eW8 t k y → V y = U y) (hw : loW8 t k < loW8 t (k + 1)) : wsW8 t V k = wsW8 t U k := by
  unfold wsW8
  by_cases c : t 6 k ≠ 0
  · have l := ma_l8 (t := t) (V := U) hw
    rw [if_pos c, if_pos c, ma_c8 h hw]
    exact bh_c8 h (by omega) l
  · rw [if_neg c, if_neg c, sm_c8 (f := fun j => bhW8 t V (loW8 t k + j) * mkRat (t 3 (loW8 t k + j)).toInt (t 4 k).toInt.toNat) (g := fun j => bhW8 t U (loW8 t k + j) * mkRat (t 3 (loW8 t k + j)).toInt (t 4 k).toInt.toNat) (fun j hj => by
      show bhW8 t V (loW8 t k + j) * _ = bhW8 t U (loW8 t k + j) * _
      rw [bh_c8 h (show loW8 t k ≤ loW8 t k + j by omega) (by omega)])]
/-- where no way leads round, a state's worth doesn't hang on how long ways may be -/
theorem wn_s8 {t : Tw8} {n : Nat} {rk : Nat → Nat} (hk : ∀ x y, x < n → eW8 t x y → y < n ∧ rk y < rk x) (hw : ∀ x, x < n → loW8 t x < loW8 t (x + 1)) : ∀ (m x f g : Nat), x < n → rk x ≤ m → rk x < f → rk x < g → wnW8 t f x = wnW8 t g x
  | 0, x, f, g, hx, h0, hf, hg => by
    obtain ⟨f, rfl⟩ : ∃ f', f = f' + 1 := ⟨f - 1, by omega⟩
    obtain ⟨g, rfl⟩ : ∃ g', g = g' + 1 := ⟨g - 1, by omega⟩
    exact ws_c8 (fun y e => by have := (hk x y hx e).2; omega) (hw x hx)
  | m + 1, x, f, g, hx, h0, hf, hg => by
    obtain ⟨f, rfl⟩ : ∃ f', f = f' + 1 := ⟨f - 1, by omega⟩
    obtain ⟨g, rfl⟩ : ∃ g', g = g' + 1 := ⟨g - 1, by omega⟩
    exact ws_c8 (fun y e => by
      have q := hk x y hx e
      exact wn_s8 hk hw m y f g q.1 (by omega) (by omega) (by omega)) (hw x hx)
theorem wn_f8 {t : Tw8} {n : Nat} {rk : Nat → Nat} (hk : ∀ x y, x < n → eW8 t x y → y < n ∧ rk y < rk x) (hr : ∀ x, x < n → rk x < n) (hw : ∀ x, x < n → loW8 t x < loW8 t (x + 1)) {k : Nat} (h : k < n) : wnW8 t n k = wsW8 t (wnW8 t n) k := by
  have r := hr k h
  exact wn_s8 hk hw (rk k) k n (n + 1) h (Nat.le_refl _) r (by omega)
/-- tables alike -/
def tlW8 (t u : Tw8) (n : Nat) : Prop := (∀ k, k ≤ n → t 0 k = u 0 k) ∧ (∀ k, k < n → t 4 k = u 4 k ∧ t 5 k = u 5 k ∧ t 6 k = u 6 k) ∧ ∀ k i, k < n → loW8 u k ≤ i → i < loW8 u (k + 1) → t 1 i = u 1 i ∧ t 2 i = u 2 i ∧ t 3 i = u 3 i
theorem tl_lo8 {t u : Tw8} {n k : Nat} (h : tlW8 t u n) (hk : k ≤ n) : loW8 t k = loW8 u k := by
  unfold loW8
  rw [h.1 k hk]
theorem tl_bh8 {t u : Tw8} {n k i : Nat} {V : Nat → Rat} (h : tlW8 t u n) (hk : k < n) (h1 : loW8 u k ≤ i) (h2 : i < loW8 u (k + 1)) : bhW8 t V i = bhW8 u V i := by
  have q := h.2.2 k i hk h1 h2
  unfold bhW8
  rw [q.1, q.2.1]
theorem tl_ma8 {t u : Tw8} {n k : Nat} {V : Nat → Rat} (h : tlW8 t u n) (hk : k < n) (hw : loW8 u k < loW8 u (k + 1)) : maW8 t V k = maW8 u V k := by
  unfold maW8
  rw [tl_lo8 h (show k ≤ n by omega), tl_lo8 h (show k + 1 ≤ n by omega)]
  exact bi_c8 (fun j hj => tl_bh8 h hk (by omega) (by omega))
theorem tl_ws8 {t u : Tw8} {n k : Nat} {V : Nat → Rat} (h : tlW8 t u n) (hk : k < n) (hw : loW8 u k < loW8 u (k + 1)) : wsW8 t V k = wsW8 u V k := by
  have q := h.2.1 k hk
  unfold wsW8
  rw [q.2.2, q.1, q.2.1, tl_ma8 h hk hw, tl_lo8 h (show k ≤ n by omega), tl_lo8 h (show k + 1 ≤ n by omega)]
  by_cases c : u 6 k ≠ 0
  · rw [if_pos c, if_pos c]
    have l := ma_l8 (t := u) (V := V) hw
    exact tl_bh8 h hk (by omega) l
  · rw [if_neg c, if_neg c, sm_c8 (f := fun j => bhW8 t V (loW8 u k + j) * mkRat (t 3 (loW8 u k + j)).toInt (u 4 k).toInt.toNat) (g := fun j => bhW8 u V (loW8 u k + j) * mkRat (u 3 (loW8 u k + j)).toInt (u 4 k).toInt.toNat) (fun j hj => by
      show bhW8 t V (loW8 u k + j) * mkRat (t 3 (loW8 u k + j)).toInt _ = bhW8 u V (loW8 u k + j) * mkRat (u 3 (loW8 u k + j)).toInt _
      rw [tl_bh8 h hk (show loW8 u k ≤ loW8 u k + j by omega) (by omega), (h.2.2 k (loW8 u k + j) hk (by omega) (by omega)).2.2])]
theorem tl_e8 {t u : Tw8} {n x y : Nat} (h : tlW8 t u n) (hx : x < n) : eW8 t x y ↔ eW8 u x y := by
  unfold eW8
  rw [tl_lo8 h (show x ≤ n by omega), tl_lo8 h (show x + 1 ≤ n by omega)]
  constructor
  · rintro ⟨i, i1, i2, i3, i4⟩
    have q := h.2.2 x i hx i1 i2
    rw [q.1] at i3
    rw [q.2.1] at i4
    exact ⟨i, i1, i2, i3, i4⟩
  · rintro ⟨i, i1, i2, i3, i4⟩
    have q := h.2.2 x i hx i1 i2
    exact ⟨i, i1, i2, by rw [q.1]; exact i3, by rw [q.2.1]; exact i4⟩
theorem tl_wn8 {t u : Tw8} {n : Nat} (h : tlW8 t u n) (hw : ∀ x, x < n → loW8 u x < loW8 u (x + 1)) (hc : ∀ x y, x < n → eW8 u x y → y < n) : ∀ (f k : Nat), k < n → wnW8 t f k = wnW8 u f k
  | 0, _, _ => rfl
  | f + 1, k, hk => by
    show wsW8 t (wnW8 t f) k = wsW8 u (wnW8 u f) k
    rw [tl_ws8 h hk (hw k hk)]
    exact ws_c8 (fun y e => tl_wn8 h hw hc f y (hc k y hk e)) (hw k hk)
/-! where there are no rings -/
theorem ct_m8 {P Q : Nat → Prop} {m : Nat} (q : Q m) (p : ¬ P m) : ∀ {n : Nat}, (∀ k, k < n → P k → Q k) → m < n → ct8 P n < ct8 Q n
  | 0, _, hm => absurd hm (Nat.not_lt_zero m)
  | n + 1, h, hm => by
    show ct8 P n + on8 (P n) < ct8 Q n + on8 (Q n)
    by_cases c : m = n
    · rw [← c, on_1 q, on_0 p]
      have l := ct_l8 (P := P) (Q := Q) (n := m) (fun k hk => h k (by omega))
      omega
    · have e := ct_m8 (n := n) q p (fun k hk => h k (by omega)) (by omega)
      have o : on8 (P n) ≤ on8 (Q n) := by
        by_cases d : P n
        · rw [on_1 d, on_1 (h n (by omega) d)]
          exact Nat.le_refl _
        · rw [on_0 d]
          exact Nat.zero_le _
      omega
theorem no_r8 {E : Nat → Nat → Prop} {n : Nat} (h : ct8 (ls8 E) n = 0) {x : Nat} (hx : x < n) : ¬ Tr E x x := fun z => by
  obtain ⟨j, j1, j2, j3⟩ := fst_8 (P := fun m => Tr E x m ∧ Tr E m x) x ⟨z, z⟩
  have l : ls8 E j := ⟨Tr_tr j2.2 j2.1, fun m hm y => j3 m hm ⟨Tr_tr j2.1 y.1, Tr_tr y.2 j2.2⟩⟩
  have q := ct_m8 (P := fun _ => False) (Q := ls8 E) (m := j) l (fun y => y) (n := n) (fun k _ y => y.elim) (by omega)
  omega
noncomputable def rkW8 (E : Nat → Nat → Prop) (n x : Nat) : Nat := ct8 (fun m => Tr E x m) n
theorem rk_8 {E : Nat → Nat → Prop} {n : Nat} (hc : ∀ x y, x < n → E x y → y < n) (h : ∀ x, x < n → ¬ Tr E x x) {x y : Nat} (hx : x < n) (e : E x y) : y < n ∧ rkW8 E n y < rkW8 E n x := ⟨hc x y hx e, ct_m8 (m := y) (Tr_1 e) (h y (hc x y hx e)) (fun k _ z => Tr_tr (Tr_1 e) z) (hc x y hx e)⟩
theorem rk_n8 {E : Nat → Nat → Prop} {n : Nat} (h : ∀ x, x < n → ¬ Tr E x x) {x : Nat} (hx : x < n) : rkW8 E n x < n := by
  have q := ct_m8 (P := fun m => Tr E x m) (Q := fun _ => True) (m := x) trivial (h x hx) (n := n) (fun k _ _ => trivial) hx
  have b := ct_n8 (P := fun _ : Nat => True) (n := n)
  unfold rkW8
  omega

end
section
set_option maxHeartbeats 1600000
/-! the reference: worths by their values -/
def wVW8 (σ : rS) (r q k : Nat) : Rat := sgq (σ.2.2.1 q k) (mkRat (slV σ r (34 * k)) (slV σ r (34 * k + 17)))
def trW8 (σ : rS) : Tw8 := fun g => if g = 0 then σ.2.2.1 76 else if g = 1 then σ.2.2.1 77 else if g = 2 then σ.2.2.1 78 else if g = 3 then σ.2.2.1 79 else if g = 4 then σ.2.2.1 80 else if g = 5 then σ.2.2.1 82 else σ.2.2.1 81
def nxV8 (σ : rS) (i : Nat) : Rat := bhW8 (trW8 σ) (wVW8 σ 117 118) i
theorem nxV_s8 {σ : rS} {i : Nat} (h : σ.2.2.1 77 i = 0) : nxV8 σ i = sgq (σ.2.2.1 118 (σ.2.2.1 78 i).toNatClampNeg) (mkRat (slV σ 117 (34 * (σ.2.2.1 78 i).toNatClampNeg)) (slV σ 117 (34 * (σ.2.2.1 78 i).toNatClampNeg + 17))) := if_pos h
theorem nxV_08 {σ : rS} {i : Nat} (h : ¬ σ.2.2.1 77 i = 0) : nxV8 σ i = 0 := if_neg h
theorem nxV_f8 {σ τ : rS} {i : Nat} (h77 : τ.2.2.1 77 = σ.2.2.1 77) (h78 : τ.2.2.1 78 = σ.2.2.1 78) (h1 : τ.2.2.1 117 = σ.2.2.1 117) (h2 : τ.2.2.1 118 = σ.2.2.1 118) : nxV8 τ i = nxV8 σ i := by
  by_cases c : σ.2.2.1 77 i = 0
  · rw [nxV_s8 c, nxV_s8 (by rw [h77]; exact c), h78, h2, (sl_f (m := 16) h1).1, (sl_f (m := 16) h1).1]
  · rw [nxV_08 c, nxV_08 (by rw [h77]; exact c)]
theorem mk_lt8 {a b c d : Nat} (hb : 0 < b) (hd : 0 < d) : mkRat (a : Int) b < mkRat (c : Int) d ↔ a * d < c * b := by
  have b' : (0 : Rat) < (b : Rat) := Rat.natCast_pos.mpr hb
  have d' : (0 : Rat) < (d : Rat) := Rat.natCast_pos.mpr hd
  rw [Rat.mkRat_eq_div, Rat.mkRat_eq_div, Rat.intCast_natCast, Rat.intCast_natCast, Rat.div_lt_iff b', Rat.div_def, Rat.mul_assoc, Rat.mul_comm ((d : Rat)⁻¹), ← Rat.mul_assoc, ← Rat.div_def, Rat.lt_div_iff d', ← Rat.natCast_mul, ← Rat.natCast_mul, Rat.natCast_lt_natCast]
theorem mk_p8 {c d : Nat} (hd : 0 < d) (hc : 0 < c) : 0 < mkRat (c : Int) d := by
  have e := (mk_lt8 (a := 0) (b := 1) (c := c) (d := d) (by decide) hd).mpr (by omega)
  rw [show mkRat ((0 : Nat) : Int) 1 = 0 from rfl] at e
  exact e
theorem tri_w8 {r s : Int32} {c d : Nat} (hr : r = 1 ∨ r = -1) (hd : 0 < d) (hs : (c = 0 ∧ s = 0) ∨ (0 < c ∧ s = r)) : (s = 0 ∧ sgq r (mkRat (c : Int) d) = 0 ∧ c = 0) ∨ (s = 1 ∧ 0 < sgq r (mkRat (c : Int) d) ∧ sgq r (mkRat (c : Int) d) = mkRat (c : Int) d) ∨ (s = -1 ∧ sgq r (mkRat (c : Int) d) < 0 ∧ sgq r (mkRat (c : Int) d) = -mkRat (c : Int) d) := by
  rcases hs with ⟨c0, e⟩ | ⟨c0, e⟩
  · refine Or.inl ⟨e, ?_, c0⟩
    rw [c0, show mkRat ((0 : Nat) : Int) d = 0 from Rat.zero_mkRat d, sgq_0]
  · have p := mk_p8 hd c0
    rcases hr with rr | rr <;> rw [rr] at e ⊢
    · rw [sgq_1]
      exact Or.inr (Or.inl ⟨e, p, rfl⟩)
    · rw [sgq_m]
      exact Or.inr (Or.inr ⟨e, by rw [show (0 : Rat) = -0 from rfl]; exact Rat.neg_lt_neg p, rfl⟩)
theorem cmp_w8 {r t s u : Int32} {a b c d : Nat} (hr : r = 1 ∨ r = -1) (ht : t = 1 ∨ t = -1) (hb : 0 < b) (hd : 0 < d) (hs : (c = 0 ∧ s = 0) ∨ (0 < c ∧ s = r)) (hu : (a = 0 ∧ u = 0) ∨ (0 < a ∧ u = t)) : (¬ s = u → (sgq t (mkRat (a : Int) b) < sgq r (mkRat (c : Int) d) ↔ ¬ s ≤ u)) ∧ (s = u → (0 ≤ s → (sgq t (mkRat (a : Int) b) < sgq r (mkRat (c : Int) d) ↔ a * d < c * b)) ∧ (¬ 0 ≤ s → (sgq t (mkRat (a : Int) b) < sgq r (mkRat (c : Int) d) ↔ c * b < a * d))) := by
  have X := tri_w8 hr hd hs
  have S := tri_w8 ht hb hu
  have l1 := mk_lt8 (a := a) (c := c) hb hd
  have l2 := mk_lt8 (a := c) (c := a) hd hb
  generalize sgq t (mkRat (a : Int) b) = S9 at *
  generalize sgq r (mkRat (c : Int) d) = X9 at *
  generalize mkRat (a : Int) b = x at *
  generalize mkRat (c : Int) d = y at *
  clear hs hu hr ht
  have D01 : ¬ (1 : Int32) ≤ 0 := by decide
  have D0m : (-1 : Int32) ≤ 0 := by decide
  have D10 : (0 : Int32) ≤ 1 := by decide
  have Dm0 : ¬ (0 : Int32) ≤ -1 := by decide
  have D1m : ¬ (1 : Int32) ≤ -1 := by decide
  have Dm1 : (-1 : Int32) ≤ 1 := by decide
  rcases X with ⟨rfl, x1, x2⟩ | ⟨rfl, x1, x2⟩ | ⟨rfl, x1, x2⟩ <;> rcases S with ⟨rfl, s1, s2⟩ | ⟨rfl, s1, s2⟩ | ⟨rfl, s1, s2⟩
  · refine ⟨fun z => absurd rfl z, fun _ => ⟨fun _ => ?_, fun z => absurd (Int32.le_refl 0) z⟩⟩
    rw [x1, s1, x2, s2, Nat.zero_mul, Nat.zero_mul]
    exact ⟨fun z => absurd z Rat.lt_irrefl, fun z => absurd z (Nat.lt_irrefl 0)⟩
  · refine ⟨fun _ => ⟨fun z => ?_, fun z => absurd D10 z⟩, fun z => absurd z (by decide)⟩
    rw [x1] at z
    grind
  · refine ⟨fun _ => ⟨fun _ => Dm0, fun _ => by rw [x1]; exact s1⟩, fun z => absurd z (by decide)⟩
  · refine ⟨fun _ => ⟨fun _ => D01, fun _ => by rw [s1]; exact x1⟩, fun z => absurd z (by decide)⟩
  · refine ⟨fun z => absurd rfl z, fun _ => ⟨fun _ => by rw [x2, s2]; exact l1, fun z => absurd D10 z⟩⟩
  · refine ⟨fun _ => ⟨fun _ => D1m, fun _ => by grind⟩, fun z => absurd z (by decide)⟩
  · refine ⟨fun _ => ⟨fun z => by rw [s1] at z; grind, fun z => absurd D0m z⟩, fun z => absurd z (by decide)⟩
  · refine ⟨fun _ => ⟨fun z => by grind, fun z => absurd Dm1 z⟩, fun z => absurd z (by decide)⟩
  · refine ⟨fun z => absurd rfl z, fun _ => ⟨fun z => absurd z Dm0, fun _ => ?_⟩⟩
    rw [x2, s2, Rat.neg_lt_neg_iff]
    exact l2
theorem nz_w8 {σ : rS} {r : Nat} (h : numO σ r) : σ.2.2.1 91 r = 0 ↔ nV σ r = 0 := by
  rw [← nL_z h]
  constructor
  · intro z
    show (σ.2.2.1 91 r).toNatClampNeg = 0
    rw [z]
    rfl
  · intro z
    have z' : (σ.2.2.1 91 r).toNatClampNeg = 0 := z
    have n := h.1
    rw [lei, t0i] at n
    have c := cnk n
    exact Int32.toInt_inj.mp (by rw [t0i]; omega)
theorem K_w8 {σ τ : rS} {S X : Rat} {s u : Int32} (h : hS σ S) (e4 : nV τ 4 = nV σ 4) (e5 : nV τ 5 = nV σ 5) (hE : (∃ r : Int32, (r = 1 ∨ r = -1) ∧ 0 < nV τ 7 ∧ sgq r (fQ τ 6 7) = X ∧ ((nV τ 6 = 0 ∧ s = 0) ∨ (0 < nV τ 6 ∧ s = r))) ∧ ((nV τ 4 = 0 ∧ u = 0) ∨ (0 < nV τ 4 ∧ u = σ.1 92))) : (¬ s = u → (S < X ↔ ¬ s ≤ u)) ∧ (s = u → (0 ≤ s → (S < X ↔ nV τ 4 * nV τ 7 < nV τ 6 * nV τ 5)) ∧ (¬ 0 ≤ s → (S < X ↔ nV τ 6 * nV τ 5 < nV τ 4 * nV τ 7))) := by
  obtain ⟨⟨r, hr, p7, ex, hs⟩, hu⟩ := hE
  obtain ⟨q, hq, w⟩ := h
  have Q := hR_q hq
  have ht : σ.1 92 = 1 ∨ σ.1 92 = -1 := w.elim (fun z => Or.inl z.1) (fun z => Or.inr z.1)
  have eS : S = sgq (σ.1 92) (mkRat (nV τ 4 : Int) (nV τ 5)) := by
    rw [e4, e5]
    have f : mkRat (nV σ 4 : Int) (nV σ 5) = q := Q.1
    rw [f]
    rcases w with z | z
    · rw [z.1, z.2, sgq_1]
    · rw [z.1, z.2, sgq_m]
  rw [eS, ← ex]
  exact cmp_w8 hr ht (by rw [e5]; exact Q.2) p7 hs hu
theorem loadNext_g5 {C : rCx} (hC : cOK C)  {σ : rS} {a1 : Int32} {Q : Int32 → rS → Prop} (hp : exO σ ∧ 0 ≤ a1 ∧ a1 < σ.1 72 ∧ nxW σ a1) (h : ∀ (v : Int32) (σ' : rS), ((frN [6, 7] σ σ' ∧ numO σ' 6 ∧ numO σ' 7 ∧ 0 < nV σ' 7 ∧ nL σ' 6 ≤ 16 ∧ nL σ' 7 ≤ 16 ∧ (v = 1 ∨ v = -1) ∧ (σ.2.2.1 77 a1.toNatClampNeg ≠ 0 → nV σ' 7 = 1) ∧ (σ.2.2.1 77 a1.toNatClampNeg = 0 → nV σ' 7 = slV σ 117 (34 * (σ.2.2.1 78 a1.toNatClampNeg).toNatClampNeg + 17))) ∧ (sgq v (fQ σ' 6 7) = nxV8 σ a1.toNatClampNeg)) → Q v σ') : cI C 1 m_loadNext [.ref (co C), .int a1] σ Q := by
  refine m_loadNext_run hC ?_
  unfold w_loadNext_0
  obtain ⟨hO, h0, h1, hw⟩ := hp
  have k1 := Int32.lt_of_lt_of_le h1 hO.2.2.1.2
  have nx := hO.2.2.2.2 _ (cn_lt h0 h1)
  refine ⟨ib_20000.mpr ?_, ?_⟩
  · clear h; exact ⟨h0, k1⟩  -- b1
  refine ⟨fun c1 => ?_, fun c1 => ?_⟩
  · skip
    refine set_c hC  ?_ (fun σ_2 q3 => ?_)
    · clear h; exact ⟨by decide, by decide, by decide⟩  -- p2
    simp only [kn] at q3
    refine set_c hC  ?_ (fun σ_4 q5 => ?_)
    · clear h; exact ⟨by decide, by decide, by decide⟩  -- p3
    simp only [kn] at q5
    have g6 := nV_fr q5.1 (k := 6) (by decide) q3.2.1
    refine h _ _ ?_
    · refine and_5 ?_ (fun o9 => ?_)  -- q4
      · clear h; exact ⟨frN_tr (frN_mono q3.1 (sub_of rfl)) (frN_mono q5.1 (sub_of rfl)), g6.1, q5.2.1, by rw [q5.2.2.1]; decide, by have := g6.2.2; have := q3.2.2.2; omega, by have := q5.2.2.2; omega, Or.inl rfl, fun _ => by rw [q5.2.2.1]; rfl, fun z => absurd z c1⟩
      · clear o9
        rw [nxV_08 c1, fQ_z (by rw [g6.2.1, q3.2.2.1]; rfl), sgq_0]
  · skip
    refine ⟨ib_20000.mpr ?_, ?_⟩
    · clear h; exact ⟨h0, k1⟩  -- b5
    have q := nx.2.1 c1
    have W := hw c1
    have q1 := Int32.lt_of_lt_of_le q.2 hO.1.2
    refine loadWorth_c hC  ?_ (fun σ_6 q7 => ?_)
    · clear h; exact ⟨Or.inr rfl, q.1, q1, W.1, W.2.1⟩  -- p6
    refine ⟨ib_20000.mpr ?_, ?_⟩
    · clear h; exact ⟨h0, k1⟩  -- b7
    refine ⟨ib_1000.mpr ?_, ?_⟩
    · clear h; rw [q7.1.2.2.1 78 (by decide) (by decide)]; exact ⟨q.1, q1⟩  -- b8
    refine h _ _ ?_
    · refine and_5 ?_ (fun o9 => ?_)  -- q9
      · clear h; rw [q7.1.2.2.1 78 (by decide) (by decide), q7.1.2.2.1 118 (by decide) (by decide)]
        exact ⟨q7.1, q7.2.1, q7.2.2.1, by rw [q7.2.2.2.2.1]; exact W.2.2.1, q7.2.2.2.2.2.1, q7.2.2.2.2.2.2, W.2.2.2, fun z => absurd c1 z, fun _ => q7.2.2.2.2.1⟩
      · clear o9
        rw [q7.1.2.2.1 78 (by decide) (by decide), q7.1.2.2.1 118 (by decide) (by decide), nxV_s8 c1]
        unfold fQ
        rw [q7.2.2.2.1, q7.2.2.2.2.1]

theorem isGreater_g5 {C : rCx} (hC : cOK C)  {σ : rS} {a1 : Int32} {Q : Int32 → rS → Prop} (S9 : Rat) (hS9 : hS σ S9) (hp : exO σ ∧ 0 ≤ a1 ∧ a1 < σ.1 72 ∧ nxW σ a1 ∧ numO σ 4 ∧ numO σ 5 ∧ nL σ 4 ≤ 400 ∧ nL σ 5 ≤ 400) (h : ∀ (v : Int32) (σ' : rS), ((frN [6, 7, 8, 9] σ σ' ∧ nb v) ∧ ((v ≠ 0 ↔ S9 < nxV8 σ a1.toNatClampNeg))) → Q v σ') : cI C 2 m_isGreater [.ref (co C), .int a1] σ Q := by
  refine m_isGreater_run hC ?_
  unfold w_isGreater_0
  obtain ⟨hO, h0, h1, hw, o4, o5, l4, l5⟩ := hp
  have hj37 : ∀ (l2 : Int32) (s0 : Int32) (τ : rS), ((frN [6, 7, 8, 9] σ τ ∧ numO τ 6 ∧ numO τ 7 ∧ nL τ 6 ≤ 16 ∧ nL τ 7 ≤ 16) ∧ (∃ r : Int32, (r = 1 ∨ r = -1) ∧ 0 < nV τ 7 ∧ sgq r (fQ τ 6 7) = nxV8 σ a1.toNatClampNeg ∧ ((nV τ 6 = 0 ∧ l2 = 0) ∨ (0 < nV τ 6 ∧ l2 = r))) ∧ ((nV τ 4 = 0 ∧ s0 = 0) ∨ (0 < nV τ 4 ∧ s0 = σ.1 92))) → w_isGreater_37 C Q  l2 s0 τ := by
    rintro y37_2 y37_s0 τ37 ⟨j37, hE⟩
    unfold w_isGreater_37
    obtain ⟨Y, o6, o7, l6, l7⟩ := j37
    have g4 := nV_fr Y (k := 4) (by decide) o4
    have g5 := nV_fr Y (k := 5) (by decide) o5
    refine ⟨fun c1 => ?_, fun c1 => ?_⟩
    · skip
      refine times_c hC  ?_ (fun σ_2 q3 => ?_)
      · clear h; simp only [kn]
        exact ⟨by decide, by decide, by decide, by decide, by decide, by decide, by decide, by decide, o6, g5.1, by have := g5.2.2; omega⟩
      simp only [kn] at q3
      have h4 := nV_fr q3.1 (k := 4) (by decide) g4.1
      have h7 := nV_fr q3.1 (k := 7) (by decide) o7
      refine times_c hC  ?_ (fun σ_4 q5 => ?_)
      · clear h; simp only [kn]
        exact ⟨by decide, by decide, by decide, by decide, by decide, by decide, by decide, by decide, h4.1, h7.1, by have := h4.2.2; have := g4.2.2; have := h7.2.2; omega⟩
      simp only [kn] at q5
      have h8 := nV_fr q5.1 (k := 8) (by decide) q3.2.1
      have F := frN_tr Y (frN_tr (frN_mono q3.1 (sub_of rfl)) (frN_mono q5.1 (sub_of rfl)))
      refine compare_c hC  ?_ (fun r6 q8 => ?_)
      · clear h; simp only [kn]; exact ⟨by decide, by decide, by decide, by decide, h8.1, q5.2.1⟩  -- p3
      simp only [kn] at q8
      rw [h8.2.1, q3.2.2.1, q5.2.2.1, h4.2.1, h7.2.1] at q8
      refine ⟨fun c9 => ?_, fun c9 => ?_⟩
      · skip
        refine ⟨fun c10 => ?_, fun c10 => ?_⟩
        · skip
          refine h _ _ ?_
          · refine and_5 ?_ (fun o9 => ?_)  -- q4
            · clear h; exact ⟨F, nb_0⟩
            · clear o9
              have K := ((K_w8 hS9 g4.2.1 g5.2.1 hE).2 c1).1 c9
              rw [K]
              exact ⟨fun z => absurd rfl z, fun z => by
                rcases q8 with y | y | y
                · omega
                · rw [y.1] at c10; exact absurd c10 (by decide)
                · omega⟩
        · skip
          refine h _ _ ?_
          · refine and_5 ?_ (fun o9 => ?_)  -- q5
            · clear h; exact ⟨F, nb_1⟩
            · clear o9
              have K := ((K_w8 hS9 g4.2.1 g5.2.1 hE).2 c1).1 c9
              rw [K]
              exact ⟨fun _ => by
                rcases q8 with y | y | y
                · rw [y.1] at c10; exact absurd (Int32.le_refl 0) c10
                · exact y.2
                · rw [y.1] at c10; exact absurd (by decide) c10, fun _ => by decide⟩
      · skip
        refine ⟨fun c11 => ?_, fun c11 => ?_⟩
        · skip
          refine h _ _ ?_
          · refine and_5 ?_ (fun o9 => ?_)  -- q6
            · clear h; exact ⟨F, nb_0⟩
            · clear o9
              have K := ((K_w8 hS9 g4.2.1 g5.2.1 hE).2 c1).2 c9
              rw [K]
              exact ⟨fun z => absurd rfl z, fun z => by
                rcases q8 with y | y | y
                · omega
                · omega
                · rw [y.1] at c11; exact absurd c11 (by decide)⟩
        · skip
          refine h _ _ ?_
          · refine and_5 ?_ (fun o9 => ?_)  -- q7
            · clear h; exact ⟨F, nb_1⟩
            · clear o9
              have K := ((K_w8 hS9 g4.2.1 g5.2.1 hE).2 c1).2 c9
              rw [K]
              exact ⟨fun _ => by
                rcases q8 with y | y | y
                · rw [y.1] at c11; exact absurd (Int32.le_refl 0) c11
                · rw [y.1] at c11; exact absurd (by decide) c11
                · exact y.2, fun _ => by decide⟩
    · skip
      refine ⟨fun c12 => ?_, fun c12 => ?_⟩
      · skip
        refine h _ _ ?_
        · refine and_5 ?_ (fun o9 => ?_)  -- q8
          · clear h; exact ⟨Y, nb_0⟩
          · clear o9
            have K := (K_w8 hS9 g4.2.1 g5.2.1 hE).1 c1
            rw [K]
            exact ⟨fun z => absurd rfl z, fun z => absurd c12 z⟩
      · skip
        refine h _ _ ?_
        · refine and_5 ?_ (fun o9 => ?_)  -- q9
          · clear h; exact ⟨Y, nb_1⟩
          · clear o9
            have K := (K_w8 hS9 g4.2.1 g5.2.1 hE).1 c1
            rw [K]
            exact ⟨fun _ => c12, fun _ => by decide⟩
  have hj20 : ∀ (s0 : Int32) (τ : rS), ((frN [6, 7, 8, 9] σ τ ∧ numO τ 6 ∧ numO τ 7 ∧ nL τ 6 ≤ 16 ∧ nL τ 7 ≤ 16) ∧ (∃ r : Int32, (r = 1 ∨ r = -1) ∧ 0 < nV τ 7 ∧ sgq r (fQ τ 6 7) = nxV8 σ a1.toNatClampNeg ∧ ((nV τ 6 = 0 ∧ s0 = 0) ∨ (0 < nV τ 6 ∧ s0 = r)))) → w_isGreater_20 C Q  s0 τ := by
    rintro y20_s0 τ20 ⟨j20, hE⟩
    unfold w_isGreater_20
    refine isZero_c hC  ?_ (fun r13 q15 => ?_)
    · clear h; exact ⟨by decide, by decide⟩  -- p10
    refine ⟨fun c16 => ?_, fun c16 => ?_⟩
    · skip
      refine hj37 _ _ _ ?_
      · refine and_5 ?_ (fun o9 => ?_)  -- k11
        · clear h; exact j20
        · clear o9
          have o := nV_fr j20.1 (k := 4) (by decide) o4
          have n4 : ¬ nV τ20 4 = 0 := fun y => (q15.2.mpr ((nz_w8 o.1).mpr y)) c16
          exact ⟨hE, Or.inr ⟨by omega, by rw [j20.1.1]⟩⟩
    · skip
      refine hj37 _ _ _ ?_
      · refine and_5 ?_ (fun o9 => ?_)  -- k12
        · clear h; exact j20
        · clear o9
          have o := nV_fr j20.1 (k := 4) (by decide) o4
          exact ⟨hE, Or.inl ⟨(nz_w8 o.1).mp (q15.2.mp c16), rfl⟩⟩
  refine loadNext_g5 hC  ?_ (fun r17 σ_18 q19 => ?_)
  · clear h; exact ⟨hO, h0, h1, hw⟩  -- p13
  obtain ⟨q19, z9⟩ := q19
  refine isZero_c hC  ?_ (fun r20 q22 => ?_)
  · clear h; exact ⟨by decide, by decide⟩  -- p14
  refine ⟨fun c23 => ?_, fun c23 => ?_⟩
  · skip
    refine hj20 _ _ ?_
    · refine and_5 ?_ (fun o9 => ?_)  -- k15
      · clear h; exact ⟨frN_mono q19.1 (sub_of rfl), q19.2.1, q19.2.2.1, q19.2.2.2.2.1, q19.2.2.2.2.2.1⟩
      · clear o9
        have n6 : ¬ nV σ_18 6 = 0 := fun y => (q22.2.mpr ((nz_w8 q19.2.1).mpr y)) c23
        exact ⟨r17, q19.2.2.2.2.2.2.1, q19.2.2.2.1, z9, Or.inr ⟨by omega, rfl⟩⟩
  · skip
    refine hj20 _ _ ?_
    · refine and_5 ?_ (fun o9 => ⟨r17, q19.2.2.2.2.2.2.1, q19.2.2.2.1, z9, Or.inl ⟨(nz_w8 q19.2.1).mp (q22.2.mp c23), rfl⟩⟩)  -- k16
      clear h; exact ⟨frN_mono q19.1 (sub_of rfl), q19.2.1, q19.2.2.1, q19.2.2.2.2.1, q19.2.2.2.2.2.1⟩

theorem takeNext_g5 {C : rCx} (hC : cOK C)  {σ : rS} {a1 : Int32} {Q : rS → Prop} (hp : exO σ ∧ 0 ≤ a1 ∧ a1 < σ.1 72 ∧ nxW σ a1) (h : ∀ (σ' : rS), ((frS [0, 1, 2, 3, 4, 5, 6, 7, 8, 9, 10] σ σ' ∧ numO σ' 4 ∧ numO σ' 5 ∧ 0 < nV σ' 5 ∧ nL σ' 4 ≤ 400 ∧ nL σ' 5 ≤ 400 ∧ (σ'.1 92 = 1 ∨ σ'.1 92 = -1)) ∧ (hS σ' (nxV8 σ a1.toNatClampNeg))) → Q σ') : cV C 5 m_takeNext [.ref (co C), .int a1] σ Q := by
  refine m_takeNext_run hC ?_
  unfold w_takeNext_0
  obtain ⟨hO, h0, h1, hw⟩ := hp
  refine clearSum_c hC  (fun σ_1 q2 => ?_)
  refine loadNext_g5 hC  ?_ (fun r3 σ_4 q5 => ?_)
  · clear h; exact ⟨exO_o hO (fun k hk => q2.1.1 k (by omega)) (fun k hk => q2.1.2.2.1 k (by omega) (by omega)), h0, by rw [q2.1.1 72 (by decide)]; exact h1, nxW_f (q2.1.2.2.1 77 (by decide) (by decide)) (q2.1.2.2.1 78 (by decide) (by decide)) (q2.1.2.2.1 117 (by decide) (by decide)) (q2.1.2.2.1 118 (by decide) (by decide)) hw⟩  -- p1
  obtain ⟨q5, z9⟩ := q5
  have fb := fQ_b q5.2.1 q5.2.2.2.1 q5.2.2.2.2.1
  have m7 := nV_lt q5.2.2.1 q5.2.2.2.2.2.1
  have A := siG_add (a := 16) (M := nV σ_4 7) (x := r3) q5.2.2.2.2.2.2.1 q5.2.2.2.1 m7 (by decide) (by decide) (siG_N q5.1 (by decide) (by decide) (siG_0 q2.2)) q5.2.1 q5.2.2.1 q5.2.2.2.1 (by have := q5.2.2.2.2.1; omega) (by have := q5.2.2.2.2.2.1; omega) (Rat.le_trans fb.2.1 p16_wB) fb.2.2
  refine add_c hC  ?_ (fun σ_6 q7 => ?_)
  · clear h; exact A.1  -- p2
  refine h _ ?_
  · refine and_5 ?_ (fun o9 => ?_)  -- q3
    · clear h; have L := siG_L (a := 16) q5.2.2.2.1 m7 (by decide) (A.2 _ q7.2)
      exact ⟨frS_tr (frS_mono q2.1 (sub_of rfl)) (frS_tr (frS_mono (frS_of q5.1) (sub_of rfl)) (frS_mono q7.1 (sub_of rfl))), L.1, L.2.1, L.2.2.1, by have := L.2.2.2.2.1; omega, by have := L.2.2.2.1; omega, L.2.2.2.2.2⟩
    · clear o9
      have y := (A.2 _ q7.2).1
      rw [Rat.zero_add, z9, nxV_f8 (q2.1.2.2.1 77 (by decide) (by decide)) (q2.1.2.2.1 78 (by decide) (by decide)) (q2.1.2.2.1 117 (by decide) (by decide)) (q2.1.2.2.1 118 (by decide) (by decide))] at y
      exact y

end
section
set_option maxHeartbeats 1600000
/-! the reference: a state's worth by its value -/
def fcW8 (σ : rS) (k j : Nat) : Rat := nxV8 σ (loW8 (trW8 σ) k + j)
def fwW8 (σ : rS) (k j : Nat) : Rat := nxV8 σ (loW8 (trW8 σ) k + j) * mkRat (σ.2.2.1 79 (loW8 (trW8 σ) k + j)).toInt (σ.2.2.1 80 k).toInt.toNat
theorem ws_r8 {σ : rS} {k : Nat} (h : σ.2.2.1 81 k = 0) : wsW8 (trW8 σ) (wVW8 σ 117 118) k = smW8 (fwW8 σ k) (loW8 (trW8 σ) (k + 1) - loW8 (trW8 σ) k) + ((σ.2.2.1 82 k).toInt : Rat) := if_neg (fun z => z h)
theorem ws_q8 {σ : rS} {k : Nat} (h : ¬ σ.2.2.1 81 k = 0) : wsW8 (trW8 σ) (wVW8 σ 117 118) k = fcW8 σ k (biW8 (fcW8 σ k) (loW8 (trW8 σ) (k + 1) - loW8 (trW8 σ) k - 1)) := if_pos h
theorem hS_u8 {σ : rS} {p q : Rat} (h : hS σ p) (g : hS σ q) : p = q := by
  obtain ⟨a, ha, wa⟩ := h
  obtain ⟨b, hb, wb⟩ := g
  have e : a = b := (hR_q ha).1.symm.trans (hR_q hb).1
  rcases wa with ⟨s, z⟩ | ⟨s, z⟩ <;> rcases wb with ⟨s', z'⟩ | ⟨s', z'⟩
  · rw [z, z', e]
  · rw [s] at s'; exact absurd s' (by decide)
  · rw [s] at s'; exact absurd s' (by decide)
  · rw [z, z', e]
theorem sgq_x8 {s : Int32} {x m : Rat} : sgq s (x * m) = sgq s x * m := by
  unfold sgq
  by_cases c : s = 1
  · rw [if_pos c, if_pos c]
  · rw [if_neg c, if_neg c, Rat.neg_mul]
theorem mk_o8 {n : Int} : mkRat n 1 = (n : Rat) := Rat.mkRat_self (n : Rat)
theorem cn_m8 {x y : Int32} (h0 : 0 ≤ x) (h : x ≤ y) : x.toNatClampNeg ≤ y.toNatClampNeg := by
  rw [lei, t0i] at h0
  rw [lei] at h
  have a := cnk h0
  have b := cnk (x := y) (by omega)
  omega
theorem sub_n8 {x y : Int32} (h0 : 0 ≤ y) (h : y < x) (hx : x < 20000) : x - y = Int32.ofNat (x.toNatClampNeg - y.toNatClampNeg) := by
  rw [lei, t0i] at h0
  rw [lti] at h hx
  have t2 : (20000 : Int32).toInt = 20000 := rfl
  rw [t2] at hx
  have a := cnk h0
  have b := cnk (x := x) (by omega)
  refine Int32.toInt_inj.mp ?_
  rw [sub_i (by omega) (by omega), ofn_i (by omega)]
  omega
theorem bi_n8 {f : Nat → Rat} {m : Nat} (h : ¬ f (biW8 f m) < f (m + 1)) : biW8 f (m + 1) = biW8 f m := if_neg h
theorem bi_p8 {f : Nat → Rat} {m : Nat} (h : f (biW8 f m) < f (m + 1)) : biW8 f (m + 1) = m + 1 := if_pos h
theorem findWorth_g5 {C : rCx} (hC : cOK C) (s : Nat) {σ : rS} {a1 : Int32} {Q : rS → Prop} (hp : pOK σ ∧ s = (σ.1 70).toNatClampNeg ∧ 0 ≤ a1 ∧ a1 < σ.1 70 ∧ (∀ k, k < s → σ.2.2.1 96 k ≠ 0 → wkO σ 117 118 k) ∧ (∀ i : Int32, σ.2.2.1 76 a1.toNatClampNeg ≤ i → i < σ.2.2.1 76 (a1.toNatClampNeg + 1) → σ.2.2.1 77 i.toNatClampNeg = 0 → σ.2.2.1 96 (σ.2.2.1 78 i.toNatClampNeg).toNatClampNeg ≠ 0)) (h : ∀ (σ' : rS), ((frZ a1.toNatClampNeg σ σ' ∧ numO σ' 4 ∧ numO σ' 5 ∧ 0 < nV σ' 5 ∧ (σ'.1 92 = 1 ∨ σ'.1 92 = -1) ∧ (σ.2.2.1 81 a1.toNatClampNeg ≠ 0 → 0 ≤ σ'.2.2.1 119 a1.toNatClampNeg ∧ σ'.2.2.1 119 a1.toNatClampNeg < σ.2.2.1 76 (a1.toNatClampNeg + 1) - σ.2.2.1 76 a1.toNatClampNeg)) ∧ (hS σ' (wsW8 (trW8 σ) (wVW8 σ 117 118) a1.toNatClampNeg) ∧ (σ.2.2.1 81 a1.toNatClampNeg ≠ 0 → σ'.2.2.1 119 a1.toNatClampNeg = Int32.ofNat (maW8 (trW8 σ) (wVW8 σ 117 118) a1.toNatClampNeg)))) → Q σ') : cV C 6 m_findWorth [.ref (co C), .int a1] σ Q := by
  refine m_findWorth_run hC ?_
  unfold w_findWorth_0
  obtain ⟨hO, hs, h0, h1, hw, hd⟩ := hp
  have k1 := Int32.lt_of_lt_of_le h1 hO.1.1.2
  have st := ex_st hO.1 h0 h1
  have hi2 := Int32.le_trans st.2.2.1 hO.1.2.2.1.2
  have tb := tT_b hO h0 h1
  have s1000 : s ≤ 1000 := by rw [hs]; exact cn_le (y := 1000) rfl hO.1.1.2
  have M := MW_b (σ := σ) (s := s) (T := (tTI σ a1.toNatClampNeg).toNat) hw (by omega) (by omega)
  have lohi : σ.2.2.1 76 a1.toNatClampNeg < σ.2.2.1 76 (a1.toNatClampNeg + 1) := by
    have q := (hO.1.2.2.2.1 a1 h0 h1).1.2.1
    rw [rd, rd, st.2.2.2.1] at q
    exact q
  have inx : ∀ i : Int32, σ.2.2.1 76 a1.toNatClampNeg ≤ i → i < σ.2.2.1 76 (a1.toNatClampNeg + 1) → 0 ≤ i ∧ i < σ.1 72 ∧ i < 20000 := fun i i1 i2 => ⟨Int32.le_trans st.1.1 i1, Int32.lt_of_lt_of_le i2 st.2.2.1, Int32.lt_of_lt_of_le i2 hi2⟩
  have tgt : ∀ i : Int32, σ.2.2.1 76 a1.toNatClampNeg ≤ i → i < σ.2.2.1 76 (a1.toNatClampNeg + 1) → σ.2.2.1 77 i.toNatClampNeg = 0 → (σ.2.2.1 78 i.toNatClampNeg).toNatClampNeg < s := fun i i1 i2 z => by
    have q := (hO.1.2.2.2.2 _ (cn_lt (inx i i1 i2).1 (inx i i1 i2).2.1)).2.1 z
    rw [hs]
    exact cn_lt q.1 q.2
  have nw : ∀ i : Int32, σ.2.2.1 76 a1.toNatClampNeg ≤ i → i < σ.2.2.1 76 (a1.toNatClampNeg + 1) → nxW σ i := fun i i1 i2 z => hw _ (tgt i i1 i2 z) (hd i i1 i2 z)
  have hj177 : ∀ (l2 : Int64) (s1 : Int32) (s2 : Int64) (τ : rS), ((s1 = 6 ∧ l2.toInt.natAbs ≤ 2147483648 ∧ s2.toInt = (l2.toInt.natAbs : Int) ∧ σ.2.2.1 81 a1.toNatClampNeg = 0 ∧ frS [0, 1, 2, 3, 4, 5, 6, 7, 8, 9, 10] σ τ ∧ ∃ S, siG (prS (wD σ) s * (tTI σ a1.toNatClampNeg).toNat) τ 20000 S) ∧ hS τ (smW8 (fwW8 σ a1.toNatClampNeg) (loW8 (trW8 σ) (a1.toNatClampNeg + 1) - loW8 (trW8 σ) a1.toNatClampNeg)) ∧ l2.toInt = (σ.2.2.1 82 a1.toNatClampNeg).toInt) → w_findWorth_177 C Q  l2 s1 s2 τ := by
    rintro y177_2 y177_s1 y177_s2 τ177 ⟨j177, hE⟩
    unfold w_findWorth_177
    obtain ⟨z1, z2, z3, z4, F, S, J⟩ := j177
    rw [z1]
    refine set_c hC  ?_ (fun σ_1 q2 => ?_)
    · clear h; exact ⟨by decide, by decide, l64_0 z3 (by omega)⟩  -- p1
    simp only [kn] at q2
    refine set_c hC  ?_ (fun σ_3 q4 => ?_)
    · clear h; exact ⟨by decide, by decide, by decide⟩  -- p2
    simp only [kn] at q4
    have g6 := nV_fr q4.1 (k := 6) (by decide) q2.2.1
    have e67 : fQ σ_3 6 7 = mkRat (y177_2.toInt.natAbs : Int) 1 := by
      unfold fQ
      rw [g6.2.1, q2.2.2.1, q4.2.2.1, z3]
      rfl
    have F3 : frS [0, 1, 2, 3, 4, 5, 6, 7, 8, 9, 10] σ σ_3 := frS_tr F (frS_tr (frS_mono (frS_of q2.1) (sub_of rfl)) (frS_mono (frS_of q4.1) (sub_of rfl)))
    have J3 := siG_N q4.1 (by decide) (by decide) (siG_N q2.1 (by decide) (by decide) J)
    have p7 : 0 < nV σ_3 7 := by rw [q4.2.2.1]; decide
    have l6 : nL σ_3 6 ≤ 400 := by have := g6.2.2; have := q2.2.2.2; omega
    have l7 : nL σ_3 7 ≤ 400 := by have := q4.2.2.2; omega
    have qb : fQ σ_3 6 7 ≤ (wB : Rat) := by rw [e67]; exact mk_1 (by omega) (by omega)
    have qd : (fQ σ_3 6 7).den ∣ prS (wD σ) s * (tTI σ a1.toNatClampNeg).toNat := by
      rw [e67]
      exact Nat.dvd_trans (den_mk (by decide)) (Nat.one_dvd _)
    refine ⟨fun c5 => ?_, fun c5 => ?_⟩
    · skip
      refine add_c hC  ?_ (fun σ_6 q7 => ?_)
      · clear h; exact (siG_add (x := 1) (Or.inl rfl) M.1 M.2 (by omega) (by decide) J3 g6.1 q4.2.1 p7 l6 l7 qb qd).1  -- p3
      refine h _ ?_
      · refine and_5 ?_ (fun o9 => ?_)  -- q4
        · clear h; have L := siG_L M.1 M.2 (by decide) ((siG_add (x := 1) (Or.inl rfl) M.1 M.2 (by omega) (by decide) J3 g6.1 q4.2.1 p7 l6 l7 qb qd).2 _ q7.2)
          exact ⟨frZ_S (frS_tr F3 (frS_mono q7.1 (sub_of rfl))), L.1, L.2.1, L.2.2.1, L.2.2.2.2.2, fun z => absurd z4 z⟩
        · clear o9
          refine ⟨?_, fun z => absurd z4 z⟩
          have B := ((siG_add (x := 1) (Or.inl rfl) M.1 M.2 (by omega) (by decide) J3 g6.1 q4.2.1 p7 l6 l7 qb qd).2 _ q7.2).1
          have y := (l64_pos (lg_ge.mp c5)).1
          have e : mkRat (y177_2.toInt.natAbs : Int) 1 = ((σ.2.2.1 82 a1.toNatClampNeg).toInt : Rat) := by
            rw [← y, hE.2]
            exact mk_o8
          rw [sgq_1, e67, e, hS_u8 J.1 hE.1] at B
          rw [ws_r8 z4]
          exact B
    · skip
      refine add_c hC  ?_ (fun σ_8 q9 => ?_)
      · clear h; exact (siG_add (x := -1) (Or.inr rfl) M.1 M.2 (by omega) (by decide) J3 g6.1 q4.2.1 p7 l6 l7 qb qd).1  -- p5
      refine h _ ?_
      · refine and_5 ?_ (fun o9 => ?_)  -- q6
        · clear h; have L := siG_L M.1 M.2 (by decide) ((siG_add (x := -1) (Or.inr rfl) M.1 M.2 (by omega) (by decide) J3 g6.1 q4.2.1 p7 l6 l7 qb qd).2 _ q9.2)
          exact ⟨frZ_S (frS_tr F3 (frS_mono q9.1 (sub_of rfl))), L.1, L.2.1, L.2.2.1, L.2.2.2.2.2, fun z => absurd z4 z⟩
        · clear o9
          refine ⟨?_, fun z => absurd z4 z⟩
          have B := ((siG_add (x := -1) (Or.inr rfl) M.1 M.2 (by omega) (by decide) J3 g6.1 q4.2.1 p7 l6 l7 qb qd).2 _ q9.2).1
          have y := (l64_neg (fun z => c5 (lg_ge.mpr z)) z2).2
          have e : -mkRat (y177_2.toInt.natAbs : Int) 1 = ((σ.2.2.1 82 a1.toNatClampNeg).toInt : Rat) := by
            rw [show (y177_2.toInt.natAbs : Int) = -y177_2.toInt by omega, mk_o8, ← Rat.intCast_neg, Int.neg_neg, hE.2]
          rw [sgq_m, e67, e, hS_u8 J.1 hE.1] at B
          rw [ws_r8 z4]
          exact B
  refine ⟨ib_1000.mpr ?_, ?_⟩
  · clear h; exact ⟨h0, k1⟩  -- b7
  refine ⟨fun c10 => ?_, fun c10 => ?_⟩
  · skip
    refine clearSum_c hC  (fun σ_11 q12 => ?_)
    refine ⟨ib_1001.mpr ?_, ?_⟩
    · clear h; exact ⟨h0, Int32.lt_trans k1 (by decide)⟩  -- b8
    intro x13 hx13
    unfold w_findWorth_92
    refine ⟨fun n l1 l2 τ => n = (σ.2.2.1 76 (a1.toNatClampNeg + 1) - l2).toNatClampNeg ∧ ((l1 = a1 ∧ frS [0, 1, 2, 3, 4, 5, 6, 7, 8, 9, 10] σ τ ∧ σ.2.2.1 76 a1.toNatClampNeg ≤ l2 ∧ l2 ≤ σ.2.2.1 76 (a1.toNatClampNeg + 1) ∧ ∃ S, siG (prS (wD σ) s * (tTI σ a1.toNatClampNeg).toNat) τ l2.toNatClampNeg S) ∧ hS τ (smW8 (fwW8 σ a1.toNatClampNeg) (l2.toNatClampNeg - loW8 (trW8 σ) a1.toNatClampNeg))), ⟨_, rfl, ?_⟩, ?_⟩
    · refine and_5 ?_ (fun o9 => ?_)  -- j9
      · clear h; rw [hx13, q12.1.2.2.1 76 (by decide) (by decide)]
        exact ⟨rfl, frS_mono q12.1 (sub_of rfl), Int32.le_refl _, st.2.1, 0, siG_mono (siG_0 q12.2) (Nat.zero_le _)⟩
      · clear o9
        rw [hx13, q12.1.2.2.1 76 (by decide) (by decide), show (σ.2.2.1 76 a1.toNatClampNeg).toNatClampNeg - loW8 (trW8 σ) a1.toNatClampNeg = 0 from Nat.sub_self _]
        exact q12.2
    rintro n92 x92_1 x92_2 σ92 ⟨hn92, i92, hE⟩
    obtain ⟨e1, F, w1, w2, S, J⟩ := i92
    have f76 := F.2.2.1 76 (by decide) (by decide)
    have f79 := F.2.2.1 79 (by decide) (by decide)
    have f80 := F.2.2.1 80 (by decide) (by decide)
    have f82 := F.2.2.1 82 (by decide) (by decide)
    have i20 : x92_2.toNatClampNeg ≤ 20000 := cn_le (y := 20000) rfl (Int32.le_trans w2 hi2)
    rw [e1, f76, st.2.2.2.1]
    refine ⟨ib_1001.mpr ?_, ?_⟩
    · clear h; exact ⟨st.2.2.2.2.2.1, st.2.2.2.2.2.2⟩  -- b10
    refine ⟨fun c14 => ?_, fun c14 => ?_⟩
    · skip
      refine ⟨ib_1000.mpr ?_, ?_⟩
      · clear h; exact ⟨h0, k1⟩  -- b11
      intro x15 hx15
      refine ⟨fun c16 => ?_, fun c16 => ?_⟩
      · skip
        refine h _ ?_
        · refine and_5 ?_ (fun o9 => ?_)  -- q12
          · clear h; have L := siG_L M.1 M.2 (by omega) J
            exact ⟨frZ_S F, L.1, L.2.1, L.2.2.1, L.2.2.2.2.2, fun z => absurd c10 z⟩
          · clear o9
            have e0 : x15 = 0 := lgc0.mp c16
            have e2 : x92_2 = σ.2.2.1 76 (a1.toNatClampNeg + 1) := Int32.le_antisymm w2 c14
            have g0 : (σ.2.2.1 82 a1.toNatClampNeg).toInt = 0 := by
              have y := congrArg Int64.toInt (hx15.symm.trans e0)
              rw [Int32.toInt_toInt64, f82] at y
              exact y.trans rfl
            rw [e2] at hE
            refine ⟨?_, fun z => absurd c10 z⟩
            rw [ws_r8 c10, g0, show ((0 : Int) : Rat) = 0 from rfl, Rat.add_zero]
            exact hE
      · skip
        refine ⟨fun c17 => ?_, fun c17 => ?_⟩
        · skip
          refine hj177 _ _ _ _ ?_
          · refine and_5 ?_ (fun o9 => ?_)  -- k13
            · clear h; exact ⟨rfl, by rw [hx15]; exact i32_abs, (l64_pos (lg_ge.mp c17)).1, c10, F, S, siG_mono J i20⟩
            · clear o9
              have e2 : x92_2 = σ.2.2.1 76 (a1.toNatClampNeg + 1) := Int32.le_antisymm w2 c14
              rw [e2] at hE
              exact ⟨hE, by rw [hx15, Int32.toInt_toInt64, f82]⟩
        · skip
          refine hj177 _ _ _ _ ?_
          · refine and_5 ?_ (fun o9 => ?_)  -- k14
            · clear h; have hb : x15.toInt.natAbs ≤ 2147483648 := by rw [hx15]; exact i32_abs
              exact ⟨rfl, hb, (l64_neg (fun z => c17 (lg_ge.mpr z)) hb).1, c10, F, S, siG_mono J i20⟩
            · clear o9
              have e2 : x92_2 = σ.2.2.1 76 (a1.toNatClampNeg + 1) := Int32.le_antisymm w2 c14
              rw [e2] at hE
              exact ⟨hE, by rw [hx15, Int32.toInt_toInt64, f82]⟩
    · skip
      have zl := Int32.not_le.mp c14
      have ii := inx x92_2 w1 zl
      have z := u2 ii.1 c14 hi2
      have is := cn_succ ii.1 (Int32.lt_trans z.2.2.2.2.2.2 (by decide))
      refine loadNext_g5 hC  ?_ (fun r18 σ_19 q20 => ?_)
      · clear h; exact ⟨exO_Z hO.1 (frZ_S (k := 0) F), ii.1, by rw [F.1 72 (by decide)]; exact ii.2.1, nxW_Z (frZ_S (k := 0) F) (nw _ w1 zl)⟩  -- p15
      obtain ⟨q20, z9⟩ := q20
      refine isZero_c hC  ?_ (fun r21 q23 => ?_)
      · clear h; exact ⟨by decide, by decide⟩  -- p16
      refine ⟨fun c24 => ?_, fun c24 => ?_⟩
      · skip
        intro x25 hx25
        refine lp_b5 (cn_lt2 hn92 ?_ ?_) (fun d9 => ⟨rfl, ?_⟩)
        · clear h; rw [hx25]; exact z.1  -- d17
        · clear h; rw [hx25]; exact z.2.1  -- d18
        · refine and_5 ?_ (fun o9 => ?_)  -- i19
          · clear h; rw [hx25, is]
            exact ⟨rfl, frS_tr F (frS_mono (frS_of q20.1) (sub_of rfl)), Int32.le_trans w1 z.2.2.2.1, z.2.2.2.2.1, S, siG_mono (siG_N q20.1 (by decide) (by decide) J) (by omega)⟩
          · clear o9
            have iz : nxV8 σ x92_2.toNatClampNeg = 0 := by
              rw [← nxV_f8 (F.2.2.1 77 (by decide) (by decide)) (F.2.2.1 78 (by decide) (by decide)) (F.2.2.1 117 (by decide) (by decide)) (F.2.2.1 118 (by decide) (by decide)), ← z9, fQ_z ((nz_w8 q20.2.1).mp (q23.2.mp c24)), sgq_0]
            have le : loW8 (trW8 σ) a1.toNatClampNeg ≤ x92_2.toNatClampNeg := cn_m8 st.1.1 w1
            rw [hx25, is, show x92_2.toNatClampNeg + 1 - loW8 (trW8 σ) a1.toNatClampNeg = (x92_2.toNatClampNeg - loW8 (trW8 σ) a1.toNatClampNeg) + 1 by omega]
            show hS σ_19 (smW8 (fwW8 σ a1.toNatClampNeg) (x92_2.toNatClampNeg - loW8 (trW8 σ) a1.toNatClampNeg) + fwW8 σ a1.toNatClampNeg (x92_2.toNatClampNeg - loW8 (trW8 σ) a1.toNatClampNeg))
            have ef : fwW8 σ a1.toNatClampNeg (x92_2.toNatClampNeg - loW8 (trW8 σ) a1.toNatClampNeg) = 0 := by
              unfold fwW8
              rw [show loW8 (trW8 σ) a1.toNatClampNeg + (x92_2.toNatClampNeg - loW8 (trW8 σ) a1.toNatClampNeg) = x92_2.toNatClampNeg by omega, iz, Rat.zero_mul]
            rw [ef, Rat.add_zero]
            exact hS_N q20.1 (by decide) (by decide) hE
      · skip
        refine ⟨ib_20000.mpr ?_, ?_⟩
        · clear h; exact ⟨ii.1, ii.2.2⟩  -- b20
        refine ⟨ib_1000.mpr ?_, ?_⟩
        · clear h; exact ⟨h0, k1⟩  -- b21
        have v79 : (σ_19.2.2.1 79 x92_2.toNatClampNeg).toInt64.toInt = twI σ a1.toNatClampNeg x92_2.toNatClampNeg := by
          rw [Int32.toInt_toInt64, q20.1.2.2.1 79 (by decide) (by decide), f79]
          unfold twI
          rw [if_pos c10]
        have v80 : (σ_19.2.2.1 80 a1.toNatClampNeg).toInt64.toInt = tTI σ a1.toNatClampNeg := by
          rw [Int32.toInt_toInt64, q20.1.2.2.1 80 (by decide) (by decide), f80]
          unfold tTI
          rw [if_pos c10]
        have tw := tw_b hO h0 h1 w1 zl
        have fb := fQ_b q20.2.1 q20.2.2.2.1 q20.2.2.2.2.1
        have m7 := nV_lt q20.2.2.1 q20.2.2.2.2.2.1
        have T0 : 0 < (tTI σ a1.toNatClampNeg).toNat := by omega
        refine scale_c hC  ?_ (fun σ_26 q27 => ?_)
        · clear h; exact ⟨q20.2.1, q20.2.2.1, q20.2.2.2.1, l64_0 v79 tw.1, l64_1 v80 tb.1, by have := q20.2.2.2.2.1; omega, by have := q20.2.2.2.2.2.1; omega⟩  -- p22
        rw [v79, v80] at q27
        have q67 := (hR_q q27.2).1
        have d7 : nV σ_19 7 ∣ prS (wD σ) s := by
          by_cases e : σ92.2.2.1 77 x92_2.toNatClampNeg = 0
          · rw [q20.2.2.2.2.2.2.2.2 e, F.2.2.1 78 (by decide) (by decide), (sl_f (m := 16) (F.2.2.1 117 (by decide) (by decide))).1]
            rw [F.2.2.1 77 (by decide) (by decide)] at e
            have n96 := hd _ w1 zl e
            have dd := prS_dvd (D := wD σ) (tgt _ w1 zl e)
            unfold wD at dd
            rw [if_neg n96] at dd
            exact dd
          · rw [q20.2.2.2.2.2.2.2.1 e]; exact Nat.one_dvd _
        have le1 := Rat.mul_le_mul_of_nonneg_left (mk_le1 (w := twI σ a1.toNatClampNeg x92_2.toNatClampNeg) T0 (by omega)) fb.1
        rw [Rat.mul_one] at le1
        have dq : (fQ σ_19 6 7 * mkRat (twI σ a1.toNatClampNeg x92_2.toNatClampNeg) (tTI σ a1.toNatClampNeg).toNat).den ∣ nV σ_19 7 * (tTI σ a1.toNatClampNeg).toNat := Nat.dvd_trans den_mul (Nat.mul_dvd_mul fb.2.2 (den_mk (by omega)))
        have m19 : nV σ_19 7 * (tTI σ a1.toNatClampNeg).toNat < 65536 ^ 18 := by
          rw [show 65536 ^ 18 = 65536 ^ 16 * 65536 ^ 2 from Nat.pow_add 65536 16 2]
          exact Nat.mul_lt_mul'' m7 (by omega)
        have pl := pl_of (a := 18) (b := 16) q27.2 (Nat.mul_pos q20.2.2.2.1 T0) dq m19 (Rat.le_trans le1 fb.2.1)
        have A := siG_add (x := r18) q20.2.2.2.2.2.2.1 M.1 M.2 (by omega) (by omega) (siG_N q27.1 (by decide) (by decide) (siG_N q20.1 (by decide) (by decide) J)) q27.2.1 q27.2.2.1 (hR_q q27.2).2 (by have := pl.2; omega) (by have := pl.1; omega) (by rw [q67]; exact Rat.le_trans le1 (Rat.le_trans fb.2.1 p16_wB)) (by rw [q67]; exact Nat.dvd_trans dq (Nat.mul_dvd_mul d7 (Nat.dvd_refl _)))
        refine add_c hC  ?_ (fun σ_28 q29 => ?_)
        · clear h; exact A.1  -- p23
        intro x30 hx30
        refine lp_b5 (cn_lt2 hn92 ?_ ?_) (fun d9 => ⟨rfl, ?_⟩)
        · clear h; rw [hx30]; exact z.1  -- d24
        · clear h; rw [hx30]; exact z.2.1  -- d25
        · refine and_5 ?_ (fun o9 => ?_)  -- i26
          · clear h; rw [hx30, is]
            exact ⟨rfl, frS_tr F (frS_tr (frS_mono (frS_of q20.1) (sub_of rfl)) (frS_tr (frS_mono (frS_of q27.1) (sub_of rfl)) (frS_mono q29.1 (sub_of rfl)))), Int32.le_trans w1 z.2.2.2.1, z.2.2.2.2.1, _, A.2 _ q29.2⟩
          · clear o9
            have B := (A.2 _ q29.2).1
            have le : loW8 (trW8 σ) a1.toNatClampNeg ≤ x92_2.toNatClampNeg := cn_m8 st.1.1 w1
            have et : twI σ a1.toNatClampNeg x92_2.toNatClampNeg = (σ.2.2.1 79 x92_2.toNatClampNeg).toInt := if_pos c10
            have eT : tTI σ a1.toNatClampNeg = (σ.2.2.1 80 a1.toNatClampNeg).toInt := if_pos c10
            rw [q67, sgq_x8, z9, nxV_f8 (F.2.2.1 77 (by decide) (by decide)) (F.2.2.1 78 (by decide) (by decide)) (F.2.2.1 117 (by decide) (by decide)) (F.2.2.1 118 (by decide) (by decide)), hS_u8 J.1 hE, et, eT] at B
            rw [hx30, is, show x92_2.toNatClampNeg + 1 - loW8 (trW8 σ) a1.toNatClampNeg = (x92_2.toNatClampNeg - loW8 (trW8 σ) a1.toNatClampNeg) + 1 by omega]
            show hS σ_28 (smW8 (fwW8 σ a1.toNatClampNeg) (x92_2.toNatClampNeg - loW8 (trW8 σ) a1.toNatClampNeg) + fwW8 σ a1.toNatClampNeg (x92_2.toNatClampNeg - loW8 (trW8 σ) a1.toNatClampNeg))
            have ef : fwW8 σ a1.toNatClampNeg (x92_2.toNatClampNeg - loW8 (trW8 σ) a1.toNatClampNeg) = nxV8 σ x92_2.toNatClampNeg * mkRat (σ.2.2.1 79 x92_2.toNatClampNeg).toInt (σ.2.2.1 80 a1.toNatClampNeg).toInt.toNat := by
              unfold fwW8
              rw [show loW8 (trW8 σ) a1.toNatClampNeg + (x92_2.toNatClampNeg - loW8 (trW8 σ) a1.toNatClampNeg) = x92_2.toNatClampNeg by omega]
            rw [ef]
            exact B
  · skip
    refine ⟨ib_1000.mpr ?_, ?_⟩
    · clear h; exact ⟨h0, k1⟩  -- b27
    intro σ_31 hσ_31
    refine ⟨ib_1001.mpr ?_, ?_⟩
    · clear h; exact ⟨h0, Int32.lt_trans k1 (by decide)⟩  -- b28
    refine takeNext_g5 hC  ?_ (fun σ_32 q33 => ?_)
    · clear h; have Z : frZ a1.toNatClampNeg σ σ_31 := by rw [hσ_31]; exact frZ_1
      rw [Z.2.2.1 76 (by decide) (by decide) (by decide)]
      have ii := inx _ (Int32.le_refl _) lohi
      exact ⟨exO_Z hO.1 Z, ii.1, by rw [Z.1 72 (by decide)]; exact ii.2.1, nxW_Z Z (nw _ (Int32.le_refl _) lohi)⟩
    obtain ⟨q33, z9⟩ := q33
    have Z : frZ a1.toNatClampNeg σ σ_31 := by rw [hσ_31]; exact frZ_1
    have Z2 := frZ_tr Z (frZ_S (k := a1.toNatClampNeg) q33.1)
    have z119 : σ_32.2.2.1 119 a1.toNatClampNeg = 0 := by rw [q33.1.2.2.1 119 (by decide) (by decide), hσ_31, ri34, if_pos rfl, if_pos rfl]
    refine ⟨ib_1001.mpr ?_, ?_⟩
    · clear h; exact ⟨h0, Int32.lt_trans k1 (by decide)⟩  -- b30
    intro x34 hx34
    unfold w_findWorth_35
    refine ⟨fun n l1 l2 τ => n = (σ.2.2.1 76 (a1.toNatClampNeg + 1) - l2).toNatClampNeg ∧ ((l1 = a1 ∧ frZ a1.toNatClampNeg σ τ ∧ σ.2.2.1 76 a1.toNatClampNeg < l2 ∧ l2 ≤ σ.2.2.1 76 (a1.toNatClampNeg + 1) ∧ numO τ 4 ∧ numO τ 5 ∧ 0 < nV τ 5 ∧ nL τ 4 ≤ 400 ∧ nL τ 5 ≤ 400 ∧ (τ.1 92 = 1 ∨ τ.1 92 = -1) ∧ 0 ≤ τ.2.2.1 119 a1.toNatClampNeg ∧ τ.2.2.1 119 a1.toNatClampNeg < σ.2.2.1 76 (a1.toNatClampNeg + 1) - σ.2.2.1 76 a1.toNatClampNeg) ∧ τ.2.2.1 119 a1.toNatClampNeg = Int32.ofNat (biW8 (fcW8 σ a1.toNatClampNeg) (l2.toNatClampNeg - loW8 (trW8 σ) a1.toNatClampNeg - 1)) ∧ hS τ (fcW8 σ a1.toNatClampNeg (biW8 (fcW8 σ a1.toNatClampNeg) (l2.toNatClampNeg - loW8 (trW8 σ) a1.toNatClampNeg - 1)))), ⟨_, rfl, ?_⟩, ?_⟩
    · refine and_5 ?_ (fun o9 => ?_)  -- j31
      · clear h; rw [hx34, Z2.2.2.1 76 (by decide) (by decide) (by decide)]
        have pj := pl_j st.1.1 lohi hi2
        exact ⟨rfl, Z2, pj.1, pj.2.1, q33.2.1, q33.2.2.1, q33.2.2.2.1, q33.2.2.2.2.1, q33.2.2.2.2.2.1, q33.2.2.2.2.2.2, by rw [z119]; decide, by rw [z119]; exact pj.2.2⟩
      · clear o9
        have e34 : x34.toNatClampNeg = loW8 (trW8 σ) a1.toNatClampNeg + 1 := by
          rw [hx34, Z2.2.2.1 76 (by decide) (by decide) (by decide)]
          exact cn_succ st.1.1 (Int32.lt_trans (Int32.lt_of_lt_of_le lohi hi2) (by decide))
        rw [e34, show loW8 (trW8 σ) a1.toNatClampNeg + 1 - loW8 (trW8 σ) a1.toNatClampNeg - 1 = 0 by omega]
        refine ⟨z119, ?_⟩
        rw [nxV_f8 (Z.2.2.1 77 (by decide) (by decide) (by decide)) (Z.2.2.1 78 (by decide) (by decide) (by decide)) (Z.2.2.1 117 (by decide) (by decide) (by decide)) (Z.2.2.1 118 (by decide) (by decide) (by decide)), Z.2.2.1 76 (by decide) (by decide) (by decide)] at z9
        exact z9
    rintro n35 x35_1 x35_2 σ35 ⟨hn35, i35, hE⟩
    obtain ⟨e1, Z3, w1, w2, o4, o5, p5, l4, l5, sg, n0, n1⟩ := i35
    rw [e1, Z3.2.2.1 76 (by decide) (by decide) (by decide), st.2.2.2.1]
    refine ⟨ib_1001.mpr ?_, ?_⟩
    · clear h; exact ⟨st.2.2.2.2.2.1, st.2.2.2.2.2.2⟩  -- b32
    refine ⟨fun c35 => ?_, fun c35 => ?_⟩
    · skip
      refine h _ ?_
      · refine and_5 ?_ (fun o9 => ?_)  -- q33
        · clear h; exact ⟨Z3, o4, o5, p5, sg, fun _ => ⟨n0, n1⟩⟩
        · clear o9
          have e2 : x35_2 = σ.2.2.1 76 (a1.toNatClampNeg + 1) := Int32.le_antisymm w2 c35
          rw [e2] at hE
          refine ⟨?_, fun _ => hE.1⟩
          rw [ws_q8 c10]
          exact hE.2
    · skip
      have zl := Int32.not_le.mp c35
      have pi := pl_i st.1.1 w1 zl hi2
      have ii := inx x35_2 pi.2.2.2 zl
      have z := u2 ii.1 c35 hi2
      have pk := pl_k ii.1 zl hi2
      refine isGreater_g5 hC _ hE.2 ?_ (fun r36 σ_37 q38 => ?_)
      · clear h; exact ⟨exO_Z hO.1 Z3, ii.1, by rw [Z3.1 72 (by decide)]; exact ii.2.1, nxW_Z Z3 (nw _ pi.2.2.2 zl), o4, o5, l4, l5⟩  -- p34
      obtain ⟨q38, z9⟩ := q38
      have zg := z9
      have Z4 := frZ_tr Z3 (frZ_S (k := a1.toNatClampNeg) (frS_of q38.1))
      have g4 := nV_fr q38.1 (k := 4) (by decide) o4
      have g5 := nV_fr q38.1 (k := 5) (by decide) o5
      refine ⟨fun c39 => ?_, fun c39 => ?_⟩
      · skip
        intro x40 hx40
        refine lp_b5 (cn_lt2 hn35 ?_ ?_) (fun d9 => ⟨rfl, ?_⟩)
        · clear h; rw [hx40]; exact z.1  -- d35
        · clear h; rw [hx40]; exact z.2.1  -- d36
        · refine and_5 ?_ (fun o9 => ?_)  -- i37
          · clear h; rw [hx40]
            exact ⟨rfl, Z4, Int32.lt_trans w1 pk.1, pk.2, g4.1, g5.1, by rw [g5.2.1]; exact p5, by rw [g4.2.2]; exact l4, by rw [g5.2.2]; exact l5, by rw [q38.1.1]; exact sg, by rw [q38.1.2.2.1 119 (by decide) (by decide)]; exact n0, by rw [q38.1.2.2.1 119 (by decide) (by decide)]; exact n1⟩
          · clear o9
            have lt : loW8 (trW8 σ) a1.toNatClampNeg < x35_2.toNatClampNeg := cn_lt st.1.1 w1
            have e40 : x40.toNatClampNeg = x35_2.toNatClampNeg + 1 := by rw [hx40]; exact cn_succ ii.1 (Int32.lt_trans z.2.2.2.2.2.2 (by decide))
            have e : fcW8 σ a1.toNatClampNeg (x35_2.toNatClampNeg - loW8 (trW8 σ) a1.toNatClampNeg - 1 + 1) = nxV8 σ35 x35_2.toNatClampNeg := by
              rw [nxV_f8 (Z3.2.2.1 77 (by decide) (by decide) (by decide)) (Z3.2.2.1 78 (by decide) (by decide) (by decide)) (Z3.2.2.1 117 (by decide) (by decide) (by decide)) (Z3.2.2.1 118 (by decide) (by decide) (by decide))]
              unfold fcW8
              rw [show loW8 (trW8 σ) a1.toNatClampNeg + (x35_2.toNatClampNeg - loW8 (trW8 σ) a1.toNatClampNeg - 1 + 1) = x35_2.toNatClampNeg by omega]
            have no : ¬ fcW8 σ a1.toNatClampNeg (biW8 (fcW8 σ a1.toNatClampNeg) (x35_2.toNatClampNeg - loW8 (trW8 σ) a1.toNatClampNeg - 1)) < fcW8 σ a1.toNatClampNeg (x35_2.toNatClampNeg - loW8 (trW8 σ) a1.toNatClampNeg - 1 + 1) := fun y => by
              rw [e] at y
              exact zg.mpr y c39
            rw [show x40.toNatClampNeg - loW8 (trW8 σ) a1.toNatClampNeg - 1 = x35_2.toNatClampNeg - loW8 (trW8 σ) a1.toNatClampNeg - 1 + 1 by omega, bi_n8 no, q38.1.2.2.1 119 (by decide) (by decide)]
            exact ⟨hE.1, hS_N q38.1 (by decide) (by decide) hE.2⟩
      · skip
        refine ⟨ib_1001.mpr ?_, ?_⟩
        · clear h; exact ⟨h0, Int32.lt_trans k1 (by decide)⟩  -- b38
        refine ⟨ib_1000.mpr ?_, ?_⟩
        · clear h; exact ⟨h0, k1⟩  -- b39
        intro σ_41 hσ_41
        refine takeNext_g5 hC  ?_ (fun σ_42 q43 => ?_)
        · clear h; have Z5 : frZ a1.toNatClampNeg σ σ_41 := frZ_tr Z4 (by rw [hσ_41]; exact frZ_1)
          exact ⟨exO_Z hO.1 Z5, ii.1, by rw [Z5.1 72 (by decide)]; exact ii.2.1, nxW_Z Z5 (nw _ pi.2.2.2 zl)⟩
        obtain ⟨q43, z9⟩ := q43
        intro x44 hx44
        refine lp_b5 (cn_lt2 hn35 ?_ ?_) (fun d9 => ⟨rfl, ?_⟩)
        · clear h; rw [hx44]; exact z.1  -- d41
        · clear h; rw [hx44]; exact z.2.1  -- d42
        · refine and_5 ?_ (fun o9 => ?_)  -- i43
          · clear h; have Z5 : frZ a1.toNatClampNeg σ σ_41 := frZ_tr Z4 (by rw [hσ_41]; exact frZ_1)
            have v119 : σ_42.2.2.1 119 a1.toNatClampNeg = x35_2 - σ.2.2.1 76 a1.toNatClampNeg := by rw [q43.1.2.2.1 119 (by decide) (by decide), hσ_41, ri34, if_pos rfl, if_pos rfl, Z4.2.2.1 76 (by decide) (by decide) (by decide)]
            rw [hx44]
            exact ⟨rfl, frZ_tr Z5 (frZ_S q43.1), Int32.lt_trans w1 pk.1, pk.2, q43.2.1, q43.2.2.1, q43.2.2.2.1, q43.2.2.2.2.1, q43.2.2.2.2.2.1, q43.2.2.2.2.2.2, by rw [v119]; exact pi.1, by rw [v119]; exact pi.2.1⟩
          · clear o9
            have lt : loW8 (trW8 σ) a1.toNatClampNeg < x35_2.toNatClampNeg := cn_lt st.1.1 w1
            have e44 : x44.toNatClampNeg = x35_2.toNatClampNeg + 1 := by rw [hx44]; exact cn_succ ii.1 (Int32.lt_trans z.2.2.2.2.2.2 (by decide))
            have e : fcW8 σ a1.toNatClampNeg (x35_2.toNatClampNeg - loW8 (trW8 σ) a1.toNatClampNeg - 1 + 1) = nxV8 σ x35_2.toNatClampNeg := by
              unfold fcW8
              rw [show loW8 (trW8 σ) a1.toNatClampNeg + (x35_2.toNatClampNeg - loW8 (trW8 σ) a1.toNatClampNeg - 1 + 1) = x35_2.toNatClampNeg by omega]
            have Z5 : frZ a1.toNatClampNeg σ σ_41 := frZ_tr Z4 (by rw [hσ_41]; exact frZ_1)
            have yes : fcW8 σ a1.toNatClampNeg (biW8 (fcW8 σ a1.toNatClampNeg) (x35_2.toNatClampNeg - loW8 (trW8 σ) a1.toNatClampNeg - 1)) < fcW8 σ a1.toNatClampNeg (x35_2.toNatClampNeg - loW8 (trW8 σ) a1.toNatClampNeg - 1 + 1) := by
              rw [e, ← nxV_f8 (Z3.2.2.1 77 (by decide) (by decide) (by decide)) (Z3.2.2.1 78 (by decide) (by decide) (by decide)) (Z3.2.2.1 117 (by decide) (by decide) (by decide)) (Z3.2.2.1 118 (by decide) (by decide) (by decide))]
              exact zg.mp c39
            have v119 : σ_42.2.2.1 119 a1.toNatClampNeg = x35_2 - σ.2.2.1 76 a1.toNatClampNeg := by rw [q43.1.2.2.1 119 (by decide) (by decide), hσ_41, ri34, if_pos rfl, if_pos rfl, Z4.2.2.1 76 (by decide) (by decide) (by decide)]
            rw [show x44.toNatClampNeg - loW8 (trW8 σ) a1.toNatClampNeg - 1 = x35_2.toNatClampNeg - loW8 (trW8 σ) a1.toNatClampNeg - 1 + 1 by omega, bi_p8 yes]
            refine ⟨?_, ?_⟩
            · rw [v119, sub_n8 st.1.1 w1 ii.2.2, show (σ.2.2.1 76 a1.toNatClampNeg).toNatClampNeg = loW8 (trW8 σ) a1.toNatClampNeg from rfl, show x35_2.toNatClampNeg - loW8 (trW8 σ) a1.toNatClampNeg - 1 + 1 = x35_2.toNatClampNeg - loW8 (trW8 σ) a1.toNatClampNeg by omega]
            · rw [nxV_f8 (Z5.2.2.1 77 (by decide) (by decide) (by decide)) (Z5.2.2.1 78 (by decide) (by decide) (by decide)) (Z5.2.2.1 117 (by decide) (by decide) (by decide)) (Z5.2.2.1 118 (by decide) (by decide) (by decide))] at z9
              rw [e]
              exact z9

end
