set_option maxHeartbeats 1600000
/-! the reference: a ring is laid -/
theorem l64_add {x y : Int64} {a b : Int} (hx : x.toInt = a) (hy : y.toInt = b) (a0 : 0 ≤ a) (a1 : a ≤ 800000000000000) (b0 : 0 ≤ b) (b1 : b ≤ 800000000000000) : (x + y).toInt = a + b := by
  rw [Int64.toInt_add, hx, hy]
  exact Int.bmod_eq_of_le (by omega) (by omega)
theorem l64_sub {x y : Int64} {a b : Int} (hx : x.toInt = a) (hy : y.toInt = b) (a0 : -800000000000000 ≤ a) (a1 : a ≤ 800000000000000) (b0 : 0 ≤ b) (b1 : b ≤ 800000000000000) : (x - y).toInt = a - b := by
  rw [Int64.toInt_sub, hx, hy]
  exact Int.bmod_eq_of_le (by omega) (by omega)
theorem l64_0 {x : Int64} {a : Int} (h : x.toInt = a) (h0 : 0 ≤ a) : 0 ≤ x := Int64.le_iff_toInt_le.mpr (by rw [h, Int64.toInt_zero]; exact h0)
theorem l64_1 {x : Int64} {a : Int} (h : x.toInt = a) (h0 : 1 ≤ a) : 0 < x := Int64.lt_iff_toInt_lt.mpr (by rw [h, Int64.toInt_zero]; omega)
theorem tot_I {σ : rS} {a : Int32} {v : Int64} (h : (rd σ 81 a = 0 → v = (rd σ 80 a).toInt64) ∧ (rd σ 81 a ≠ 0 → v = 1)) : v.toInt = tTI σ a.toNatClampNeg := by
  unfold tTI
  split
  · rename_i e; rw [h.1 e, Int32.toInt_toInt64]
  · rename_i e; rw [h.2 e]; rfl
theorem tT_f {σ τ : rS} {s : Nat} (h1 : τ.2.2.1 80 = σ.2.2.1 80) (h2 : τ.2.2.1 81 = σ.2.2.1 81) : tTI τ s = tTI σ s := by
  unfold tTI
  rw [h1, h2]
theorem stF_0 {m i j : Nat} : stF m 0 i j = 0 := by
  unfold stF
  split <;> exact Nat.zero_min _
theorem wc_0 {σ : rS} {s i : Nat} {t : Int32} (h : ¬ (σ.2.2.1 77 i = 0 ∧ σ.2.2.1 78 i = t)) : wcI σ s t i = 0 := by
  unfold wcI
  rw [if_neg h]
theorem wc_n {σ : rS} {s : Nat} {t i : Int32} (h0 : 0 ≤ i) (h1 : 0 ≤ σ.2.2.1 76 s + σ.2.2.1 83 s) (h2 : σ.2.2.1 81 s ≠ 0) (h : i ≠ σ.2.2.1 76 s + σ.2.2.1 83 s) : wcI σ s t i.toNatClampNeg = 0 := by
  unfold wcI twI
  rw [if_neg h2, if_neg (cn_d h0 h1 h)]
  split <;> rfl
theorem wc_w {σ : rS} {s : Nat} {t i : Int32} {v : Int64} (h77 : σ.2.2.1 77 i.toNatClampNeg = 0) (h78 : σ.2.2.1 78 i.toNatClampNeg = t) (ht : σ.2.2.1 81 s = 0 ∨ i = σ.2.2.1 76 s + σ.2.2.1 83 s) (h1 : σ.2.2.1 81 s = 0 → v = (σ.2.2.1 79 i.toNatClampNeg).toInt64) (h2 : σ.2.2.1 81 s ≠ 0 → v = 1) : v.toInt = wcI σ s t i.toNatClampNeg := by
  unfold wcI twI
  rw [if_pos ⟨h77, h78⟩]
  split
  · rename_i e; rw [h1 e, Int32.toInt_toInt64]
  · rename_i e; rw [h2 e, if_pos (by rw [ht.resolve_left e])]; rfl
/-- where a plan points -/
theorem pl_at {σ : rS} {j : Int32} (h : pOK σ) (j0 : 0 ≤ j) (j1 : j < σ.1 70) (e : σ.2.2.1 81 j.toNatClampNeg ≠ 0) : 0 ≤ σ.2.2.1 76 j.toNatClampNeg + σ.2.2.1 83 j.toNatClampNeg := by
  have s1 := (h.1.2.2.2.1 j j0 j1).1
  have st := ex_st h.1 j0 j1
  have p := h.2 j j0 j1 e
  rw [rd, rd, rd, st.2.2.2.1] at p
  rw [rd, rd, st.2.2.2.1] at s1
  exact (sub_n s1.1 s1.2.1 (Int32.le_trans s1.2.2 h.1.2.2.1.2) p.1 p.2).2.2.1
theorem layRing_c {C : rCx} (hC : cOK C) (m : Nat) {σ : rS}  {Q : rS → Prop} (hp : pOK σ ∧ 0 < σ.1 100 ∧ σ.1 100 ≤ 32 ∧ m = (σ.1 100).toNatClampNeg ∧ mbO σ m) (h : ∀ (σ' : rS), (frK [0, 1, 2, 3, 6, 7] 0 (260 * 1056) σ σ' ∧ fdJ σ' (rP σ m) m (stF m 0) m) → Q σ') : cV C 5 m_layRing [.ref (co C)] σ Q := by
  refine m_layRing_run hC ?_
  unfold w_layRing_0
  obtain ⟨hO, h0, h1, hm, hM⟩ := hp
  have m32 : m ≤ 32 := by rw [hm]; exact cn_le (y := 32) rfl h1
  unfold w_layRing_2
  refine ⟨fun n l1 τ => n = (σ.1 100 - l1).toNatClampNeg ∧ (frK [0, 1, 2, 3, 6, 7] 0 (260 * 1056) σ τ ∧ 0 ≤ l1 ∧ l1 ≤ σ.1 100 ∧ (∀ i j, i < l1.toNatClampNeg → j < m → hL τ (32 * i + j) (rP σ m i j)) ∧ (∀ i, i < l1.toNatClampNeg → hL τ (1024 + i) (rP σ m i m))), ⟨_, rfl, ?_⟩, ?_⟩
  · clear h; exact ⟨frK_refl, by decide, Int32.le_of_lt h0, fun i j hi => absurd hi (Nat.not_lt_zero i), fun i hi => absurd hi (Nat.not_lt_zero i)⟩  -- j1
  rintro n2 x2_1 σ2 ⟨hn2, i2⟩
  obtain ⟨F, a0, a1, R, S⟩ := i2
  have e100 := F.1 100 (by decide)
  have e99 := F.2.2.1 99 (by decide) (by decide) (by decide)
  rw [e100]
  refine ⟨fun c1 => ?_, fun c1 => ?_⟩
  · skip
    refine h _ ?_
    · clear h; have e : x2_1 = σ.1 100 := Int32.le_antisymm a1 c1
      rw [e, ← hm] at R S
      refine ⟨F, fun i j hi hj => ?_, fun i hi => ?_, fun l z1 z2 => absurd z2 (by omega)⟩
      · rw [stF_0]; exact R i j hi hj
      · rw [stF_0]; exact S i hi
  · skip
    have u := uk a0 c1 (Int32.le_trans h1 (by decide))
    have am : x2_1.toNatClampNeg < m := by rw [hm]; exact cn_lt a0 u.2.2.2.2.1
    have a32 : x2_1 < 32 := Int32.lt_of_lt_of_le u.2.2.2.2.1 h1
    have k := hM.1 x2_1.toNatClampNeg am
    have k1 := Int32.lt_of_lt_of_le k.2 hO.1.1.2
    have st := ex_st hO.1 k.1 k.2
    have tb := tT_b hO k.1 k.2
    have as := cn_succ a0 (Int32.lt_trans u.2.2.2.2.2 (by decide))
    have e80 := F.2.2.1 80 (by decide) (by decide) (by decide)
    have e81 := F.2.2.1 81 (by decide) (by decide) (by decide)
    refine ⟨ib_1000.mpr ?_, ?_⟩
    · clear h; exact ⟨a0, u.2.2.2.2.2⟩  -- b3
    intro x2 hx2
    refine totalOf_c hC  ?_ (fun r3 q5 => ?_)
    · clear h; rw [hx2, e99]; exact ⟨k.1, k1⟩  -- p4
    unfold w_layRing_26
    refine ⟨fun n l1 l2 l3 l5 τ => n = (σ.1 100 - l5).toNatClampNeg ∧ (l1 = x2_1 ∧ l2 = σ.2.2.1 99 x2_1.toNatClampNeg ∧ frK [0, 1, 2, 3, 6, 7] 0 (260 * 1056) σ τ ∧ 0 ≤ l5 ∧ l5 ≤ σ.1 100 ∧ (∀ i j, i < x2_1.toNatClampNeg → j < m → hL τ (32 * i + j) (rP σ m i j)) ∧ (∀ i, i < x2_1.toNatClampNeg → hL τ (1024 + i) (rP σ m i m)) ∧ (∀ j, j < l5.toNatClampNeg → hL τ (32 * x2_1.toNatClampNeg + j) (rP σ m x2_1.toNatClampNeg j)) ∧ l3.toInt = tTI σ (mN σ x2_1.toNatClampNeg) - sI (fun b => wKI σ (mN σ x2_1.toNatClampNeg) (σ.2.2.1 99 b)) l5.toNatClampNeg), ⟨_, rfl, ?_⟩, ?_⟩
    · clear h; refine ⟨rfl, by rw [hx2, e99], F, by decide, Int32.le_of_lt h0, R, S, fun j hj => absurd hj (Nat.not_lt_zero j), ?_⟩
      rw [tot_I q5, tT_f e80 e81, hx2, e99]
      exact (Int.sub_zero _).symm
    rintro n26 x26_1 x26_2 x26_3 x26_5 σ26 ⟨hn26, i26⟩
    obtain ⟨f1, f2, G, b0, b1, R2, S2, X2, L⟩ := i26
    have g100 := G.1 100 (by decide)
    have g80 := G.2.2.1 80 (by decide) (by decide) (by decide)
    have g81 := G.2.2.1 81 (by decide) (by decide) (by decide)
    have g76 := G.2.2.1 76 (by decide) (by decide) (by decide)
    have g77 := G.2.2.1 77 (by decide) (by decide) (by decide)
    have g78 := G.2.2.1 78 (by decide) (by decide) (by decide)
    have g79 := G.2.2.1 79 (by decide) (by decide) (by decide)
    have g83 := G.2.2.1 83 (by decide) (by decide) (by decide)
    have g99 := G.2.2.1 99 (by decide) (by decide) (by decide)
    have o := ixc (c := 1024) (by decide) (by decide) a0 a32
    have o2 : (1024 + x2_1).toNatClampNeg = 1024 + x2_1.toNatClampNeg := o.2.1
    rw [g100]
    refine ⟨fun c6 => ?_, fun c6 => ?_⟩
    · skip
      refine totalOf_c hC  ?_ (fun r7 q9 => ?_)
      · clear h; rw [f2]; exact ⟨k.1, k1⟩  -- p6
      have e : x26_5 = σ.1 100 := Int32.le_antisymm b1 c6
      rw [e, ← hm] at L X2
      have s7 := tot_I q9
      rw [tT_f g80 g81, f2] at s7
      have wm := (wK_m (M := σ.2.2.1 99) (m := m) hM.2 hO k.1 k.2).1
      have L2 : x26_3.toInt = rK σ m x2_1.toNatClampNeg m := by unfold rK; rw [if_pos rfl]; exact L
      have rb := rK_b hO hM am (Or.inr rfl)
      refine keepSmall_c hC  ?_ (fun σ_10 q11 => ?_)
      · clear h; rw [f1]
        exact ⟨o.1.1, o.1.2, l64_0 L2 rb.1, l64_1 s7 tb.1⟩
      rw [f1, o2] at q11
      rw [L2, s7] at q11
      intro x12 hx12
      refine ⟨_, cn_lt2 hn2 ?_ ?_, rfl, ?_⟩
      · clear h; rw [hx12, f1]; exact u.1  -- d8
      · clear h; rw [hx12, f1]; exact u.2.1  -- d9
      · clear h; rw [hx12, f1, as]
        refine ⟨frK_tr G (frK_w q11.1 (fun k hk => hk) (by omega) (by omega)), u.2.2.1, u.2.2.2.1, fun i j hi hj => ?_, fun i hi => ?_⟩
        · by_cases e : i = x2_1.toNatClampNeg
          · rw [e]; exact hL_K q11.1 (by omega) (X2 j hj)
          · exact hL_K q11.1 (by omega) (R2 i j (by omega) hj)
        · by_cases e : i = x2_1.toNatClampNeg
          · rw [e]; exact q11.2
          · exact hL_K q11.1 (by omega) (S2 i (by omega))
    · skip
      have v := uk b0 c6 (Int32.le_trans h1 (by decide))
      have bm : x26_5.toNatClampNeg < m := by rw [hm]; exact cn_lt b0 v.2.2.2.2.1
      have b32 : x26_5 < 32 := Int32.lt_of_lt_of_le v.2.2.2.2.1 h1
      have bs := cn_succ b0 (Int32.lt_trans v.2.2.2.2.2 (by decide))
      have x5 := ixs a0 a32 b0 b32
      have hi2 := Int32.le_trans st.2.2.1 hO.1.2.2.1.2
      refine ⟨ib_1001.mpr ?_, ?_⟩
      · clear h; rw [f2]; exact ⟨k.1, Int32.lt_trans k1 (by decide)⟩  -- b11
      intro x13 hx13
      unfold w_layRing_46
      refine ⟨fun n l1 l2 l3 l5 l6 l8 τ => n = (σ.2.2.1 76 (mN σ x2_1.toNatClampNeg + 1) - l8).toNatClampNeg ∧ (l1 = x2_1 ∧ l2 = σ.2.2.1 99 x2_1.toNatClampNeg ∧ l3 = x26_3 ∧ l5 = x26_5 ∧ τ = σ26 ∧ σ.2.2.1 76 (mN σ x2_1.toNatClampNeg) ≤ l8 ∧ l8 ≤ σ.2.2.1 76 (mN σ x2_1.toNatClampNeg + 1) ∧ l6.toInt = wpI σ (mN σ x2_1.toNatClampNeg) (σ.2.2.1 99 x26_5.toNatClampNeg) (l8.toNatClampNeg - loN σ (mN σ x2_1.toNatClampNeg))), ⟨_, rfl, ?_⟩, ?_⟩
      · clear h; rw [hx13, g76, f2]
        refine ⟨f1, rfl, rfl, rfl, rfl, Int32.le_refl _, st.2.1, ?_⟩
        unfold loN mN
        rw [Nat.sub_self]
        rfl
      rintro n46 x46_1 x46_2 x46_3 x46_5 x46_6 x46_8 σ46 ⟨hn46, i46⟩
      have hj110 : ∀ (l1 : Int32) (l2 : Int32) (l3 : Int64) (l5 : Int32) (l8 : Int32) (s0 : Int64) (s1 : Int64) (τ : rS), (l1 = x2_1 ∧ l2 = σ.2.2.1 99 x2_1.toNatClampNeg ∧ l3 = x26_3 ∧ l5 = x26_5 ∧ l8 = x46_8 ∧ τ = σ26 ∧ ¬ σ.2.2.1 76 (mN σ x2_1.toNatClampNeg + 1) ≤ x46_8 ∧ s0 = x46_6 ∧ s1.toInt = wcI σ (mN σ x2_1.toNatClampNeg) (σ.2.2.1 99 x26_5.toNatClampNeg) x46_8.toNatClampNeg) → w_layRing_110 C Q (fun l1' τ => ∃ k < n2, (fun n l1 τ => n = (σ.1 100 - l1).toNatClampNeg ∧ (frK [0, 1, 2, 3, 6, 7] 0 (260 * 1056) σ τ ∧ 0 ≤ l1 ∧ l1 ≤ σ.1 100 ∧ (∀ i j, i < l1.toNatClampNeg → j < m → hL τ (32 * i + j) (rP σ m i j)) ∧ (∀ i, i < l1.toNatClampNeg → hL τ (1024 + i) (rP σ m i m)))) k l1' τ) (fun l1' l2' l3' l5' τ => ∃ k < n26, (fun n l1 l2 l3 l5 τ => n = (σ.1 100 - l5).toNatClampNeg ∧ (l1 = x2_1 ∧ l2 = σ.2.2.1 99 x2_1.toNatClampNeg ∧ frK [0, 1, 2, 3, 6, 7] 0 (260 * 1056) σ τ ∧ 0 ≤ l5 ∧ l5 ≤ σ.1 100 ∧ (∀ i j, i < x2_1.toNatClampNeg → j < m → hL τ (32 * i + j) (rP σ m i j)) ∧ (∀ i, i < x2_1.toNatClampNeg → hL τ (1024 + i) (rP σ m i m)) ∧ (∀ j, j < l5.toNatClampNeg → hL τ (32 * x2_1.toNatClampNeg + j) (rP σ m x2_1.toNatClampNeg j)) ∧ l3.toInt = tTI σ (mN σ x2_1.toNatClampNeg) - sI (fun b => wKI σ (mN σ x2_1.toNatClampNeg) (σ.2.2.1 99 b)) l5.toNatClampNeg)) k l1' l2' l3' l5' τ) (fun l1' l2' l3' l5' l6' l8' τ => ∃ k < n46, (fun n l1 l2 l3 l5 l6 l8 τ => n = (σ.2.2.1 76 (mN σ x2_1.toNatClampNeg + 1) - l8).toNatClampNeg ∧ (l1 = x2_1 ∧ l2 = σ.2.2.1 99 x2_1.toNatClampNeg ∧ l3 = x26_3 ∧ l5 = x26_5 ∧ τ = σ26 ∧ σ.2.2.1 76 (mN σ x2_1.toNatClampNeg) ≤ l8 ∧ l8 ≤ σ.2.2.1 76 (mN σ x2_1.toNatClampNeg + 1) ∧ l6.toInt = wpI σ (mN σ x2_1.toNatClampNeg) (σ.2.2.1 99 x26_5.toNatClampNeg) (l8.toNatClampNeg - loN σ (mN σ x2_1.toNatClampNeg)))) k l1' l2' l3' l5' l6' l8' τ) l1 l2 l3 l5 l8 s0 s1 τ := by
        rintro y110_1 y110_2 y110_3 y110_5 y110_8 y110_s0 y110_s1 τ110 j110
        unfold w_layRing_110
        intro x14 hx14
        intro x15 hx15
        obtain ⟨w1, w2, w3, w4, w5, w6, w7, w8⟩ := i46
        obtain ⟨y1, y2, y3, y4, y5, y6, y7, y8, y9⟩ := j110
        have i0 := Int32.le_trans st.1.1 w6
        have z := u2 i0 y7 hi2
        have is := cn_succ i0 (Int32.lt_trans z.2.2.2.2.2.2 (by decide))
        have lo := cn_l w6 st.1.1
        have hl := cn_lt i0 z.2.2.2.2.2.1
        have hd : x46_8.toNatClampNeg - loN σ (mN σ x2_1.toNatClampNeg) < leN σ (mN σ x2_1.toNatClampNeg) := by unfold leN loN; omega
        have wb := wp_b hO k.1 k.2 (t := σ.2.2.1 99 x26_5.toNatClampNeg) (Nat.le_of_lt hd)
        have wb2 := wp_b hO k.1 k.2 (t := σ.2.2.1 99 x26_5.toNatClampNeg) (Nat.succ_le_of_lt hd)
        have wt := wc_b hO k.1 k.2 (t := σ.2.2.1 99 x26_5.toNatClampNeg) hd
        have el : loN σ (mN σ x2_1.toNatClampNeg) + (x46_8.toNatClampNeg - loN σ (mN σ x2_1.toNatClampNeg)) = x46_8.toNatClampNeg := by unfold loN; omega
        refine ⟨_, cn_lt2 hn46 ?_ ?_, rfl, ?_⟩
        · clear h; rw [hx15, y5]; exact z.1  -- d13
        · clear h; rw [hx15, y5]; exact z.2.1  -- d14
        · clear h; rw [hx15, y5, is]
          refine ⟨y1, y2, y3, y4, y6, Int32.le_trans w6 z.2.2.2.1, z.2.2.2.2.1, ?_⟩
          rw [show x46_8.toNatClampNeg + 1 - loN σ (mN σ x2_1.toNatClampNeg) = x46_8.toNatClampNeg - loN σ (mN σ x2_1.toNatClampNeg) + 1 by unfold loN; omega]
          have wb3 : wpI σ (mN σ x2_1.toNatClampNeg) (σ.2.2.1 99 x26_5.toNatClampNeg) (x46_8.toNatClampNeg - loN σ (mN σ x2_1.toNatClampNeg) + 1) = wpI σ (mN σ x2_1.toNatClampNeg) (σ.2.2.1 99 x26_5.toNatClampNeg) (x46_8.toNatClampNeg - loN σ (mN σ x2_1.toNatClampNeg)) + wcI σ (mN σ x2_1.toNatClampNeg) (σ.2.2.1 99 x26_5.toNatClampNeg) x46_8.toNatClampNeg := by
            show _ + wcI σ _ _ (loN σ _ + _) = _
            rw [el]; rfl
          rw [wb3, hx14, y8]
          refine l64_add w8 y9 wb.1 (Int.le_trans wb.2 (Int.le_trans tb.2 (by decide))) ?_ ?_
          · rw [← el]; exact wt.1
          · have q1 := wb.1
            have q2 := wb2.2
            have q3 : wpI σ (mN σ x2_1.toNatClampNeg) (σ.2.2.1 99 x26_5.toNatClampNeg) (x46_8.toNatClampNeg - loN σ (mN σ x2_1.toNatClampNeg) + 1) ≤ tTI σ (mN σ x2_1.toNatClampNeg) := q2
            have q4 : 0 ≤ wpI σ (mN σ x2_1.toNatClampNeg) (σ.2.2.1 99 x26_5.toNatClampNeg) (x46_8.toNatClampNeg - loN σ (mN σ x2_1.toNatClampNeg)) := q1
            have q5 : tTI σ (mN σ x2_1.toNatClampNeg) ≤ 8000000 := tb.2
            rw [wb3] at q3
            omega
      obtain ⟨w1, w2, w3, w4, w5, w6, w7, w8⟩ := i46
      have i0 := Int32.le_trans st.1.1 w6
      rw [w5, w2, g76, st.2.2.2.1]
      refine ⟨ib_1001.mpr ?_, ?_⟩
      · clear h; exact ⟨st.2.2.2.2.2.1, st.2.2.2.2.2.2⟩  -- b16
      refine ⟨fun c16 => ?_, fun c16 => ?_⟩
      · skip
        refine totalOf_c hC  ?_ (fun r17 q19 => ?_)
        · clear h; exact ⟨k.1, k1⟩  -- p17
        have e8 : x46_8 = σ.2.2.1 76 (mN σ x2_1.toNatClampNeg + 1) := Int32.le_antisymm w7 c16
        have W : x46_6.toInt = wKI σ (mN σ x2_1.toNatClampNeg) (σ.2.2.1 99 x26_5.toNatClampNeg) := by rw [w8, e8]; rfl
        have wb := wp_b hO k.1 k.2 (t := σ.2.2.1 99 x26_5.toNatClampNeg) (Nat.le_refl _)
        have W2 : x46_6.toInt = rK σ m x2_1.toNatClampNeg x26_5.toNatClampNeg := by unfold rK; rw [if_neg (by omega)]; exact W
        have kx : ((32 : Int32) * x46_1) + x46_5 = 32 * x2_1 + x26_5 := by rw [w1, w4]
        have s7 := tot_I q19
        rw [tT_f g80 g81] at s7
        refine keepSmall_c hC  ?_ (fun σ_20 q21 => ?_)
        · clear h; rw [kx]
          exact ⟨x5.1.1, x5.1.2, l64_0 W wb.1, l64_1 s7 tb.1⟩
        rw [kx, x5.2.1, W2, s7] at q21
        intro x22 hx22
        intro x23 hx23
        refine ⟨_, cn_lt2 hn26 ?_ ?_, rfl, ?_⟩
        · clear h; rw [hx23, w4]; exact v.1  -- d19
        · clear h; rw [hx23, w4]; exact v.2.1  -- d20
        · clear h; rw [hx23, w4, bs]
          refine ⟨w1, rfl, frK_tr G (frK_w q21.1 (fun k hk => hk) (by omega) (by omega)), v.2.2.1, v.2.2.2.1, fun i j hi hj => hL_K q21.1 (by omega) (R2 i j hi hj), fun i hi => hL_K q21.1 (by omega) (S2 i hi), fun j hj => ?_, ?_⟩
          · by_cases e : j = x26_5.toNatClampNeg
            · rw [e]; exact q21.2
            · exact hL_K q21.1 (by omega) (X2 j (by omega))
          · rw [hx22, w3]
            have nn : 0 ≤ sI (fun b => wKI σ (mN σ x2_1.toNatClampNeg) (σ.2.2.1 99 b)) x26_5.toNatClampNeg := sI_nn (fun i _ => (wp_b hO k.1 k.2 (Nat.le_refl _)).1)
            have mo : sI (fun b => wKI σ (mN σ x2_1.toNatClampNeg) (σ.2.2.1 99 b)) x26_5.toNatClampNeg ≤ sI (fun b => wKI σ (mN σ x2_1.toNatClampNeg) (σ.2.2.1 99 b)) m := sI_mn (fun i _ => (wp_b hO k.1 k.2 (Nat.le_refl _)).1) (Nat.le_of_lt bm)
            have wm : sI (fun b => wKI σ (mN σ x2_1.toNatClampNeg) (σ.2.2.1 99 b)) m ≤ tTI σ (mN σ x2_1.toNatClampNeg) := (wK_m (M := σ.2.2.1 99) (m := m) hM.2 hO k.1 k.2).1
            have t1 : 1 ≤ tTI σ (mN σ x2_1.toNatClampNeg) ∧ tTI σ (mN σ x2_1.toNatClampNeg) ≤ 8000000 := tb
            have w1' : 0 ≤ wKI σ (mN σ x2_1.toNatClampNeg) (σ.2.2.1 99 x26_5.toNatClampNeg) ∧ wKI σ (mN σ x2_1.toNatClampNeg) (σ.2.2.1 99 x26_5.toNatClampNeg) ≤ tTI σ (mN σ x2_1.toNatClampNeg) := wb
            rw [l64_sub L W (by omega) (by omega) w1'.1 (by omega)]
            show _ = tTI σ (mN σ x2_1.toNatClampNeg) - (sI (fun b => wKI σ (mN σ x2_1.toNatClampNeg) (σ.2.2.1 99 b)) x26_5.toNatClampNeg + wKI σ (mN σ x2_1.toNatClampNeg) (σ.2.2.1 99 x26_5.toNatClampNeg))
            omega
      · skip
        have z := u2 i0 c16 hi2
        rw [g77, g78, g99]
        refine ⟨ib_20000.mpr ?_, ?_⟩
        · clear h; exact ⟨i0, z.2.2.2.2.2.2⟩  -- b22
        refine ⟨fun c24 => ?_, fun c24 => ?_⟩
        · skip
          refine hj110 _ _ _ _ _ _ _ _ ?_
          · clear h; exact ⟨w1, rfl, w3, w4, rfl, rfl, c16, rfl, by rw [wc_0 (fun y => c24 y.1)]; rfl⟩  -- k23
        · skip
          refine ⟨ib_20000.mpr ?_, ?_⟩
          · clear h; exact ⟨i0, z.2.2.2.2.2.2⟩  -- b24
          refine ⟨ib_1000.mpr ?_, ?_⟩
          · clear h; rw [w4]; exact ⟨b0, v.2.2.2.2.2⟩  -- b25
          refine ⟨fun c25 => ?_, fun c25 => ?_⟩
          · skip
            refine hj110 _ _ _ _ _ _ _ _ ?_
            · clear h; exact ⟨w1, rfl, w3, w4, rfl, rfl, c16, rfl, by rw [wc_0 (fun y => c25 (by rw [w4]; exact y.2))]; rfl⟩  -- k26
          · skip
            refine isTaken_c hC  ?_ (fun r26 q28 => ?_)
            · clear h; exact ⟨k.1, k1⟩  -- p27
            have tk := q28.2
            rw [rd, rd, rd, g81, g76, g83] at tk
            refine ⟨fun c29 => ?_, fun c29 => ?_⟩
            · skip
              refine hj110 _ _ _ _ _ _ _ _ ?_
              · clear h; have nt := fun y => (tk.mpr y) c29
                have n81 : σ.2.2.1 81 (σ.2.2.1 99 x2_1.toNatClampNeg).toNatClampNeg ≠ 0 := fun y => nt (Or.inr (Or.inl y))
                exact ⟨w1, rfl, w3, w4, rfl, rfl, c16, rfl, by rw [show mN σ x2_1.toNatClampNeg = (σ.2.2.1 99 x2_1.toNatClampNeg).toNatClampNeg from rfl, wc_n i0 (pl_at hO k.1 k.2 n81) n81 (fun y => nt (Or.inr (Or.inr y)))]; rfl⟩
            · skip
              refine weightOf_c hC  ?_ (fun r30 q32 => ?_)
              · clear h; exact ⟨k.1, k1, i0, z.2.2.2.2.2.2⟩  -- p29
              rw [rd, rd, g81, g79] at q32
              refine hj110 _ _ _ _ _ _ _ _ ?_
              · clear h; rw [w4] at c25
                exact ⟨w1, rfl, w3, w4, rfl, rfl, c16, rfl, wc_w c24 c25 ((tk.mp c29).resolve_left (by decide)) q32.1 q32.2⟩
