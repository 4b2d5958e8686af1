section
set_option maxHeartbeats 1600000
/-! the reference: a ring is laid -/
theorem l64_add {x y : Int64} {a b : Int} (hx : x.toInt = a) (hy : y.toInt = b) (a0 : 0 ≤ a) (a1 : a ≤ 800000000000000) (b0 : 0 ≤ b) (b1 : b ≤ 800000000000000) : (x + y).toInt = a + b := by
  rw [Int64.toInt_add, hx, hy]
  exact Int.bmod_eq_of_le (by omega) (by omega)
theorem l64_sub {x y : Int64} {a b : Int} (hx : x.toInt = a) (hy : y.toInt = b) (a0 : -800000000000000 ≤ a) (a1 : a ≤ 800000000000000) (b0 : 0 ≤ b) (b1 : b ≤ 800000000000000) : (x - y).toInt = a - b := by
  rw [Int64.toInt_sub, hx, hy]
  exact Int.bmod_eq_of_le (by omega) (by omega)
theorem l64_0 {x : Int64} {a : Int} (h : x.toInt = a) (h0 : 0 ≤ a) : 0 ≤ x := Int64.le_iff_toInt_le.mpr (by rw [h, Int64.toInt_zero]; exact h0)
theorem l64_1 {x : Int64} {a : Int} (h : x.toInt = a) (h0 : 1 ≤ a) : 0 < x := Int64.lt_iff_toInt_lt.mpr (by rw [h, Int64.toInt_zero]; omega)
theorem tot_I {σ : rS} {a : Int32} {v : Int64} (h : (rd σ 81 a = 0 → v = (rd σ 80 a).toInt64) ∧ (rd σ 81 a ≠ 0 → v = 1)) : v.toInt = tTI σ a.toNatClampNeg := by
  unfold tTI
  split
  · rename_i e; rw [h.1 e, Int32.toInt_toInt64]
  · rename_i e; rw [h.2 e]; rfl
theorem tT_f {σ τ : rS} {s : Nat} (h1 : τ.2.2.1 80 = σ.2.2.1 80) (h2 : τ.2.2.1 81 = σ.2.2.1 81) : tTI τ s = tTI σ s := by
  unfold tTI
  rw [h1, h2]
theorem stF_0 {m i j : Nat} : stF m 0 i j = 0 := by
  unfold stF
  split <;> exact Nat.zero_min _
theorem wc_0 {σ : rS} {s i : Nat} {t : Int32} (h : ¬ (σ.2.2.1 77 i = 0 ∧ σ.2.2.1 78 i = t)) : wcI σ s t i = 0 := by
  unfold wcI
  rw [if_neg h]
theorem wc_n {σ : rS} {s : Nat} {t i : Int32} (h0 : 0 ≤ i) (h1 : 0 ≤ σ.2.2.1 76 s + σ.2.2.1 83 s) (h2 : σ.2.2.1 81 s ≠ 0) (h : i ≠ σ.2.2.1 76 s + σ.2.2.1 83 s) : wcI σ s t i.toNatClampNeg = 0 := by
  unfold wcI twI
  rw [if_neg h2, if_neg (cn_d h0 h1 h)]
  split <;> rfl
theorem wc_w {σ : rS} {s : Nat} {t i : Int32} {v : Int64} (h77 : σ.2.2.1 77 i.toNatClampNeg = 0) (h78 : σ.2.2.1 78 i.toNatClampNeg = t) (ht : σ.2.2.1 81 s = 0 ∨ i = σ.2.2.1 76 s + σ.2.2.1 83 s) (h1 : σ.2.2.1 81 s = 0 → v = (σ.2.2.1 79 i.toNatClampNeg).toInt64) (h2 : σ.2.2.1 81 s ≠ 0 → v = 1) : v.toInt = wcI σ s t i.toNatClampNeg := by
  unfold wcI twI
  rw [if_pos ⟨h77, h78⟩]
  split
  · rename_i e; rw [h1 e, Int32.toInt_toInt64]
  · rename_i e; rw [h2 e, if_pos (by rw [ht.resolve_left e])]; rfl
/-- where a plan points -/
theorem pl_at {σ : rS} {j : Int32} (h : pOK σ) (j0 : 0 ≤ j) (j1 : j < σ.1 70) (e : σ.2.2.1 81 j.toNatClampNeg ≠ 0) : 0 ≤ σ.2.2.1 76 j.toNatClampNeg + σ.2.2.1 83 j.toNatClampNeg := by
  have s1 := (h.1.2.2.2.1 j j0 j1).1
  have st := ex_st h.1 j0 j1
  have p := h.2 j j0 j1 e
  rw [rd, rd, rd, st.2.2.2.1] at p
  rw [rd, rd, st.2.2.2.1] at s1
  exact (sub_n s1.1 s1.2.1 (Int32.le_trans s1.2.2 h.1.2.2.1.2) p.1 p.2).2.2.1
theorem layRing_c {C : rCx} (hC : cOK C) (m : Nat) {σ : rS}  {Q : rS → Prop} (hp : pOK σ ∧ 0 < σ.1 100 ∧ σ.1 100 ≤ 32 ∧ m = (σ.1 100).toNatClampNeg ∧ mbO σ m) (h : ∀ (σ' : rS), (frK [0, 1, 2, 3, 6, 7] 0 (260 * 1056) σ σ' ∧ fdJ σ' (rP σ m) m (stF m 0) m) → Q σ') : cV C 5 m_layRing [.ref (co C)] σ Q := by
  refine m_layRing_run hC ?_
  unfold w_layRing_0
  obtain ⟨hO, h0, h1, hm, hM⟩ := hp
  have m32 : m ≤ 32 := by rw [hm]; exact cn_le (y := 32) rfl h1
  unfold w_layRing_2
  refine ⟨fun n l1 τ => n = (σ.1 100 - l1).toNatClampNeg ∧ (frK [0, 1, 2, 3, 6, 7] 0 (260 * 1056) σ τ ∧ 0 ≤ l1 ∧ l1 ≤ σ.1 100 ∧ (∀ i j, i < l1.toNatClampNeg → j < m → hL τ (32 * i + j) (rP σ m i j)) ∧ (∀ i, i < l1.toNatClampNeg → hL τ (1024 + i) (rP σ m i m))), ⟨_, rfl, ?_⟩, ?_⟩
  · clear h; exact ⟨frK_refl, by decide, Int32.le_of_lt h0, fun i j hi => absurd hi (Nat.not_lt_zero i), fun i hi => absurd hi (Nat.not_lt_zero i)⟩  -- j1
  rintro n2 x2_1 σ2 ⟨hn2, i2⟩
  obtain ⟨F, a0, a1, R, S⟩ := i2
  have e100 := F.1 100 (by decide)
  have e99 := F.2.2.1 99 (by decide) (by decide) (by decide)
  rw [e100]
  refine ⟨fun c1 => ?_, fun c1 => ?_⟩
  · skip
    refine h _ ?_
    · clear h; have e : x2_1 = σ.1 100 := Int32.le_antisymm a1 c1
      rw [e, ← hm] at R S
      refine ⟨F, fun i j hi hj => ?_, fun i hi => ?_, fun l z1 z2 => absurd z2 (by omega)⟩
      · rw [stF_0]; exact R i j hi hj
      · rw [stF_0]; exact S i hi
  · skip
    have u := uk a0 c1 (Int32.le_trans h1 (by decide))
    have am : x2_1.toNatClampNeg < m := by rw [hm]; exact cn_lt a0 u.2.2.2.2.1
    have a32 : x2_1 < 32 := Int32.lt_of_lt_of_le u.2.2.2.2.1 h1
    have k := hM.1 x2_1.toNatClampNeg am
    have k1 := Int32.lt_of_lt_of_le k.2 hO.1.1.2
    have st := ex_st hO.1 k.1 k.2
    have tb := tT_b hO k.1 k.2
    have as := cn_succ a0 (Int32.lt_trans u.2.2.2.2.2 (by decide))
    have e80 := F.2.2.1 80 (by decide) (by decide) (by decide)
    have e81 := F.2.2.1 81 (by decide) (by decide) (by decide)
    refine ⟨ib_1000.mpr ?_, ?_⟩
    · clear h; exact ⟨a0, u.2.2.2.2.2⟩  -- b3
    intro x2 hx2
    refine totalOf_c hC  ?_ (fun r3 q5 => ?_)
    · clear h; rw [hx2, e99]; exact ⟨k.1, k1⟩  -- p4
    unfold w_layRing_26
    refine ⟨fun n l1 l2 l3 l5 τ => n = (σ.1 100 - l5).toNatClampNeg ∧ (l1 = x2_1 ∧ l2 = σ.2.2.1 99 x2_1.toNatClampNeg ∧ frK [0, 1, 2, 3, 6, 7] 0 (260 * 1056) σ τ ∧ 0 ≤ l5 ∧ l5 ≤ σ.1 100 ∧ (∀ i j, i < x2_1.toNatClampNeg → j < m → hL τ (32 * i + j) (rP σ m i j)) ∧ (∀ i, i < x2_1.toNatClampNeg → hL τ (1024 + i) (rP σ m i m)) ∧ (∀ j, j < l5.toNatClampNeg → hL τ (32 * x2_1.toNatClampNeg + j) (rP σ m x2_1.toNatClampNeg j)) ∧ l3.toInt = tTI σ (mN σ x2_1.toNatClampNeg) - sI (fun b => wKI σ (mN σ x2_1.toNatClampNeg) (σ.2.2.1 99 b)) l5.toNatClampNeg), ⟨_, rfl, ?_⟩, ?_⟩
    · clear h; refine ⟨rfl, by rw [hx2, e99], F, by decide, Int32.le_of_lt h0, R, S, fun j hj => absurd hj (Nat.not_lt_zero j), ?_⟩
      rw [tot_I q5, tT_f e80 e81, hx2, e99]
      exact (Int.sub_zero _).symm
    rintro n26 x26_1 x26_2 x26_3 x26_5 σ26 ⟨hn26, i26⟩
    obtain ⟨f1, f2, G, b0, b1, R2, S2, X2, L⟩ := i26
    have g100 := G.1 100 (by decide)
    have g80 := G.2.2.1 80 (by decide) (by decide) (by decide)
    have g81 := G.2.2.1 81 (by decide) (by decide) (by decide)
    have g76 := G.2.2.1 76 (by decide) (by decide) (by decide)
    have g77 := G.2.2.1 77 (by decide) (by decide) (by decide)
    have g78 := G.2.2.1 78 (by decide) (by decide) (by decide)
    have g79 := G.2.2.1 79 (by decide) (by decide) (by decide)
    have g83 := G.2.2.1 83 (by decide) (by decide) (by decide)
    have g99 := G.2.2.1 99 (by decide) (by decide) (by decide)
    have o := ixc (c := 1024) (by decide) (by decide) a0 a32
    have o2 : (1024 + x2_1).toNatClampNeg = 1024 + x2_1.toNatClampNeg := o.2.1
    rw [g100]
    refine ⟨fun c6 => ?_, fun c6 => ?_⟩
    · skip
      refine totalOf_c hC  ?_ (fun r7 q9 => ?_)
      · clear h; rw [f2]; exact ⟨k.1, k1⟩  -- p6
      have e : x26_5 = σ.1 100 := Int32.le_antisymm b1 c6
      rw [e, ← hm] at L X2
      have s7 := tot_I q9
      rw [tT_f g80 g81, f2] at s7
      have wm := (wK_m (M := σ.2.2.1 99) (m := m) hM.2 hO k.1 k.2).1
      have L2 : x26_3.toInt = rK σ m x2_1.toNatClampNeg m := by unfold rK; rw [if_pos rfl]; exact L
      have rb := rK_b hO hM am (Or.inr rfl)
      refine keepSmall_c hC  ?_ (fun σ_10 q11 => ?_)
      · clear h; rw [f1]
        exact ⟨o.1.1, o.1.2, l64_0 L2 rb.1, l64_1 s7 tb.1⟩
      rw [f1, o2] at q11
      rw [L2, s7] at q11
      intro x12 hx12
      refine ⟨_, cn_lt2 hn2 ?_ ?_, rfl, ?_⟩
      · clear h; rw [hx12, f1]; exact u.1  -- d8
      · clear h; rw [hx12, f1]; exact u.2.1  -- d9
      · clear h; rw [hx12, f1, as]
        refine ⟨frK_tr G (frK_w q11.1 (fun k hk => hk) (by omega) (by omega)), u.2.2.1, u.2.2.2.1, fun i j hi hj => ?_, fun i hi => ?_⟩
        · by_cases e : i = x2_1.toNatClampNeg
          · rw [e]; exact hL_K q11.1 (by omega) (X2 j hj)
          · exact hL_K q11.1 (by omega) (R2 i j (by omega) hj)
        · by_cases e : i = x2_1.toNatClampNeg
          · rw [e]; exact q11.2
          · exact hL_K q11.1 (by omega) (S2 i (by omega))
    · skip
      have v := uk b0 c6 (Int32.le_trans h1 (by decide))
      have bm : x26_5.toNatClampNeg < m := by rw [hm]; exact cn_lt b0 v.2.2.2.2.1
      have b32 : x26_5 < 32 := Int32.lt_of_lt_of_le v.2.2.2.2.1 h1
      have bs := cn_succ b0 (Int32.lt_trans v.2.2.2.2.2 (by decide))
      have x5 := ixs a0 a32 b0 b32
      have hi2 := Int32.le_trans st.2.2.1 hO.1.2.2.1.2
      refine ⟨ib_1001.mpr ?_, ?_⟩
      · clear h; rw [f2]; exact ⟨k.1, Int32.lt_trans k1 (by decide)⟩  -- b11
      intro x13 hx13
      unfold w_layRing_46
      refine ⟨fun n l1 l2 l3 l5 l6 l8 τ => n = (σ.2.2.1 76 (mN σ x2_1.toNatClampNeg + 1) - l8).toNatClampNeg ∧ (l1 = x2_1 ∧ l2 = σ.2.2.1 99 x2_1.toNatClampNeg ∧ l3 = x26_3 ∧ l5 = x26_5 ∧ τ = σ26 ∧ σ.2.2.1 76 (mN σ x2_1.toNatClampNeg) ≤ l8 ∧ l8 ≤ σ.2.2.1 76 (mN σ x2_1.toNatClampNeg + 1) ∧ l6.toInt = wpI σ (mN σ x2_1.toNatClampNeg) (σ.2.2.1 99 x26_5.toNatClampNeg) (l8.toNatClampNeg - loN σ (mN σ x2_1.toNatClampNeg))), ⟨_, rfl, ?_⟩, ?_⟩
      · clear h; rw [hx13, g76, f2]
        refine ⟨f1, rfl, rfl, rfl, rfl, Int32.le_refl _, st.2.1, ?_⟩
        unfold loN mN
        rw [Nat.sub_self]
        rfl
      rintro n46 x46_1 x46_2 x46_3 x46_5 x46_6 x46_8 σ46 ⟨hn46, i46⟩
      have hj110 : ∀ (l1 : Int32) (l2 : Int32) (l3 : Int64) (l5 : Int32) (l8 : Int32) (s0 : Int64) (s1 : Int64) (τ : rS), (l1 = x2_1 ∧ l2 = σ.2.2.1 99 x2_1.toNatClampNeg ∧ l3 = x26_3 ∧ l5 = x26_5 ∧ l8 = x46_8 ∧ τ = σ26 ∧ ¬ σ.2.2.1 76 (mN σ x2_1.toNatClampNeg + 1) ≤ x46_8 ∧ s0 = x46_6 ∧ s1.toInt = wcI σ (mN σ x2_1.toNatClampNeg) (σ.2.2.1 99 x26_5.toNatClampNeg) x46_8.toNatClampNeg) → w_layRing_110 C Q (fun l1' τ => ∃ k < n2, (fun n l1 τ => n = (σ.1 100 - l1).toNatClampNeg ∧ (frK [0, 1, 2, 3, 6, 7] 0 (260 * 1056) σ τ ∧ 0 ≤ l1 ∧ l1 ≤ σ.1 100 ∧ (∀ i j, i < l1.toNatClampNeg → j < m → hL τ (32 * i + j) (rP σ m i j)) ∧ (∀ i, i < l1.toNatClampNeg → hL τ (1024 + i) (rP σ m i m)))) k l1' τ) (fun l1' l2' l3' l5' τ => ∃ k < n26, (fun n l1 l2 l3 l5 τ => n = (σ.1 100 - l5).toNatClampNeg ∧ (l1 = x2_1 ∧ l2 = σ.2.2.1 99 x2_1.toNatClampNeg ∧ frK [0, 1, 2, 3, 6, 7] 0 (260 * 1056) σ τ ∧ 0 ≤ l5 ∧ l5 ≤ σ.1 100 ∧ (∀ i j, i < x2_1.toNatClampNeg → j < m → hL τ (32 * i + j) (rP σ m i j)) ∧ (∀ i, i < x2_1.toNatClampNeg → hL τ (1024 + i) (rP σ m i m)) ∧ (∀ j, j < l5.toNatClampNeg → hL τ (32 * x2_1.toNatClampNeg + j) (rP σ m x2_1.toNatClampNeg j)) ∧ l3.toInt = tTI σ (mN σ x2_1.toNatClampNeg) - sI (fun b => wKI σ (mN σ x2_1.toNatClampNeg) (σ.2.2.1 99 b)) l5.toNatClampNeg)) k l1' l2' l3' l5' τ) (fun l1' l2' l3' l5' l6' l8' τ => ∃ k < n46, (fun n l1 l2 l3 l5 l6 l8 τ => n = (σ.2.2.1 76 (mN σ x2_1.toNatClampNeg + 1) - l8).toNatClampNeg ∧ (l1 = x2_1 ∧ l2 = σ.2.2.1 99 x2_1.toNatClampNeg ∧ l3 = x26_3 ∧ l5 = x26_5 ∧ τ = σ26 ∧ σ.2.2.1 76 (mN σ x2_1.toNatClampNeg) ≤ l8 ∧ l8 ≤ σ.2.2.1 76 (mN σ x2_1.toNatClampNeg + 1) ∧ l6.toInt = wpI σ (mN σ x2_1.toNatClampNeg) (σ.2.2.1 99 x26_5.toNatClampNeg) (l8.toNatClampNeg - loN σ (mN σ x2_1.toNatClampNeg)))) k l1' l2' l3' l5' l6' l8' τ) l1 l2 l3 l5 l8 s0 s1 τ := by
        rintro y110_1 y110_2 y110_3 y110_5 y110_8 y110_s0 y110_s1 τ110 j110
        unfold w_layRing_110
        intro x14 hx14
        intro x15 hx15
        obtain ⟨w1, w2, w3, w4, w5, w6, w7, w8⟩ := i46
        obtain ⟨y1, y2, y3, y4, y5, y6, y7, y8, y9⟩ := j110
        have i0 := Int32.le_trans st.1.1 w6
        have z := u2 i0 y7 hi2
        have is := cn_succ i0 (Int32.lt_trans z.2.2.2.2.2.2 (by decide))
        have lo := cn_l w6 st.1.1
        have hl := cn_lt i0 z.2.2.2.2.2.1
        have hd : x46_8.toNatClampNeg - loN σ (mN σ x2_1.toNatClampNeg) < leN σ (mN σ x2_1.toNatClampNeg) := by unfold leN loN; omega
        have wb := wp_b hO k.1 k.2 (t := σ.2.2.1 99 x26_5.toNatClampNeg) (Nat.le_of_lt hd)
        have wb2 := wp_b hO k.1 k.2 (t := σ.2.2.1 99 x26_5.toNatClampNeg) (Nat.succ_le_of_lt hd)
        have wt := wc_b hO k.1 k.2 (t := σ.2.2.1 99 x26_5.toNatClampNeg) hd
        have el : loN σ (mN σ x2_1.toNatClampNeg) + (x46_8.toNatClampNeg - loN σ (mN σ x2_1.toNatClampNeg)) = x46_8.toNatClampNeg := by unfold loN; omega
        refine ⟨_, cn_lt2 hn46 ?_ ?_, rfl, ?_⟩
        · clear h; rw [hx15, y5]; exact z.1  -- d13
        · clear h; rw [hx15, y5]; exact z.2.1  -- d14
        · clear h; rw [hx15, y5, is]
          refine ⟨y1, y2, y3, y4, y6, Int32.le_trans w6 z.2.2.2.1, z.2.2.2.2.1, ?_⟩
          rw [show x46_8.toNatClampNeg + 1 - loN σ (mN σ x2_1.toNatClampNeg) = x46_8.toNatClampNeg - loN σ (mN σ x2_1.toNatClampNeg) + 1 by unfold loN; omega]
          have wb3 : wpI σ (mN σ x2_1.toNatClampNeg) (σ.2.2.1 99 x26_5.toNatClampNeg) (x46_8.toNatClampNeg - loN σ (mN σ x2_1.toNatClampNeg) + 1) = wpI σ (mN σ x2_1.toNatClampNeg) (σ.2.2.1 99 x26_5.toNatClampNeg) (x46_8.toNatClampNeg - loN σ (mN σ x2_1.toNatClampNeg)) + wcI σ (mN σ x2_1.toNatClampNeg) (σ.2.2.1 99 x26_5.toNatClampNeg) x46_8.toNatClampNeg := by
            show _ + wcI σ _ _ (loN σ _ + _) = _
            rw [el]; rfl
          rw [wb3, hx14, y8]
          refine l64_add w8 y9 wb.1 (Int.le_trans wb.2 (Int.le_trans tb.2 (by decide))) ?_ ?_
          · rw [← el]; exact wt.1
          · have q1 := wb.1
            have q2 := wb2.2
            have q3 : wpI σ (mN σ x2_1.toNatClampNeg) (σ.2.2.1 99 x26_5.toNatClampNeg) (x46_8.toNatClampNeg - loN σ (mN σ x2_1.toNatClampNeg) + 1) ≤ tTI σ (mN σ x2_1.toNatClampNeg) := q2
            have q4 : 0 ≤ wpI σ (mN σ x2_1.toNatClampNeg) (σ.2.2.1 99 x26_5.toNatClampNeg) (x46_8.toNatClampNeg - loN σ (mN σ x2_1.toNatClampNeg)) := q1
            have q5 : tTI σ (mN σ x2_1.toNatClampNeg) ≤ 8000000 := tb.2
            rw [wb3] at q3
            omega
      obtain ⟨w1, w2, w3, w4, w5, w6, w7, w8⟩ := i46
      have i0 := Int32.le_trans st.1.1 w6
      rw [w5, w2, g76, st.2.2.2.1]
      refine ⟨ib_1001.mpr ?_, ?_⟩
      · clear h; exact ⟨st.2.2.2.2.2.1, st.2.2.2.2.2.2⟩  -- b16
      refine ⟨fun c16 => ?_, fun c16 => ?_⟩
      · skip
        refine totalOf_c hC  ?_ (fun r17 q19 => ?_)
        · clear h; exact ⟨k.1, k1⟩  -- p17
        have e8 : x46_8 = σ.2.2.1 76 (mN σ x2_1.toNatClampNeg + 1) := Int32.le_antisymm w7 c16
        have W : x46_6.toInt = wKI σ (mN σ x2_1.toNatClampNeg) (σ.2.2.1 99 x26_5.toNatClampNeg) := by rw [w8, e8]; rfl
        have wb := wp_b hO k.1 k.2 (t := σ.2.2.1 99 x26_5.toNatClampNeg) (Nat.le_refl _)
        have W2 : x46_6.toInt = rK σ m x2_1.toNatClampNeg x26_5.toNatClampNeg := by unfold rK; rw [if_neg (by omega)]; exact W
        have kx : ((32 : Int32) * x46_1) + x46_5 = 32 * x2_1 + x26_5 := by rw [w1, w4]
        have s7 := tot_I q19
        rw [tT_f g80 g81] at s7
        refine keepSmall_c hC  ?_ (fun σ_20 q21 => ?_)
        · clear h; rw [kx]
          exact ⟨x5.1.1, x5.1.2, l64_0 W wb.1, l64_1 s7 tb.1⟩
        rw [kx, x5.2.1, W2, s7] at q21
        intro x22 hx22
        intro x23 hx23
        refine ⟨_, cn_lt2 hn26 ?_ ?_, rfl, ?_⟩
        · clear h; rw [hx23, w4]; exact v.1  -- d19
        · clear h; rw [hx23, w4]; exact v.2.1  -- d20
        · clear h; rw [hx23, w4, bs]
          refine ⟨w1, rfl, frK_tr G (frK_w q21.1 (fun k hk => hk) (by omega) (by omega)), v.2.2.1, v.2.2.2.1, fun i j hi hj => hL_K q21.1 (by omega) (R2 i j hi hj), fun i hi => hL_K q21.1 (by omega) (S2 i hi), fun j hj => ?_, ?_⟩
          · by_cases e : j = x26_5.toNatClampNeg
            · rw [e]; exact q21.2
            · exact hL_K q21.1 (by omega) (X2 j (by omega))
          · rw [hx22, w3]
            have nn : 0 ≤ sI (fun b => wKI σ (mN σ x2_1.toNatClampNeg) (σ.2.2.1 99 b)) x26_5.toNatClampNeg := sI_nn (fun i _ => (wp_b hO k.1 k.2 (Nat.le_refl _)).1)
            have mo : sI (fun b => wKI σ (mN σ x2_1.toNatClampNeg) (σ.2.2.1 99 b)) x26_5.toNatClampNeg ≤ sI (fun b => wKI σ (mN σ x2_1.toNatClampNeg) (σ.2.2.1 99 b)) m := sI_mn (fun i _ => (wp_b hO k.1 k.2 (Nat.le_refl _)).1) (Nat.le_of_lt bm)
            have wm : sI (fun b => wKI σ (mN σ x2_1.toNatClampNeg) (σ.2.2.1 99 b)) m ≤ tTI σ (mN σ x2_1.toNatClampNeg) := (wK_m (M := σ.2.2.1 99) (m := m) hM.2 hO k.1 k.2).1
            have t1 : 1 ≤ tTI σ (mN σ x2_1.toNatClampNeg) ∧ tTI σ (mN σ x2_1.toNatClampNeg) ≤ 8000000 := tb
            have w1' : 0 ≤ wKI σ (mN σ x2_1.toNatClampNeg) (σ.2.2.1 99 x26_5.toNatClampNeg) ∧ wKI σ (mN σ x2_1.toNatClampNeg) (σ.2.2.1 99 x26_5.toNatClampNeg) ≤ tTI σ (mN σ x2_1.toNatClampNeg) := wb
            rw [l64_sub L W (by omega) (by omega) w1'.1 (by omega)]
            show _ = tTI σ (mN σ x2_1.toNatClampNeg) - (sI (fun b => wKI σ (mN σ x2_1.toNatClampNeg) (σ.2.2.1 99 b)) x26_5.toNatClampNeg + wKI σ (mN σ x2_1.toNatClampNeg) (σ.2.2.1 99 x26_5.toNatClampNeg))
            omega
      · skip
        have z := u2 i0 c16 hi2
        rw [g77, g78, g99]
        refine ⟨ib_20000.mpr ?_, ?_⟩
        · clear h; exact ⟨i0, z.2.2.2.2.2.2⟩  -- b22
        refine ⟨fun c24 => ?_, fun c24 => ?_⟩
        · skip
          refine hj110 _ _ _ _ _ _ _ _ ?_
          · clear h; exact ⟨w1, rfl, w3, w4, rfl, rfl, c16, rfl, by rw [wc_0 (fun y => c24 y.1)]; rfl⟩  -- k23
        · skip
          refine ⟨ib_20000.mpr ?_, ?_⟩
          · clear h; exact ⟨i0, z.2.2.2.2.2.2⟩  -- b24
          refine ⟨ib_1000.mpr ?_, ?_⟩
          · clear h; rw [w4]; exact ⟨b0, v.2.2.2.2.2⟩  -- b25
          refine ⟨fun c25 => ?_, fun c25 => ?_⟩
          · skip
            refine hj110 _ _ _ _ _ _ _ _ ?_
            · clear h; exact ⟨w1, rfl, w3, w4, rfl, rfl, c16, rfl, by rw [wc_0 (fun y => c25 (by rw [w4]; exact y.2))]; rfl⟩  -- k26
          · skip
            refine isTaken_c hC  ?_ (fun r26 q28 => ?_)
            · clear h; exact ⟨k.1, k1⟩  -- p27
            have tk := q28.2
            rw [rd, rd, rd, g81, g76, g83] at tk
            refine ⟨fun c29 => ?_, fun c29 => ?_⟩
            · skip
              refine hj110 _ _ _ _ _ _ _ _ ?_
              · clear h; have nt := fun y => (tk.mpr y) c29
                have n81 : σ.2.2.1 81 (σ.2.2.1 99 x2_1.toNatClampNeg).toNatClampNeg ≠ 0 := fun y => nt (Or.inr (Or.inl y))
                exact ⟨w1, rfl, w3, w4, rfl, rfl, c16, rfl, by rw [show mN σ x2_1.toNatClampNeg = (σ.2.2.1 99 x2_1.toNatClampNeg).toNatClampNeg from rfl, wc_n i0 (pl_at hO k.1 k.2 n81) n81 (fun y => nt (Or.inr (Or.inr y)))]; rfl⟩
            · skip
              refine weightOf_c hC  ?_ (fun r30 q32 => ?_)
              · clear h; exact ⟨k.1, k1, i0, z.2.2.2.2.2.2⟩  -- p29
              rw [rd, rd, g81, g79] at q32
              refine hj110 _ _ _ _ _ _ _ _ ?_
              · clear h; rw [w4] at c25
                exact ⟨w1, rfl, w3, w4, rfl, rfl, c16, rfl, wc_w c24 c25 ((tk.mp c29).resolve_left (by decide)) q32.1 q32.2⟩

end
section
set_option maxHeartbeats 1600000
/-! the reference: what flows into a state -/
def vOK (σ : rS) (k : Nat) : Prop := slN σ 102 (34 * k) 16 ∧ slN σ 102 (34 * k + 17) 16 ∧ 0 < slV σ 102 (34 * k + 17)
def gS (σ : rS) (k : Nat) : Nat := if σ.2.2.1 96 k = 0 then 1 else slV σ 102 (34 * k + 17) * (tTI σ k).toNat
def byQ (σ : rS) (a : Int32) : Rat := if a = -1 then 1 else sQ σ a.toNatClampNeg
def byO (σ : rS) (a : Int32) : Prop := a = -1 ∨ (0 ≤ a ∧ a < 2176 ∧ hL σ a.toNatClampNeg (sQ σ a.toNatClampNeg))
def vB : Nat := 65536 ^ 16 * 65536 ^ 129
/-- the sum on its way -/
def siJ (σ τ : rS) (n c F : Nat) : Prop := ∃ S, hS τ S ∧ 0 ≤ S ∧ S ≤ ((c * vB : Nat) : Rat) ∧ S.den ∣ prS (gS σ) n * F
theorem sl_lt {σ : rS} {k c M : Nat} {m : Int32} (hm : m.toInt = M) (h : slN σ k c m) : slV σ k c < 65536 ^ M :=
  Nat.lt_of_lt_of_le (dv_lt h.2.2.1) (Nat.pow_le_pow_right (by decide) (cn_le hm h.2.1))
theorem q_le {q : Rat} {N : Nat} (h : q.num ≤ N) : q ≤ (N : Rat) := by
  rw [Rat.le_iff, Rat.num_natCast, Rat.den_natCast]
  have d : 0 < q.den := den0
  have e : (N : Int) * 1 ≤ (N : Int) * (q.den : Int) := Int.mul_le_mul_of_nonneg_left (by omega) (by omega)
  show q.num * ((1 : Nat) : Int) ≤ _
  omega
theorem mk_num {n d : Nat} : (mkRat (n : Int) d).num ≤ n := by
  rw [Rat.num_mkRat]
  split
  · omega
  · exact Int.ediv_le_self _ (by omega)
theorem mk_le1 {w : Int} {T : Nat} (hT : 0 < T) (h : w ≤ T) : mkRat w T ≤ 1 := by
  have t := nq0 hT
  have e := inv_s (S := (T : Rat)) (by grind)
  have i := Rat.inv_pos.mpr t
  have k : (w : Rat) ≤ ((T : Int) : Rat) := Rat.intCast_le_intCast.mpr h
  have z := Rat.mul_le_mul_of_nonneg_right k (Rat.le_of_lt i)
  rw [mk_d]
  have e2 : ((T : Int) : Rat) * (T : Rat)⁻¹ = 1 := e
  rwa [e2] at z
theorem mk_nn {w : Int} {T : Nat} (hT : 0 < T) (h : 0 ≤ w) : 0 ≤ mkRat w T := by
  have i := Rat.inv_pos.mpr (nq0 hT)
  have k : ((0 : Int) : Rat) ≤ (w : Rat) := Rat.intCast_le_intCast.mpr h
  rw [mk_d]
  exact Rat.mul_nonneg k (Rat.le_of_lt i)
theorem pr_le {x y z A B : Rat} (x0 : 0 ≤ x) (z0 : 0 ≤ z) (hx : x ≤ A) (hy : y ≤ 1) (hz : z ≤ B) : x * y * z ≤ A * B := by
  have a := Rat.mul_le_mul_of_nonneg_left hy x0
  rw [Rat.mul_one] at a
  have b := Rat.mul_le_mul_of_nonneg_right (Rat.le_trans a hx) z0
  have c := Rat.mul_le_mul_of_nonneg_left hz (Rat.le_trans x0 hx)
  exact Rat.le_trans b c
theorem by_b {σ : rS} {a : Int32} (h : byO σ a) : 0 ≤ byQ σ a ∧ byQ σ a ≤ ((65536 ^ 129 : Nat) : Rat) ∧ (byQ σ a).den < 65536 ^ 129 := by
  unfold byQ
  rcases h with z | z
  · rw [if_pos z]
    exact ⟨by decide, q_le (by decide), by decide⟩
  · rw [if_neg (fun y => by rw [y] at z; exact absurd z.1 (by decide))]
    have l := z.2.2
    have u := sl_lt (M := 129) rfl l.1
    have v := sl_lt (M := 129) rfl l.2.1
    rw [l.2.2.2] at v
    exact ⟨hL_nn l, q_le (by rw [← l.2.2.1]; exact Int.ofNat_le.mpr (Nat.le_of_lt u)), v⟩
theorem gS_b {σ : rS} {n k : Nat} (h : pOK σ) (hn : n = (σ.1 70).toNatClampNeg) (hv : ∀ k, k < n → σ.2.2.1 96 k ≠ 0 → vOK σ k) (hk : k < n) : 0 < gS σ k ∧ gS σ k ≤ 65536 ^ 18 := by
  obtain ⟨j, j0, j1, je⟩ := toI h.1.1.1 (by rw [← hn]; exact hk)
  have t := tT_b h j0 j1
  rw [je] at t
  unfold gS
  split
  · exact ⟨by decide, by decide⟩
  · rename_i e
    have v := hv k hk e
    have u := sl_lt (M := 16) rfl v.2.1
    refine ⟨Nat.mul_pos v.2.2 (by omega), ?_⟩
    rw [show 65536 ^ 18 = 65536 ^ 16 * 65536 ^ 2 from (Nat.pow_add 65536 16 2)]
    exact Nat.mul_le_mul (Nat.le_of_lt u) (by omega)
theorem M_b {σ : rS} {n F e : Nat} (h : pOK σ) (hn : n = (σ.1 70).toNatClampNeg) (hv : ∀ k, k < n → σ.2.2.1 96 k ≠ 0 → vOK σ k) (hF : 0 < F) (he : F ≤ 65536 ^ e) : 0 < prS (gS σ) n * F ∧ prS (gS σ) n * F < 65536 ^ (18 * n + e + 1) := by
  have a := prS_pos (D := gS σ) (n := n) (fun i hi => (gS_b h hn hv hi).1)
  have b := prS_le (D := gS σ) (b := 18) (n := n) (fun i hi => (gS_b h hn hv hi).2)
  refine ⟨Nat.mul_pos a hF, ?_⟩
  have c := Nat.mul_le_mul b he
  rw [← Nat.pow_add] at c
  exact Nat.lt_of_le_of_lt c (Nat.pow_lt_pow_right (by decide) (Nat.lt_succ_self _))
theorem in_pre {σ : rS} {S q : Rat} {M N a b c d : Nat} (h : hS σ S) (s0 : 0 ≤ S) (g : hR σ 6 7 q) (M0 : 0 < M) (hd : S.den ∣ M) (hm : M < 65536 ^ a) (hs : S ≤ ((65536 ^ b : Nat) : Rat)) (N0 : 0 < N) (hd2 : q.den ∣ N) (hn : N < 65536 ^ c) (hq : q ≤ ((65536 ^ d : Nat) : Rat)) (ha : a + b + c + d + 3 < 40000) : ((1 : Int32) = 1 ∨ (1 : Int32) = -1) ∧ (σ.1 92 = 1 ∨ σ.1 92 = -1) ∧ numO σ 4 ∧ numO σ 5 ∧ numO σ 6 ∧ numO σ 7 ∧ 0 < nV σ 5 ∧ 0 < nV σ 7 ∧ nL σ 4 + nL σ 7 + 3 < 40000 ∧ nL σ 6 + nL σ 5 + 3 < 40000 ∧ nL σ 5 + nL σ 7 + 3 < 40000 := by
  have r := hS_nn h s0
  have p1 := pl_of r M0 hd hm hs
  have p2 := pl_of g N0 hd2 hn hq
  obtain ⟨r', _, w⟩ := h
  exact ⟨Or.inl rfl, w.imp (fun z => z.1) (fun z => z.1), r.1, r.2.1, g.1, g.2.1, (hR_q r).2, (hR_q g).2, by omega, by omega, by omega⟩
theorem vB_e : vB = 65536 ^ 145 := by
  unfold vB
  rw [← Nat.pow_add]
theorem cV_le {c : Nat} (h : c ≤ 2000000) : c * vB ≤ 65536 ^ 147 := by
  rw [vB_e, show 147 = 2 + 145 from rfl, Nat.pow_add]
  exact Nat.mul_le_mul_right _ (by omega)
theorem siJ_mono {σ τ : rS} {n c d F : Nat} (h : siJ σ τ n c F) (hc : c ≤ d) : siJ σ τ n d F := by
  obtain ⟨S, a1, a2, a3, a4⟩ := h
  exact ⟨S, a1, a2, Rat.le_trans a3 (Rat.natCast_le_natCast.mpr (Nat.mul_le_mul_right _ hc)), a4⟩
/-- one summand more: what add wants, and what it gives -/
theorem siJ_add {σ τ : rS} {n c F e k D : Nat} {q : Rat} (h : pOK σ) (hn : n = (σ.1 70).toNatClampNeg) (hv : ∀ k, k < n → σ.2.2.1 96 k ≠ 0 → vOK σ k) (hF : 0 < F) (he : F ≤ 65536 ^ e) (he2 : e ≤ 4200) (hc : c ≤ 1100000) (J : siJ σ τ n c F) (g : hR τ 6 7 q) (hq : q ≤ (vB : Rat)) (hd : q.den ∣ k * D) (hk : k ∣ prS (gS σ) n) (hD : D ∣ F) (k0 : 0 < k) (k1 : k ≤ 65536 ^ 18) (D0 : 0 < D) (D1 : D < 65536 ^ 129) : (((1 : Int32) = 1 ∨ (1 : Int32) = -1) ∧ (τ.1 92 = 1 ∨ τ.1 92 = -1) ∧ numO τ 4 ∧ numO τ 5 ∧ numO τ 6 ∧ numO τ 7 ∧ 0 < nV τ 5 ∧ 0 < nV τ 7 ∧ nL τ 4 + nL τ 7 + 3 < 40000 ∧ nL τ 6 + nL τ 5 + 3 < 40000 ∧ nL τ 5 + nL τ 7 + 3 < 40000) ∧ ∀ υ : rS, hS υ (sgq (τ.1 92) (fQ τ 4 5) + sgq 1 (fQ τ 6 7)) → siJ σ υ n (c + 1) F := by
  obtain ⟨S, a1, a2, a3, a4⟩ := J
  have n1 : n ≤ 1000 := by rw [hn]; exact cn_le (y := 1000) rfl h.1.1.2
  have m := M_b h hn hv hF he
  have kD : k * D < 65536 ^ 147 := by
    rw [show 147 = 18 + 129 from rfl, Nat.pow_add]
    have z1 := Nat.mul_le_mul_right D k1
    have z2 := Nat.mul_lt_mul_of_pos_left D1 (Nat.pow_pos (n := 18) (by decide : 0 < 65536))
    omega
  have q2 : q ≤ ((65536 ^ 145 : Nat) : Rat) := by rw [← vB_e]; exact hq
  refine ⟨in_pre a1 a2 g m.1 a4 m.2 (Rat.le_trans a3 (Rat.natCast_le_natCast.mpr (cV_le (by omega)))) (Nat.mul_pos k0 D0) hd kD q2 (by omega), fun υ hυ => ⟨S + q, ?_, ?_, ?_, ?_⟩⟩
  · rwa [hS_add a1 g] at hυ
  · exact Rat.add_nonneg a2 (hR_nn g)
  · rw [Nat.add_mul, Nat.one_mul, Rat.natCast_add]
    have z1 := a3
    have z2 := hq
    grind
  · exact den_add a4 (Nat.dvd_trans hd (Nat.mul_dvd_mul hk hD)) (by omega)
theorem tw_le {σ : rS} {j : Int32} (h : pOK σ) (j0 : 0 ≤ j) (j1 : j < σ.1 70) {d : Nat} (hd : d < leN σ j.toNatClampNeg) : twI σ j.toNatClampNeg (loN σ j.toNatClampNeg + d) ≤ tTI σ j.toNatClampNeg := by
  rw [← tT_sum h j0 j1]
  have a := sI_mn (f := fun d => twI σ j.toNatClampNeg (loN σ j.toNatClampNeg + d)) (m := d + 1) (fun i hi => tw_nn h j0 j1 hi) (by omega)
  have b := sI_nn (f := fun d => twI σ j.toNatClampNeg (loN σ j.toNatClampNeg + d)) (n := d) (fun i hi => tw_nn h j0 j1 (by omega))
  have c : sI (fun d => twI σ j.toNatClampNeg (loN σ j.toNatClampNeg + d)) (d + 1) = sI (fun d => twI σ j.toNatClampNeg (loN σ j.toNatClampNeg + d)) d + twI σ j.toNatClampNeg (loN σ j.toNatClampNeg + d) := rfl
  omega
/-- visits loaded and scaled -/
theorem ld_q {σ τ : rS} {k : Nat} {w t : Int64} (hv : vOK σ k) (e6 : nV τ 6 = slV σ 102 (34 * k)) (e7 : nV τ 7 = slV σ 102 (34 * k + 17)) (ht : t.toInt = tTI σ k) (t1 : 1 ≤ tTI σ k) (w0 : 0 ≤ w.toInt) (w1 : w.toInt ≤ tTI σ k) (h96 : σ.2.2.1 96 k ≠ 0) : 0 ≤ fQ τ 6 7 ∧ fQ τ 6 7 ≤ ((65536 ^ 16 : Nat) : Rat) ∧ 0 ≤ mkRat w.toInt t.toInt.toNat ∧ mkRat w.toInt t.toInt.toNat ≤ 1 ∧ (fQ τ 6 7 * mkRat w.toInt t.toInt.toNat).den ∣ gS σ k := by
  have u := sl_lt (M := 16) rfl hv.1
  have T0 : 0 < t.toInt.toNat := by omega
  refine ⟨?_, ?_, mk_nn T0 w0, mk_le1 T0 (by omega), ?_⟩
  · unfold fQ
    exact mk_nn (by rw [e7]; exact hv.2.2) (by omega)
  · unfold fQ
    exact Rat.le_trans (q_le mk_num) (Rat.natCast_le_natCast.mpr (by rw [e6]; exact Nat.le_of_lt u))
  · refine Nat.dvd_trans den_mul ?_
    unfold gS
    rw [if_neg h96, ← ht]
    refine Nat.mul_dvd_mul ?_ (den_mk (by omega))
    unfold fQ
    rw [← e7]
    exact den_mk (by rw [e7]; exact Nat.ne_of_gt hv.2.2)
theorem frS_rf {l : List Nat} {σ : rS} : frS l σ σ := ⟨fun _ _ => rfl, rfl, fun _ _ _ => rfl, rfl, fun _ _ => ⟨rfl, fun _ _ => rfl⟩⟩
theorem siJ_F {σ τ : rS} {n c F G : Nat} (h : siJ σ τ n c F) (hd : F ∣ G) : siJ σ τ n c G := by
  obtain ⟨S, a1, a2, a3, a4⟩ := h
  exact ⟨S, a1, a2, a3, Nat.dvd_trans a4 (Nat.mul_dvd_mul (Nat.dvd_refl _) hd)⟩
theorem siJ_N {l : List Nat} {σ τ υ : rS} {n c F : Nat} (f : frN l τ υ) (h4 : 4 ∉ l) (h5 : 5 ∉ l) (h : siJ σ τ n c F) : siJ σ υ n c F := by
  obtain ⟨S, a1, a2, a3, a4⟩ := h
  exact ⟨S, hS_N f h4 h5 a1, a2, a3, a4⟩
theorem by_f {σ τ : rS} {a : Int32} (h : τ.2.2.1 93 = σ.2.2.1 93) : byQ τ a = byQ σ a ∧ (byO σ a → byO τ a) := by
  have e : sQ τ a.toNatClampNeg = sQ σ a.toNatClampNeg := by unfold sQ slV; rw [h]
  constructor
  · unfold byQ; rw [e]
  · intro z
    rcases z with z | z
    · exact Or.inl z
    · refine Or.inr ⟨z.1, z.2.1, ?_⟩
      rw [e]
      exact hL_e (fun i _ _ => by rw [h]) z.2.2
theorem sl_f {σ τ : rS} {k c : Nat} {m : Int32} (h : τ.2.2.1 k = σ.2.2.1 k) : slV τ k c = slV σ k c ∧ (slN τ k c m ↔ slN σ k c m) := by
  unfold slV slN
  rw [h]
  exact ⟨rfl, Iff.rfl⟩
theorem vOK_f {σ τ : rS} {k : Nat} (h : τ.2.2.1 102 = σ.2.2.1 102) (hv : vOK σ k) : vOK τ k := by
  unfold vOK at *
  rw [(sl_f (m := 16) h).2, (sl_f (m := 16) h).2, (sl_f (m := 16) h).1]
  exact hv
theorem by_vB {σ : rS} {a : Int32} (h : byO σ a) : byQ σ a ≤ (vB : Rat) := Rat.le_trans (by_b h).2.1 (Rat.natCast_le_natCast.mpr (by unfold vB; exact Nat.le_mul_of_pos_left _ (Nat.pow_pos (by decide))))
theorem sumInflow_c {C : rCx} (hC : cOK C) (s E c e : Nat) {σ : rS} {a1 : Int32} {a2 : Int32} {Q : rS → Prop} (hp : pOK σ ∧ s = (σ.1 70).toNatClampNeg ∧ (∀ k, k < s → σ.2.2.1 96 k ≠ 0 → vOK σ k) ∧ byO σ a2 ∧ siJ σ σ s c E ∧ 0 < E ∧ E * (byQ σ a2).den ≤ 65536 ^ e ∧ e ≤ 4200 ∧ c ≤ 1000000) (h : ∀ (σ' : rS), (frS [0, 1, 2, 3, 4, 5, 6, 7, 8, 9, 10, 11, 12, 13, 14] σ σ' ∧ siJ σ σ' s (c + 20001) (E * (byQ σ a2).den)) → Q σ') : cV C 5 m_sumInflow [.ref (co C), .int a1, .int a2] σ Q := by
  refine m_sumInflow_run hC ?_
  unfold w_sumInflow_0
  obtain ⟨hO, hn, hv, hb, J0, E0, hE, he, hc⟩ := hp
  have F0 : 0 < E * (byQ σ a2).den := Nat.mul_pos E0 den0
  have bb := by_b hb
  unfold w_sumInflow_2
  refine ⟨fun n l1 l2 l3 τ => n = (σ.1 70 - l3).toNatClampNeg ∧ (l1 = a1 ∧ l2 = a2 ∧ frS [0, 1, 2, 3, 4, 5, 6, 7, 8, 9, 10, 11, 12, 13, 14] σ τ ∧ 0 ≤ l3 ∧ l3 ≤ σ.1 70 ∧ ∃ d, d ≤ 20000 ∧ (l3 < σ.1 70 → d ≤ loN σ l3.toNatClampNeg) ∧ siJ σ τ s (c + d) (E * (byQ σ a2).den)), ⟨_, rfl, ?_⟩, ?_⟩
  · clear h; exact ⟨rfl, rfl, frS_rf, by decide, hO.1.1.1, 0, by decide, fun _ => Nat.zero_le _, siJ_F J0 (Nat.dvd_mul_right ..)⟩  -- j1
  rintro n2 x2_1 x2_2 x2_3 σ2 ⟨hn2, i2⟩
  obtain ⟨e1, e2, F, a0, a1', d, d1, d2, J⟩ := i2
  have e70 := F.1 70 (by decide)
  have e76 := F.2.2.1 76 (by decide) (by decide)
  rw [e70]
  refine ⟨fun c1 => ?_, fun c1 => ?_⟩
  · skip
    refine ⟨fun c2 => ?_, fun c2 => ?_⟩
    · skip
      refine h _ ?_
      · clear h; exact ⟨F, siJ_mono J (by omega)⟩  -- q2
    · skip
      refine set_c hC  ?_ (fun σ_3 q4 => ?_)
      · clear h; exact ⟨by decide, by decide, by decide⟩  -- p3
      simp only [kn] at q4
      refine set_c hC  ?_ (fun σ_5 q6 => ?_)
      · clear h; exact ⟨by decide, by decide, by decide⟩  -- p4
      simp only [kn] at q6
      have g6 := nV_fr q6.1 (k := 6) (by decide) q4.2.1
      have R1 : hR σ_5 6 7 1 := ⟨g6.1, q6.2.1, by rw [g6.2.1, q4.2.2.1]; rfl, by rw [q6.2.2.1]; rfl⟩
      have F5 := frS_tr F (frS_tr (frS_mono (frS_of q4.1) (sub_of rfl)) (frS_mono (frS_of q6.1) (sub_of rfl)))
      have b5 := by_f (a := a2) (F5.2.2.1 93 (by decide) (by decide))
      refine takeTimes_c hC  ?_ (fun σ_7 q8 => ?_)
      · clear h; rw [(hR_q R1).1, e2]
        exact ⟨b5.2 hb, R1, by have := q4.2.2.2; have := g6.2.2; omega, by have := q6.2.2.2; omega⟩
      rw [(hR_q R1).1, e2, Rat.one_mul] at q8
      have R7 : hR σ_7 6 7 (byQ σ a2) := by rw [← b5.1]; exact q8.2
      have J7 := siJ_N q8.1 (by decide) (by decide) (siJ_N q6.1 (by decide) (by decide) (siJ_N q4.1 (by decide) (by decide) J))
      have A := siJ_add (k := 1) (D := (byQ σ a2).den) hO hn hv F0 hE he (by omega) J7 R7 (by_vB hb) (by rw [Nat.one_mul]; exact Nat.dvd_refl _) (Nat.one_dvd _) (Nat.dvd_mul_left ..) (by decide) (by decide) den0 bb.2.2
      refine add_c hC  ?_ (fun σ_9 q10 => ?_)
      · clear h; exact A.1  -- p6
      refine h _ ?_
      · clear h; exact ⟨frS_tr F5 (frS_tr (frS_mono (frS_of q8.1) (sub_of rfl)) (frS_mono q10.1 (sub_of rfl))), siJ_mono (A.2 _ q10.2) (by omega)⟩  -- q7
  · skip
    have u := uk a0 c1 hO.1.1.2
    have st := ex_st hO.1 a0 u.2.2.2.2.1
    have tb := tT_b hO a0 u.2.2.2.2.1
    have as := cn_succ a0 (Int32.lt_trans u.2.2.2.2.2 (by decide))
    have ks : x2_3.toNatClampNeg < s := by rw [hn]; exact cn_lt a0 u.2.2.2.2.1
    have hi2 := Int32.le_trans st.2.2.1 hO.1.2.2.1.2
    have gb := gS_b hO hn hv ks
    refine ⟨ib_1001.mpr ?_, ?_⟩
    · clear h; exact ⟨a0, Int32.lt_trans u.2.2.2.2.2 (by decide)⟩  -- b8
    intro x11 hx11
    unfold w_sumInflow_18
    refine ⟨fun n l1 l2 l3 l4 τ => n = (σ.2.2.1 76 (x2_3.toNatClampNeg + 1) - l4).toNatClampNeg ∧ (l1 = a1 ∧ l2 = a2 ∧ l3 = x2_3 ∧ frS [0, 1, 2, 3, 4, 5, 6, 7, 8, 9, 10, 11, 12, 13, 14] σ τ ∧ σ.2.2.1 76 x2_3.toNatClampNeg ≤ l4 ∧ l4 ≤ σ.2.2.1 76 (x2_3.toNatClampNeg + 1) ∧ siJ σ τ s (c + l4.toNatClampNeg) (E * (byQ σ a2).den)), ⟨_, rfl, ?_⟩, ?_⟩
    · clear h; rw [hx11, e76]
      exact ⟨e1, e2, rfl, F, Int32.le_refl _, st.2.1, siJ_mono J (by have := d2 u.2.2.2.2.1; unfold loN at this; omega)⟩
    rintro n18 x18_1 x18_2 x18_3 x18_4 σ18 ⟨hn18, i18⟩
    obtain ⟨f1, f2, f3, G, w1, w2, J2⟩ := i18
    have i0 := Int32.le_trans st.1.1 w1
    have g96 := G.2.2.1 96 (by decide) (by decide)
    have g76 := G.2.2.1 76 (by decide) (by decide)
    have g77 := G.2.2.1 77 (by decide) (by decide)
    have g78 := G.2.2.1 78 (by decide) (by decide)
    have g79 := G.2.2.1 79 (by decide) (by decide)
    have g80 := G.2.2.1 80 (by decide) (by decide)
    have g81 := G.2.2.1 81 (by decide) (by decide)
    have g83 := G.2.2.1 83 (by decide) (by decide)
    have g102 := G.2.2.1 102 (by decide) (by decide)
    have hi20 : x18_4.toNatClampNeg ≤ 20000 := cn_le (y := 20000) rfl (Int32.le_trans w2 hi2)
    rw [f3, g96, g76, g77, g78, st.2.2.2.1]
    refine ⟨ib_1000.mpr ?_, ?_⟩
    · clear h; exact ⟨a0, u.2.2.2.2.2⟩  -- b10
    refine ⟨fun c12 => ?_, fun c12 => ?_⟩
    · skip
      intro x13 hx13
      refine ⟨_, cn_lt2 hn2 ?_ ?_, rfl, ?_⟩
      · clear h; rw [hx13]; exact u.1  -- d11
      · clear h; rw [hx13]; exact u.2.1  -- d12
      · clear h; rw [hx13]
        exact ⟨f1, f2, G, u.2.2.1, u.2.2.2.1, x18_4.toNatClampNeg, hi20, fun _ => by rw [as]; unfold loN; exact cn_l w2 i0, J2⟩
    · skip
      refine ⟨ib_1001.mpr ?_, ?_⟩
      · clear h; exact ⟨st.2.2.2.2.2.1, st.2.2.2.2.2.2⟩  -- b14
      refine ⟨fun c14 => ?_, fun c14 => ?_⟩
      · skip
        intro x15 hx15
        refine ⟨_, cn_lt2 hn2 ?_ ?_, rfl, ?_⟩
        · clear h; rw [hx15]; exact u.1  -- d15
        · clear h; rw [hx15]; exact u.2.1  -- d16
        · clear h; rw [hx15]
          exact ⟨f1, f2, G, u.2.2.1, u.2.2.2.1, x18_4.toNatClampNeg, hi20, fun _ => by rw [as]; unfold loN; exact cn_l w2 i0, J2⟩
      · skip
        have z := u2 i0 c14 hi2
        have is := cn_succ i0 (Int32.lt_trans z.2.2.2.2.2.2 (by decide))
        have lo := cn_l w1 st.1.1
        have hl := cn_lt i0 z.2.2.2.2.2.1
        have hd : x18_4.toNatClampNeg - loN σ x2_3.toNatClampNeg < leN σ x2_3.toNatClampNeg := by unfold leN loN; omega
        have el : loN σ x2_3.toNatClampNeg + (x18_4.toNatClampNeg - loN σ x2_3.toNatClampNeg) = x18_4.toNatClampNeg := by unfold loN; omega
        refine ⟨ib_20000.mpr ?_, ?_⟩
        · clear h; exact ⟨i0, z.2.2.2.2.2.2⟩  -- b18
        refine ⟨fun c16 => ?_, fun c16 => ?_⟩
        · skip
          intro x17 hx17
          refine ⟨_, cn_lt2 hn18 ?_ ?_, rfl, ?_⟩
          · clear h; rw [hx17]; exact z.1  -- d19
          · clear h; rw [hx17]; exact z.2.1  -- d20
          · clear h; rw [hx17]
            exact ⟨f1, f2, rfl, G, Int32.le_trans w1 z.2.2.2.1, z.2.2.2.2.1, siJ_mono J2 (by rw [is]; omega)⟩
        · skip
          refine ⟨ib_20000.mpr ?_, ?_⟩
          · clear h; exact ⟨i0, z.2.2.2.2.2.2⟩  -- b22
          refine ⟨fun c18 => ?_, fun c18 => ?_⟩
          · skip
            intro x19 hx19
            refine ⟨_, cn_lt2 hn18 ?_ ?_, rfl, ?_⟩
            · clear h; rw [hx19]; exact z.1  -- d23
            · clear h; rw [hx19]; exact z.2.1  -- d24
            · clear h; rw [hx19]
              exact ⟨f1, f2, rfl, G, Int32.le_trans w1 z.2.2.2.1, z.2.2.2.2.1, siJ_mono J2 (by rw [is]; omega)⟩
          · skip
            refine isTaken_c hC  ?_ (fun r20 q22 => ?_)
            · clear h; exact ⟨a0, u.2.2.2.2.2⟩  -- p26
            have tk := q22.2
            rw [rd, rd, rd, g81, g76, g83] at tk
            refine ⟨fun c23 => ?_, fun c23 => ?_⟩
            · skip
              intro x24 hx24
              refine ⟨_, cn_lt2 hn18 ?_ ?_, rfl, ?_⟩
              · clear h; rw [hx24]; exact z.1  -- d27
              · clear h; rw [hx24]; exact z.2.1  -- d28
              · clear h; rw [hx24]
                exact ⟨f1, f2, rfl, G, Int32.le_trans w1 z.2.2.2.1, z.2.2.2.2.1, siJ_mono J2 (by rw [is]; omega)⟩
            · skip
              refine loadVisits_c hC  ?_ (fun σ_25 q26 => ?_)
              · clear h; have V := vOK_f g102 (hv x2_3.toNatClampNeg ks c12)
                exact ⟨a0, u.2.2.2.2.2, V.1, V.2.1⟩
              have V := hv x2_3.toNatClampNeg ks c12
              have e6 := q26.2.2.2.1
              have e7 := q26.2.2.2.2.1
              rw [(sl_f (m := 16) g102).1] at e6 e7
              have k79 := (q26.1.2.2.1 79 (by decide) (by decide)).trans g79
              have k80 := (q26.1.2.2.1 80 (by decide) (by decide)).trans g80
              have k81 := (q26.1.2.2.1 81 (by decide) (by decide)).trans g81
              refine weightOf_c hC  ?_ (fun r27 q29 => ?_)
              · clear h; exact ⟨a0, u.2.2.2.2.2, i0, z.2.2.2.2.2.2⟩  -- p31
              rw [rd, rd, k81, k79] at q29
              have W := wc_w (σ := σ) (s := x2_3.toNatClampNeg) (t := σ.2.2.1 78 x18_4.toNatClampNeg) (i := x18_4) c16 rfl ((tk.mp c23).resolve_left (by decide)) q29.1 q29.2
              have wb := wc_b hO a0 u.2.2.2.2.1 (t := σ.2.2.1 78 x18_4.toNatClampNeg) hd
              have wl := tw_le hO a0 u.2.2.2.2.1 hd
              rw [el] at wb wl
              refine totalOf_c hC  ?_ (fun r30 q32 => ?_)
              · clear h; exact ⟨a0, u.2.2.2.2.2⟩  -- p32
              have T := tot_I q32
              rw [tT_f k80 k81] at T
              have W0 : 0 ≤ r27.toInt := by rw [W]; exact wb.1
              have W1 : r27.toInt ≤ tTI σ x2_3.toNatClampNeg := by rw [W]; exact Int.le_trans wb.2 wl
              have K := ld_q V e6 e7 T tb.1 W0 W1 c12
              refine scale_c hC  ?_ (fun σ_33 q34 => ?_)
              · clear h; exact ⟨q26.2.1, q26.2.2.1, by rw [e7]; exact V.2.2, l64_0 rfl W0, l64_1 T tb.1, by have := q26.2.2.2.2.2.1; omega, by have := q26.2.2.2.2.2.2; omega⟩  -- p33
              have le1 := Rat.mul_le_mul_of_nonneg_left K.2.2.2.1 K.1
              rw [Rat.mul_one] at le1
              have pl := pl_of (a := 19) (b := 16) q34.2 gb.1 K.2.2.2.2 (Nat.lt_of_le_of_lt gb.2 (Nat.pow_lt_pow_right (by decide) (by decide))) (Rat.le_trans le1 K.2.1)
              have F33 := frS_tr G (frS_tr (frS_mono (frS_of q26.1) (sub_of rfl)) (frS_mono (frS_of q34.1) (sub_of rfl)))
              have b33 := by_f (a := a2) (F33.2.2.1 93 (by decide) (by decide))
              refine takeTimes_c hC  ?_ (fun σ_35 q36 => ?_)
              · clear h; rw [(hR_q q34.2).1, f2]
                exact ⟨b33.2 hb, q34.2, by have := pl.2; omega, by have := pl.1; omega⟩
              rw [(hR_q q34.2).1, f2] at q36
              have R35 : hR σ_35 6 7 (fQ σ_25 6 7 * mkRat r27.toInt r30.toInt.toNat * byQ σ a2) := by rw [← b33.1]; exact q36.2
              have J35 := siJ_N q36.1 (by decide) (by decide) (siJ_N q34.1 (by decide) (by decide) (siJ_N q26.1 (by decide) (by decide) J2))
              have A := siJ_add (k := gS σ x2_3.toNatClampNeg) (D := (byQ σ a2).den) hO hn hv F0 hE he (by omega) J35 R35 (by unfold vB; rw [Rat.natCast_mul]; exact pr_le K.1 bb.1 K.2.1 K.2.2.2.1 bb.2.1) (Nat.dvd_trans den_mul (Nat.mul_dvd_mul K.2.2.2.2 (Nat.dvd_refl _))) (prS_dvd ks) (Nat.dvd_mul_left ..) gb.1 gb.2 den0 bb.2.2
              refine add_c hC  ?_ (fun σ_37 q38 => ?_)
              · clear h; exact A.1  -- p35
              intro x39 hx39
              refine ⟨_, cn_lt2 hn18 ?_ ?_, rfl, ?_⟩
              · clear h; rw [hx39]; exact z.1  -- d36
              · clear h; rw [hx39]; exact z.2.1  -- d37
              · clear h; rw [hx39, is, ← Nat.add_assoc]
                exact ⟨f1, f2, rfl, frS_tr F33 (frS_tr (frS_mono (frS_of q36.1) (sub_of rfl)) (frS_mono q38.1 (sub_of rfl))), Int32.le_trans w1 z.2.2.2.1, z.2.2.2.2.1, A.2 _ q38.2⟩

end
section
set_option maxHeartbeats 1600000
/-! the reference: a ring is solved -/
/-- numbers above 14 stay -/
def nK (σ τ : rS) : Prop := ∀ k, 14 < k → τ.2.2.1 91 k = σ.2.2.1 91 k ∧ ∀ i, i < 40000 → τ.2.2.1 90 (40000 * k + i) = σ.2.2.1 90 (40000 * k + i)
theorem nK_rf {σ : rS} : nK σ σ := fun _ _ => ⟨rfl, fun _ _ => rfl⟩
theorem nK_tr {σ τ υ : rS} (h : nK σ τ) (g : nK τ υ) : nK σ υ := fun k z => ⟨(g k z).1.trans (h k z).1, fun i hi => ((g k z).2 i hi).trans ((h k z).2 i hi)⟩
theorem nK_r {σ τ : rS} (h0 : τ.2.2.1 90 = σ.2.2.1 90) (h1 : τ.2.2.1 91 = σ.2.2.1 91) : nK σ τ := fun k _ => ⟨by rw [h1], fun i _ => by rw [h0]⟩
theorem nK_l {l : List Nat} {σ τ : rS} (h : ∀ k, k ∉ l → τ.2.2.1 91 k = σ.2.2.1 91 k ∧ ∀ i, i < 40000 → τ.2.2.1 90 (40000 * k + i) = σ.2.2.1 90 (40000 * k + i)) (hl : ∀ k, k ∈ l → k ≤ 14) : nK σ τ := fun k z => h k (fun e => absurd (hl k e) (by omega))
/-- only the sum, the numbers, the slots, the marks and the visits differ -/
def frV (σ τ : rS) : Prop := (∀ k, k ≠ 92 → τ.1 k = σ.1 k) ∧ τ.2.1 = σ.2.1 ∧ (∀ j, j ≠ 90 → j ≠ 91 → j ≠ 93 → j ≠ 96 → j ≠ 102 → τ.2.2.1 j = σ.2.2.1 j) ∧ τ.2.2.2 = σ.2.2.2 ∧ nK σ τ
theorem frV_rf {σ : rS} : frV σ σ := ⟨fun _ _ => rfl, rfl, fun _ _ _ _ _ _ => rfl, rfl, nK_rf⟩
theorem frV_tr {σ τ υ : rS} (h : frV σ τ) (g : frV τ υ) : frV σ υ := ⟨fun k z => (g.1 k z).trans (h.1 k z), g.2.1.trans h.2.1, fun j z1 z2 z3 z4 z5 => (g.2.2.1 j z1 z2 z3 z4 z5).trans (h.2.2.1 j z1 z2 z3 z4 z5), g.2.2.2.1.trans h.2.2.2.1, nK_tr h.2.2.2.2 g.2.2.2.2⟩
theorem frV_K {l : List Nat} {u v : Nat} {σ τ : rS} (h : frK l u v σ τ) (hl : ∀ k, k ∈ l → k ≤ 14 := by decide) : frV σ τ := ⟨h.1, h.2.1, fun j z1 z2 z3 _ _ => h.2.2.1 j z1 z2 z3, h.2.2.2.1, nK_l h.2.2.2.2.1 hl⟩
theorem frV_S {l : List Nat} {σ τ : rS} (h : frS l σ τ) (hl : ∀ k, k ∈ l → k ≤ 14 := by decide) : frV σ τ := ⟨h.1, h.2.1, fun j z1 z2 _ _ _ => h.2.2.1 j z1 z2, h.2.2.2.1, nK_l h.2.2.2.2 hl⟩
theorem frV_R {u v : Nat} {σ τ : rS} (h : frR 102 u v σ τ) : frV σ τ := ⟨fun k _ => by rw [h.1], h.2.1, fun j _ _ _ _ z => h.2.2.1 j z, h.2.2.2.1, nK_r (h.2.2.1 90 (by decide)) (h.2.2.1 91 (by decide))⟩
theorem frV_1 {σ : rS} {i : Nat} {x : Int32} : frV σ (riU σ 96 i x) := ⟨fun _ _ => rfl, rfl, fun _ _ _ _ z _ => ri3 z, rfl, nK_r (ri3 (by decide)) (ri3 (by decide))⟩
theorem pOK_o {σ τ : rS} (h : pOK σ) (hf : ∀ k, k = 70 ∨ k = 71 ∨ k = 72 → τ.1 k = σ.1 k) (hr : ∀ k, k = 76 ∨ k = 77 ∨ k = 78 ∨ k = 79 ∨ k = 80 ∨ k = 81 ∨ k = 83 → τ.2.2.1 k = σ.2.2.1 k) : pOK τ := by
  refine ⟨exO_o h.1 hf (fun k hk => hr k (by omega)), fun j j0 j1 => ?_⟩
  have z := h.2 j j0 (by rw [← hf 70 (by decide)]; exact j1)
  rw [rd, rd, rd, rd] at *
  rw [hr 81 (by decide), hr 83 (by decide), hr 76 (by decide)]
  exact z
theorem pOK_V {σ τ : rS} (h : pOK σ) (f : frV σ τ) : pOK τ := pOK_o h (fun k hk => f.1 k (by omega)) (fun k hk => f.2.2.1 k (by omega) (by omega) (by omega) (by omega) (by omega))
theorem gS_f {σ τ : rS} (h1 : τ.2.2.1 96 = σ.2.2.1 96) (h2 : τ.2.2.1 102 = σ.2.2.1 102) (h3 : τ.2.2.1 80 = σ.2.2.1 80) (h4 : τ.2.2.1 81 = σ.2.2.1 81) : gS τ = gS σ := by
  funext k
  unfold gS
  rw [h1, (sl_f (m := 16) h2).1, tT_f h3 h4]
theorem gS_S {l : List Nat} {σ τ : rS} (h : frS l σ τ) : gS τ = gS σ := gS_f (h.2.2.1 96 (by decide) (by decide)) (h.2.2.1 102 (by decide) (by decide)) (h.2.2.1 80 (by decide) (by decide)) (h.2.2.1 81 (by decide) (by decide))
theorem siJ_g {σ σ2 τ : rS} {n c F : Nat} (h : gS σ2 = gS σ) (J : siJ σ τ n c F) : siJ σ2 τ n c F := by
  unfold siJ at *
  rw [h]
  exact J
theorem slc_e {σ τ : rS} {c : Nat} (h : ∀ i, c ≤ i → i < c + 17 → τ.2.2.1 102 i = σ.2.2.1 102 i) (hs : slN σ 102 c 16) : slN τ 102 c 16 ∧ slV τ 102 c = slV σ 102 c := by
  have L : (σ.2.2.1 102 c).toNatClampNeg ≤ 16 := cn_le (y := 16) rfl hs.2.1
  exact gO_c hs (h c (Nat.le_refl _) (by omega)) hs.2.1 (fun i hi => h (c + 1 + i) (by omega) (by omega))
theorem vOK_e {σ τ : rS} {k : Nat} (h : ∀ i, 34 * k ≤ i → i < 34 * k + 34 → τ.2.2.1 102 i = σ.2.2.1 102 i) (hv : vOK σ k) : vOK τ k := by
  have a := slc_e (c := 34 * k) (fun i h1 h2 => h i (by omega) (by omega)) hv.1
  have b := slc_e (c := 34 * k + 17) (fun i h1 h2 => h i (by omega) (by omega)) hv.2.1
  exact ⟨a.1, b.1, by rw [b.2]; exact hv.2.2⟩
def rgD (σ : rS) (b a : Nat) : Nat := (sQ σ (1152 + 32 * a + b)).den
theorem siJ_0 {σ τ : rS} {n : Nat} {D : Nat → Nat} (h : hS τ 0) : siJ σ τ n (20001 * (0 : Int32).toNatClampNeg) (prS D (0 : Int32).toNatClampNeg) := ⟨0, h, Rat.le_refl, Rat.natCast_le_natCast.mpr (Nat.zero_le _), Nat.one_dvd _⟩
theorem solveRing_c {C : rCx} (hC : cOK C) (m s : Nat) {σ : rS}  {Q : Int32 → rS → Prop} (hp : pOK σ ∧ 0 < σ.1 100 ∧ σ.1 100 ≤ 32 ∧ m = (σ.1 100).toNatClampNeg ∧ mbO σ m ∧ (∀ r, r < m → cnE σ (mN σ r)) ∧ s = (σ.1 70).toNatClampNeg ∧ (∀ k, k < s → vOK σ k)) (h : ∀ (v : Int32) (σ' : rS), (frV σ σ' ∧ nb v ∧ (v ≠ 0 → ∀ k, k < s → vOK σ' k)) → Q v σ') : cI C 7 m_solveRing [.ref (co C)] σ Q := by
  refine m_solveRing_run hC ?_
  unfold w_solveRing_0
  obtain ⟨hO, h0, h1, hm, hM, hE, hs, hv⟩ := hp
  have m32 : m ≤ 32 := by rw [hm]; exact cn_le (y := 32) rfl h1
  have h1k : σ.1 100 ≤ 1000 := Int32.le_trans h1 (by decide)
  have hh125 : ∀ (l1 : Int32) (l2 : Int32) (τ : rS), (frV σ τ ∧ nb l1 ∧ 0 ≤ l2 ∧ l2 ≤ σ.1 100 ∧ (l1 ≠ 0 → ∀ k, k < s → vOK τ k)) → w_solveRing_125 C Q  l1 l2 τ := by
    intro z1 z2 τi hinit
    unfold w_solveRing_125
    refine ⟨fun n l1 l2 τ => n = (σ.1 100 - l2).toNatClampNeg ∧ (frV σ τ ∧ nb l1 ∧ 0 ≤ l2 ∧ l2 ≤ σ.1 100 ∧ (l1 ≠ 0 → ∀ k, k < s → vOK τ k)), ⟨_, rfl, hinit⟩, ?_⟩
    clear hinit
    rintro n125 x125_1 x125_2 σ125 ⟨hn125, i125⟩
    obtain ⟨F, n1, a0, a1, V⟩ := i125
    have e100 := F.1 100 (by decide)
    have e99 := F.2.2.1 99 (by decide) (by decide) (by decide) (by decide) (by decide)
    rw [e100, e99]
    refine ⟨fun c1 => ?_, fun c1 => ?_⟩
    · skip
      refine ⟨?_, h _ _ ?_⟩
      · clear h; exact n1  -- b1
      · clear h; exact ⟨F, n1, V⟩  -- q2
    · skip
      have u := uk a0 c1 h1k
      have am : x125_2.toNatClampNeg < m := by rw [hm]; exact cn_lt a0 u.2.2.2.2.1
      have k := hM.1 x125_2.toNatClampNeg am
      have k1 := Int32.lt_of_lt_of_le k.2 hO.1.1.2
      refine ⟨ib_1000.mpr ?_, ?_⟩
      · clear h; exact ⟨a0, u.2.2.2.2.2⟩  -- b3
      refine ⟨ib_1000.mpr ?_, ?_⟩
      · clear h; exact ⟨k.1, k1⟩  -- b4
      intro σ_2 hσ_2
      intro x3 hx3
      refine ⟨_, cn_lt2 hn125 ?_ ?_, rfl, ?_⟩
      · clear h; rw [hx3]; exact u.1  -- d5
      · clear h; rw [hx3]; exact u.2.1  -- d6
      · clear h; rw [hx3, hσ_2]
        exact ⟨frV_tr F frV_1, n1, u.2.2.1, u.2.2.2.1, fun z k hk => vOK_f (ri3 (by decide)) (V z k hk)⟩
  refine layRing_c hC m ?_ (fun σ_4 q5 => ?_)
  · clear h; exact ⟨hO, h0, h1, hm, hM⟩  -- p8
  have e4 := q5.1.1 100 (by decide)
  refine foldRing_c hC (P := rP σ m) (T := riT σ) (K := rK σ m) (m := m) ?_ (fun σ_6 q7 => ?_)
  · clear h; rw [e4]; exact ⟨h0, h1, hm, rP_Mk hO hM hE, rP_whl hO hM, q5.2⟩  -- p9
  unfold w_solveRing_10
  refine ⟨fun n l1 τ => n = (σ.1 100 - l1).toNatClampNeg ∧ (frK [0, 1, 2, 3, 4, 5, 6, 7, 8, 9, 10, 11, 12, 13, 14] 0 (260 * 2176) σ τ ∧ 0 ≤ l1 ∧ l1 ≤ σ.1 100 ∧ fdJ τ (rP σ m) m (stF m m) 0 ∧ ∀ a k, a < l1.toNatClampNeg → k < m → ∃ q, hL τ (1152 + 32 * a + k) q), ⟨_, rfl, ?_⟩, ?_⟩
  · clear h; have F6 : frK [0, 1, 2, 3, 4, 5, 6, 7, 8, 9, 10, 11, 12, 13, 14] 0 (260 * 2176) σ σ_6 := frK_tr (frK_w q5.1 (sub_of rfl) (by omega) (by omega)) (frK_w q7.1 (fun k hk => hk) (by omega) (by omega))
    exact ⟨F6, by decide, Int32.le_of_lt h0, q7.2, fun a k ha => absurd ha (Nat.not_lt_zero a)⟩
  rintro n10 x10_1 σ10 ⟨hn10, i10⟩
  obtain ⟨F, a0, a1, J, H⟩ := i10
  have e100 := F.1 100 (by decide)
  rw [e100]
  refine ⟨fun c8 => ?_, fun c8 => ?_⟩
  · skip
    unfold w_solveRing_33
    refine ⟨fun n l1 l2 τ => n = (σ.1 100 - l2).toNatClampNeg ∧ (frV σ τ ∧ nb l1 ∧ 0 ≤ l2 ∧ l2 ≤ σ.1 100 ∧ (∀ a k, a < m → k < m → ∃ q, hL τ (1152 + 32 * a + k) q) ∧ (l1 ≠ 0 → ∀ k, k < s → vOK τ k)), ⟨_, rfl, ?_⟩, ?_⟩
    · clear h; have e : x10_1 = σ.1 100 := Int32.le_antisymm a1 c8
      rw [e, ← hm] at H
      exact ⟨frV_K F, nb_1, by decide, Int32.le_of_lt h0, H, fun _ k hk => vOK_f (F.2.2.1 102 (by decide) (by decide) (by decide)) (hv k hk)⟩
    rintro n33 x33_1 x33_2 σ33 ⟨hn33, i33⟩
    have hj106 : ∀ (l2 : Int32) (s0 : Int32) (τ : rS), (l2 = x33_2 ∧ nb s0 ∧ ¬ σ.1 100 ≤ x33_2 ∧ x33_1 ≠ 0 ∧ frV σ τ ∧ frS [0, 1, 2, 3, 4, 5, 6, 7, 8, 9, 10, 11, 12, 13, 14] σ33 τ ∧ numO τ 4 ∧ numO τ 5 ∧ 0 < nV τ 5 ∧ (s0 ≠ 0 → nL τ 4 ≤ 16 ∧ nL τ 5 ≤ 16)) → w_solveRing_106 C Q (fun l1' l2' τ => ∃ k < n33, (fun n l1 l2 τ => n = (σ.1 100 - l2).toNatClampNeg ∧ (frV σ τ ∧ nb l1 ∧ 0 ≤ l2 ∧ l2 ≤ σ.1 100 ∧ (∀ a k, a < m → k < m → ∃ q, hL τ (1152 + 32 * a + k) q) ∧ (l1 ≠ 0 → ∀ k, k < s → vOK τ k))) k l1' l2' τ) l2 s0 τ := by
      rintro y106_2 y106_s0 τ106 j106
      unfold w_solveRing_106
      obtain ⟨G, n33', b0, b1, H33, V33⟩ := i33
      obtain ⟨y1, y2, y3, y4, Fy, Sy, o4, o5, p5, L⟩ := j106
      have v := uk b0 y3 h1k
      have bm : x33_2.toNatClampNeg < m := by rw [hm]; exact cn_lt b0 v.2.2.2.2.1
      have k := hM.1 x33_2.toNatClampNeg bm
      have k1 := Int32.lt_of_lt_of_le k.2 hO.1.1.2
      have e99 := Fy.2.2.1 99 (by decide) (by decide) (by decide) (by decide) (by decide)
      rw [e99, y1]
      refine ⟨ib_1000.mpr ?_, ?_⟩
      · clear h; exact ⟨b0, v.2.2.2.2.2⟩  -- b12
      refine keepVisits_c hC  ?_ (fun σ_9 q10 => ?_)
      · clear h; exact ⟨k.1, k1, o4, o5⟩  -- p13
      intro x11 hx11
      refine ⟨_, cn_lt2 hn33 ?_ ?_, rfl, ?_⟩
      · clear h; rw [hx11]; exact v.1  -- d14
      · clear h; rw [hx11]; exact v.2.1  -- d15
      · clear h; rw [hx11]
        refine ⟨frV_tr Fy (frV_R q10.1), y2, v.2.2.1, v.2.2.2.1, fun a k ha hk => ?_, fun z k hk => ?_⟩
        · obtain ⟨q, hq⟩ := H33 a k ha hk
          exact ⟨q, hL_e (fun i _ _ => by rw [q10.1.2.2.1 93 (by decide), Sy.2.2.1 93 (by decide) (by decide)]) hq⟩
        · by_cases e : k = (σ.2.2.1 99 x33_2.toNatClampNeg).toNatClampNeg
          · have l := L z
            have s4 := q10.2.1 l.1
            have s5 := q10.2.2 l.2
            rw [e]
            exact ⟨s4.1, s5.1, by rw [s5.2]; exact p5⟩
          · exact vOK_e (fun i i1 i2 => q10.1.2.2.2.2 i (by omega)) (vOK_f (Sy.2.2.1 102 (by decide) (by decide)) (V33 y4 k hk))
    obtain ⟨G, n33', b0, b1, H33, V33⟩ := i33
    have g100 := G.1 100 (by decide)
    rw [g100]
    refine ⟨fun c12 => ?_, fun c12 => ?_⟩
    · skip
      refine hh125 _ _ _ ?_
      · clear h; exact ⟨G, n33', by decide, Int32.le_of_lt h0, V33⟩  -- j17
    · skip
      refine ⟨fun c13 => ?_, fun c13 => ?_⟩
      · skip
        refine hh125 _ _ _ ?_
        · clear h; exact ⟨G, n33', by decide, Int32.le_of_lt h0, V33⟩  -- j18
      · skip
        refine clearSum_c hC  (fun σ_14 q15 => ?_)
        unfold w_solveRing_51
        refine ⟨fun n l2 l3 τ => n = (σ.1 100 - l3).toNatClampNeg ∧ (l2 = x33_2 ∧ 0 ≤ l3 ∧ l3 ≤ σ.1 100 ∧ frV σ τ ∧ frS [0, 1, 2, 3, 4, 5, 6, 7, 8, 9, 10, 11, 12, 13, 14] σ33 τ ∧ siJ σ33 τ s (20001 * l3.toNatClampNeg) (prS (rgD σ33 x33_2.toNatClampNeg) l3.toNatClampNeg)), ⟨_, rfl, ?_⟩, ?_⟩
        · clear h; exact ⟨rfl, by decide, Int32.le_of_lt h0, frV_tr G (frV_S q15.1), frS_mono q15.1 (sub_of rfl), siJ_0 q15.2⟩  -- j19
        rintro n51 x51_2 x51_3 σ51 ⟨hn51, i51⟩
        obtain ⟨f1, w0, w1, Fv, Fs, J⟩ := i51
        have h100 := Fv.1 100 (by decide)
        have h99 := Fv.2.2.1 99 (by decide) (by decide) (by decide) (by decide) (by decide)
        have hJ := J
        obtain ⟨S, S1, S2, -, -⟩ := hJ
        have R := hS_nn S1 S2
        rw [h100, h99, f1]
        refine ⟨fun c16 => ?_, fun c16 => ?_⟩
        · skip
          refine isLong_c hC  ?_ (fun r17 q19 => ?_)
          · clear h; exact ⟨by decide, by decide⟩  -- p20
          refine ⟨fun c20 => ?_, fun c20 => ?_⟩
          · skip
            refine hj106 _ _ _ ?_
            · clear h; exact ⟨rfl, nb_0, c12, c13, Fv, Fs, R.1, R.2.1, (hR_q R).2, fun z => absurd rfl z⟩  -- k21
          · skip
            refine isLong_c hC  ?_ (fun r21 q23 => ?_)
            · clear h; exact ⟨by decide, by decide⟩  -- p22
            refine ⟨fun c24 => ?_, fun c24 => ?_⟩
            · skip
              refine hj106 _ _ _ ?_
              · clear h; exact ⟨rfl, nb_0, c12, c13, Fv, Fs, R.1, R.2.1, (hR_q R).2, fun z => absurd rfl z⟩  -- k23
            · skip
              refine hj106 _ _ _ ?_
              · clear h; exact ⟨rfl, nb_1, c12, c13, Fv, Fs, R.1, R.2.1, (hR_q R).2, fun _ => ⟨cn_le (x := σ51.2.2.1 91 4) (y := 16) rfl (Int32.not_lt.mp (fun z => q19.2.mpr z c20)), cn_le (x := σ51.2.2.1 91 5) (y := 16) rfl (Int32.not_lt.mp (fun z => q23.2.mpr z c24))⟩⟩  -- k24
        · skip
          have v := uk b0 c12 h1k
          have bm : x33_2.toNatClampNeg < m := by rw [hm]; exact cn_lt b0 v.2.2.2.2.1
          have b32 : x33_2 < 32 := Int32.lt_of_lt_of_le v.2.2.2.2.1 h1
          have w := uk w0 c16 h1k
          have wm : x51_3.toNatClampNeg < m := by rw [hm]; exact cn_lt w0 w.2.2.2.2.1
          have w32 : x51_3 < 32 := Int32.lt_of_lt_of_le w.2.2.2.2.1 h1
          have ws := cn_succ w0 (Int32.lt_trans w.2.2.2.2.2 (by decide))
          have ir := ixr (c := 1152) (by decide) (by decide) w0 w32 b0 b32
          have ir2 : (1152 + 32 * x51_3 + x33_2).toNatClampNeg = 1152 + 32 * x51_3.toNatClampNeg + x33_2.toNatClampNeg := ir.2
          have r93 := Fs.2.2.1 93 (by decide) (by decide)
          obtain ⟨q, hq⟩ := H33 x51_3.toNatClampNeg x33_2.toNatClampNeg wm bm
          have hq2 : hL σ51 (1152 + 32 * x51_3.toNatClampNeg + x33_2.toNatClampNeg) q := hL_e (fun i _ _ => by rw [r93]) hq
          have bq : byQ σ51 (1152 + 32 * x51_3 + x33_2) = q := by
            unfold byQ
            rw [if_neg (fun z => by have := ir.1.1; rw [z] at this; exact absurd this (by decide)), ir2]
            exact hL_q hq2
          have bo : byO σ51 (1152 + 32 * x51_3 + x33_2) := Or.inr ⟨ir.1.1, ir.1.2, by rw [ir2, hL_q hq2]; exact hq2⟩
          have dq : rgD σ33 x33_2.toNatClampNeg x51_3.toNatClampNeg = q.den := by unfold rgD; rw [hL_q hq]
          have ps : prS (rgD σ33 x33_2.toNatClampNeg) (x51_3.toNatClampNeg + 1) = prS (rgD σ33 x33_2.toNatClampNeg) x51_3.toNatClampNeg * q.den := by rw [← dq]; rfl
          have pb : prS (rgD σ33 x33_2.toNatClampNeg) (x51_3.toNatClampNeg + 1) ≤ 65536 ^ (129 * (x51_3.toNatClampNeg + 1)) := prS_le (fun i hi => by
            obtain ⟨q', hq'⟩ := H33 i x33_2.toNatClampNeg (by omega) bm
            have vl := sl_lt (M := 129) rfl hq'.2.1
            rw [hq'.2.2.2] at vl
            unfold rgD
            rw [hL_q hq']
            exact Nat.le_of_lt vl)
          have gg := gS_S Fs
          refine ⟨ib_1000.mpr ?_, ?_⟩
          · clear h; exact ⟨w0, w.2.2.2.2.2⟩  -- b25
          refine sumInflow_c hC s (prS (rgD σ33 x33_2.toNatClampNeg) x51_3.toNatClampNeg) (20001 * x51_3.toNatClampNeg) (129 * (x51_3.toNatClampNeg + 1)) ?_ (fun σ_25 q26 => ?_)
          · clear h; rw [bq]
            exact ⟨pOK_V hO Fv, by rw [Fv.1 70 (by decide)]; exact hs, fun k hk _ => vOK_f (Fs.2.2.1 102 (by decide) (by decide)) (V33 c13 k hk), bo, siJ_g gg J, prS_pos (fun i _ => den0), by rw [← ps]; exact pb, by omega, by omega⟩
          rw [bq] at q26
          intro x27 hx27
          refine ⟨_, cn_lt2 hn51 ?_ ?_, rfl, ?_⟩
          · clear h; rw [hx27]; exact w.1  -- d27
          · clear h; rw [hx27]; exact w.2.1  -- d28
          · clear h; rw [hx27, ws, ps, show 20001 * (x51_3.toNatClampNeg + 1) = 20001 * x51_3.toNatClampNeg + 20001 by omega]
            exact ⟨rfl, w.2.2.1, w.2.2.2.1, frV_tr Fv (frV_S q26.1), frS_tr Fs q26.1, siJ_g gg.symm q26.2⟩
  · skip
    have u := uk a0 c8 h1k
    have as := cn_succ a0 (Int32.lt_trans u.2.2.2.2.2 (by decide))
    refine visitFrom_c hC (P := rP σ m) (T := riT σ) (K := rK σ m) (m := m) ?_ (fun σ_28 q29 => ?_)
    · clear h; rw [e100]; exact ⟨h0, h1, hm, rP_Mk hO hM hE, rP_whl hO hM, J, a0, u.2.2.2.2.1⟩  -- p30
    intro x30 hx30
    refine ⟨_, cn_lt2 hn10 ?_ ?_, rfl, ?_⟩
    · clear h; rw [hx30]; exact u.1  -- d31
    · clear h; rw [hx30]; exact u.2.1  -- d32
    · clear h; rw [hx30, as]
      refine ⟨frK_tr F (frK_w q29.1 (fun k hk => hk) (by omega) (by omega)), u.2.2.1, u.2.2.2.1, fdJ_kp m32 q29.2.1 J, fun a k ha hk => ?_⟩
      by_cases e : a = x10_1.toNatClampNeg
      · obtain ⟨v, -, hv2⟩ := q29.2.2
        rw [e]
        exact ⟨v k, hv2 k hk⟩
      · obtain ⟨q, hq⟩ := H a k (by omega) hk
        exact ⟨q, q29.2.1 _ _ (Or.inr ⟨by omega, by omega⟩) hq⟩

end
section
set_option maxHeartbeats 1600000
/-! the reference: the order of solving -/
theorem endN_q {σ τ : rS} (hr : ∀ k, k = 76 ∨ k = 77 ∨ k = 81 ∨ k = 83 → τ.2.2.1 k = σ.2.2.1 k) : endN τ = endN σ := by
  funext p a
  unfold endN
  simp only [rd]
  rw [hr 76 (by decide), hr 77 (by decide), hr 81 (by decide), hr 83 (by decide)]
theorem edN_q {σ τ : rS} {o : Nat} (hr : ∀ k, k = 76 ∨ k = 77 ∨ k = 78 ∨ k = 81 ∨ k = 83 ∨ k = o → τ.2.2.1 k = σ.2.2.1 k) {p l : Int32} : edN τ p o l = edN σ p o l := by
  funext a b
  unfold edN edI edg
  simp only [rd]
  rw [hr 76 (Or.inl rfl), hr 77 (by omega), hr 78 (by omega), hr 81 (by omega), hr 83 (by omega), hr o (by omega)]
theorem edN_1 {σ τ : rS} {o : Nat} (hr : ∀ k, k = 76 ∨ k = 77 ∨ k = 78 ∨ k = 81 ∨ k = 83 → τ.2.2.1 k = σ.2.2.1 k) {p l : Int32} (hl : l ≠ 0) : edN τ p o l = edN σ p o l := by
  funext a b
  exact propext (edN_o hr hl)
theorem cnE_o {σ τ : rS} (h70 : τ.1 70 = σ.1 70) (hr : ∀ k, k = 76 ∨ k = 77 ∨ k = 78 ∨ k = 81 ∨ k = 83 → τ.2.2.1 k = σ.2.2.1 k) : cnE τ = cnE σ := by
  funext k
  unfold cnE
  rw [endN_q (fun k hk => hr k (by omega)), edN_1 hr (by decide), h70]
theorem nm_not {k : Nat} {l : List Nat} (h : l.contains k = false) : k ∉ l := fun z => by rw [List.contains_iff_mem.mpr z] at h; exact absurd h (by decide)
/-- only the rows of a list differ -/
def frX (R : List Nat) (σ τ : rS) : Prop := τ.1 = σ.1 ∧ τ.2.1 = σ.2.1 ∧ (∀ k, k ∉ R → τ.2.2.1 k = σ.2.2.1 k) ∧ τ.2.2.2 = σ.2.2.2
theorem frX_rf {R : List Nat} {σ : rS} : frX R σ σ := ⟨rfl, rfl, fun _ _ => rfl, rfl⟩
theorem frX_tr {R : List Nat} {σ τ υ : rS} (h : frX R σ τ) (g : frX R τ υ) : frX R σ υ := ⟨g.1.trans h.1, g.2.1.trans h.2.1, fun k z => (g.2.2.1 k z).trans (h.2.2.1 k z), g.2.2.2.trans h.2.2.2⟩
theorem frX_w {R S : List Nat} {σ τ : rS} (h : frX R σ τ) (hl : ∀ k, k ∈ R → k ∈ S) : frX S σ τ := ⟨h.1, h.2.1, fun k z => h.2.2.1 k (fun e => z (hl k e)), h.2.2.2⟩
theorem frX_1 {R : List Nat} {σ : rS} {k i : Nat} {x : Int32} (hk : k ∈ R) : frX R σ (riU σ k i x) := ⟨rfl, rfl, fun q z => ri3 (fun e => z (by rw [e]; exact hk)), rfl⟩
theorem frX_N {l R : List Nat} {σ τ : rS} (h : frN l σ τ) (h0 : 90 ∈ R) (h1 : 91 ∈ R) : frX R σ τ := ⟨h.1, h.2.1, fun k z => h.2.2.1 k (fun e => z (by rw [e]; exact h0)) (fun e => z (by rw [e]; exact h1)), h.2.2.2.1⟩
theorem frX_R {k u v : Nat} {R : List Nat} {σ τ : rS} (h : frR k u v σ τ) (hk : k ∈ R) : frX R σ τ := ⟨h.1, h.2.1, fun j z => h.2.2.1 j (fun e => z (by rw [e]; exact hk)), h.2.2.2.1⟩
theorem frM_w {F G R S : List Nat} {σ τ : rS} (h : frM F R σ τ) (hf : ∀ k, k ∈ F → k ∈ G) (hl : ∀ k, k ∈ R → k ∈ S) : frM G S σ τ := ⟨fun k z => h.1 k (fun e => z (hf k e)), h.2.1, fun k z => h.2.2.1 k (fun e => z (hl k e)), h.2.2.2⟩
theorem frM_X {F R S : List Nat} {σ τ : rS} (h : frX R σ τ) (hl : ∀ k, k ∈ R → k ∈ S) : frM F S σ τ := ⟨fun k _ => by rw [h.1], h.2.1, fun k z => h.2.2.1 k (fun e => z (hl k e)), fun k _ => by rw [h.2.2.2]⟩
theorem i_dn {x k : Int32} (h : ¬ x ≤ 0) (h1 : x ≤ k) (hk : k < 1000) : 0 < x ∧ 0 ≤ x - 1 ∧ x - 1 < 1000 ∧ x < 1000 ∧ 0 ≤ x + -1 ∧ x + -1 < x ∧ x + -1 ≤ k ∧ x + -1 = x - 1 ∧ x < 1000000 := by grind
theorem nar_0 {x : Int32} (h : vp_nar .boolean x ≠ 0) : x ≠ 0 := fun e => h (by rw [e]; rfl)
theorem findOrder_c {C : rCx} (hC : cOK C) (s : Nat) {σ : rS}  {Q : rS → Prop} (hp : pOK σ ∧ s = (σ.1 70).toNatClampNeg) (h : ∀ (σ' : rS), (frM [] [90, 91, 95, 96, 97, 98, 102] σ σ' ∧ (∀ k, k < s → vOK σ' k) ∧ (∀ i, i < s → 0 ≤ σ'.2.2.1 98 i ∧ σ'.2.2.1 98 i < σ.1 70) ∧ (∀ k, k < s → σ'.2.2.1 95 k ≠ 0 → cnE σ k) ∧ (∀ a b, a < s → b < s → (bR (σ'.2.2.2 86) a b = true ↔ Tr (edN σ' 1 95 0) a b)) ∧ nK σ σ') → Q σ') : cV C 3 m_findOrder [.ref (co C)] σ Q := by
  refine m_findOrder_run hC ?_
  unfold w_findOrder_0
  obtain ⟨hO, hs⟩ := hp
  refine findReach_c hC  ?_ (fun σ_1 q2 => ?_)
  · clear h; exact ⟨hO.1, Or.inr rfl⟩  -- p1
  unfold w_findOrder_12
  refine ⟨fun n l1 τ => n = (σ.1 70 - l1).toNatClampNeg ∧ (frM [] [95] σ τ ∧ (∀ a b, a < s → b < s → (bR (τ.2.2.2 86) a b = true ↔ Tr (edN σ 1 95 1) a b)) ∧ 0 ≤ l1 ∧ l1 ≤ σ.1 70 ∧ ∀ k, k < l1.toNatClampNeg → τ.2.2.1 95 k ≠ 0 → cnE σ k), ⟨_, rfl, ?_⟩, ?_⟩
  · clear h; rw [← hs] at q2
    exact ⟨frM_L q2.1, q2.2, by decide, hO.1.1.1, fun k hk => absurd hk (Nat.not_lt_zero k)⟩
  rintro n12 x12_1 σ12 ⟨hn12, i12⟩
  obtain ⟨F, B, a0, a1, E⟩ := i12
  have e70 := F.1 70 (by decide)
  have hO12 : pOK σ12 := pOK_o hO (fun k _ => F.1 k (List.not_mem_nil)) (fun k hk => F.2.2.1 k (fun z => by have := List.mem_singleton.mp z; omega))
  rw [e70]
  refine ⟨fun c3 => ?_, fun c3 => ?_⟩
  · skip
    refine findReach_c hC  ?_ (fun σ_4 q5 => ?_)
    · clear h; exact ⟨hO12.1, Or.inr rfl⟩  -- p3
    unfold w_findOrder_50
    refine ⟨fun n l1 τ => n = (σ.1 70 - l1).toNatClampNeg ∧ (frM [] [90, 91, 95, 96, 97, 98, 102] σ τ ∧ 0 ≤ l1 ∧ l1 ≤ σ.1 70 ∧ (∀ k, k < s → τ.2.2.1 95 k ≠ 0 → cnE σ k) ∧ (∀ a b, a < s → b < s → (bR (τ.2.2.2 86) a b = true ↔ Tr (edN τ 1 95 0) a b)) ∧ (∀ k, k < l1.toNatClampNeg → vOK τ k) ∧ (∀ i, i < l1.toNatClampNeg → 0 ≤ τ.2.2.1 98 i ∧ τ.2.2.1 98 i < σ.1 70) ∧ nK σ τ), ⟨_, rfl, ?_⟩, ?_⟩
    · clear h; rw [e70, ← hs] at q5
      have e : x12_1 = σ.1 70 := Int32.le_antisymm a1 c3
      rw [e, ← hs] at E
      exact ⟨frM_w (frM_tr F (frM_L q5.1)) (fun k hk => hk) (sub_of rfl), by decide, hO.1.1.1, fun k hk z => E k hk (by rw [← q5.1.2.2.1]; exact z), fun a b ha hb => by rw [edN_q (σ := σ12) (fun k _ => by rw [q5.1.2.2.1])]; exact q5.2 a b ha hb, fun k hk => absurd hk (Nat.not_lt_zero k), fun k hk => absurd hk (Nat.not_lt_zero k), nK_r (by rw [q5.1.2.2.1]; exact F.2.2.1 90 (by decide)) (by rw [q5.1.2.2.1]; exact F.2.2.1 91 (by decide))⟩
    rintro n50 x50_1 σ50 ⟨hn50, i50⟩
    have hj175 : ∀ (l1 : Int32) (l2 : Int32) (τ : rS), (l1 = x50_1 ∧ ¬ σ.1 70 ≤ x50_1 ∧ frX [97, 98] σ50 τ ∧ 0 ≤ l2 ∧ l2 ≤ x50_1 ∧ ∀ j, j ≤ x50_1.toNatClampNeg → j ≠ l2.toNatClampNeg → 0 ≤ τ.2.2.1 98 j ∧ τ.2.2.1 98 j < σ.1 70) → w_findOrder_175 C Q (fun l1' τ => ∃ k < n50, (fun n l1 τ => n = (σ.1 70 - l1).toNatClampNeg ∧ (frM [] [90, 91, 95, 96, 97, 98, 102] σ τ ∧ 0 ≤ l1 ∧ l1 ≤ σ.1 70 ∧ (∀ k, k < s → τ.2.2.1 95 k ≠ 0 → cnE σ k) ∧ (∀ a b, a < s → b < s → (bR (τ.2.2.2 86) a b = true ↔ Tr (edN τ 1 95 0) a b)) ∧ (∀ k, k < l1.toNatClampNeg → vOK τ k) ∧ (∀ i, i < l1.toNatClampNeg → 0 ≤ τ.2.2.1 98 i ∧ τ.2.2.1 98 i < σ.1 70) ∧ nK σ τ)) k l1' τ) l1 l2 τ := by
      rintro y175_1 y175_2 τ175 j175
      unfold w_findOrder_175
      obtain ⟨G, b0, b1, E5, B5, V5, O5, K5⟩ := i50
      obtain ⟨y1, y2, Y, y3, y4, y5⟩ := j175
      have u := uk b0 y2 hO.1.1.2
      have bs := cn_succ b0 (Int32.lt_trans u.2.2.2.2.2 (by decide))
      rw [y1]
      refine ⟨ib_1000.mpr ?_, ?_⟩
      · clear h; exact ⟨y3, Int32.lt_of_le_of_lt y4 u.2.2.2.2.2⟩  -- b5
      intro σ_6 hσ_6
      refine ⟨ib_1000.mpr ?_, ?_⟩
      · clear h; exact ⟨b0, u.2.2.2.2.2⟩  -- b6
      intro σ_7 hσ_7
      refine ⟨ib_30.mpr ?_, ?_⟩
      · clear h; exact ⟨by decide, by decide⟩  -- b7
      intro σ_8 hσ_8
      refine set_c hC  ?_ (fun σ_9 q10 => ?_)
      · clear h; exact ⟨by decide, by decide, by decide⟩  -- p8
      simp only [kn] at q10 hσ_8
      have z8 : σ_8.2.2.1 91 4 = 0 := by rw [hσ_8, ri34, if_pos rfl, if_pos rfl]
      have l8 : nL σ_8 4 = 0 := by unfold nL; rw [z8]; rfl
      have n8 : numO σ_8 4 := ⟨by rw [z8]; decide, by rw [z8]; decide, fun i hi => absurd hi (by rw [l8]; exact Nat.not_lt_zero i), Or.inl l8⟩
      have n9 := nV_fr q10.1 (k := 4) (by decide) n8
      have Y8 : frX [90, 91, 96, 97, 98, 102] σ50 σ_8 := by
        rw [hσ_8, hσ_7, hσ_6]
        exact frX_tr (frX_tr (frX_tr (frX_w Y (sub_of rfl)) (frX_1 (by decide))) (frX_1 (by decide))) (frX_1 (by decide))
      have Y9 := frX_tr Y8 (frX_N q10.1 (by decide) (by decide))
      have l94 : nL σ_9 4 ≤ 16 := by rw [n9.2.2, l8]; decide
      have l95 : nL σ_9 5 ≤ 16 := by have := q10.2.2.2; omega
      refine keepVisits_c hC  ?_ (fun σ_11 q12 => ?_)
      · clear h; exact ⟨b0, u.2.2.2.2.2, n9.1, q10.2.1⟩  -- p9
      intro x13 hx13
      refine ⟨_, cn_lt2 hn50 ?_ ?_, rfl, ?_⟩
      · clear h; rw [hx13]; exact u.1  -- d10
      · clear h; rw [hx13]; exact u.2.1  -- d11
      · clear h; have Y11 := frX_tr Y9 (frX_R q12.1 (by decide))
        have s4 := q12.2.1 l94
        have s5 := q12.2.2 l95
        have r102 : σ_9.2.2.1 102 = σ50.2.2.1 102 := by
          rw [q10.1.2.2.1 102 (by decide) (by decide), hσ_8, ri3 (by decide), hσ_7, ri3 (by decide), hσ_6, ri3 (by decide), Y.2.2.1 102 (by decide)]
        have r98 : ∀ i, σ_11.2.2.1 98 i = if i = y175_2.toNatClampNeg then x50_1 else τ175.2.2.1 98 i := fun i => by
          rw [q12.1.2.2.1 98 (by decide), q10.1.2.2.1 98 (by decide) (by decide), hσ_8, ri3 (by decide), hσ_7, ri3 (by decide), hσ_6, ri34, if_pos rfl]
        have K8 : nK σ50 σ_8 := fun k hk => ⟨by rw [hσ_8, ri34, if_pos rfl, if_neg (by omega), hσ_7, ri3 (by decide), hσ_6, ri3 (by decide), Y.2.2.1 91 (by decide)], fun i _ => by rw [hσ_8, ri3 (by decide), hσ_7, ri3 (by decide), hσ_6, ri3 (by decide), Y.2.2.1 90 (by decide)]⟩
        have K11 : nK σ50 σ_11 := nK_tr K8 (nK_tr (nK_l q10.1.2.2.2.2 (by decide)) (nK_r (q12.1.2.2.1 90 (by decide)) (q12.1.2.2.1 91 (by decide))))
        rw [hx13, bs]
        refine ⟨frM_tr G (frM_X Y11 (sub_of rfl)), u.2.2.1, u.2.2.2.1, fun k hk z => E5 k hk (by rw [← Y11.2.2.1 95 (by decide)]; exact z), fun a b ha hb => ?_, fun k hk => ?_, fun i hi => ?_, nK_tr K5 K11⟩
        · rw [Y11.2.2.2, edN_q (σ := σ50) (fun k hk => Y11.2.2.1 k (by rcases hk with z | z | z | z | z | z <;> rw [z] <;> decide))]
          exact B5 a b ha hb
        · by_cases e : k = x50_1.toNatClampNeg
          · rw [e]
            exact ⟨s4.1, s5.1, by rw [s5.2, q10.2.2.1]; decide⟩
          · exact vOK_e (fun i i1 i2 => q12.1.2.2.2.2 i (by omega)) (vOK_f r102 (V5 k (by omega)))
        · rw [r98 i]
          split
          · exact ⟨b0, u.2.2.2.2.1⟩
          · rename_i e
            exact y5 i (by omega) e
    have hj125 : ∀ (l1 : Int32) (s1 : Int32) (s2 : Int32) (s3 : Int32) (τ : rS), (l1 = x50_1 ∧ s1 = x50_1 ∧ ¬ σ.1 70 ≤ x50_1 ∧ frX [97] σ50 τ) → w_findOrder_125 C Q (fun l1' τ => ∃ k < n50, (fun n l1 τ => n = (σ.1 70 - l1).toNatClampNeg ∧ (frM [] [90, 91, 95, 96, 97, 98, 102] σ τ ∧ 0 ≤ l1 ∧ l1 ≤ σ.1 70 ∧ (∀ k, k < s → τ.2.2.1 95 k ≠ 0 → cnE σ k) ∧ (∀ a b, a < s → b < s → (bR (τ.2.2.2 86) a b = true ↔ Tr (edN τ 1 95 0) a b)) ∧ (∀ k, k < l1.toNatClampNeg → vOK τ k) ∧ (∀ i, i < l1.toNatClampNeg → 0 ≤ τ.2.2.1 98 i ∧ τ.2.2.1 98 i < σ.1 70) ∧ nK σ τ)) k l1' τ) l1 s1 s2 s3 τ := by
      rintro y125_1 y125_s1 y125_s2 y125_s3 τ125 j125
      unfold w_findOrder_125
      obtain ⟨G, b0, b1, E5, B5, V5, O5, K5⟩ := i50
      obtain ⟨y1, y2, y3, Y⟩ := j125
      have u := uk b0 y3 hO.1.1.2
      rw [y1, y2]
      refine ⟨ib_1000.mpr ?_, ?_⟩
      · clear h; exact ⟨b0, u.2.2.2.2.2⟩  -- b13
      intro σ_14 hσ_14
      unfold w_findOrder_129
      refine ⟨fun n l1 l2 τ => n = (l2).toNatClampNeg ∧ (l1 = x50_1 ∧ frX [97, 98] σ50 τ ∧ 0 ≤ l2 ∧ l2 ≤ x50_1 ∧ ∀ j, j ≤ x50_1.toNatClampNeg → j ≠ l2.toNatClampNeg → 0 ≤ τ.2.2.1 98 j ∧ τ.2.2.1 98 j < σ.1 70), ⟨_, rfl, ?_⟩, ?_⟩
      · clear h; have r98 : σ_14.2.2.1 98 = σ50.2.2.1 98 := by rw [hσ_14, ri3 (by decide), Y.2.2.1 98 (by decide)]
        refine ⟨rfl, frX_tr (frX_w Y (sub_of rfl)) (by rw [hσ_14]; exact frX_1 (by decide)), b0, Int32.le_refl _, fun j j1 j2 => ?_⟩
        rw [r98]
        exact O5 j (by omega)
      rintro n129 x129_1 x129_2 σ129 ⟨hn129, i129⟩
      obtain ⟨z1, Z, c0, c1, P⟩ := i129
      rw [z1]
      refine ⟨fun c15 => ?_, fun c15 => ?_⟩
      · skip
        refine hj175 _ _ _ ?_
        · clear h; exact ⟨rfl, y3, Z, c0, c1, P⟩  -- k15
      · skip
        have w := i_dn c15 c1 u.2.2.2.2.2
        have wp := cn_pred w.1 w.2.2.2.2.2.2.2.2
        have wl := cn_l c1 c0
        have p := P (x129_2 - 1).toNatClampNeg (by omega) (by omega)
        refine ⟨ib_1000.mpr ?_, ?_⟩
        · clear h; exact ⟨w.2.1, w.2.2.1⟩  -- b16
        refine ⟨ib_1000.mpr ?_, ?_⟩
        · clear h; exact ⟨p.1, Int32.lt_of_lt_of_le p.2 hO.1.1.2⟩  -- b17
        refine ⟨ib_1000.mpr ?_, ?_⟩
        · clear h; exact ⟨b0, u.2.2.2.2.2⟩  -- b18
        refine ⟨fun c16 => ?_, fun c16 => ?_⟩
        · skip
          refine hj175 _ _ _ ?_
          · clear h; exact ⟨rfl, y3, Z, c0, c1, P⟩  -- k19
        · skip
          refine ⟨ib_1000.mpr ?_, ?_⟩
          · clear h; exact ⟨w.2.1, w.2.2.1⟩  -- b20
          refine ⟨ib_1000.mpr ?_, ?_⟩
          · clear h; exact ⟨c0, w.2.2.2.1⟩  -- b21
          intro σ_17 hσ_17
          intro x18 hx18
          refine ⟨_, cn_lt2 hn129 ?_ ?_, rfl, ?_⟩
          · clear h; rw [hx18]; exact w.2.2.2.2.1  -- d22
          · clear h; rw [hx18]; exact w.2.2.2.2.2.1  -- d23
          · clear h; rw [hx18]
            refine ⟨rfl, frX_tr Z (by rw [hσ_17]; exact frX_1 (by decide)), w.2.2.2.2.1, w.2.2.2.2.2.2.1, fun j j1 j2 => ?_⟩
            rw [hσ_17, ri34, if_pos rfl]
            split
            · exact p
            · rename_i e
              exact P j j1 e
    obtain ⟨G, b0, b1, E5, B5, V5, O5, K5⟩ := i50
    have g70 := G.1 70 (by decide)
    rw [g70]
    refine ⟨fun c19 => ?_, fun c19 => ?_⟩
    · skip
      refine h _ ?_
      · clear h; have e : x50_1 = σ.1 70 := Int32.le_antisymm b1 c19
        rw [e, ← hs] at V5 O5
        exact ⟨G, V5, O5, E5, B5, K5⟩
    · skip
      have u := uk b0 c19 hO.1.1.2
      refine ⟨ib_1000.mpr ?_, ?_⟩
      · clear h; exact ⟨b0, u.2.2.2.2.2⟩  -- b26
      intro σ_20 hσ_20
      unfold w_findOrder_67
      refine ⟨fun n l1 l2 τ => n = (σ.1 70 - l2).toNatClampNeg ∧ (l1 = x50_1 ∧ frX [97] σ50 τ ∧ 0 ≤ l2 ∧ l2 ≤ σ.1 70), ⟨_, rfl, ?_⟩, ?_⟩
      · clear h; exact ⟨rfl, by rw [hσ_20]; exact frX_1 (by decide), by decide, hO.1.1.1⟩  -- j27
      rintro n67 x67_1 x67_2 σ67 ⟨hn67, i67⟩
      have hj96 : ∀ (l1 : Int32) (l2 : Int32) (s1 : Int32) (s2 : Int32) (s3 : Int32) (τ : rS), (l1 = x50_1 ∧ l2 = x67_2 ∧ s1 = x50_1 ∧ ¬ σ.1 70 ≤ x67_2 ∧ frX [97] σ50 τ) → w_findOrder_96 C Q (fun l1' τ => ∃ k < n50, (fun n l1 τ => n = (σ.1 70 - l1).toNatClampNeg ∧ (frM [] [90, 91, 95, 96, 97, 98, 102] σ τ ∧ 0 ≤ l1 ∧ l1 ≤ σ.1 70 ∧ (∀ k, k < s → τ.2.2.1 95 k ≠ 0 → cnE σ k) ∧ (∀ a b, a < s → b < s → (bR (τ.2.2.2 86) a b = true ↔ Tr (edN τ 1 95 0) a b)) ∧ (∀ k, k < l1.toNatClampNeg → vOK τ k) ∧ (∀ i, i < l1.toNatClampNeg → 0 ≤ τ.2.2.1 98 i ∧ τ.2.2.1 98 i < σ.1 70) ∧ nK σ τ)) k l1' τ) (fun l1' l2' τ => ∃ k < n67, (fun n l1 l2 τ => n = (σ.1 70 - l2).toNatClampNeg ∧ (l1 = x50_1 ∧ frX [97] σ50 τ ∧ 0 ≤ l2 ∧ l2 ≤ σ.1 70)) k l1' l2' τ) l1 l2 s1 s2 s3 τ := by
        rintro y96_1 y96_2 y96_s1 y96_s2 y96_s3 τ96 j96
        unfold w_findOrder_96
        obtain ⟨z1, Z, w0, w1⟩ := i67
        obtain ⟨y1, y2, y3, y4, Y⟩ := j96
        have w := uk w0 y4 hO.1.1.2
        refine ⟨ib_1000.mpr ?_, ?_⟩
        · clear h; rw [y3]; exact ⟨b0, u.2.2.2.2.2⟩  -- b28
        intro σ_21 hσ_21
        intro x22 hx22
        refine ⟨_, cn_lt2 hn67 ?_ ?_, rfl, ?_⟩
        · clear h; rw [hx22, y2]; exact w.1  -- d29
        · clear h; rw [hx22, y2]; exact w.2.1  -- d30
        · clear h; rw [hx22, y2, hσ_21]
          exact ⟨y1, frX_tr Y (frX_1 (by decide)), w.2.2.1, w.2.2.2.1⟩
      obtain ⟨z1, Z, w0, w1⟩ := i67
      have z70 : σ67.1 70 = σ.1 70 := by rw [Z.1, g70]
      rw [z70, z1]
      refine ⟨fun c23 => ?_, fun c23 => ?_⟩
      · skip
        refine ⟨ib_1000.mpr ?_, ?_⟩
        · clear h; exact ⟨b0, u.2.2.2.2.2⟩  -- b32
        refine leads_c hC  ?_ (fun r24 q26 => ?_)
        · clear h; exact ⟨b0, u.2.2.2.2.2, b0, u.2.2.2.2.2⟩  -- p33
        refine ⟨fun c27 => ?_, fun c27 => ?_⟩
        · skip
          refine hj125 _ _ _ _ _ ?_
          · clear h; exact ⟨rfl, rfl, c19, Z⟩  -- k34
        · skip
          refine hj125 _ _ _ _ _ ?_
          · clear h; exact ⟨rfl, rfl, c19, Z⟩  -- k35
      · skip
        refine ⟨ib_1000.mpr ?_, ?_⟩
        · clear h; exact ⟨b0, u.2.2.2.2.2⟩  -- b36
        refine leads_c hC  ?_ (fun r28 q30 => ?_)
        · clear h; have w := uk w0 c23 hO.1.1.2
          exact ⟨w0, w.2.2.2.2.2, b0, u.2.2.2.2.2⟩
        refine ⟨fun c31 => ?_, fun c31 => ?_⟩
        · skip
          refine hj96 _ _ _ _ _ _ ?_
          · clear h; exact ⟨rfl, rfl, rfl, c23, Z⟩  -- k38
        · skip
          refine hj96 _ _ _ _ _ _ ?_
          · clear h; exact ⟨rfl, rfl, rfl, c23, Z⟩  -- k39
  · skip
    have u := uk a0 c3 hO.1.1.2
    have as := cn_succ a0 (Int32.lt_trans u.2.2.2.2.2 (by decide))
    refine canEnd_c hC  ?_ (fun r32 q34 => ?_)
    · clear h; exact ⟨hO12.1, a0, by rw [e70]; exact u.2.2.2.2.1⟩  -- p40
    rw [e70, ← hs] at q34
    have qe := q34.2
    rw [endN_q (σ := σ) (fun k hk => F.2.2.1 k (fun z => by have := List.mem_singleton.mp z; omega))] at qe
    refine ⟨ib_1000.mpr ?_, ?_⟩
    · clear h; exact ⟨a0, u.2.2.2.2.2⟩  -- b41
    intro σ_35 hσ_35
    intro x36 hx36
    refine ⟨_, cn_lt2 hn12 ?_ ?_, rfl, ?_⟩
    · clear h; rw [hx36]; exact u.1  -- d42
    · clear h; rw [hx36]; exact u.2.1  -- d43
    · clear h; rw [hx36, as, hσ_35]
      refine ⟨frM_tr F (frM_1 (by decide)), B, u.2.2.1, u.2.2.2.1, fun k hk z => ?_⟩
      by_cases e : k = x12_1.toNatClampNeg
      · rw [ri34, if_pos rfl, if_pos e] at z
        have ks : x12_1.toNatClampNeg < s := by rw [hs]; exact cn_lt a0 u.2.2.2.2.1
        rw [e]
        rcases qe.mp (nar_0 z) with y | ⟨m, hm, y1, y2⟩
        · exact Or.inl y
        · exact Or.inr ⟨m, by rw [← hs]; exact hm, (B _ m ks hm).mp y1, y2⟩
      · rw [ri34, if_pos rfl, if_neg e] at z
        exact E k (by omega) z

end
section
set_option maxHeartbeats 1600000
/-! the reference: solve -/
abbrev slF : List Nat := [0, 92, 94, 100]
abbrev slR : List Nat := [90, 91, 93, 95, 96, 97, 98, 99, 102]
theorem least {P : Nat → Prop} : ∀ k, P k → ∃ j, j ≤ k ∧ P j ∧ ∀ m, m < j → ¬ P m := by
  intro k
  induction k using Nat.strongRecOn with
  | _ k ih =>
    intro h
    by_cases e : ∃ m, m < k ∧ P m
    · obtain ⟨m, h1, h2⟩ := e
      obtain ⟨j, j1, j2, j3⟩ := ih m h1 h2
      exact ⟨j, by omega, j2, j3⟩
    · exact ⟨k, Nat.le_refl _, h, fun m hm z => e ⟨m, hm, z⟩⟩
theorem cnt_eq {r : Nat → Int64} {a b : Nat} : ∀ {n : Nat}, (∀ m, m < n → (rng r a m ↔ rng r b m)) → cntR r a n = cntR r b n
  | 0, _ => rfl
  | n + 1, h => by
    have ih := cnt_eq (r := r) (a := a) (b := b) (n := n) (fun m hm => h m (by omega))
    by_cases e : rng r a n
    · rw [cnt_in e, cnt_in ((h n (by omega)).mp e), ih]
    · rw [cnt_out e, cnt_out (fun z => e ((h n (by omega)).mpr z)), ih]
theorem cnt_pos {r : Nat → Int64} {a k : Nat} (h : rng r a k) : ∀ {n : Nat}, k < n → 0 < cntR r a n
  | 0, z => absurd z (Nat.not_lt_zero k)
  | n + 1, z => by
    by_cases e : k = n
    · rw [← e, cnt_in h]; omega
    · have ih := cnt_pos h (n := n) (by omega)
      have q : cntR r a n ≤ cntR r a (n + 1) := Nat.le_add_right ..
      omega
theorem op_path {σ : rS} {o : Nat} {p : Int32} : ∀ {k a b : Nat}, pth (edN σ p o 0) k a b → σ.2.2.1 o a ≠ 0 ∧ σ.2.2.1 o b ≠ 0
  | 0, a, b, h => by
    obtain ⟨i, _, _, g⟩ := h
    exact g.2.2.2.resolve_left (fun z => z rfl)
  | k + 1, a, b, h => by
    obtain ⟨c, ⟨i, _, _, g⟩, h2⟩ := h
    exact ⟨(g.2.2.2.resolve_left (fun z => z rfl)).1, (op_path (k := k) h2).2⟩
/-- the rows of bits say the ways among open states -/
def rbJ (τ : rS) (s : Nat) : Prop := ∀ a b, a < s → b < s → (bR (τ.2.2.2 86) a b = true ↔ Tr (edN τ 1 95 0) a b)
theorem rb_op {τ : rS} {s a b : Nat} (h : rbJ τ s) (ha : a < s) (hb : b < s) (g : bR (τ.2.2.2 86) a b = true) : τ.2.2.1 95 a ≠ 0 ∧ τ.2.2.1 95 b ≠ 0 := by
  obtain ⟨k, hk⟩ := (h a b ha hb).mp g
  exact op_path hk
theorem rb_tr {τ : rS} {s a b c : Nat} (h : rbJ τ s) (ha : a < s) (hb : b < s) (hc : c < s) (g : bR (τ.2.2.2 86) a b = true) (f : bR (τ.2.2.2 86) b c = true) : bR (τ.2.2.2 86) a c = true := (h a c ha hc).mpr (Tr_tr ((h a b ha hb).mp g) ((h b c hb hc).mp f))
theorem rg_tr {τ : rS} {s a b c : Nat} (h : rbJ τ s) (ha : a < s) (hb : b < s) (hc : c < s) (g : rng (τ.2.2.2 86) a b) (f : rng (τ.2.2.2 86) b c) : rng (τ.2.2.2 86) a c := ⟨rb_tr h ha hb hc g.1 f.1, rb_tr h hc hb ha f.2 g.2⟩
theorem rg_sy {r : Nat → Int64} {a b : Nat} (h : rng r a b) : rng r b a := ⟨h.2, h.1⟩
/-- rings of open states are small -/
def r32 (τ : rS) (s : Nat) : Prop := ∀ k, k < s → τ.2.2.1 95 k ≠ 0 → bR (τ.2.2.2 86) k k = true → (∀ m, m < k → ¬ rng (τ.2.2.2 86) k m) → cntR (τ.2.2.2 86) k s ≤ 32
theorem r32_k {τ : rS} {s k : Nat} (h : rbJ τ s) (h2 : r32 τ s) (hk : k < s) (g : bR (τ.2.2.2 86) k k = true) : cntR (τ.2.2.2 86) k s ≤ 32 := by
  obtain ⟨j, j1, j2, j3⟩ := least (P := fun m => rng (τ.2.2.2 86) k m) k ⟨g, g⟩
  have js : j < s := by omega
  have jj := rg_tr h js hk js (rg_sy j2) j2
  have z := h2 j js (rb_op h js js jj.1).1 jj.1 (fun m hm y => j3 m hm (rg_tr h hk js (by omega) j2 y))
  rwa [cnt_eq (a := j) (b := k) (fun m hm => ⟨fun y => rg_tr h hk js hm j2 y, fun y => rg_tr h js hk hm (rg_sy j2) y⟩)] at z
/-- what holds while states are solved -/
def slJ (σ τ : rS) (s : Nat) : Prop := frM slF slR σ τ ∧ τ.1 94 = 0 ∧ (∀ i, i < s → 0 ≤ τ.2.2.1 98 i ∧ τ.2.2.1 98 i < σ.1 70) ∧ (∀ k, k < s → τ.2.2.1 95 k ≠ 0 → cnE σ k) ∧ rbJ τ s ∧ r32 τ s ∧ nK σ τ
theorem pOK_M {σ τ : rS} (h : pOK σ) (f : frM slF slR σ τ) : pOK τ := pOK_o h (fun k hk => f.1 k (by rcases hk with z | z | z <;> rw [z] <;> decide)) (fun k hk => f.2.2.1 k (by rcases hk with z | z | z | z | z | z | z <;> rw [z] <;> decide))
theorem cnE_M {σ τ : rS} (f : frM slF slR σ τ) : cnE τ = cnE σ := cnE_o (f.1 70 (by decide)) (fun k hk => f.2.2.1 k (by rcases hk with z | z | z | z | z <;> rw [z] <;> decide))
theorem slJ_o {σ τ υ : rS} {s : Nat} (h : slJ σ τ s) (f : frM slF slR τ υ) (h94 : υ.1 94 = τ.1 94) (r95 : υ.2.2.1 95 = τ.2.2.1 95) (r98 : υ.2.2.1 98 = τ.2.2.1 98) (l86 : υ.2.2.2 86 = τ.2.2.2 86) (n : nK τ υ) : slJ σ υ s := by
  obtain ⟨h1, h2, h3, h4, h5, h6, h7⟩ := h
  have e : edN υ 1 95 0 = edN τ 1 95 0 := edN_q (fun k hk => by
    rcases hk with z | z | z | z | z | z <;> rw [z]
    · exact f.2.2.1 76 (by decide)
    · exact f.2.2.1 77 (by decide)
    · exact f.2.2.1 78 (by decide)
    · exact f.2.2.1 81 (by decide)
    · exact f.2.2.1 83 (by decide)
    · exact r95)
  refine ⟨frM_tr h1 f, by rw [h94]; exact h2, by rw [r98]; exact h3, by rw [r95]; exact h4, ?_, ?_, nK_tr h7 n⟩
  · unfold rbJ
    rw [l86, e]
    exact h5
  · unfold r32
    rw [l86, r95]
    exact h6
theorem frM_V {σ τ : rS} (f : frV σ τ) : frM slF slR σ τ := ⟨fun k hk => f.1 k (fun e => hk (by rw [e]; decide)), f.2.1, fun k hk => f.2.2.1 k (fun e => hk (by rw [e]; decide)) (fun e => hk (by rw [e]; decide)) (fun e => hk (by rw [e]; decide)) (fun e => hk (by rw [e]; decide)) (fun e => hk (by rw [e]; decide)), fun k _ => by rw [f.2.2.2.1]⟩
theorem slJ_V {σ τ υ : rS} {s : Nat} (h : slJ σ τ s) (f : frV τ υ) : slJ σ υ s := slJ_o h (frM_V f) (f.1 94 (by decide)) (f.2.2.1 95 (by decide) (by decide) (by decide) (by decide) (by decide)) (f.2.2.1 98 (by decide) (by decide) (by decide) (by decide) (by decide)) (by rw [f.2.2.2.1]) f.2.2.2.2
/-- only the members differ -/
def frY (σ τ : rS) : Prop := (∀ k, k ≠ 100 → τ.1 k = σ.1 k) ∧ τ.2.1 = σ.2.1 ∧ (∀ j, j ≠ 99 → τ.2.2.1 j = σ.2.2.1 j) ∧ τ.2.2.2 = σ.2.2.2
theorem frY_tr {σ τ υ : rS} (h : frY σ τ) (g : frY τ υ) : frY σ υ := ⟨fun k z => (g.1 k z).trans (h.1 k z), g.2.1.trans h.2.1, fun j z => (g.2.2.1 j z).trans (h.2.2.1 j z), g.2.2.2.trans h.2.2.2⟩
theorem frY_0 {σ : rS} {x : Int32} : frY σ (siU σ 100 x) := ⟨fun k z => if_neg z, rfl, fun _ _ => rfl, rfl⟩
theorem frY_1 {σ : rS} {i : Nat} {x : Int32} : frY σ (riU σ 99 i x) := ⟨fun _ _ => rfl, rfl, fun _ z => ri3 z, rfl⟩
theorem frM_Y {σ τ : rS} (f : frY σ τ) : frM slF slR σ τ := ⟨fun k hk => f.1 k (fun e => hk (by rw [e]; decide)), f.2.1, fun k hk => f.2.2.1 k (fun e => hk (by rw [e]; decide)), fun k _ => by rw [f.2.2.2]⟩
theorem slJ_Y {σ τ υ : rS} {s : Nat} (h : slJ σ τ s) (f : frY τ υ) : slJ σ υ s := slJ_o h (frM_Y f) (f.1 94 (by decide)) (f.2.2.1 95 (by decide)) (f.2.2.1 98 (by decide)) (by rw [f.2.2.2]) (nK_r (f.2.2.1 90 (by decide)) (f.2.2.1 91 (by decide)))
/-- members gathered so far -/
def mbJ (r : Nat → Int64) (τ : rS) (k : Nat) (l : Int32) : Prop := 0 ≤ τ.1 100 ∧ τ.1 100 ≤ l ∧ (∀ a, a < (τ.1 100).toNatClampNeg → 0 ≤ τ.2.2.1 99 a ∧ τ.2.2.1 99 a < l ∧ ((τ.2.2.1 99 a).toNatClampNeg = k ∨ rng r k (τ.2.2.1 99 a).toNatClampNeg)) ∧ (∀ a b, a < (τ.1 100).toNatClampNeg → b < (τ.1 100).toNatClampNeg → τ.2.2.1 99 a = τ.2.2.1 99 b → a = b) ∧ (bR r k k = true → (τ.1 100).toNatClampNeg = cntR r k l.toNatClampNeg)
theorem mb_i {c l : Int32} (c0 : 0 ≤ c) (cl : c ≤ l) (l1 : l < 1000) : 0 ≤ c + 1 ∧ c + 1 ≤ l + 1 ∧ c < 1000 ∧ c ≤ l + 1 ∧ c < 1000000 ∧ l < 1000000 ∧ l < l + 1 ∧ 0 ≤ l := by grind
theorem lt_u9 {x l : Int32} (h : x < l) (h1 : l < 1000) (h0 : 0 ≤ l) : x < l + 1 ∧ x ≠ l := by grind
theorem mb_s {r : Nat → Int64} {σ υ : rS} {k : Nat} {l : Int32} (h : mbJ r σ k l) (l1 : l < 1000) (hk : l.toNatClampNeg = k ∨ rng r k l.toNatClampNeg) (e1 : υ.1 100 = σ.1 100 + 1) (e2 : ∀ i, υ.2.2.1 99 i = if i = (σ.1 100).toNatClampNeg then l else σ.2.2.1 99 i) : mbJ r υ k (l + 1) := by
  obtain ⟨h1, h2, h3, h4, h5⟩ := h
  have q := mb_i h1 h2 l1
  have cs := cn_succ h1 q.2.2.2.2.1
  have ls := cn_succ q.2.2.2.2.2.2.2 q.2.2.2.2.2.1
  unfold mbJ
  rw [e1, cs, ls]
  refine ⟨q.1, q.2.1, fun a ha => ?_, fun a b ha hb => ?_, fun z => ?_⟩
  · rw [e2]
    split
    · exact ⟨q.2.2.2.2.2.2.2, q.2.2.2.2.2.2.1, hk⟩
    · have y := h3 a (by omega)
      exact ⟨y.1, (lt_u9 y.2.1 l1 q.2.2.2.2.2.2.2).1, y.2.2⟩
  · rw [e2, e2]
    split
    · split
      · omega
      · intro e
        exact absurd e.symm (lt_u9 (h3 b (by omega)).2.1 l1 q.2.2.2.2.2.2.2).2
    · split
      · intro e
        exact absurd e (lt_u9 (h3 a (by omega)).2.1 l1 q.2.2.2.2.2.2.2).2
      · exact h4 a b (by omega) (by omega)
  · have y : rng r k l.toNatClampNeg := by
      rcases hk with w | w
      · rw [w]; exact ⟨z, z⟩
      · exact w
    rw [cnt_in y, h5 z]
theorem mb_n {r : Nat → Int64} {σ : rS} {k : Nat} {l : Int32} (h : mbJ r σ k l) (l1 : l < 1000) (hk : ¬ rng r k l.toNatClampNeg) : mbJ r σ k (l + 1) := by
  obtain ⟨h1, h2, h3, h4, h5⟩ := h
  have q := mb_i h1 h2 l1
  have ls := cn_succ q.2.2.2.2.2.2.2 q.2.2.2.2.2.1
  unfold mbJ
  rw [ls]
  refine ⟨h1, q.2.2.2.1, fun a ha => ?_, h4, fun z => ?_⟩
  · have y := h3 a ha
    exact ⟨y.1, (lt_u9 y.2.1 l1 q.2.2.2.2.2.2.2).1, y.2.2⟩
  · rw [cnt_out hk, h5 z]
theorem i_32 {c : Int32} (h0 : 0 ≤ c) (h1 : 0 < c.toNatClampNeg) (h2 : c.toNatClampNeg ≤ 32) : 0 < c ∧ c ≤ 32 := by
  have e := cn_int h0
  exact ⟨Int32.lt_iff_toInt_lt.mpr (by rw [Int32.toInt_zero]; omega), Int32.le_iff_toInt_le.mpr (by rw [show (32 : Int32).toInt = 32 from rfl]; omega)⟩
theorem by_m {σ : rS} : byQ σ (-1) = 1 := if_pos rfl
theorem solve_c {C : rCx} (hC : cOK C) (s : Nat) {σ : rS}  {Q : Int32 → rS → Prop} (hp : pOK σ ∧ s = (σ.1 70).toNatClampNeg ∧ (σ.1 94 ≠ 0 → ∀ k, k < s → vOK σ k)) (h : ∀ (v : Int32) (σ' : rS), (frM slF slR σ σ' ∧ (σ'.1 94 ≠ 0 → ∀ k, k < s → vOK σ' k) ∧ nK σ σ') → Q v σ') : cI C 8 m_solve [.ref (co C)] σ Q := by
  refine m_solve_run hC ?_
  unfold w_solve_0
  obtain ⟨hO, hs, hv⟩ := hp
  have n1000 := hO.1.1.2
  have hj13 : ∀ (s1 : Int32) (τ : rS), (τ = σ) → w_solve_13 C Q  s1 τ := by
    rintro y13_s1 τ13 j13
    unfold w_solve_13
    intro σ_1 hσ_1
    refine ⟨fun c2 => ?_, fun c2 => ?_⟩
    · skip
      intro σ_3 hσ_3
      refine findOrder_c hC s ?_ (fun σ_4 q5 => ?_)
      · clear h; have F3 : frM slF slR σ σ_3 := by rw [hσ_3, hσ_1, j13]; exact frM_tr (frM_0 (by decide)) (frM_0 (by decide))
        have e94 : σ_3.1 94 = 0 := by rw [hσ_3]; rfl
        exact ⟨pOK_M hO F3, by rw [F3.1 70 (by decide)]; exact hs⟩
      have F3 : frM slF slR σ σ_3 := by rw [hσ_3, hσ_1, j13]; exact frM_tr (frM_0 (by decide)) (frM_0 (by decide))
      have e94 : σ_3.1 94 = 0 := by rw [hσ_3]; rfl
      have F4 : frM slF slR σ σ_4 := frM_tr F3 (frM_w q5.1 (sub_of rfl) (sub_of rfl))
      have c4 : σ_4.1 94 = 0 := by rw [q5.1.1 94 (by decide)]; exact e94
      have cE : ∀ k, k < s → σ_4.2.2.1 95 k ≠ 0 → cnE σ k := by rw [← cnE_M F3]; exact q5.2.2.2.1
      have o98 := q5.2.2.1
      have K4 : nK σ σ_4 := nK_tr (nK_r (by rw [hσ_3, hσ_1, j13]; rfl) (by rw [hσ_3, hσ_1, j13]; rfl)) q5.2.2.2.2.2
      rw [F3.1 70 (by decide)] at o98
      unfold w_solve_36
      refine ⟨fun n l1 τ => n = (σ.1 70 - l1).toNatClampNeg ∧ (τ = σ_4 ∧ 0 ≤ l1 ∧ l1 ≤ σ.1 70 ∧ (∀ k, k < l1.toNatClampNeg → σ_4.2.2.1 95 k ≠ 0 → bR (σ_4.2.2.2 86) k k = true → (∀ m, m < k → ¬ rng (σ_4.2.2.2 86) k m) → cntR (σ_4.2.2.2 86) k s ≤ 32)), ⟨_, rfl, ?_⟩, ?_⟩
      · clear h; exact ⟨rfl, by decide, hO.1.1.1, fun k hk => absurd hk (Nat.not_lt_zero k)⟩  -- j2
      rintro n36 x36_1 σ36 ⟨hn36, i36⟩
      obtain ⟨e1, a0, a1, R⟩ := i36
      have e70 : σ_4.1 70 = σ.1 70 := F4.1 70 (by decide)
      rw [e1, e70]
      refine ⟨fun c6 => ?_, fun c6 => ?_⟩
      · skip
        unfold w_solve_74
        refine ⟨fun n l1 τ => n = (σ.1 70 - l1).toNatClampNeg ∧ (slJ σ τ s ∧ (∀ k, k < s → vOK τ k) ∧ 0 ≤ l1 ∧ l1 ≤ σ.1 70), ⟨_, rfl, ?_⟩, ?_⟩
        · clear h; have e : x36_1 = σ.1 70 := Int32.le_antisymm a1 c6
          rw [e, ← hs] at R
          exact ⟨⟨F4, c4, o98, cE, q5.2.2.2.2.1, R, K4⟩, q5.2.1, by decide, hO.1.1.1⟩
        rintro n74 x74_1 σ74 ⟨hn74, i74⟩
        have hj223 : ∀ (l1 : Int32) (l3 : Int32) (τ : rS), (l1 = x74_1 ∧ ¬ σ.1 70 ≤ x74_1 ∧ slJ σ τ s ∧ (l3 ≠ 0 → ∀ k, k < s → vOK τ k)) → w_solve_223 C Q (fun l1' τ => ∃ k < n74, (fun n l1 τ => n = (σ.1 70 - l1).toNatClampNeg ∧ (slJ σ τ s ∧ (∀ k, k < s → vOK τ k) ∧ 0 ≤ l1 ∧ l1 ≤ σ.1 70)) k l1' τ) l1 l3 τ := by
          rintro y223_1 y223_3 τ223 j223
          unfold w_solve_223
          obtain ⟨J, V, b0, b1⟩ := i74
          obtain ⟨y1, y2, y3, y4⟩ := j223
          have u := uk b0 y2 n1000
          refine ⟨fun c7 => ?_, fun c7 => ?_⟩
          · skip
            intro x8 hx8
            refine ⟨_, cn_lt2 hn74 ?_ ?_, rfl, ?_⟩
            · clear h; rw [hx8, y1]; exact u.1  -- d4
            · clear h; rw [hx8, y1]; exact u.2.1  -- d5
            · clear h; rw [hx8, y1]; exact ⟨y3, y4 c7, u.2.2.1, u.2.2.2.1⟩  -- i6
          · skip
            refine h _ _ ?_
            · clear h; exact ⟨y3.1, fun z => absurd y3.2.1 z, y3.2.2.2.2.2.2⟩  -- q7
        have hj210 : ∀ (l1 : Int32) (l2 : Int32) (s0 : Int32) (τ : rS), (l1 = x74_1 ∧ ¬ σ.1 70 ≤ x74_1 ∧ 0 ≤ l2 ∧ l2 < σ.1 70 ∧ slJ σ τ s ∧ (∀ k, k < s → vOK τ k) ∧ numO τ 4 ∧ numO τ 5 ∧ 0 < nV τ 5 ∧ (s0 ≠ 0 → nL τ 4 ≤ 16 ∧ nL τ 5 ≤ 16)) → w_solve_210 C Q (fun l1' τ => ∃ k < n74, (fun n l1 τ => n = (σ.1 70 - l1).toNatClampNeg ∧ (slJ σ τ s ∧ (∀ k, k < s → vOK τ k) ∧ 0 ≤ l1 ∧ l1 ≤ σ.1 70)) k l1' τ) l1 l2 s0 τ := by
          rintro y210_1 y210_2 y210_s0 τ210 j210
          unfold w_solve_210
          obtain ⟨y1, y2, y3, y4, y5, y6, y7, y8, y9, y10⟩ := j210
          have k1 := Int32.lt_of_lt_of_le y4 n1000
          refine keepVisits_c hC  ?_ (fun σ_9 q10 => ?_)
          · clear h; exact ⟨y3, k1, y7, y8⟩  -- p8
          refine ⟨ib_1000.mpr ?_, ?_⟩
          · clear h; exact ⟨y3, k1⟩  -- b9
          intro σ_11 hσ_11
          refine hj223 _ _ _ ?_
          · clear h; rw [hσ_11]
            refine ⟨y1, y2, slJ_V y5 (frV_tr (frV_R q10.1) frV_1), fun z k hk => vOK_f (ri3 (by decide)) ?_⟩
            by_cases e : k = y210_2.toNatClampNeg
            · have l := y10 z
              have s4 := q10.2.1 l.1
              have s5 := q10.2.2 l.2
              rw [e]
              exact ⟨s4.1, s5.1, by rw [s5.2]; exact y9⟩
            · exact vOK_e (fun i i1 i2 => q10.1.2.2.2.2 i (by omega)) (y6 k hk)
        obtain ⟨J, V, b0, b1⟩ := i74
        have g70 := J.1.1 70 (by decide)
        rw [g70]
        refine ⟨fun c12 => ?_, fun c12 => ?_⟩
        · skip
          intro σ_13 hσ_13
          refine h _ _ ?_
          · clear h; rw [hσ_13]
            exact ⟨frM_tr J.1 (frM_0 (by decide)), fun _ k hk => vOK_f rfl (V k hk), nK_tr J.2.2.2.2.2.2 (nK_r rfl rfl)⟩
        · skip
          have u := uk b0 c12 n1000
          have xs : x74_1.toNatClampNeg < s := by rw [hs]; exact cn_lt b0 u.2.2.2.2.1
          have o := J.2.2.1 x74_1.toNatClampNeg xs
          have o1 := Int32.lt_of_lt_of_le o.2 n1000
          have ks : (σ74.2.2.1 98 x74_1.toNatClampNeg).toNatClampNeg < s := by rw [hs]; exact cn_lt o.1 o.2
          refine ⟨ib_1000.mpr ?_, ?_⟩
          · clear h; exact ⟨b0, u.2.2.2.2.2⟩  -- b12
          intro x14 hx14
          refine ⟨ib_1000.mpr ?_, ?_⟩
          · clear h; rw [hx14]; exact ⟨o.1, o1⟩  -- b13
          refine ⟨fun c15 => ?_, fun c15 => ?_⟩
          · skip
            intro x16 hx16
            refine ⟨_, cn_lt2 hn74 ?_ ?_, rfl, ?_⟩
            · clear h; rw [hx16]; exact u.1  -- d14
            · clear h; rw [hx16]; exact u.2.1  -- d15
            · clear h; rw [hx16]; exact ⟨J, V, u.2.2.1, u.2.2.2.1⟩  -- i16
          · skip
            refine ⟨ib_1000.mpr ?_, ?_⟩
            · clear h; rw [hx14]; exact ⟨o.1, o1⟩  -- b17
            refine ⟨fun c17 => ?_, fun c17 => ?_⟩
            · skip
              intro x18 hx18
              refine ⟨_, cn_lt2 hn74 ?_ ?_, rfl, ?_⟩
              · clear h; rw [hx18]; exact u.1  -- d18
              · clear h; rw [hx18]; exact u.2.1  -- d19
              · clear h; rw [hx18]; exact ⟨J, V, u.2.2.1, u.2.2.2.1⟩  -- i20
            · skip
              intro σ_19 hσ_19
              unfold w_solve_114
              refine ⟨fun n l1 l2 l3 τ => n = (σ.1 70 - l3).toNatClampNeg ∧ (l1 = x74_1 ∧ l2 = σ74.2.2.1 98 x74_1.toNatClampNeg ∧ 0 ≤ l3 ∧ l3 ≤ σ.1 70 ∧ frY σ74 τ ∧ mbJ (σ74.2.2.2 86) τ (σ74.2.2.1 98 x74_1.toNatClampNeg).toNatClampNeg l3), ⟨_, rfl, ?_⟩, ?_⟩
              · clear h; have z100 : σ_19.1 100 = 0 := by rw [hσ_19]; rfl
                refine ⟨rfl, hx14, by decide, hO.1.1.1, by rw [hσ_19]; exact frY_0, ?_⟩
                unfold mbJ
                rw [z100]
                exact ⟨by decide, by decide, fun a ha => absurd ha (Nat.not_lt_zero a), fun a b ha => absurd ha (Nat.not_lt_zero a), fun _ => rfl⟩
              rintro n114 x114_1 x114_2 x114_3 σ114 ⟨hn114, i114⟩
              have hj136 : ∀ (l1 : Int32) (l2 : Int32) (l3 : Int32) (τ : rS), (l1 = x74_1 ∧ l2 = σ74.2.2.1 98 x74_1.toNatClampNeg ∧ l3 = x114_3 ∧ ¬ σ.1 70 ≤ x114_3 ∧ τ = σ114 ∧ (x114_3.toNatClampNeg = (σ74.2.2.1 98 x74_1.toNatClampNeg).toNatClampNeg ∨ rng (σ74.2.2.2 86) (σ74.2.2.1 98 x74_1.toNatClampNeg).toNatClampNeg x114_3.toNatClampNeg)) → w_solve_136 C Q (fun l1' τ => ∃ k < n74, (fun n l1 τ => n = (σ.1 70 - l1).toNatClampNeg ∧ (slJ σ τ s ∧ (∀ k, k < s → vOK τ k) ∧ 0 ≤ l1 ∧ l1 ≤ σ.1 70)) k l1' τ) (fun l1' l2' l3' τ => ∃ k < n114, (fun n l1 l2 l3 τ => n = (σ.1 70 - l3).toNatClampNeg ∧ (l1 = x74_1 ∧ l2 = σ74.2.2.1 98 x74_1.toNatClampNeg ∧ 0 ≤ l3 ∧ l3 ≤ σ.1 70 ∧ frY σ74 τ ∧ mbJ (σ74.2.2.2 86) τ (σ74.2.2.1 98 x74_1.toNatClampNeg).toNatClampNeg l3)) k l1' l2' l3' τ) l1 l2 l3 τ := by
                rintro y136_1 y136_2 y136_3 τ136 j136
                unfold w_solve_136
                obtain ⟨w1, w2, w0, w3, Y, M⟩ := i114
                obtain ⟨z1, z2, z3, z4, z5, z6⟩ := j136
                have w := uk w0 z4 n1000
                have q := mb_i M.1 M.2.1 w.2.2.2.2.2
                rw [z5, z3]
                refine ⟨ib_1000.mpr ?_, ?_⟩
                · clear h; exact ⟨M.1, q.2.2.1⟩  -- b22
                intro σ_20 hσ_20
                intro σ_21 hσ_21
                intro x22 hx22
                refine ⟨_, cn_lt2 hn114 ?_ ?_, rfl, ?_⟩
                · clear h; rw [hx22]; exact w.1  -- d23
                · clear h; rw [hx22]; exact w.2.1  -- d24
                · clear h; rw [hx22]
                  refine ⟨z1, z2, w.2.2.1, w.2.2.2.1, frY_tr Y (by rw [hσ_21, hσ_20]; exact frY_tr frY_1 frY_0), mb_s M w.2.2.2.2.2 z6 (by rw [hσ_21, hσ_20]; rfl) (fun i => ?_)⟩
                  rw [hσ_21, show (siU σ_20 100 (σ_20.1 100 + 1)).2.2.1 99 = σ_20.2.2.1 99 from rfl, hσ_20, ri34, if_pos rfl]
              obtain ⟨w1, w2, w0, w3, Y, M⟩ := i114
              have h70 : σ114.1 70 = σ.1 70 := (Y.1 70 (by decide)).trans g70
              have J2 := slJ_Y J Y
              have e86 : σ114.2.2.2 86 = σ74.2.2.2 86 := by rw [Y.2.2.2]
              have V2 : ∀ k, k < s → vOK σ114 k := fun k hk => vOK_f (Y.2.2.1 102 (by decide)) (V k hk)
              rw [h70, w2]
              refine ⟨fun c23 => ?_, fun c23 => ?_⟩
              · skip
                refine leads_c hC  ?_ (fun r24 q26 => ?_)
                · clear h; exact ⟨o.1, o1, o.1, o1⟩  -- p26
                refine ⟨fun c27 => ?_, fun c27 => ?_⟩
                · skip
                  refine clearSum_c hC  (fun σ_28 q29 => ?_)
                  have J28 := slJ_V J2 (frV_S q29.1)
                  refine sumInflow_c hC s 1 0 0 ?_ (fun σ_30 q31 => ?_)
                  · clear h; rw [by_m]
                    exact ⟨pOK_M hO J28.1, by rw [J28.1.1 70 (by decide)]; exact hs, fun k hk _ => vOK_f (q29.1.2.2.1 102 (by decide) (by decide)) (V2 k hk), Or.inl rfl, siJ_0 (D := fun _ => 1) q29.2, by decide, by decide, by decide, by decide⟩
                  have J30 := slJ_V J28 (frV_S q31.1)
                  have V30 : ∀ k, k < s → vOK σ_30 k := fun k hk => vOK_f ((q31.1.2.2.1 102 (by decide) (by decide)).trans (q29.1.2.2.1 102 (by decide) (by decide))) (V2 k hk)
                  obtain ⟨S, S1, S2, -, -⟩ := q31.2
                  have R30 := hS_nn S1 S2
                  refine isLong_c hC  ?_ (fun r32 q34 => ?_)
                  · clear h; exact ⟨by decide, by decide⟩  -- p28
                  refine ⟨fun c35 => ?_, fun c35 => ?_⟩
                  · skip
                    refine hj210 _ _ _ _ ?_
                    · clear h; exact ⟨w1, c12, o.1, o.2, J30, V30, R30.1, R30.2.1, (hR_q R30).2, fun z => absurd rfl z⟩  -- k29
                  · skip
                    refine isLong_c hC  ?_ (fun r36 q38 => ?_)
                    · clear h; exact ⟨by decide, by decide⟩  -- p30
                    refine ⟨fun c39 => ?_, fun c39 => ?_⟩
                    · skip
                      refine hj210 _ _ _ _ ?_
                      · clear h; exact ⟨w1, c12, o.1, o.2, J30, V30, R30.1, R30.2.1, (hR_q R30).2, fun z => absurd rfl z⟩  -- k31
                    · skip
                      refine hj210 _ _ _ _ ?_
                      · clear h; exact ⟨w1, c12, o.1, o.2, J30, V30, R30.1, R30.2.1, (hR_q R30).2, fun _ => ⟨cn_le (x := σ_30.2.2.1 91 4) (y := 16) rfl (Int32.not_lt.mp (fun z => q34.2.mpr z c35)), cn_le (x := σ_30.2.2.1 91 5) (y := 16) rfl (Int32.not_lt.mp (fun z => q38.2.mpr z c39))⟩⟩  -- k32
                · skip
                  refine solveRing_c hC (σ114.1 100).toNatClampNeg s ?_ (fun r40 σ_41 q42 => ?_)
                  · clear h; have kk := q26.2.mp c27
                    rw [e86] at kk
                    have e : x114_3 = σ.1 70 := Int32.le_antisymm w3 c23
                    rw [e] at M
                    have ct := M.2.2.2.2 kk
                    rw [← hs] at ct
                    have cp := cnt_pos (r := σ74.2.2.2 86) (a := (σ74.2.2.1 98 x74_1.toNatClampNeg).toNatClampNeg) (k := (σ74.2.2.1 98 x74_1.toNatClampNeg).toNatClampNeg) ⟨kk, kk⟩ ks
                    have cl := r32_k J.2.2.2.2.1 J.2.2.2.2.2.1 ks kk
                    have i32 := i_32 M.1 (by omega) (by omega)
                    refine ⟨pOK_M hO J2.1, i32.1, i32.2, rfl, ⟨fun a ha => ⟨(M.2.2.1 a ha).1, by rw [h70]; exact (M.2.2.1 a ha).2.1⟩, M.2.2.2.1⟩, fun a ha => ?_, by rw [h70]; exact hs, V2⟩
                    have y := M.2.2.1 a ha
                    have ys : (σ114.2.2.1 99 a).toNatClampNeg < s := by rw [hs]; exact cn_lt y.1 y.2.1
                    have yr : bR (σ74.2.2.2 86) (σ74.2.2.1 98 x74_1.toNatClampNeg).toNatClampNeg (σ114.2.2.1 99 a).toNatClampNeg = true := by
                      rcases y.2.2 with z | z
                      · rw [z]; exact kk
                      · exact z.1
                    have op := (rb_op J.2.2.2.2.1 ks ys yr).2
                    rw [cnE_M J2.1]
                    exact J.2.2.2.1 _ ys op
                  refine hj223 _ _ _ ?_
                  · clear h; exact ⟨w1, c12, slJ_V J2 q42.1, q42.2.2⟩  -- k34
              · skip
                have w := uk w0 c23 n1000
                refine ⟨fun c43 => ?_, fun c43 => ?_⟩
                · skip
                  refine hj136 _ _ _ _ ?_
                  · clear h; exact ⟨w1, rfl, rfl, c23, rfl, Or.inl (by rw [c43])⟩  -- k35
                · skip
                  refine isRingWith_c hC  ?_ (fun r44 q46 => ?_)
                  · clear h; exact ⟨o.1, o1, w0, w.2.2.2.2.2⟩  -- p36
                  have qr := q46.2
                  rw [e86] at qr
                  refine ⟨fun c47 => ?_, fun c47 => ?_⟩
                  · skip
                    intro x48 hx48
                    refine ⟨_, cn_lt2 hn114 ?_ ?_, rfl, ?_⟩
                    · clear h; rw [hx48]; exact w.1  -- d37
                    · clear h; rw [hx48]; exact w.2.1  -- d38
                    · clear h; rw [hx48]; exact ⟨w1, rfl, w.2.2.1, w.2.2.2.1, Y, mb_n M w.2.2.2.2.2 (fun z => qr.mpr z c47)⟩  -- i39
                  · skip
                    refine hj136 _ _ _ _ ?_
                    · clear h; exact ⟨w1, rfl, rfl, c23, rfl, Or.inr (qr.mp c47)⟩  -- k40
      · skip
        have u := uk a0 c6 n1000
        have as := cn_succ a0 (Int32.lt_trans u.2.2.2.2.2 (by decide))
        refine ⟨ib_1000.mpr ?_, ?_⟩
        · clear h; exact ⟨a0, u.2.2.2.2.2⟩  -- b41
        refine ⟨fun c49 => ?_, fun c49 => ?_⟩
        · skip
          intro x50 hx50
          refine ⟨_, cn_lt2 hn36 ?_ ?_, rfl, ?_⟩
          · clear h; rw [hx50]; exact u.1  -- d42
          · clear h; rw [hx50]; exact u.2.1  -- d43
          · clear h; rw [hx50, as]
            refine ⟨rfl, u.2.2.1, u.2.2.2.1, fun k hk z => ?_⟩
            by_cases e : k = x36_1.toNatClampNeg
            · rw [e] at z; exact absurd c49 z
            · exact R k (by omega) z
        · skip
          refine ringOf_c hC  ?_ (fun r51 q53 => ?_)
          · clear h; rw [e70]; exact ⟨a0, u.2.2.2.2.1, n1000⟩  -- p45
          rw [e70, ← hs] at q53
          refine ⟨fun c54 => ?_, fun c54 => ?_⟩
          · skip
            intro x55 hx55
            refine ⟨_, cn_lt2 hn36 ?_ ?_, rfl, ?_⟩
            · clear h; rw [hx55]; exact u.1  -- d46
            · clear h; rw [hx55]; exact u.2.1  -- d47
            · clear h; rw [hx55, as]
              refine ⟨rfl, u.2.2.1, u.2.2.2.1, fun k hk z z1 z2 => ?_⟩
              by_cases e : k = x36_1.toNatClampNeg
              · rw [e] at z1 z2 ⊢
                rw [← q53.2.2 z1 z2]
                exact cn_le (y := 32) rfl c54
              · exact R k (by omega) z z1 z2
          · skip
            refine h _ _ ?_
            · clear h; exact ⟨F4, fun z => absurd c4 z, K4⟩  -- q49
    · skip
      refine h _ _ ?_
      · clear h; rw [hσ_1, j13]
        exact ⟨frM_0 (by decide), fun z k hk => vOK_f rfl (hv z k hk), nK_r rfl rfl⟩
  refine ⟨fun c56 => ?_, fun c56 => ?_⟩
  · skip
    refine hj13 _ _ ?_
    · clear h; rfl  -- k51
  · skip
    refine hj13 _ _ ?_
    · clear h; rfl  -- k52

end
