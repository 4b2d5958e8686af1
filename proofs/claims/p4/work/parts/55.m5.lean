set_option maxHeartbeats 1600000
/-! the reference: all tables kept, all tables brought back -/
/-- what is kept: row, place, how many -/
abbrev kPs : List (Nat × Nat × Nat) := [(56, 0, 8), (20, 8, 10), (21, 18, 10), (22, 28, 3), (23, 31, 3), (24, 34, 3), (25, 37, 10), (26, 47, 10), (27, 57, 10), (28, 67, 80), (29, 147, 10), (30, 157, 150), (31, 307, 150), (32, 457, 150), (33, 607, 150), (34, 757, 150), (35, 907, 150), (36, 1057, 150), (37, 1207, 150), (38, 1357, 150)]
def kS (σ τ : rS) (done : List (Nat × Nat × Nat)) (c : Nat) : Prop := ((∀ k, k ≠ 55 → τ.1 k = σ.1 k) ∧ (∀ k, τ.2.1 k = σ.2.1 k) ∧ (∀ k, k ≠ 54 → τ.2.2.1 k = σ.2.2.1 k) ∧ (∀ k j, k ≠ 54 → τ.2.2.1 k j = σ.2.2.1 k j) ∧ (∀ k j, τ.2.2.2 k j = σ.2.2.2 k j)) ∧ 0 ≤ τ.1 55 ∧ (τ.1 55).toNatClampNeg = c ∧ ∀ p ∈ done, p.2.1 + p.2.2 ≤ c ∧ ∀ i, i < p.2.2 → τ.2.2.1 54 (p.2.1 + i) = σ.2.2.1 p.1 i
theorem le16 {x : Int32} {c : Nat} (h0 : 0 ≤ x) (h : x.toNatClampNeg = c) (hc : c ≤ 1600) : x ≤ 1600 := by
  have h3 : x.toNatClampNeg = x.toInt.toNat := rfl
  rw [Int32.le_iff_toInt_le, show (1600 : Int32).toInt = 1600 from rfl]
  omega
theorem ad0 {x y : Int32} (h0 : 0 ≤ x) (h1 : x ≤ 1600) (h2 : 0 ≤ y) (h3 : y ≤ 200) : 0 ≤ x + y := by grind
theorem kS_st {σ τ υ : rS} {done : List (Nat × Nat × Nat)} {c r : Nat} {n : Int32} (h : kS σ τ done c) (hc : c ≤ 1600) (hr : r ≠ 54) (h0 : 0 ≤ n) (h1 : n ≤ 200) (q : ((∀ k, k ≠ 55 → υ.1 k = τ.1 k) ∧ (∀ k, υ.2.1 k = τ.2.1 k) ∧ (∀ k, k ≠ 54 → υ.2.2.1 k = τ.2.2.1 k) ∧ (∀ k j, k ≠ 54 → υ.2.2.1 k j = τ.2.2.1 k j) ∧ (∀ k j, υ.2.2.2 k j = τ.2.2.2 k j)) ∧ υ.1 55 = τ.1 55 + n ∧ (∀ i, i < n.toNatClampNeg → υ.2.2.1 54 ((τ.1 55).toNatClampNeg + i) = τ.2.2.1 r i) ∧ (∀ j, j < (τ.1 55).toNatClampNeg → υ.2.2.1 54 j = τ.2.2.1 54 j)) : kS σ υ ((r, c, n.toNatClampNeg) :: done) (c + n.toNatClampNeg) := by
  obtain ⟨k1, k2, k3, k4⟩ := h
  obtain ⟨q1, q2, q3, q4⟩ := q
  have l := le16 k2 k3 hc
  have e : (υ.1 55).toNatClampNeg = c + n.toNatClampNeg := by rw [q2, cn_add k2 l h0 h1, k3]
  refine ⟨⟨fun k z => (q1.1 k z).trans (k1.1 k z), fun k => (q1.2.1 k).trans (k1.2.1 k), fun k z => (q1.2.2.1 k z).trans (k1.2.2.1 k z), fun k j z => (q1.2.2.2.1 k j z).trans (k1.2.2.2.1 k j z), fun k j => (q1.2.2.2.2 k j).trans (k1.2.2.2.2 k j)⟩, by rw [q2]; exact ad0 k2 l h0 h1, e, fun p hp => ?_⟩
  rcases List.mem_cons.mp hp with z | z
  · subst z
    refine ⟨Nat.le_refl _, fun i hi => ?_⟩
    have := q3 i hi
    rw [k3] at this
    rw [this, k1.2.2.1 r hr]
  · obtain ⟨m1, m2⟩ := k4 p z
    refine ⟨by omega, fun i hi => ?_⟩
    rw [q4 _ (by rw [k3]; omega)]
    exact m2 i hi
theorem sa_s {C : rCx} (hC : cOK C) {σ : rS} {Q : rS → Prop} (h0 : σ.1 55 = 0) (h : ∀ υ, kS σ υ [(38, 1357, 150), (37, 1207, 150), (36, 1057, 150), (35, 907, 150), (34, 757, 150), (33, 607, 150), (32, 457, 150), (31, 307, 150), (30, 157, 150), (29, 147, 10), (28, 67, 80), (27, 57, 10), (26, 47, 10), (25, 37, 10), (24, 34, 3), (23, 31, 3), (22, 28, 3), (21, 18, 10), (20, 8, 10), (56, 0, 8)] 1507 → Q υ) : w_swingAll_80 C Q 0 σ := by
  unfold w_swingAll_80
  have k0 : kS σ σ [] 0 := ⟨⟨fun _ _ => rfl, fun _ => rfl, fun _ _ => rfl, fun _ _ _ => rfl, fun _ _ => rfl⟩, by rw [h0]; decide, by rw [h0]; rfl, fun p hp => absurd hp (List.not_mem_nil)⟩
  refine swing_c_s hC 8 ⟨rfl, rt_56, by decide, by decide, k0.2.1, le16 k0.2.1 k0.2.2.1 (by decide), by decide, by decide⟩ (fun υ1 q1 => ?_)
  have k1 := kS_st (r := 56) (n := 8) k0 (by decide) (by decide) (by decide) (by decide) q1
  refine swing_c_s hC 10 ⟨rfl, rt_20, by decide, by decide, k1.2.1, le16 k1.2.1 k1.2.2.1 (by decide), by decide, by decide⟩ (fun υ2 q2 => ?_)
  have k2 := kS_st (r := 20) (n := 10) k1 (by decide) (by decide) (by decide) (by decide) q2
  refine swing_c_s hC 10 ⟨rfl, rt_21, by decide, by decide, k2.2.1, le16 k2.2.1 k2.2.2.1 (by decide), by decide, by decide⟩ (fun υ3 q3 => ?_)
  have k3 := kS_st (r := 21) (n := 10) k2 (by decide) (by decide) (by decide) (by decide) q3
  refine swing_c_s hC 3 ⟨rfl, rt_22, by decide, by decide, k3.2.1, le16 k3.2.1 k3.2.2.1 (by decide), by decide, by decide⟩ (fun υ4 q4 => ?_)
  have k4 := kS_st (r := 22) (n := 3) k3 (by decide) (by decide) (by decide) (by decide) q4
  refine swing_c_s hC 3 ⟨rfl, rt_23, by decide, by decide, k4.2.1, le16 k4.2.1 k4.2.2.1 (by decide), by decide, by decide⟩ (fun υ5 q5 => ?_)
  have k5 := kS_st (r := 23) (n := 3) k4 (by decide) (by decide) (by decide) (by decide) q5
  refine swing_c_s hC 3 ⟨rfl, rt_24, by decide, by decide, k5.2.1, le16 k5.2.1 k5.2.2.1 (by decide), by decide, by decide⟩ (fun υ6 q6 => ?_)
  have k6 := kS_st (r := 24) (n := 3) k5 (by decide) (by decide) (by decide) (by decide) q6
  refine swing_c_s hC 10 ⟨rfl, rt_25, by decide, by decide, k6.2.1, le16 k6.2.1 k6.2.2.1 (by decide), by decide, by decide⟩ (fun υ7 q7 => ?_)
  have k7 := kS_st (r := 25) (n := 10) k6 (by decide) (by decide) (by decide) (by decide) q7
  refine swing_c_s hC 10 ⟨rfl, rt_26, by decide, by decide, k7.2.1, le16 k7.2.1 k7.2.2.1 (by decide), by decide, by decide⟩ (fun υ8 q8 => ?_)
  have k8 := kS_st (r := 26) (n := 10) k7 (by decide) (by decide) (by decide) (by decide) q8
  refine swing_c_s hC 10 ⟨rfl, rt_27, by decide, by decide, k8.2.1, le16 k8.2.1 k8.2.2.1 (by decide), by decide, by decide⟩ (fun υ9 q9 => ?_)
  have k9 := kS_st (r := 27) (n := 10) k8 (by decide) (by decide) (by decide) (by decide) q9
  refine swing_c_s hC 80 ⟨rfl, rt_28, by decide, by decide, k9.2.1, le16 k9.2.1 k9.2.2.1 (by decide), by decide, by decide⟩ (fun υ10 q10 => ?_)
  have k10 := kS_st (r := 28) (n := 80) k9 (by decide) (by decide) (by decide) (by decide) q10
  refine swing_c_s hC 10 ⟨rfl, rt_29, by decide, by decide, k10.2.1, le16 k10.2.1 k10.2.2.1 (by decide), by decide, by decide⟩ (fun υ11 q11 => ?_)
  have k11 := kS_st (r := 29) (n := 10) k10 (by decide) (by decide) (by decide) (by decide) q11
  refine swing_c_s hC 150 ⟨rfl, rt_30, by decide, by decide, k11.2.1, le16 k11.2.1 k11.2.2.1 (by decide), by decide, by decide⟩ (fun υ12 q12 => ?_)
  have k12 := kS_st (r := 30) (n := 150) k11 (by decide) (by decide) (by decide) (by decide) q12
  refine swing_c_s hC 150 ⟨rfl, rt_31, by decide, by decide, k12.2.1, le16 k12.2.1 k12.2.2.1 (by decide), by decide, by decide⟩ (fun υ13 q13 => ?_)
  have k13 := kS_st (r := 31) (n := 150) k12 (by decide) (by decide) (by decide) (by decide) q13
  refine swing_c_s hC 150 ⟨rfl, rt_32, by decide, by decide, k13.2.1, le16 k13.2.1 k13.2.2.1 (by decide), by decide, by decide⟩ (fun υ14 q14 => ?_)
  have k14 := kS_st (r := 32) (n := 150) k13 (by decide) (by decide) (by decide) (by decide) q14
  refine swing_c_s hC 150 ⟨rfl, rt_33, by decide, by decide, k14.2.1, le16 k14.2.1 k14.2.2.1 (by decide), by decide, by decide⟩ (fun υ15 q15 => ?_)
  have k15 := kS_st (r := 33) (n := 150) k14 (by decide) (by decide) (by decide) (by decide) q15
  refine swing_c_s hC 150 ⟨rfl, rt_34, by decide, by decide, k15.2.1, le16 k15.2.1 k15.2.2.1 (by decide), by decide, by decide⟩ (fun υ16 q16 => ?_)
  have k16 := kS_st (r := 34) (n := 150) k15 (by decide) (by decide) (by decide) (by decide) q16
  refine swing_c_s hC 150 ⟨rfl, rt_35, by decide, by decide, k16.2.1, le16 k16.2.1 k16.2.2.1 (by decide), by decide, by decide⟩ (fun υ17 q17 => ?_)
  have k17 := kS_st (r := 35) (n := 150) k16 (by decide) (by decide) (by decide) (by decide) q17
  refine swing_c_s hC 150 ⟨rfl, rt_36, by decide, by decide, k17.2.1, le16 k17.2.1 k17.2.2.1 (by decide), by decide, by decide⟩ (fun υ18 q18 => ?_)
  have k18 := kS_st (r := 36) (n := 150) k17 (by decide) (by decide) (by decide) (by decide) q18
  refine swing_c_s hC 150 ⟨rfl, rt_37, by decide, by decide, k18.2.1, le16 k18.2.1 k18.2.2.1 (by decide), by decide, by decide⟩ (fun υ19 q19 => ?_)
  have k19 := kS_st (r := 37) (n := 150) k18 (by decide) (by decide) (by decide) (by decide) q19
  refine swing_c_s hC 150 ⟨rfl, rt_38, by decide, by decide, k19.2.1, le16 k19.2.1 k19.2.2.1 (by decide), by decide, by decide⟩ (fun υ20 q20 => ?_)
  have k20 := kS_st (r := 38) (n := 150) k19 (by decide) (by decide) (by decide) (by decide) q20
  exact ⟨fun _ => h _ k20, fun z => absurd rfl z⟩
def bS (σ τ : rS) (done : List (Nat × Nat × Nat)) (c : Nat) : Prop := (∀ k, k ≠ 55 → τ.1 k = σ.1 k) ∧ (∀ k, τ.2.1 k = σ.2.1 k) ∧ (∀ k j, τ.2.2.2 k j = σ.2.2.2 k j) ∧ (∀ k, (∀ p ∈ done, p.1 ≠ k) → τ.2.2.1 k = σ.2.2.1 k) ∧ 0 ≤ τ.1 55 ∧ (τ.1 55).toNatClampNeg = c ∧ ∀ p ∈ done, (∀ i, i < p.2.2 → τ.2.2.1 p.1 i = σ.2.2.1 54 (p.2.1 + i)) ∧ (∀ j, p.2.2 ≤ j → τ.2.2.1 p.1 j = σ.2.2.1 p.1 j)
theorem bS_st {σ τ υ : rS} {done : List (Nat × Nat × Nat)} {c r : Nat} {n : Int32} (h : bS σ τ done c) (hc : c ≤ 1600) (hr : ∀ p ∈ done, p.1 ≠ r) (h54 : ∀ p ∈ done, p.1 ≠ 54) (h0 : 0 ≤ n) (h1 : n ≤ 200) (q : ((∀ k, k ≠ 55 → υ.1 k = τ.1 k) ∧ (∀ k, υ.2.1 k = τ.2.1 k) ∧ (∀ k, k ≠ r → υ.2.2.1 k = τ.2.2.1 k) ∧ (∀ k j, k ≠ r → υ.2.2.1 k j = τ.2.2.1 k j) ∧ (∀ k j, υ.2.2.2 k j = τ.2.2.2 k j)) ∧ υ.1 55 = τ.1 55 + n ∧ (∀ i, i < n.toNatClampNeg → υ.2.2.1 r i = τ.2.2.1 54 ((τ.1 55).toNatClampNeg + i)) ∧ (∀ j, n.toNatClampNeg ≤ j → υ.2.2.1 r j = τ.2.2.1 r j)) : bS σ υ ((r, c, n.toNatClampNeg) :: done) (c + n.toNatClampNeg) := by
  obtain ⟨k1, k2, k3, k4, k5, k6, k7⟩ := h
  obtain ⟨q1, q2, q3, q4⟩ := q
  have l := le16 k5 k6 hc
  have e : (υ.1 55).toNatClampNeg = c + n.toNatClampNeg := by rw [q2, cn_add k5 l h0 h1, k6]
  refine ⟨fun k z => (q1.1 k z).trans (k1 k z), fun k => (q1.2.1 k).trans (k2 k), fun k j => (q1.2.2.2.2 k j).trans (k3 k j), fun k hk => ?_, by rw [q2]; exact ad0 k5 l h0 h1, e, fun p hp => ?_⟩
  · exact (q1.2.2.1 k (fun z => hk _ (List.mem_cons_self ..) z.symm)).trans (k4 k (fun p hp => hk p (List.mem_cons_of_mem _ hp)))
  · rcases List.mem_cons.mp hp with z | z
    · subst z
      refine ⟨fun i hi => ?_, fun j hj => ?_⟩
      · rw [q3 i hi, k4 54 h54, k6]
      · rw [q4 j hj, k4 r hr]
    · obtain ⟨m1, m2⟩ := k7 p z
      have er := q1.2.2.1 p.1 (hr p z)
      exact ⟨fun i hi => by rw [er]; exact m1 i hi, fun j hj => by rw [er]; exact m2 j hj⟩
/-- the fields that come back out of the kept row -/
def bF (σ τ : rS) : Prop := τ.1 15 = σ.2.2.1 54 0 ∧ τ.1 16 = σ.2.2.1 54 1 ∧ τ.1 17 = σ.2.2.1 54 2 ∧ τ.1 18 = σ.2.2.1 54 3 ∧ τ.1 19 = σ.2.2.1 54 4 ∧ τ.1 40 = σ.2.2.1 54 5 ∧ τ.1 3 = σ.2.2.1 54 6
theorem sa_b {C : rCx} (hC : cOK C) {σ : rS} {Q : rS → Prop} (h0 : σ.1 55 = 0) (h : ∀ τ υ, bS σ τ [(38, 1357, 150), (37, 1207, 150), (36, 1057, 150), (35, 907, 150), (34, 757, 150), (33, 607, 150), (32, 457, 150), (31, 307, 150), (30, 157, 150), (29, 147, 10), (28, 67, 80), (27, 57, 10), (26, 47, 10), (25, 37, 10), (24, 34, 3), (23, 31, 3), (22, 28, 3), (21, 18, 10), (20, 8, 10), (56, 0, 8)] 1507 → υ.2 = τ.2 → bF σ υ → (∀ k, k ≠ 55 → k ≠ 15 → k ≠ 16 → k ≠ 17 → k ≠ 18 → k ≠ 19 → k ≠ 40 → k ≠ 3 → υ.1 k = σ.1 k) → Q υ) : w_swingAll_80 C Q 1 σ := by
  unfold w_swingAll_80
  have k0 : bS σ σ [] 0 := ⟨fun _ _ => rfl, fun _ => rfl, fun _ _ => rfl, fun _ _ => rfl, by rw [h0]; decide, by rw [h0]; rfl, fun p hp => absurd hp (List.not_mem_nil)⟩
  refine swing_c_b hC 8 ⟨by decide, rt_56, by decide, by decide, k0.2.2.2.2.1, le16 k0.2.2.2.2.1 k0.2.2.2.2.2.1 (by decide), by decide, by decide⟩ (fun υ1 q1 => ?_)
  have k1 := bS_st (r := 56) (n := 8) k0 (by decide) (by decide) (by decide) (by decide) (by decide) q1
  refine swing_c_b hC 10 ⟨by decide, rt_20, by decide, by decide, k1.2.2.2.2.1, le16 k1.2.2.2.2.1 k1.2.2.2.2.2.1 (by decide), by decide, by decide⟩ (fun υ2 q2 => ?_)
  have k2 := bS_st (r := 20) (n := 10) k1 (by decide) (by decide) (by decide) (by decide) (by decide) q2
  refine swing_c_b hC 10 ⟨by decide, rt_21, by decide, by decide, k2.2.2.2.2.1, le16 k2.2.2.2.2.1 k2.2.2.2.2.2.1 (by decide), by decide, by decide⟩ (fun υ3 q3 => ?_)
  have k3 := bS_st (r := 21) (n := 10) k2 (by decide) (by decide) (by decide) (by decide) (by decide) q3
  refine swing_c_b hC 3 ⟨by decide, rt_22, by decide, by decide, k3.2.2.2.2.1, le16 k3.2.2.2.2.1 k3.2.2.2.2.2.1 (by decide), by decide, by decide⟩ (fun υ4 q4 => ?_)
  have k4 := bS_st (r := 22) (n := 3) k3 (by decide) (by decide) (by decide) (by decide) (by decide) q4
  refine swing_c_b hC 3 ⟨by decide, rt_23, by decide, by decide, k4.2.2.2.2.1, le16 k4.2.2.2.2.1 k4.2.2.2.2.2.1 (by decide), by decide, by decide⟩ (fun υ5 q5 => ?_)
  have k5 := bS_st (r := 23) (n := 3) k4 (by decide) (by decide) (by decide) (by decide) (by decide) q5
  refine swing_c_b hC 3 ⟨by decide, rt_24, by decide, by decide, k5.2.2.2.2.1, le16 k5.2.2.2.2.1 k5.2.2.2.2.2.1 (by decide), by decide, by decide⟩ (fun υ6 q6 => ?_)
  have k6 := bS_st (r := 24) (n := 3) k5 (by decide) (by decide) (by decide) (by decide) (by decide) q6
  refine swing_c_b hC 10 ⟨by decide, rt_25, by decide, by decide, k6.2.2.2.2.1, le16 k6.2.2.2.2.1 k6.2.2.2.2.2.1 (by decide), by decide, by decide⟩ (fun υ7 q7 => ?_)
  have k7 := bS_st (r := 25) (n := 10) k6 (by decide) (by decide) (by decide) (by decide) (by decide) q7
  refine swing_c_b hC 10 ⟨by decide, rt_26, by decide, by decide, k7.2.2.2.2.1, le16 k7.2.2.2.2.1 k7.2.2.2.2.2.1 (by decide), by decide, by decide⟩ (fun υ8 q8 => ?_)
  have k8 := bS_st (r := 26) (n := 10) k7 (by decide) (by decide) (by decide) (by decide) (by decide) q8
  refine swing_c_b hC 10 ⟨by decide, rt_27, by decide, by decide, k8.2.2.2.2.1, le16 k8.2.2.2.2.1 k8.2.2.2.2.2.1 (by decide), by decide, by decide⟩ (fun υ9 q9 => ?_)
  have k9 := bS_st (r := 27) (n := 10) k8 (by decide) (by decide) (by decide) (by decide) (by decide) q9
  refine swing_c_b hC 80 ⟨by decide, rt_28, by decide, by decide, k9.2.2.2.2.1, le16 k9.2.2.2.2.1 k9.2.2.2.2.2.1 (by decide), by decide, by decide⟩ (fun υ10 q10 => ?_)
  have k10 := bS_st (r := 28) (n := 80) k9 (by decide) (by decide) (by decide) (by decide) (by decide) q10
  refine swing_c_b hC 10 ⟨by decide, rt_29, by decide, by decide, k10.2.2.2.2.1, le16 k10.2.2.2.2.1 k10.2.2.2.2.2.1 (by decide), by decide, by decide⟩ (fun υ11 q11 => ?_)
  have k11 := bS_st (r := 29) (n := 10) k10 (by decide) (by decide) (by decide) (by decide) (by decide) q11
  refine swing_c_b hC 150 ⟨by decide, rt_30, by decide, by decide, k11.2.2.2.2.1, le16 k11.2.2.2.2.1 k11.2.2.2.2.2.1 (by decide), by decide, by decide⟩ (fun υ12 q12 => ?_)
  have k12 := bS_st (r := 30) (n := 150) k11 (by decide) (by decide) (by decide) (by decide) (by decide) q12
  refine swing_c_b hC 150 ⟨by decide, rt_31, by decide, by decide, k12.2.2.2.2.1, le16 k12.2.2.2.2.1 k12.2.2.2.2.2.1 (by decide), by decide, by decide⟩ (fun υ13 q13 => ?_)
  have k13 := bS_st (r := 31) (n := 150) k12 (by decide) (by decide) (by decide) (by decide) (by decide) q13
  refine swing_c_b hC 150 ⟨by decide, rt_32, by decide, by decide, k13.2.2.2.2.1, le16 k13.2.2.2.2.1 k13.2.2.2.2.2.1 (by decide), by decide, by decide⟩ (fun υ14 q14 => ?_)
  have k14 := bS_st (r := 32) (n := 150) k13 (by decide) (by decide) (by decide) (by decide) (by decide) q14
  refine swing_c_b hC 150 ⟨by decide, rt_33, by decide, by decide, k14.2.2.2.2.1, le16 k14.2.2.2.2.1 k14.2.2.2.2.2.1 (by decide), by decide, by decide⟩ (fun υ15 q15 => ?_)
  have k15 := bS_st (r := 33) (n := 150) k14 (by decide) (by decide) (by decide) (by decide) (by decide) q15
  refine swing_c_b hC 150 ⟨by decide, rt_34, by decide, by decide, k15.2.2.2.2.1, le16 k15.2.2.2.2.1 k15.2.2.2.2.2.1 (by decide), by decide, by decide⟩ (fun υ16 q16 => ?_)
  have k16 := bS_st (r := 34) (n := 150) k15 (by decide) (by decide) (by decide) (by decide) (by decide) q16
  refine swing_c_b hC 150 ⟨by decide, rt_35, by decide, by decide, k16.2.2.2.2.1, le16 k16.2.2.2.2.1 k16.2.2.2.2.2.1 (by decide), by decide, by decide⟩ (fun υ17 q17 => ?_)
  have k17 := bS_st (r := 35) (n := 150) k16 (by decide) (by decide) (by decide) (by decide) (by decide) q17
  refine swing_c_b hC 150 ⟨by decide, rt_36, by decide, by decide, k17.2.2.2.2.1, le16 k17.2.2.2.2.1 k17.2.2.2.2.2.1 (by decide), by decide, by decide⟩ (fun υ18 q18 => ?_)
  have k18 := bS_st (r := 36) (n := 150) k17 (by decide) (by decide) (by decide) (by decide) (by decide) q18
  refine swing_c_b hC 150 ⟨by decide, rt_37, by decide, by decide, k18.2.2.2.2.1, le16 k18.2.2.2.2.1 k18.2.2.2.2.2.1 (by decide), by decide, by decide⟩ (fun υ19 q19 => ?_)
  have k19 := bS_st (r := 37) (n := 150) k18 (by decide) (by decide) (by decide) (by decide) (by decide) q19
  refine swing_c_b hC 150 ⟨by decide, rt_38, by decide, by decide, k19.2.2.2.2.1, le16 k19.2.2.2.2.1 k19.2.2.2.2.2.1 (by decide), by decide, by decide⟩ (fun υ20 q20 => ?_)
  have k20 := bS_st (r := 38) (n := 150) k19 (by decide) (by decide) (by decide) (by decide) (by decide) q20
  refine ⟨fun z => absurd z (by decide), fun _ => ?_⟩
  have e56 : ∀ i, i < 8 → υ20.2.2.1 56 i = σ.2.2.1 54 (0 + i) := (k20.2.2.2.2.2.2 (56, 0, 8) (by decide)).1
  refine ⟨ib_8.mpr (by decide), ?_⟩
  intro a1 ha1
  refine ⟨ib_8.mpr (by decide), ?_⟩
  intro a2 ha2
  refine ⟨ib_8.mpr (by decide), ?_⟩
  intro a3 ha3
  refine ⟨ib_8.mpr (by decide), ?_⟩
  intro a4 ha4
  refine ⟨ib_8.mpr (by decide), ?_⟩
  intro a5 ha5
  refine ⟨ib_8.mpr (by decide), ?_⟩
  intro a6 ha6
  refine ⟨ib_8.mpr (by decide), ?_⟩
  intro a7 ha7
  have s1 : a1.2 = υ20.2 := by rw [ha1, si2]
  have s2 : a2.2 = υ20.2 := by rw [ha2, si2, s1]
  have s3 : a3.2 = υ20.2 := by rw [ha3, si2, s2]
  have s4 : a4.2 = υ20.2 := by rw [ha4, si2, s3]
  have s5 : a5.2 = υ20.2 := by rw [ha5, si2, s4]
  have s6 : a6.2 = υ20.2 := by rw [ha6, si2, s5]
  have s7 : a7.2 = υ20.2 := by rw [ha7, si2, s6]
  refine h υ20 a7 k20 s7 ⟨?_, ?_, ?_, ?_, ?_, ?_, ?_⟩ (fun k z0 z1 z2 z3 z4 z5 z6 z7 => ?_)
  · rw [ha7, si1, if_neg (by decide), ha6, si1, if_neg (by decide), ha5, si1, if_neg (by decide), ha4, si1, if_neg (by decide), ha3, si1, if_neg (by decide), ha2, si1, if_neg (by decide), ha1, si1, if_pos rfl]; exact e56 0 (by decide)
  · rw [ha7, si1, if_neg (by decide), ha6, si1, if_neg (by decide), ha5, si1, if_neg (by decide), ha4, si1, if_neg (by decide), ha3, si1, if_neg (by decide), ha2, si1, if_pos rfl, s1]; exact e56 1 (by decide)
  · rw [ha7, si1, if_neg (by decide), ha6, si1, if_neg (by decide), ha5, si1, if_neg (by decide), ha4, si1, if_neg (by decide), ha3, si1, if_pos rfl, s2]; exact e56 2 (by decide)
  · rw [ha7, si1, if_neg (by decide), ha6, si1, if_neg (by decide), ha5, si1, if_neg (by decide), ha4, si1, if_pos rfl, s3]; exact e56 3 (by decide)
  · rw [ha7, si1, if_neg (by decide), ha6, si1, if_neg (by decide), ha5, si1, if_pos rfl, s4]; exact e56 4 (by decide)
  · rw [ha7, si1, if_neg (by decide), ha6, si1, if_pos rfl, s5]; exact e56 5 (by decide)
  · rw [ha7, si1, if_pos rfl, s6]; exact e56 6 (by decide)
  · rw [ha7, si1, if_neg z7, ha6, si1, if_neg z6, ha5, si1, if_neg z5, ha4, si1, if_neg z4, ha3, si1, if_neg z3, ha2, si1, if_neg z2, ha1, si1, if_neg z1]; exact k20.1 k z0
