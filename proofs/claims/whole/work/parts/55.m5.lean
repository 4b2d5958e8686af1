section
set_option maxHeartbeats 1600000
/-! the reference: all tables kept, all tables brought back -/
/-- what is kept: row, place, how many -/
abbrev kPs : List (Nat × Nat × Nat) := [(56, 0, 8), (20, 8, 10), (21, 18, 10), (22, 28, 3), (23, 31, 3), (24, 34, 3), (25, 37, 10), (26, 47, 10), (27, 57, 10), (28, 67, 80), (29, 147, 10), (30, 157, 150), (31, 307, 150), (32, 457, 150), (33, 607, 150), (34, 757, 150), (35, 907, 150), (36, 1057, 150), (37, 1207, 150), (38, 1357, 150)]
def kS (σ τ : rS) (done : List (Nat × Nat × Nat)) (c : Nat) : Prop := ((∀ k, k ≠ 55 → τ.1 k = σ.1 k) ∧ (∀ k, τ.2.1 k = σ.2.1 k) ∧ (∀ k, k ≠ 54 → τ.2.2.1 k = σ.2.2.1 k) ∧ (∀ k j, k ≠ 54 → τ.2.2.1 k j = σ.2.2.1 k j) ∧ (∀ k j, τ.2.2.2 k j = σ.2.2.2 k j)) ∧ 0 ≤ τ.1 55 ∧ (τ.1 55).toNatClampNeg = c ∧ ∀ p ∈ done, p.2.1 + p.2.2 ≤ c ∧ ∀ i, i < p.2.2 → τ.2.2.1 54 (p.2.1 + i) = σ.2.2.1 p.1 i
theorem le16 {x : Int32} {c : Nat} (h0 : 0 ≤ x) (h : x.toNatClampNeg = c) (hc : c ≤ 1600) : x ≤ 1600 := by
  have h3 : x.toNatClampNeg = x.toInt.toNat := rfl
  rw [Int32.le_iff_toInt_le, show (1600 : Int32).toInt = 1600 from rfl]
  omega
theorem ad0 {x y : Int32} (h0 : 0 ≤ x) (h1 : x ≤ 1600) (h2 : 0 ≤ y) (h3 : y ≤ 200) : 0 ≤ x + y := by grind
theorem kS_st {σ τ υ : rS} {done : List (Nat × Nat × Nat)} {c r : Nat} {n : Int32} (h : kS σ τ done c) (hc : c ≤ 1600) (hr : r ≠ 54) (h0 : 0 ≤ n) (h1 : n ≤ 200) (q : ((∀ k, k ≠ 55 → υ.1 k = τ.1 k) ∧ (∀ k, υ.2.1 k = τ.2.1 k) ∧ (∀ k, k ≠ 54 → υ.2.2.1 k = τ.2.2.1 k) ∧ (∀ k j, k ≠ 54 → υ.2.2.1 k j = τ.2.2.1 k j) ∧ (∀ k j, υ.2.2.2 k j = τ.2.2.2 k j)) ∧ υ.1 55 = τ.1 55 + n ∧ (∀ i, i < n.toNatClampNeg → υ.2.2.1 54 ((τ.1 55).toNatClampNeg + i) = τ.2.2.1 r i) ∧ (∀ j, j < (τ.1 55).toNatClampNeg → υ.2.2.1 54 j = τ.2.2.1 54 j)) : kS σ υ ((r, c, n.toNatClampNeg) :: done) (c + n.toNatClampNeg) := by
  obtain ⟨k1, k2, k3, k4⟩ := h
  obtain ⟨q1, q2, q3, q4⟩ := q
  have l := le16 k2 k3 hc
  have e : (υ.1 55).toNatClampNeg = c + n.toNatClampNeg := by rw [q2, cn_add k2 l h0 h1, k3]
  refine ⟨⟨fun k z => (q1.1 k z).trans (k1.1 k z), fun k => (q1.2.1 k).trans (k1.2.1 k), fun k z => (q1.2.2.1 k z).trans (k1.2.2.1 k z), fun k j z => (q1.2.2.2.1 k j z).trans (k1.2.2.2.1 k j z), fun k j => (q1.2.2.2.2 k j).trans (k1.2.2.2.2 k j)⟩, by rw [q2]; exact ad0 k2 l h0 h1, e, fun p hp => ?_⟩
  rcases List.mem_cons.mp hp with z | z
  · subst z
    refine ⟨Nat.le_refl _, fun i hi => ?_⟩
    have := q3 i hi
    rw [k3] at this
    rw [this, k1.2.2.1 r hr]
  · obtain ⟨m1, m2⟩ := k4 p z
    refine ⟨by omega, fun i hi => ?_⟩
    rw [q4 _ (by rw [k3]; omega)]
    exact m2 i hi
theorem sa_s {C : rCx} (hC : cOK C) {σ : rS} {Q : rS → Prop} (h0 : σ.1 55 = 0) (h : ∀ υ, kS σ υ [(38, 1357, 150), (37, 1207, 150), (36, 1057, 150), (35, 907, 150), (34, 757, 150), (33, 607, 150), (32, 457, 150), (31, 307, 150), (30, 157, 150), (29, 147, 10), (28, 67, 80), (27, 57, 10), (26, 47, 10), (25, 37, 10), (24, 34, 3), (23, 31, 3), (22, 28, 3), (21, 18, 10), (20, 8, 10), (56, 0, 8)] 1507 → Q υ) : w_swingAll_80 C Q 0 σ := by
  unfold w_swingAll_80
  have k0 : kS σ σ [] 0 := ⟨⟨fun _ _ => rfl, fun _ => rfl, fun _ _ => rfl, fun _ _ _ => rfl, fun _ _ => rfl⟩, by rw [h0]; decide, by rw [h0]; rfl, fun p hp => absurd hp (List.not_mem_nil)⟩
  refine swing_c_s hC 8 ⟨rfl, rt_56, by decide, by decide, k0.2.1, le16 k0.2.1 k0.2.2.1 (by decide), by decide, by decide⟩ (fun υ1 q1 => ?_)
  have k1 := kS_st (r := 56) (n := 8) k0 (by decide) (by decide) (by decide) (by decide) q1
  refine swing_c_s hC 10 ⟨rfl, rt_20, by decide, by decide, k1.2.1, le16 k1.2.1 k1.2.2.1 (by decide), by decide, by decide⟩ (fun υ2 q2 => ?_)
  have k2 := kS_st (r := 20) (n := 10) k1 (by decide) (by decide) (by decide) (by decide) q2
  refine swing_c_s hC 10 ⟨rfl, rt_21, by decide, by decide, k2.2.1, le16 k2.2.1 k2.2.2.1 (by decide), by decide, by decide⟩ (fun υ3 q3 => ?_)
  have k3 := kS_st (r := 21) (n := 10) k2 (by decide) (by decide) (by decide) (by decide) q3
  refine swing_c_s hC 3 ⟨rfl, rt_22, by decide, by decide, k3.2.1, le16 k3.2.1 k3.2.2.1 (by decide), by decide, by decide⟩ (fun υ4 q4 => ?_)
  have k4 := kS_st (r := 22) (n := 3) k3 (by decide) (by decide) (by decide) (by decide) q4
  refine swing_c_s hC 3 ⟨rfl, rt_23, by decide, by decide, k4.2.1, le16 k4.2.1 k4.2.2.1 (by decide), by decide, by decide⟩ (fun υ5 q5 => ?_)
  have k5 := kS_st (r := 23) (n := 3) k4 (by decide) (by decide) (by decide) (by decide) q5
  refine swing_c_s hC 3 ⟨rfl, rt_24, by decide, by decide, k5.2.1, le16 k5.2.1 k5.2.2.1 (by decide), by decide, by decide⟩ (fun υ6 q6 => ?_)
  have k6 := kS_st (r := 24) (n := 3) k5 (by decide) (by decide) (by decide) (by decide) q6
  refine swing_c_s hC 10 ⟨rfl, rt_25, by decide, by decide, k6.2.1, le16 k6.2.1 k6.2.2.1 (by decide), by decide, by decide⟩ (fun υ7 q7 => ?_)
  have k7 := kS_st (r := 25) (n := 10) k6 (by decide) (by decide) (by decide) (by decide) q7
  refine swing_c_s hC 10 ⟨rfl, rt_26, by decide, by decide, k7.2.1, le16 k7.2.1 k7.2.2.1 (by decide), by decide, by decide⟩ (fun υ8 q8 => ?_)
  have k8 := kS_st (r := 26) (n := 10) k7 (by decide) (by decide) (by decide) (by decide) q8
  refine swing_c_s hC 10 ⟨rfl, rt_27, by decide, by decide, k8.2.1, le16 k8.2.1 k8.2.2.1 (by decide), by decide, by decide⟩ (fun υ9 q9 => ?_)
  have k9 := kS_st (r := 27) (n := 10) k8 (by decide) (by decide) (by decide) (by decide) q9
  refine swing_c_s hC 80 ⟨rfl, rt_28, by decide, by decide, k9.2.1, le16 k9.2.1 k9.2.2.1 (by decide), by decide, by decide⟩ (fun υ10 q10 => ?_)
  have k10 := kS_st (r := 28) (n := 80) k9 (by decide) (by decide) (by decide) (by decide) q10
  refine swing_c_s hC 10 ⟨rfl, rt_29, by decide, by decide, k10.2.1, le16 k10.2.1 k10.2.2.1 (by decide), by decide, by decide⟩ (fun υ11 q11 => ?_)
  have k11 := kS_st (r := 29) (n := 10) k10 (by decide) (by decide) (by decide) (by decide) q11
  refine swing_c_s hC 150 ⟨rfl, rt_30, by decide, by decide, k11.2.1, le16 k11.2.1 k11.2.2.1 (by decide), by decide, by decide⟩ (fun υ12 q12 => ?_)
  have k12 := kS_st (r := 30) (n := 150) k11 (by decide) (by decide) (by decide) (by decide) q12
  refine swing_c_s hC 150 ⟨rfl, rt_31, by decide, by decide, k12.2.1, le16 k12.2.1 k12.2.2.1 (by decide), by decide, by decide⟩ (fun υ13 q13 => ?_)
  have k13 := kS_st (r := 31) (n := 150) k12 (by decide) (by decide) (by decide) (by decide) q13
  refine swing_c_s hC 150 ⟨rfl, rt_32, by decide, by decide, k13.2.1, le16 k13.2.1 k13.2.2.1 (by decide), by decide, by decide⟩ (fun υ14 q14 => ?_)
  have k14 := kS_st (r := 32) (n := 150) k13 (by decide) (by decide) (by decide) (by decide) q14
  refine swing_c_s hC 150 ⟨rfl, rt_33, by decide, by decide, k14.2.1, le16 k14.2.1 k14.2.2.1 (by decide), by decide, by decide⟩ (fun υ15 q15 => ?_)
  have k15 := kS_st (r := 33) (n := 150) k14 (by decide) (by decide) (by decide) (by decide) q15
  refine swing_c_s hC 150 ⟨rfl, rt_34, by decide, by decide, k15.2.1, le16 k15.2.1 k15.2.2.1 (by decide), by decide, by decide⟩ (fun υ16 q16 => ?_)
  have k16 := kS_st (r := 34) (n := 150) k15 (by decide) (by decide) (by decide) (by decide) q16
  refine swing_c_s hC 150 ⟨rfl, rt_35, by decide, by decide, k16.2.1, le16 k16.2.1 k16.2.2.1 (by decide), by decide, by decide⟩ (fun υ17 q17 => ?_)
  have k17 := kS_st (r := 35) (n := 150) k16 (by decide) (by decide) (by decide) (by decide) q17
  refine swing_c_s hC 150 ⟨rfl, rt_36, by decide, by decide, k17.2.1, le16 k17.2.1 k17.2.2.1 (by decide), by decide, by decide⟩ (fun υ18 q18 => ?_)
  have k18 := kS_st (r := 36) (n := 150) k17 (by decide) (by decide) (by decide) (by decide) q18
  refine swing_c_s hC 150 ⟨rfl, rt_37, by decide, by decide, k18.2.1, le16 k18.2.1 k18.2.2.1 (by decide), by decide, by decide⟩ (fun υ19 q19 => ?_)
  have k19 := kS_st (r := 37) (n := 150) k18 (by decide) (by decide) (by decide) (by decide) q19
  refine swing_c_s hC 150 ⟨rfl, rt_38, by decide, by decide, k19.2.1, le16 k19.2.1 k19.2.2.1 (by decide), by decide, by decide⟩ (fun υ20 q20 => ?_)
  have k20 := kS_st (r := 38) (n := 150) k19 (by decide) (by decide) (by decide) (by decide) q20
  exact ⟨fun _ => h _ k20, fun z => absurd rfl z⟩
def bS (σ τ : rS) (done : List (Nat × Nat × Nat)) (c : Nat) : Prop := (∀ k, k ≠ 55 → τ.1 k = σ.1 k) ∧ (∀ k, τ.2.1 k = σ.2.1 k) ∧ (∀ k j, τ.2.2.2 k j = σ.2.2.2 k j) ∧ (∀ k, (∀ p ∈ done, p.1 ≠ k) → τ.2.2.1 k = σ.2.2.1 k) ∧ 0 ≤ τ.1 55 ∧ (τ.1 55).toNatClampNeg = c ∧ ∀ p ∈ done, (∀ i, i < p.2.2 → τ.2.2.1 p.1 i = σ.2.2.1 54 (p.2.1 + i)) ∧ (∀ j, p.2.2 ≤ j → τ.2.2.1 p.1 j = σ.2.2.1 p.1 j)
theorem bS_st {σ τ υ : rS} {done : List (Nat × Nat × Nat)} {c r : Nat} {n : Int32} (h : bS σ τ done c) (hc : c ≤ 1600) (hr : ∀ p ∈ done, p.1 ≠ r) (h54 : ∀ p ∈ done, p.1 ≠ 54) (h0 : 0 ≤ n) (h1 : n ≤ 200) (q : ((∀ k, k ≠ 55 → υ.1 k = τ.1 k) ∧ (∀ k, υ.2.1 k = τ.2.1 k) ∧ (∀ k, k ≠ r → υ.2.2.1 k = τ.2.2.1 k) ∧ (∀ k j, k ≠ r → υ.2.2.1 k j = τ.2.2.1 k j) ∧ (∀ k j, υ.2.2.2 k j = τ.2.2.2 k j)) ∧ υ.1 55 = τ.1 55 + n ∧ (∀ i, i < n.toNatClampNeg → υ.2.2.1 r i = τ.2.2.1 54 ((τ.1 55).toNatClampNeg + i)) ∧ (∀ j, n.toNatClampNeg ≤ j → υ.2.2.1 r j = τ.2.2.1 r j)) : bS σ υ ((r, c, n.toNatClampNeg) :: done) (c + n.toNatClampNeg) := by
  obtain ⟨k1, k2, k3, k4, k5, k6, k7⟩ := h
  obtain ⟨q1, q2, q3, q4⟩ := q
  have l := le16 k5 k6 hc
  have e : (υ.1 55).toNatClampNeg = c + n.toNatClampNeg := by rw [q2, cn_add k5 l h0 h1, k6]
  refine ⟨fun k z => (q1.1 k z).trans (k1 k z), fun k => (q1.2.1 k).trans (k2 k), fun k j => (q1.2.2.2.2 k j).trans (k3 k j), fun k hk => ?_, by rw [q2]; exact ad0 k5 l h0 h1, e, fun p hp => ?_⟩
  · exact (q1.2.2.1 k (fun z => hk _ (List.mem_cons_self ..) z.symm)).trans (k4 k (fun p hp => hk p (List.mem_cons_of_mem _ hp)))
  · rcases List.mem_cons.mp hp with z | z
    · subst z
      refine ⟨fun i hi => ?_, fun j hj => ?_⟩
      · rw [q3 i hi, k4 54 h54, k6]
      · rw [q4 j hj, k4 r hr]
    · obtain ⟨m1, m2⟩ := k7 p z
      have er := q1.2.2.1 p.1 (hr p z)
      exact ⟨fun i hi => by rw [er]; exact m1 i hi, fun j hj => by rw [er]; exact m2 j hj⟩
/-- the fields that come back out of the kept row -/
def bF (σ τ : rS) : Prop := τ.1 15 = σ.2.2.1 54 0 ∧ τ.1 16 = σ.2.2.1 54 1 ∧ τ.1 17 = σ.2.2.1 54 2 ∧ τ.1 18 = σ.2.2.1 54 3 ∧ τ.1 19 = σ.2.2.1 54 4 ∧ τ.1 40 = σ.2.2.1 54 5 ∧ τ.1 3 = σ.2.2.1 54 6
theorem sa_b {C : rCx} (hC : cOK C) {σ : rS} {Q : rS → Prop} (h0 : σ.1 55 = 0) (h : ∀ τ υ, bS σ τ [(38, 1357, 150), (37, 1207, 150), (36, 1057, 150), (35, 907, 150), (34, 757, 150), (33, 607, 150), (32, 457, 150), (31, 307, 150), (30, 157, 150), (29, 147, 10), (28, 67, 80), (27, 57, 10), (26, 47, 10), (25, 37, 10), (24, 34, 3), (23, 31, 3), (22, 28, 3), (21, 18, 10), (20, 8, 10), (56, 0, 8)] 1507 → υ.2 = τ.2 → bF σ υ → (∀ k, k ≠ 55 → k ≠ 15 → k ≠ 16 → k ≠ 17 → k ≠ 18 → k ≠ 19 → k ≠ 40 → k ≠ 3 → υ.1 k = σ.1 k) → Q υ) : w_swingAll_80 C Q 1 σ := by
  unfold w_swingAll_80
  have k0 : bS σ σ [] 0 := ⟨fun _ _ => rfl, fun _ => rfl, fun _ _ => rfl, fun _ _ => rfl, by rw [h0]; decide, by rw [h0]; rfl, fun p hp => absurd hp (List.not_mem_nil)⟩
  refine swing_c_b hC 8 ⟨by decide, rt_56, by decide, by decide, k0.2.2.2.2.1, le16 k0.2.2.2.2.1 k0.2.2.2.2.2.1 (by decide), by decide, by decide⟩ (fun υ1 q1 => ?_)
  have k1 := bS_st (r := 56) (n := 8) k0 (by decide) (by decide) (by decide) (by decide) (by decide) q1
  refine swing_c_b hC 10 ⟨by decide, rt_20, by decide, by decide, k1.2.2.2.2.1, le16 k1.2.2.2.2.1 k1.2.2.2.2.2.1 (by decide), by decide, by decide⟩ (fun υ2 q2 => ?_)
  have k2 := bS_st (r := 20) (n := 10) k1 (by decide) (by decide) (by decide) (by decide) (by decide) q2
  refine swing_c_b hC 10 ⟨by decide, rt_21, by decide, by decide, k2.2.2.2.2.1, le16 k2.2.2.2.2.1 k2.2.2.2.2.2.1 (by decide), by decide, by decide⟩ (fun υ3 q3 => ?_)
  have k3 := bS_st (r := 21) (n := 10) k2 (by decide) (by decide) (by decide) (by decide) (by decide) q3
  refine swing_c_b hC 3 ⟨by decide, rt_22, by decide, by decide, k3.2.2.2.2.1, le16 k3.2.2.2.2.1 k3.2.2.2.2.2.1 (by decide), by decide, by decide⟩ (fun υ4 q4 => ?_)
  have k4 := bS_st (r := 22) (n := 3) k3 (by decide) (by decide) (by decide) (by decide) (by decide) q4
  refine swing_c_b hC 3 ⟨by decide, rt_23, by decide, by decide, k4.2.2.2.2.1, le16 k4.2.2.2.2.1 k4.2.2.2.2.2.1 (by decide), by decide, by decide⟩ (fun υ5 q5 => ?_)
  have k5 := bS_st (r := 23) (n := 3) k4 (by decide) (by decide) (by decide) (by decide) (by decide) q5
  refine swing_c_b hC 3 ⟨by decide, rt_24, by decide, by decide, k5.2.2.2.2.1, le16 k5.2.2.2.2.1 k5.2.2.2.2.2.1 (by decide), by decide, by decide⟩ (fun υ6 q6 => ?_)
  have k6 := bS_st (r := 24) (n := 3) k5 (by decide) (by decide) (by decide) (by decide) (by decide) q6
  refine swing_c_b hC 10 ⟨by decide, rt_25, by decide, by decide, k6.2.2.2.2.1, le16 k6.2.2.2.2.1 k6.2.2.2.2.2.1 (by decide), by decide, by decide⟩ (fun υ7 q7 => ?_)
  have k7 := bS_st (r := 25) (n := 10) k6 (by decide) (by decide) (by decide) (by decide) (by decide) q7
  refine swing_c_b hC 10 ⟨by decide, rt_26, by decide, by decide, k7.2.2.2.2.1, le16 k7.2.2.2.2.1 k7.2.2.2.2.2.1 (by decide), by decide, by decide⟩ (fun υ8 q8 => ?_)
  have k8 := bS_st (r := 26) (n := 10) k7 (by decide) (by decide) (by decide) (by decide) (by decide) q8
  refine swing_c_b hC 10 ⟨by decide, rt_27, by decide, by decide, k8.2.2.2.2.1, le16 k8.2.2.2.2.1 k8.2.2.2.2.2.1 (by decide), by decide, by decide⟩ (fun υ9 q9 => ?_)
  have k9 := bS_st (r := 27) (n := 10) k8 (by decide) (by decide) (by decide) (by decide) (by decide) q9
  refine swing_c_b hC 80 ⟨by decide, rt_28, by decide, by decide, k9.2.2.2.2.1, le16 k9.2.2.2.2.1 k9.2.2.2.2.2.1 (by decide), by decide, by decide⟩ (fun υ10 q10 => ?_)
  have k10 := bS_st (r := 28) (n := 80) k9 (by decide) (by decide) (by decide) (by decide) (by decide) q10
  refine swing_c_b hC 10 ⟨by decide, rt_29, by decide, by decide, k10.2.2.2.2.1, le16 k10.2.2.2.2.1 k10.2.2.2.2.2.1 (by decide), by decide, by decide⟩ (fun υ11 q11 => ?_)
  have k11 := bS_st (r := 29) (n := 10) k10 (by decide) (by decide) (by decide) (by decide) (by decide) q11
  refine swing_c_b hC 150 ⟨by decide, rt_30, by decide, by decide, k11.2.2.2.2.1, le16 k11.2.2.2.2.1 k11.2.2.2.2.2.1 (by decide), by decide, by decide⟩ (fun υ12 q12 => ?_)
  have k12 := bS_st (r := 30) (n := 150) k11 (by decide) (by decide) (by decide) (by decide) (by decide) q12
  refine swing_c_b hC 150 ⟨by decide, rt_31, by decide, by decide, k12.2.2.2.2.1, le16 k12.2.2.2.2.1 k12.2.2.2.2.2.1 (by decide), by decide, by decide⟩ (fun υ13 q13 => ?_)
  have k13 := bS_st (r := 31) (n := 150) k12 (by decide) (by decide) (by decide) (by decide) (by decide) q13
  refine swing_c_b hC 150 ⟨by decide, rt_32, by decide, by decide, k13.2.2.2.2.1, le16 k13.2.2.2.2.1 k13.2.2.2.2.2.1 (by decide), by decide, by decide⟩ (fun υ14 q14 => ?_)
  have k14 := bS_st (r := 32) (n := 150) k13 (by decide) (by decide) (by decide) (by decide) (by decide) q14
  refine swing_c_b hC 150 ⟨by decide, rt_33, by decide, by decide, k14.2.2.2.2.1, le16 k14.2.2.2.2.1 k14.2.2.2.2.2.1 (by decide), by decide, by decide⟩ (fun υ15 q15 => ?_)
  have k15 := bS_st (r := 33) (n := 150) k14 (by decide) (by decide) (by decide) (by decide) (by decide) q15
  refine swing_c_b hC 150 ⟨by decide, rt_34, by decide, by decide, k15.2.2.2.2.1, le16 k15.2.2.2.2.1 k15.2.2.2.2.2.1 (by decide), by decide, by decide⟩ (fun υ16 q16 => ?_)
  have k16 := bS_st (r := 34) (n := 150) k15 (by decide) (by decide) (by decide) (by decide) (by decide) q16
  refine swing_c_b hC 150 ⟨by decide, rt_35, by decide, by decide, k16.2.2.2.2.1, le16 k16.2.2.2.2.1 k16.2.2.2.2.2.1 (by decide), by decide, by decide⟩ (fun υ17 q17 => ?_)
  have k17 := bS_st (r := 35) (n := 150) k16 (by decide) (by decide) (by decide) (by decide) (by decide) q17
  refine swing_c_b hC 150 ⟨by decide, rt_36, by decide, by decide, k17.2.2.2.2.1, le16 k17.2.2.2.2.1 k17.2.2.2.2.2.1 (by decide), by decide, by decide⟩ (fun υ18 q18 => ?_)
  have k18 := bS_st (r := 36) (n := 150) k17 (by decide) (by decide) (by decide) (by decide) (by decide) q18
  refine swing_c_b hC 150 ⟨by decide, rt_37, by decide, by decide, k18.2.2.2.2.1, le16 k18.2.2.2.2.1 k18.2.2.2.2.2.1 (by decide), by decide, by decide⟩ (fun υ19 q19 => ?_)
  have k19 := bS_st (r := 37) (n := 150) k18 (by decide) (by decide) (by decide) (by decide) (by decide) q19
  refine swing_c_b hC 150 ⟨by decide, rt_38, by decide, by decide, k19.2.2.2.2.1, le16 k19.2.2.2.2.1 k19.2.2.2.2.2.1 (by decide), by decide, by decide⟩ (fun υ20 q20 => ?_)
  have k20 := bS_st (r := 38) (n := 150) k19 (by decide) (by decide) (by decide) (by decide) (by decide) q20
  refine ⟨fun z => absurd z (by decide), fun _ => ?_⟩
  have e56 : ∀ i, i < 8 → υ20.2.2.1 56 i = σ.2.2.1 54 (0 + i) := (k20.2.2.2.2.2.2 (56, 0, 8) (by decide)).1
  refine ⟨ib_8.mpr (by decide), ?_⟩
  intro a1 ha1
  refine ⟨ib_8.mpr (by decide), ?_⟩
  intro a2 ha2
  refine ⟨ib_8.mpr (by decide), ?_⟩
  intro a3 ha3
  refine ⟨ib_8.mpr (by decide), ?_⟩
  intro a4 ha4
  refine ⟨ib_8.mpr (by decide), ?_⟩
  intro a5 ha5
  refine ⟨ib_8.mpr (by decide), ?_⟩
  intro a6 ha6
  refine ⟨ib_8.mpr (by decide), ?_⟩
  intro a7 ha7
  have s1 : a1.2 = υ20.2 := by rw [ha1, si2]
  have s2 : a2.2 = υ20.2 := by rw [ha2, si2, s1]
  have s3 : a3.2 = υ20.2 := by rw [ha3, si2, s2]
  have s4 : a4.2 = υ20.2 := by rw [ha4, si2, s3]
  have s5 : a5.2 = υ20.2 := by rw [ha5, si2, s4]
  have s6 : a6.2 = υ20.2 := by rw [ha6, si2, s5]
  have s7 : a7.2 = υ20.2 := by rw [ha7, si2, s6]
  refine h υ20 a7 k20 s7 ⟨?_, ?_, ?_, ?_, ?_, ?_, ?_⟩ (fun k z0 z1 z2 z3 z4 z5 z6 z7 => ?_)
  · rw [ha7, si1, if_neg (by decide), ha6, si1, if_neg (by decide), ha5, si1, if_neg (by decide), ha4, si1, if_neg (by decide), ha3, si1, if_neg (by decide), ha2, si1, if_neg (by decide), ha1, si1, if_pos rfl]; exact e56 0 (by decide)
  · rw [ha7, si1, if_neg (by decide), ha6, si1, if_neg (by decide), ha5, si1, if_neg (by decide), ha4, si1, if_neg (by decide), ha3, si1, if_neg (by decide), ha2, si1, if_pos rfl, s1]; exact e56 1 (by decide)
  · rw [ha7, si1, if_neg (by decide), ha6, si1, if_neg (by decide), ha5, si1, if_neg (by decide), ha4, si1, if_neg (by decide), ha3, si1, if_pos rfl, s2]; exact e56 2 (by decide)
  · rw [ha7, si1, if_neg (by decide), ha6, si1, if_neg (by decide), ha5, si1, if_neg (by decide), ha4, si1, if_pos rfl, s3]; exact e56 3 (by decide)
  · rw [ha7, si1, if_neg (by decide), ha6, si1, if_neg (by decide), ha5, si1, if_pos rfl, s4]; exact e56 4 (by decide)
  · rw [ha7, si1, if_neg (by decide), ha6, si1, if_pos rfl, s5]; exact e56 5 (by decide)
  · rw [ha7, si1, if_pos rfl, s6]; exact e56 6 (by decide)
  · rw [ha7, si1, if_neg z7, ha6, si1, if_neg z6, ha5, si1, if_neg z5, ha4, si1, if_neg z4, ha3, si1, if_neg z3, ha2, si1, if_neg z2, ha1, si1, if_neg z1]; exact k20.1 k z0

end
section
set_option maxHeartbeats 1600000
/-! the reference: swingAll -/
abbrev kPt : List (Nat × Nat × Nat) := [(20, 8, 10), (21, 18, 10), (22, 28, 3), (23, 31, 3), (24, 34, 3), (25, 37, 10), (26, 47, 10), (27, 57, 10), (28, 67, 80), (29, 147, 10), (30, 157, 150), (31, 307, 150), (32, 457, 150), (33, 607, 150), (34, 757, 150), (35, 907, 150), (36, 1057, 150), (37, 1207, 150), (38, 1357, 150)]
/-- the tables of state σ lie in the kept row of state υ -/
def kept (σ υ : rS) : Prop := (∀ p ∈ kPt, ∀ i, i < p.2.2 → υ.2.2.1 54 (p.2.1 + i) = σ.2.2.1 p.1 i) ∧ υ.2.2.1 54 0 = σ.1 15 ∧ υ.2.2.1 54 1 = σ.1 16 ∧ υ.2.2.1 54 2 = σ.1 17 ∧ υ.2.2.1 54 3 = σ.1 18 ∧ υ.2.2.1 54 4 = σ.1 19 ∧ υ.2.2.1 54 5 = σ.1 40 ∧ υ.2.2.1 54 6 = σ.1 3
theorem swingAll_c_s {C : rCx} (hC : cOK C) {σ : rS} {Q : rS → Prop} (h : ∀ (σ' : rS), (((∀ k, k ≠ 55 → σ'.1 k = σ.1 k) ∧ (∀ k,  σ'.2.1 k = σ.2.1 k) ∧ (∀ k, k ≠ 54 → k ≠ 56 → σ'.2.2.1 k = σ.2.2.1 k) ∧ (∀ k j, k ≠ 54 → k ≠ 56 → σ'.2.2.1 k j = σ.2.2.1 k j) ∧ (∀ k j,  σ'.2.2.2 k j = σ.2.2.2 k j)) ∧ kept σ σ') → Q σ') : cV C 1 m_swingAll [.ref (co C), .int 0] σ Q := by
  refine m_swingAll_run hC ?_
  unfold w_swingAll_0
  intro σ1 h1
  refine ⟨fun z => absurd rfl z, fun _ => ?_⟩
  refine ⟨ib_8.mpr (by decide), ?_⟩
  intro σ2 h2
  refine ⟨ib_8.mpr (by decide), ?_⟩
  intro σ3 h3
  refine ⟨ib_8.mpr (by decide), ?_⟩
  intro σ4 h4
  refine ⟨ib_8.mpr (by decide), ?_⟩
  intro σ5 h5
  refine ⟨ib_8.mpr (by decide), ?_⟩
  intro σ6 h6
  refine ⟨ib_8.mpr (by decide), ?_⟩
  intro σ7 h7
  refine ⟨ib_8.mpr (by decide), ?_⟩
  intro σ8 h8
  have ff : ∀ k, σ8.1 k = σ1.1 k := fun k => by rw [h8, ri1, h7, ri1, h6, ri1, h5, ri1, h4, ri1, h3, ri1, h2, ri1]
  have f1 : ∀ k, k ≠ 55 → σ1.1 k = σ.1 k := fun k hk => by rw [h1, si1, if_neg hk]
  have rr : ∀ k, k ≠ 56 → σ8.2.2.1 k = σ.2.2.1 k := fun k hk => by rw [h8, ri3 hk, h7, ri3 hk, h6, ri3 hk, h5, ri3 hk, h4, ri3 hk, h3, ri3 hk, h2, ri3 hk, h1, si2]
  have g2 : ∀ k, σ8.2.1 k = σ.2.1 k := fun k => by rw [h8, ri2, h7, ri2, h6, ri2, h5, ri2, h4, ri2, h3, ri2, h2, ri2, h1, si2]
  have g3 : ∀ k j, σ8.2.2.2 k j = σ.2.2.2 k j := fun k j => by rw [h8, ri5, h7, ri5, h6, ri5, h5, ri5, h4, ri5, h3, ri5, h2, ri5, h1, si2]
  have w0 : σ8.2.2.1 56 0 = σ.1 15 := by rw [h8, ri4, if_neg (by decide), h7, ri4, if_neg (by decide), h6, ri4, if_neg (by decide), h5, ri4, if_neg (by decide), h4, ri4, if_neg (by decide), h3, ri4, if_neg (by decide), h2, ri4, if_pos (by decide)]; exact f1 15 (by decide)
  have w1 : σ8.2.2.1 56 1 = σ.1 16 := by rw [h8, ri4, if_neg (by decide), h7, ri4, if_neg (by decide), h6, ri4, if_neg (by decide), h5, ri4, if_neg (by decide), h4, ri4, if_neg (by decide), h3, ri4, if_pos (by decide), h2, ri1]; exact f1 16 (by decide)
  have w2 : σ8.2.2.1 56 2 = σ.1 17 := by rw [h8, ri4, if_neg (by decide), h7, ri4, if_neg (by decide), h6, ri4, if_neg (by decide), h5, ri4, if_neg (by decide), h4, ri4, if_pos (by decide), h3, ri1, h2, ri1]; exact f1 17 (by decide)
  have w3 : σ8.2.2.1 56 3 = σ.1 18 := by rw [h8, ri4, if_neg (by decide), h7, ri4, if_neg (by decide), h6, ri4, if_neg (by decide), h5, ri4, if_pos (by decide), h4, ri1, h3, ri1, h2, ri1]; exact f1 18 (by decide)
  have w4 : σ8.2.2.1 56 4 = σ.1 19 := by rw [h8, ri4, if_neg (by decide), h7, ri4, if_neg (by decide), h6, ri4, if_pos (by decide), h5, ri1, h4, ri1, h3, ri1, h2, ri1]; exact f1 19 (by decide)
  have w5 : σ8.2.2.1 56 5 = σ.1 40 := by rw [h8, ri4, if_neg (by decide), h7, ri4, if_pos (by decide), h6, ri1, h5, ri1, h4, ri1, h3, ri1, h2, ri1]; exact f1 40 (by decide)
  have w6 : σ8.2.2.1 56 6 = σ.1 3 := by rw [h8, ri4, if_pos (by decide), h7, ri1, h6, ri1, h5, ri1, h4, ri1, h3, ri1, h2, ri1]; exact f1 3 (by decide)
  refine sa_s hC (by rw [ff, h1, si1, if_pos rfl]) (fun υ k => h υ ⟨⟨fun q z => ?_, fun q => ?_, fun q z1 z2 => ?_, fun q j z1 z2 => ?_, fun q j => ?_⟩, fun p hp i hi => ?_, ?_, ?_, ?_, ?_, ?_, ?_, ?_⟩)
  · rw [k.1.1 q z, ff]; exact f1 q z
  · rw [k.1.2.1 q]; exact g2 q
  · rw [k.1.2.2.1 q z1]; exact rr q z2
  · rw [k.1.2.2.1 q z1, rr q z2]
  · rw [k.1.2.2.2.2 q j]; exact g3 q j
  · have nm : ∀ p, p ∈ kPt → p ∈ [(38, 1357, 150), (37, 1207, 150), (36, 1057, 150), (35, 907, 150), (34, 757, 150), (33, 607, 150), (32, 457, 150), (31, 307, 150), (30, 157, 150), (29, 147, 10), (28, 67, 80), (27, 57, 10), (26, 47, 10), (25, 37, 10), (24, 34, 3), (23, 31, 3), (22, 28, 3), (21, 18, 10), (20, 8, 10), (56, 0, 8)] ∧ p.1 ≠ 56 := by decide
    have m := nm p hp
    rw [(k.2.2.2 p m.1).2 i hi, rr p.1 m.2]
  · exact ((k.2.2.2 (56, 0, 8) (by decide)).2 0 (by decide)).trans w0
  · exact ((k.2.2.2 (56, 0, 8) (by decide)).2 1 (by decide)).trans w1
  · exact ((k.2.2.2 (56, 0, 8) (by decide)).2 2 (by decide)).trans w2
  · exact ((k.2.2.2 (56, 0, 8) (by decide)).2 3 (by decide)).trans w3
  · exact ((k.2.2.2 (56, 0, 8) (by decide)).2 4 (by decide)).trans w4
  · exact ((k.2.2.2 (56, 0, 8) (by decide)).2 5 (by decide)).trans w5
  · exact ((k.2.2.2 (56, 0, 8) (by decide)).2 6 (by decide)).trans w6
/-- the tables of state σ0 are back in state υ, which comes from σ -/
def back (σ0 σ υ : rS) : Prop := (∀ k, k ≠ 55 → k ≠ 15 → k ≠ 16 → k ≠ 17 → k ≠ 18 → k ≠ 19 → k ≠ 40 → k ≠ 3 → υ.1 k = σ.1 k) ∧ υ.1 15 = σ0.1 15 ∧ υ.1 16 = σ0.1 16 ∧ υ.1 17 = σ0.1 17 ∧ υ.1 18 = σ0.1 18 ∧ υ.1 19 = σ0.1 19 ∧ υ.1 40 = σ0.1 40 ∧ υ.1 3 = σ0.1 3 ∧ (∀ k, υ.2.1 k = σ.2.1 k) ∧ (∀ k j, υ.2.2.2 k j = σ.2.2.2 k j) ∧ (∀ k, k ≠ 56 → (∀ p ∈ kPt, p.1 ≠ k) → υ.2.2.1 k = σ.2.2.1 k) ∧ (∀ p ∈ kPt, (∀ i, i < p.2.2 → υ.2.2.1 p.1 i = σ0.2.2.1 p.1 i) ∧ (∀ j, p.2.2 ≤ j → υ.2.2.1 p.1 j = σ.2.2.1 p.1 j))
theorem swingAll_c_b {C : rCx} (hC : cOK C) (σ0 : rS) {σ : rS} {Q : rS → Prop} (hp : kept σ0 σ) (h : ∀ (σ' : rS), back σ0 σ σ' → Q σ') : cV C 1 m_swingAll [.ref (co C), .int 1] σ Q := by
  refine m_swingAll_run hC ?_
  unfold w_swingAll_0
  intro σ1 h1
  refine ⟨fun _ => ?_, fun z => absurd z (by decide)⟩
  have f1 : ∀ k, k ≠ 55 → σ1.1 k = σ.1 k := fun k hk => by rw [h1, si1, if_neg hk]
  have s1 : σ1.2 = σ.2 := by rw [h1, si2]
  refine sa_b hC (by rw [h1, si1, if_pos rfl]) (fun τ υ b e bf ef => h υ ?_)
  obtain ⟨b1, b2, b3, b4, b5, b6, b7⟩ := b
  obtain ⟨d0, d1, d2, d3, d4, d5, d6⟩ := bf
  obtain ⟨p0', p1, p2, p3, p4, p5, p6, p7⟩ := hp
  rw [s1] at d0 d1 d2 d3 d4 d5 d6
  have nm : ∀ p, p ∈ [(38, 1357, 150), (37, 1207, 150), (36, 1057, 150), (35, 907, 150), (34, 757, 150), (33, 607, 150), (32, 457, 150), (31, 307, 150), (30, 157, 150), (29, 147, 10), (28, 67, 80), (27, 57, 10), (26, 47, 10), (25, 37, 10), (24, 34, 3), (23, 31, 3), (22, 28, 3), (21, 18, 10), (20, 8, 10), (56, 0, 8)] → p = (56, 0, 8) ∨ p ∈ kPt := by decide
  refine ⟨fun k z0 z1 z2 z3 z4 z5 z6 z7 => (ef k z0 z1 z2 z3 z4 z5 z6 z7).trans (f1 k z0), d0.trans p1, d1.trans p2, d2.trans p3, d3.trans p4, d4.trans p5, d5.trans p6, d6.trans p7, fun k => ?_, fun k j => ?_, fun k z zp => ?_, fun p hp => ?_⟩
  · rw [e, b2 k, s1]
  · rw [e, b3 k j, s1]
  · rw [e, b4 k (fun p hp => ?_), s1]
    rcases nm p hp with y | y
    · rw [y]; exact fun q => z q.symm
    · exact zp p y
  · have nm2 : ∀ p, p ∈ kPt → p ∈ [(38, 1357, 150), (37, 1207, 150), (36, 1057, 150), (35, 907, 150), (34, 757, 150), (33, 607, 150), (32, 457, 150), (31, 307, 150), (30, 157, 150), (29, 147, 10), (28, 67, 80), (27, 57, 10), (26, 47, 10), (25, 37, 10), (24, 34, 3), (23, 31, 3), (22, 28, 3), (21, 18, 10), (20, 8, 10), (56, 0, 8)] := by decide
    have m := nm2 p hp
    obtain ⟨c1, c2⟩ := b7 p m
    refine ⟨fun i hi => ?_, fun j hj => ?_⟩
    · rw [e, c1 i hi, s1]; exact p0' p hp i hi
    · rw [e, c2 j hj, s1]

end
section
set_option maxHeartbeats 1600000
/-! the reference: small methods; an expression while a program runs -/
theorem store_c {C : rCx} (hC : cOK C)  {σ : rS} {a1 : Int32} {a2 : Int32} {Q : rS → Prop} (hp : (400 ≤ a1 ∧ a1 < 434) ∨ (100 ≤ a1 ∧ a1 < 108 ∧ 1 ≤ σ.1 58 ∧ σ.1 58 ≤ 12) ∨ (0 ≤ a1 ∧ a1 < 34)) (h : ∀ (σ' : rS), (((∀ k,  σ'.1 k = σ.1 k) ∧ (∀ k,  σ'.2.1 k = σ.2.1 k) ∧ (∀ k, k ≠ 57 → k ≠ 60 → σ'.2.2.1 k = σ.2.2.1 k) ∧ (∀ k j, k ≠ 57 → k ≠ 60 → σ'.2.2.1 k j = σ.2.2.1 k j) ∧ (∀ k j,  σ'.2.2.2 k j = σ.2.2.2 k j))) → Q σ') : cV C 0 m_store [.ref (co C), .int a1, .int a2] σ Q := by
  refine m_store_run hC ?_
  unfold w_store_0
  refine ⟨fun c1 => ?_, fun c1 => ?_⟩
  · skip
    refine ⟨fun c2 => ?_, fun c2 => ?_⟩
    · skip
      refine ⟨ib_34.mpr ?_, ?_⟩
      · clear h; grind [si1, si2, ri1, ri2, ri3, ri34, ri5, nb]  -- b1
      intro σ_3 hσ_3
      refine h _ ?_
      · clear h; grind [si1, si2, ri1, ri2, ri3, ri34, ri5, nb]  -- q2
    · skip
      refine ⟨ib_96.mpr ?_, ?_⟩
      · clear h; grind [si1, si2, ri1, ri2, ri3, ri34, ri5, nb]  -- b3
      intro σ_4 hσ_4
      refine h _ ?_
      · clear h; grind [si1, si2, ri1, ri2, ri3, ri34, ri5, nb]  -- q4
  · skip
    refine ⟨ib_34.mpr ?_, ?_⟩
    · clear h; grind [si1, si2, ri1, ri2, ri3, ri34, ri5, nb]  -- b5
    intro σ_5 hσ_5
    refine h _ ?_
    · clear h; grind [si1, si2, ri1, ri2, ri3, ri34, ri5, nb]  -- q6

theorem fail_c {C : rCx} (hC : cOK C)  {σ : rS} {a1 : Int32} {Q : Int32 → rS → Prop} (h : ∀ (v : Int32) (σ' : rS), (((∀ k, k ≠ 61 → σ'.1 k = σ.1 k) ∧ σ'.2 = σ.2) ∧ v = 2) → Q v σ') : cI C 0 m_fail [.ref (co C), .int a1] σ Q := by
  refine m_fail_run hC ?_
  unfold w_fail_0
  intro σ_1 hσ_1
  refine h _ _ ?_
  · clear h; grind [si1, si2, ri1, ri2, ri3, ri34, ri5, nb]  -- q1

theorem outcome_c {C : rCx} (hC : cOK C)  {σ : rS} {a1 : Int32} {a2 : Int32} {Q : rS → Prop} (hp : 0 ≤ σ.1 63 ∧ σ.1 63 < 64) (h : ∀ (σ' : rS), (((∀ k, k ≠ 63 → σ'.1 k = σ.1 k) ∧ (∀ k,  σ'.2.1 k = σ.2.1 k) ∧ (∀ k, k ≠ 64 → k ≠ 65 → σ'.2.2.1 k = σ.2.2.1 k) ∧ (∀ k j, k ≠ 64 → k ≠ 65 → σ'.2.2.1 k j = σ.2.2.1 k j) ∧ (∀ k j,  σ'.2.2.2 k j = σ.2.2.2 k j)) ∧ σ'.1 63 = σ.1 63 + 1 ∧ rd σ' 65 (σ.1 63) = a2 ∧ (∀ j, j ≠ (σ.1 63).toNatClampNeg → σ'.2.2.1 65 j = σ.2.2.1 65 j)) → Q σ') : cV C 0 m_outcome [.ref (co C), .int a1, .int a2] σ Q := by
  refine m_outcome_run hC ?_
  unfold w_outcome_0
  refine ⟨ib_64.mpr ?_, ?_⟩
  · clear h; grind [si1, si2, ri1, ri2, ri3, ri34, ri5, nb]  -- b1
  intro σ_1 hσ_1
  refine ⟨ib_64.mpr ?_, ?_⟩
  · clear h; grind [si1, si2, ri1, ri2, ri3, ri34, ri5, nb]  -- b2
  intro σ_2 hσ_2
  intro σ_3 hσ_3
  refine h _ ?_
  · clear h; grind [si1, si2, ri1, ri2, ri3, ri34, ri5, nb]  -- q3

theorem fault_c {C : rCx} (hC : cOK C)  {σ : rS}  {Q : Int32 → rS → Prop} (h : ∀ (v : Int32) (σ' : rS), (((∀ k, k ≠ 0 → σ'.1 k = σ.1 k) ∧ σ'.2 = σ.2)) → Q v σ') : cI C 0 m_fault [.ref (co C)] σ Q := by
  refine m_fault_run hC ?_
  unfold w_fault_0
  intro σ_1 hσ_1
  refine h _ _ ?_
  · clear h; grind [si1, si2, ri1, ri2, ri3, ri34, ri5, nb]  -- q1

theorem forget_c {C : rCx} (hC : cOK C)  {σ : rS}  {Q : Int32 → rS → Prop} (h : ∀ (v : Int32) (σ' : rS), (((∀ k, k ≠ 0 → k ≠ 104 → σ'.1 k = σ.1 k) ∧ σ'.2 = σ.2) ∧ v = σ.1 104 ∧ σ'.1 104 = 0) → Q v σ') : cI C 0 m_forget [.ref (co C)] σ Q := by
  refine m_forget_run hC ?_
  unfold w_forget_0
  intro σ_1 hσ_1
  intro x2 hx2
  intro σ_3 hσ_3
  refine h _ _ ?_
  · clear h; grind [si1, si2, ri1, ri2, ri3, ri34, ri5, nb]  -- q1

theorem tell_c {C : rCx} (hC : cOK C)  {σ : rS} {a1 : Int32} {Q : Int32 → rS → Prop} (hp : 0 ≤ σ.1 104 ∧ σ.1 104 ≤ 200) (h : ∀ (v : Int32) (σ' : rS), (((∀ k, k ≠ 0 → k ≠ 104 → σ'.1 k = σ.1 k) ∧ (∀ k,  σ'.2.1 k = σ.2.1 k) ∧ (∀ k, k ≠ 105 → σ'.2.2.1 k = σ.2.2.1 k) ∧ (∀ k j, k ≠ 105 → σ'.2.2.1 k j = σ.2.2.1 k j) ∧ (∀ k j,  σ'.2.2.2 k j = σ.2.2.2 k j)) ∧ 0 ≤ σ'.1 104 ∧ σ'.1 104 ≤ 200 ∧ (σ.1 104 = 200 → v = 0 ∧ σ'.1 104 = 200 ∧ σ'.1 0 = 1) ∧ (σ.1 104 ≠ 200 → v = σ.1 104 + 1 ∧ σ'.1 104 = σ.1 104 + 1 ∧ σ'.1 0 = 0)) → Q v σ') : cI C 0 m_tell [.ref (co C), .int a1] σ Q := by
  refine m_tell_run hC ?_
  unfold w_tell_0
  refine ⟨fun c1 => ?_, fun c1 => ?_⟩
  · skip
    unfold w_tell_16
    intro σ_2 hσ_2
    refine ⟨fun c3 => ?_, fun c3 => ?_⟩
    · skip
      refine ⟨ib_200.mpr ?_, ?_⟩
      · clear h; grind [si1, si2, ri1, ri2, ri3, ri34, ri5, nb]  -- b1
      intro σ_4 hσ_4
      intro σ_5 hσ_5
      refine h _ _ ?_
      · clear h; grind [si1, si2, ri1, ri2, ri3, ri34, ri5, nb]  -- q2
    · skip
      refine h _ _ ?_
      · clear h; grind [si1, si2, ri1, ri2, ri3, ri34, ri5, nb]  -- q3
  · skip
    unfold w_tell_16
    intro σ_6 hσ_6
    refine ⟨fun c7 => ?_, fun c7 => ?_⟩
    · skip
      refine ⟨ib_200.mpr ?_, ?_⟩
      · clear h; grind [si1, si2, ri1, ri2, ri3, ri34, ri5, nb]  -- b4
      intro σ_8 hσ_8
      intro σ_9 hσ_9
      refine h _ _ ?_
      · clear h; grind [si1, si2, ri1, ri2, ri3, ri34, ri5, nb]  -- q5
    · skip
      refine h _ _ ?_
      · clear h; grind [si1, si2, ri1, ri2, ri3, ri34, ri5, nb]  -- q6

theorem isSlot_c {C : rCx} (hC : cOK C)  {σ : rS} {a0 : Int32} {a1 : Int32} {Q : Int32 → rS → Prop} (h : ∀ (v : Int32), (nb v ∧ (v ≠ 0 ↔ 0 ≤ a0 ∧ a0 < a1)) → Q v σ) : cI C 0 m_isSlot [.int a0, .int a1] σ Q := by
  refine m_isSlot_run hC ?_
  unfold w_isSlot_0
  refine ⟨fun c1 => ?_, fun c1 => ?_⟩
  · skip
    refine h _ ?_
    · clear h; grind [si1, si2, ri1, ri2, ri3, ri34, ri5, nb]  -- q1
  · skip
    refine ⟨fun c2 => ?_, fun c2 => ?_⟩
    · skip
      refine h _ ?_
      · clear h; grind [si1, si2, ri1, ri2, ri3, ri34, ri5, nb]  -- q2
    · skip
      refine h _ ?_
      · clear h; grind [si1, si2, ri1, ri2, ri3, ri34, ri5, nb]  -- q3

theorem isZero_c {C : rCx} (hC : cOK C)  {σ : rS} {a1 : Int32} {Q : Int32 → rS → Prop} (hp : 0 ≤ a1 ∧ a1 < 30) (h : ∀ (v : Int32), (nb v ∧ (v ≠ 0 ↔ rd σ 91 a1 = 0)) → Q v σ) : cI C 0 m_isZero [.ref (co C), .int a1] σ Q := by
  refine m_isZero_run hC ?_
  unfold w_isZero_0
  refine ⟨ib_30.mpr ?_, ?_⟩
  · clear h; grind [si1, si2, ri1, ri2, ri3, ri34, ri5, nb]  -- b1
  refine ⟨fun c1 => ?_, fun c1 => ?_⟩
  · skip
    refine h _ ?_
    · clear h; grind [si1, si2, ri1, ri2, ri3, ri34, ri5, nb]  -- q2
  · skip
    refine h _ ?_
    · clear h; grind [si1, si2, ri1, ri2, ri3, ri34, ri5, nb]  -- q3

theorem isLong_c {C : rCx} (hC : cOK C)  {σ : rS} {a1 : Int32} {Q : Int32 → rS → Prop} (hp : 0 ≤ a1 ∧ a1 < 30) (h : ∀ (v : Int32), (nb v ∧ (v ≠ 0 ↔ 16 < rd σ 91 a1)) → Q v σ) : cI C 0 m_isLong [.ref (co C), .int a1] σ Q := by
  refine m_isLong_run hC ?_
  unfold w_isLong_0
  refine ⟨ib_30.mpr ?_, ?_⟩
  · clear h; grind [si1, si2, ri1, ri2, ri3, ri34, ri5, nb]  -- b1
  refine ⟨fun c1 => ?_, fun c1 => ?_⟩
  · skip
    refine h _ ?_
    · clear h; grind [si1, si2, ri1, ri2, ri3, ri34, ri5, nb]  -- q2
  · skip
    refine h _ ?_
    · clear h; grind [si1, si2, ri1, ri2, ri3, ri34, ri5, nb]  -- q3

theorem isTaken_c {C : rCx} (hC : cOK C)  {σ : rS} {a1 : Int32} {a2 : Int32} {a3 : Int32} {Q : Int32 → rS → Prop} (hp : 0 ≤ a1 ∧ a1 < 1000) (h : ∀ (v : Int32), (nb v ∧ (v ≠ 0 ↔ a3 = 0 ∨ rd σ 81 a1 = 0 ∨ a2 = rd σ 76 a1 + rd σ 83 a1)) → Q v σ) : cI C 0 m_isTaken [.ref (co C), .int a1, .int a2, .int a3] σ Q := by
  refine m_isTaken_run hC ?_
  unfold w_isTaken_0
  refine ⟨fun c1 => ?_, fun c1 => ?_⟩
  · skip
    refine h _ ?_
    · clear h; grind [si1, si2, ri1, ri2, ri3, ri34, ri5, nb]  -- q1
  · skip
    refine ⟨ib_1000.mpr ?_, ?_⟩
    · clear h; grind [si1, si2, ri1, ri2, ri3, ri34, ri5, nb]  -- b2
    refine ⟨fun c2 => ?_, fun c2 => ?_⟩
    · skip
      refine h _ ?_
      · clear h; grind [si1, si2, ri1, ri2, ri3, ri34, ri5, nb]  -- q3
    · skip
      refine ⟨ib_1001.mpr ?_, ?_⟩
      · clear h; grind [si1, si2, ri1, ri2, ri3, ri34, ri5, nb]  -- b4
      refine ⟨ib_1000.mpr ?_, ?_⟩
      · clear h; grind [si1, si2, ri1, ri2, ri3, ri34, ri5, nb]  -- b5
      refine ⟨fun c3 => ?_, fun c3 => ?_⟩
      · skip
        refine h _ ?_
        · clear h; grind [si1, si2, ri1, ri2, ri3, ri34, ri5, nb]  -- q6
      · skip
        refine h _ ?_
        · clear h; grind [si1, si2, ri1, ri2, ri3, ri34, ri5, nb]  -- q7

theorem weightOf_c {C : rCx} (hC : cOK C)  {σ : rS} {a1 : Int32} {a2 : Int32} {Q : Int64 → rS → Prop} (hp : 0 ≤ a1 ∧ a1 < 1000 ∧ 0 ≤ a2 ∧ a2 < 20000) (h : ∀ (v : Int64), ((rd σ 81 a1 = 0 → v = (rd σ 79 a2).toInt64) ∧ (rd σ 81 a1 ≠ 0 → v = 1)) → Q v σ) : cJ C 0 m_weightOf [.ref (co C), .int a1, .int a2] σ Q := by
  refine m_weightOf_run hC ?_
  unfold w_weightOf_0
  refine ⟨ib_1000.mpr ?_, ?_⟩
  · clear h; grind [si1, si2, ri1, ri2, ri3, ri34, ri5, nb]  -- b1
  refine ⟨fun c1 => ?_, fun c1 => ?_⟩
  · skip
    refine ⟨ib_20000.mpr ?_, ?_⟩
    · clear h; grind [si1, si2, ri1, ri2, ri3, ri34, ri5, nb]  -- b2
    refine h _ ?_
    · clear h; grind [si1, si2, ri1, ri2, ri3, ri34, ri5, nb]  -- q3
  · skip
    refine h _ ?_
    · clear h; grind [si1, si2, ri1, ri2, ri3, ri34, ri5, nb]  -- q4

theorem totalOf_c {C : rCx} (hC : cOK C)  {σ : rS} {a1 : Int32} {Q : Int64 → rS → Prop} (hp : 0 ≤ a1 ∧ a1 < 1000) (h : ∀ (v : Int64), ((rd σ 81 a1 = 0 → v = (rd σ 80 a1).toInt64) ∧ (rd σ 81 a1 ≠ 0 → v = 1)) → Q v σ) : cJ C 0 m_totalOf [.ref (co C), .int a1] σ Q := by
  refine m_totalOf_run hC ?_
  unfold w_totalOf_0
  refine ⟨ib_1000.mpr ?_, ?_⟩
  · clear h; grind [si1, si2, ri1, ri2, ri3, ri34, ri5, nb]  -- b1
  refine ⟨fun c1 => ?_, fun c1 => ?_⟩
  · skip
    refine ⟨ib_1000.mpr ?_, ?_⟩
    · clear h; grind [si1, si2, ri1, ri2, ri3, ri34, ri5, nb]  -- b2
    refine h _ ?_
    · clear h; grind [si1, si2, ri1, ri2, ri3, ri34, ri5, nb]  -- q3
  · skip
    refine h _ ?_
    · clear h; grind [si1, si2, ri1, ri2, ri3, ri34, ri5, nb]  -- q4

theorem isState_c {C : rCx} (hC : cOK C)  {σ : rS} {a1 : Int32} {Q : Int32 → rS → Prop} (h : ∀ (v : Int32), (nb v ∧ (v ≠ 0 ↔ σ.1 69 ≠ 0 ∧ 0 ≤ a1 ∧ a1 < σ.1 70)) → Q v σ) : cI C 0 m_isState [.ref (co C), .int a1] σ Q := by
  refine m_isState_run hC ?_
  unfold w_isState_0
  refine ⟨fun c1 => ?_, fun c1 => ?_⟩
  · skip
    refine h _ ?_
    · clear h; grind [si1, si2, ri1, ri2, ri3, ri34, ri5, nb]  -- q1
  · skip
    refine ⟨fun c2 => ?_, fun c2 => ?_⟩
    · skip
      refine h _ ?_
      · clear h; grind [si1, si2, ri1, ri2, ri3, ri34, ri5, nb]  -- q2
    · skip
      refine ⟨fun c3 => ?_, fun c3 => ?_⟩
      · skip
        refine h _ ?_
        · clear h; grind [si1, si2, ri1, ri2, ri3, ri34, ri5, nb]  -- q3
      · skip
        refine h _ ?_
        · clear h; grind [si1, si2, ri1, ri2, ri3, ri34, ri5, nb]  -- q4

/-- the tokens of a program that runs -/
def tR (σ : rS) (B T : Int32) : Prop := 0 ≤ B ∧ B ≤ T ∧ T < 131074 ∧ T.toInt - B.toInt ≤ 65536 ∧ rd σ 5 T = 5
theorem workAt_c {C : rCx} (hC : cOK C) (B T : Int32) {σ : rS} {a1 : Int32} {Q : Int32 → rS → Prop} (hp : tR σ B T ∧ tF σ ∧ tN σ ∧ tA σ ∧ σ.1 46 = 1 ∧ 1 ≤ σ.1 58 ∧ σ.1 58 ≤ 12 ∧ σ.1 11 = 0 ∧ σ.1 47 = 0 ∧ σ.1 13 = 0 ∧ B ≤ a1 ∧ a1 ≤ T ∧ ∃ e, ePa (σ.2.2.1 5) (σ.2.2.1 7) (σ.2.2.1 39) a1 e) (h : ∀ (v : Int32) (σ' : rS), (0 ≤ σ'.1 47 ∧ (∀ k, k ≠ 10 → k ≠ 11 → k ≠ 12 → k ≠ 13 → k ≠ 47 → k ≠ 48 → k ≠ 49 → σ'.1 k = σ.1 k) ∧ (∀ k, σ'.2.1 k = σ.2.1 k) ∧ (∀ k, k ≠ 50 → k ≠ 51 → k ≠ 52 → σ'.2.2.1 k = σ.2.2.1 k) ∧ (∀ k j, σ'.2.2.2 k j = σ.2.2.2 k j) ∧ B ≤ σ'.1 10 ∧ σ'.1 10 ≤ T ∧ (σ'.1 47 = 0 → σ'.1 11 = 0 ∧ σ'.1 13 = 0 ∧ ∀ e, ePa (σ.2.2.1 5) (σ.2.2.1 7) (σ.2.2.1 39) a1 e → σ'.1 10 = e)) → Q v σ') : cI C 7 m_workAt [.ref (co C), .int a1] σ Q := by
  refine m_workAt_run hC ?_
  unfold w_workAt_0
  obtain ⟨⟨t1, t2, t3, t4, t5⟩, hF, hN, hA, h46, h58, h58', h11, h47, h13, hB, hT, hE⟩ := hp
  intro σ_1 hσ_1
  have e1 : ∀ k, k ≠ 10 → σ_1.1 k = σ.1 k := fun k hk => by rw [hσ_1, si1, if_neg hk]
  have e10 : σ_1.1 10 = a1 := by rw [hσ_1, si1, if_pos rfl]
  have s1 : σ_1.2 = σ.2 := by rw [hσ_1, si2]
  have e46 : σ_1.1 46 = 1 := (e1 46 (by decide)).trans h46
  refine expression_c hC B T 0 ?_ (fun r2 σ_3 q4 => ?_)
  · clear h; refine ⟨⟨t1, t2, t3, ⟨by rw [rd, s1]; exact t5, by rw [e1 11 (by decide), h11]; decide, by rw [e1 47 (by decide), h47]; decide⟩, by rw [e10]; exact hB, by rw [e10]; exact hT⟩, ⟨t1, by rw [e10]; exact hB, Int32.le_refl _, by rw [e10]; exact hT, t3, t4⟩, Or.inr ⟨e46, by rw [e1 58 (by decide)]; exact h58, by rw [e1 58 (by decide)]; exact h58', rfl⟩, ?_, ?_, ?_, ⟨by rw [e1 13 (by decide), h13]; decide, by rw [e1 13 (by decide), h13]; decide, by rw [e1 13 (by decide), h13]; rfl⟩, fun z => by rw [e46] at z; exact absurd z (by decide), fun _ => ⟨(e1 11 (by decide)).trans h11, (e1 47 (by decide)).trans h47, by rw [s1, e10]; exact hE⟩⟩
    · show tyF _ _ _ _ _ _ _ _
      rw [e1 15 (by decide), e1 16 (by decide), e1 17 (by decide), e1 18 (by decide), e1 19 (by decide), e1 40 (by decide), e1 41 (by decide), e1 42 (by decide)]
      exact hF
    · show tyN _ _ _ _ _ _
      rw [s1]; exact hN
    · show tyA _ _
      rw [s1]; exact hA
  refine h _ _ ?_
  · clear h; obtain ⟨w1, w2, w3, w4, w5, w6, w7⟩ := q4
    have nz : σ_1.1 46 ≠ 0 := by rw [e46]; decide
    have r39 : σ_3.2.2.1 39 = σ.2.2.1 39 := by rw [(w4 nz).1, s1]
    refine ⟨w2.2.2.2.1.2.2, fun k z1 z2 z3 z4 z5 z6 z7 => (w1.1 k z1 z2 z3 z4 z5 z6 z7).trans (e1 k z1), fun k => by rw [w1.2.1 k, s1], fun k z1 z2 z3 => ?_, fun k j => by rw [w1.2.2.2.2 k j, s1], w2.2.2.2.2.1, w2.2.2.2.2.2, fun f => ?_⟩
    · by_cases e : k = 39
      · rw [e]; exact r39
      · rw [w1.2.2.1 k e z1 z2 z3, s1]
    · obtain ⟨f1, f2⟩ := (w4 nz).2 f
      have w := w6 f1 f
      refine ⟨f1, cn_inj w.2.2.2.1 (by decide) (by rw [w.2.2.2.2.2]; rfl), fun e he => ?_⟩
      have := f2 e
      rw [s1, e10] at this
      exact this he

end
section
set_option maxHeartbeats 1600000
/-! the reference: numbers of many places -/
theorem cn_nat {x : Int32} {n : Nat} (h : x.toInt = n) : x.toNatClampNeg = n := by
  have : x.toNatClampNeg = x.toInt.toNat := rfl
  omega
theorem cn_int {x : Int32} (h : 0 ≤ x) : (x.toNatClampNeg : Int) = x.toInt := by
  have e : x.toNatClampNeg = x.toInt.toNat := rfl
  have h0 := Int32.le_iff_toInt_le.mp h
  rw [Int32.toInt_zero] at h0
  omega
/-- the place k of number a in the long row -/
theorem bx {a k : Int32} (h0 : 0 ≤ a) (h1 : a < 30) (h2 : 0 ≤ k) (h3 : k ≤ 40000) : 0 ≤ 40000 * a + k ∧ (40000 * a + k).toNatClampNeg = 40000 * a.toNatClampNeg + k.toNatClampNeg ∧ (k < 40000 → 40000 * a + k < 1200000) ∧ 40000 * a + k ≤ 1200000 := by
  have a0 := Int32.le_iff_toInt_le.mp h0
  have a1 := Int32.lt_iff_toInt_lt.mp h1
  have k0 := Int32.le_iff_toInt_le.mp h2
  have k1 := Int32.le_iff_toInt_le.mp h3
  rw [Int32.toInt_zero] at a0 k0
  rw [show (30 : Int32).toInt = 30 from rfl] at a1
  rw [show (40000 : Int32).toInt = 40000 from rfl] at k1
  have m : (40000 * a).toInt = 40000 * a.toInt := by
    rw [Int32.toInt_mul, show (40000 : Int32).toInt = 40000 from rfl, Int.bmod_eq_of_le] <;> omega
  have m0 : 0 ≤ 40000 * a := by rw [Int32.le_iff_toInt_le, Int32.toInt_zero, m]; omega
  have s : (40000 * a + k).toInt = 40000 * a.toInt + k.toInt := by rw [i_add m0 h2 (by omega), m]
  have ca := cn_int h0
  have ck := cn_int h2
  refine ⟨by rw [Int32.le_iff_toInt_le, Int32.toInt_zero, s]; omega, cn_nat (by rw [s]; omega), fun h => ?_, ?_⟩
  · have := Int32.lt_iff_toInt_lt.mp h
    rw [show (40000 : Int32).toInt = 40000 from rfl] at this
    rw [Int32.lt_iff_toInt_lt, s, show (1200000 : Int32).toInt = 1200000 from rfl]; omega
  · rw [Int32.le_iff_toInt_le, s, show (1200000 : Int32).toInt = 1200000 from rfl]; omega
theorem sub_a {a b : Int32} : a + b - 1 = a + (b - 1) := by grind
theorem pos_m {x : Int32} (h : ¬ x ≤ 0) (h2 : x ≤ 40000) : 0 ≤ x - 1 ∧ x - 1 < 40000 ∧ x - 1 ≤ 40000 ∧ x - 1 < x ∧ 0 < x ∧ x < 1000000 ∧ x - 1 ≤ x := by grind
theorem cp_b {l n : Int32} (h0 : 0 ≤ l) (h : ¬ n ≤ l) (hn : n ≤ 40000) : 0 ≤ l + 1 ∧ l + 1 ≤ n ∧ n - (l + 1) < n - l ∧ 0 ≤ n - (l + 1) ∧ l < 40000 ∧ l ≤ 40000 ∧ l < 1000000 ∧ l < n := by grind
theorem trim_c {C : rCx} (hC : cOK C)  {σ : rS} {a1 : Int32} {Q : rS → Prop} (hp : 0 ≤ a1 ∧ a1 < 30 ∧ 0 ≤ rd σ 91 a1 ∧ rd σ 91 a1 ≤ 40000) (h : ∀ (σ' : rS), (((∀ k,  σ'.1 k = σ.1 k) ∧ (∀ k,  σ'.2.1 k = σ.2.1 k) ∧ (∀ k, k ≠ 91 → σ'.2.2.1 k = σ.2.2.1 k) ∧ (∀ k j, k ≠ 91 → σ'.2.2.1 k j = σ.2.2.1 k j) ∧ (∀ k j,  σ'.2.2.2 k j = σ.2.2.2 k j)) ∧ (∀ k, k ≠ a1.toNatClampNeg → σ'.2.2.1 91 k = σ.2.2.1 91 k) ∧ 0 ≤ rd σ' 91 a1 ∧ rd σ' 91 a1 ≤ rd σ 91 a1 ∧ (∀ i, (rd σ' 91 a1).toNatClampNeg ≤ i → i < (rd σ 91 a1).toNatClampNeg → σ.2.2.1 90 (40000 * a1.toNatClampNeg + i) = 0) ∧ (rd σ' 91 a1 ≤ 0 ∨ σ.2.2.1 90 (40000 * a1.toNatClampNeg + (rd σ' 91 a1 - 1).toNatClampNeg) ≠ 0)) → Q σ') : cV C 0 m_trim [.ref (co C), .int a1] σ Q := by
  refine m_trim_run hC ?_
  obtain ⟨h0, h1, h2, h3⟩ := hp
  unfold w_trim_0
  refine ⟨fun n l1 τ => n = (rd τ 91 a1).toNatClampNeg ∧ (l1 = a1 ∧ ((∀ k,  τ.1 k = σ.1 k) ∧ (∀ k,  τ.2.1 k = σ.2.1 k) ∧ (∀ k, k ≠ 91 → τ.2.2.1 k = σ.2.2.1 k) ∧ (∀ k j, k ≠ 91 → τ.2.2.1 k j = σ.2.2.1 k j) ∧ (∀ k j,  τ.2.2.2 k j = σ.2.2.2 k j)) ∧ (∀ k, k ≠ a1.toNatClampNeg → τ.2.2.1 91 k = σ.2.2.1 91 k) ∧ 0 ≤ rd τ 91 a1 ∧ rd τ 91 a1 ≤ rd σ 91 a1 ∧ (∀ i, (rd τ 91 a1).toNatClampNeg ≤ i → i < (rd σ 91 a1).toNatClampNeg → σ.2.2.1 90 (40000 * a1.toNatClampNeg + i) = 0)), ⟨_, rfl, ?_⟩, ?_⟩
  · clear h; exact ⟨rfl, ⟨fun _ => rfl, fun _ => rfl, fun _ _ => rfl, fun _ _ _ => rfl, fun _ _ => rfl⟩, fun _ _ => rfl, h2, Int32.le_refl _, fun i hi hj => absurd hj (Nat.not_lt.mpr hi)⟩  -- j1
  rintro n0 x0_1 σ0 ⟨hn0, i0⟩
  obtain ⟨e1, g1, g2, g3, g4, g5⟩ := i0
  rw [e1]
  refine ⟨ib_30.mpr ?_, ?_⟩
  · clear h; exact ⟨h0, h1⟩  -- b2
  refine ⟨fun c1 => ?_, fun c1 => ?_⟩
  · skip
    refine h _ ?_
    · clear h; exact ⟨g1, g2, g3, g4, g5, Or.inl c1⟩  -- q3
  · skip
    refine ⟨ib_30.mpr ?_, ?_⟩
    · clear h; exact ⟨h0, h1⟩  -- b4
    have pm := pos_m c1 (Int32.le_trans g4 h3)
    have bb := bx h0 h1 pm.1 pm.2.2.1
    have r90 : σ0.2.2.1 90 = σ.2.2.1 90 := g1.2.2.1 90 (by decide)
    refine ⟨ib_1200000.mpr ?_, ?_⟩
    · clear h; rw [sub_a]; exact ⟨bb.1, bb.2.2.1 pm.2.1⟩  -- b5
    refine ⟨fun c2 => ?_, fun c2 => ?_⟩
    · skip
      refine h _ ?_
      · clear h; rw [sub_a, bb.2.1, r90] at c2
        exact ⟨g1, g2, g3, g4, g5, Or.inr c2⟩
    · skip
      refine ⟨ib_30.mpr ?_, ?_⟩
      · clear h; exact ⟨h0, h1⟩  -- b7
      refine ⟨ib_30.mpr ?_, ?_⟩
      · clear h; exact ⟨h0, h1⟩  -- b8
      intro σ_3 hσ_3
      refine ⟨_, cn_lt2 hn0 ?_ ?_, rfl, ?_⟩
      · clear h; have e : rd σ_3 91 a1 = rd σ0 91 a1 - 1 := by rw [rd, hσ_3, ri4, if_pos rfl]
        rw [e]; exact pm.1
      · clear h; have e : rd σ_3 91 a1 = rd σ0 91 a1 - 1 := by rw [rd, hσ_3, ri4, if_pos rfl]
        rw [e]; exact pm.2.2.2.1
      · clear h; have e : rd σ_3 91 a1 = rd σ0 91 a1 - 1 := by rw [rd, hσ_3, ri4, if_pos rfl]
        rw [sub_a, bb.2.1, r90] at c2
        refine ⟨rfl, ⟨fun k => by rw [hσ_3, ri1]; exact g1.1 k, fun k => by rw [hσ_3, ri2]; exact g1.2.1 k, fun k z => by rw [hσ_3, ri3 z]; exact g1.2.2.1 k z, fun k j z => by rw [hσ_3, ri3 z]; exact g1.2.2.2.1 k j z, fun k j => by rw [hσ_3, ri5]; exact g1.2.2.2.2 k j⟩, fun k hk => by rw [hσ_3, ri4, if_neg hk]; exact g2 k hk, by rw [e]; exact pm.1, by rw [e]; exact Int32.le_trans pm.2.2.2.2.2.2 g4, fun i hi hj => ?_⟩
        rw [e] at hi
        have cp : (rd σ0 91 a1).toNatClampNeg = (rd σ0 91 a1 - 1).toNatClampNeg + 1 := cn_pred pm.2.2.2.2.1 pm.2.2.2.2.2.1
        by_cases z : i = (rd σ0 91 a1 - 1).toNatClampNeg
        · rw [z]; exact c2
        · exact g5 i (by omega) hj

theorem copy_c {C : rCx} (hC : cOK C)  {σ : rS} {a1 : Int32} {a2 : Int32} {Q : rS → Prop} (hp : 0 ≤ a1 ∧ a1 < 30 ∧ 0 ≤ a2 ∧ a2 < 30 ∧ a1 ≠ a2 ∧ 0 ≤ rd σ 91 a2 ∧ rd σ 91 a2 ≤ 40000) (h : ∀ (σ' : rS), (((∀ k,  σ'.1 k = σ.1 k) ∧ (∀ k,  σ'.2.1 k = σ.2.1 k) ∧ (∀ k, k ≠ 90 → k ≠ 91 → σ'.2.2.1 k = σ.2.2.1 k) ∧ (∀ k j, k ≠ 90 → k ≠ 91 → σ'.2.2.1 k j = σ.2.2.1 k j) ∧ (∀ k j,  σ'.2.2.2 k j = σ.2.2.2 k j)) ∧ (∀ k, k ≠ a1.toNatClampNeg → σ'.2.2.1 91 k = σ.2.2.1 91 k) ∧ rd σ' 91 a1 = rd σ 91 a2 ∧ (∀ i, i < (rd σ 91 a2).toNatClampNeg → σ'.2.2.1 90 (40000 * a1.toNatClampNeg + i) = σ.2.2.1 90 (40000 * a2.toNatClampNeg + i)) ∧ (∀ j, (j < 40000 * a1.toNatClampNeg ∨ 40000 * a1.toNatClampNeg + 40000 ≤ j) → σ'.2.2.1 90 j = σ.2.2.1 90 j)) → Q σ') : cV C 0 m_copy [.ref (co C), .int a1, .int a2] σ Q := by
  refine m_copy_run hC ?_
  unfold w_copy_0
  obtain ⟨h0, h1, h2, h3, hne, h4, h5⟩ := hp
  unfold w_copy_2
  refine ⟨fun n l1 l2 l3 τ => n = (rd σ 91 a2 - l3).toNatClampNeg ∧ (l1 = a1 ∧ l2 = a2 ∧ ((∀ k,  τ.1 k = σ.1 k) ∧ (∀ k,  τ.2.1 k = σ.2.1 k) ∧ (∀ k, k ≠ 90 → τ.2.2.1 k = σ.2.2.1 k) ∧ (∀ k j, k ≠ 90 → τ.2.2.1 k j = σ.2.2.1 k j) ∧ (∀ k j,  τ.2.2.2 k j = σ.2.2.2 k j)) ∧ 0 ≤ l3 ∧ l3 ≤ rd σ 91 a2 ∧ (∀ i, i < l3.toNatClampNeg → τ.2.2.1 90 (40000 * a1.toNatClampNeg + i) = σ.2.2.1 90 (40000 * a2.toNatClampNeg + i)) ∧ (∀ j, (j < 40000 * a1.toNatClampNeg ∨ 40000 * a1.toNatClampNeg + 40000 ≤ j) → τ.2.2.1 90 j = σ.2.2.1 90 j)), ⟨_, rfl, ?_⟩, ?_⟩
  · clear h; exact ⟨rfl, rfl, ⟨fun _ => rfl, fun _ => rfl, fun _ _ => rfl, fun _ _ _ => rfl, fun _ _ => rfl⟩, by decide, h4, fun i hi => absurd hi (Nat.not_lt_zero i), fun _ _ => rfl⟩  -- j1
  rintro n2 x2_1 x2_2 x2_3 σ2 ⟨hn2, i2⟩
  obtain ⟨e1, e2, g1, g2, g3, g4, g5⟩ := i2
  rw [e1, e2]
  have e91 : σ2.2.2.1 91 = σ.2.2.1 91 := g1.2.2.1 91 (by decide)
  refine ⟨ib_30.mpr ?_, ?_⟩
  · clear h; exact ⟨h2, h3⟩  -- b2
  refine ⟨fun c1 => ?_, fun c1 => ?_⟩
  · skip
    refine ⟨ib_30.mpr ?_, ?_⟩
    · clear h; exact ⟨h2, h3⟩  -- b3
    refine ⟨ib_30.mpr ?_, ?_⟩
    · clear h; exact ⟨h0, h1⟩  -- b4
    intro σ_2 hσ_2
    refine h _ ?_
    · clear h; rw [e91] at c1
      have el : x2_3 = rd σ 91 a2 := sw_e g3 c1
      rw [el] at g4
      refine ⟨⟨fun k => by rw [hσ_2, ri1]; exact g1.1 k, fun k => by rw [hσ_2, ri2]; exact g1.2.1 k, fun k z1 z2 => by rw [hσ_2, ri3 z2]; exact g1.2.2.1 k z1, fun k j z1 z2 => by rw [hσ_2, ri3 z2]; exact g1.2.2.2.1 k j z1, fun k j => by rw [hσ_2, ri5]; exact g1.2.2.2.2 k j⟩, fun k hk => by rw [hσ_2, ri4, if_neg hk, e91], by rw [rd, hσ_2, ri4, if_pos rfl, e91], fun i hi => by rw [hσ_2, ri3 (by decide)]; exact g4 i hi, fun j hj => by rw [hσ_2, ri3 (by decide)]; exact g5 j hj⟩
  · skip
    rw [e91] at c1
    have su := cp_b g2 c1 h5
    have ba := bx h0 h1 g2 su.2.2.2.2.2.1
    have bb := bx h2 h3 g2 su.2.2.2.2.2.1
    have cl : x2_3.toNatClampNeg < 40000 := Nat.lt_of_lt_of_eq (cn_lt g2 su.2.2.2.2.1) rfl
    have cne : a1.toNatClampNeg ≠ a2.toNatClampNeg := fun e => hne (cn_inj h0 h2 e)
    refine ⟨ib_1200000.mpr ?_, ?_⟩
    · clear h; exact ⟨bb.1, bb.2.2.1 su.2.2.2.2.1⟩  -- b6
    refine ⟨ib_1200000.mpr ?_, ?_⟩
    · clear h; exact ⟨ba.1, ba.2.2.1 su.2.2.2.2.1⟩  -- b7
    intro σ_3 hσ_3
    intro x4 hx4
    refine ⟨_, cn_lt2 hn2 ?_ ?_, rfl, ?_⟩
    · clear h; rw [hx4]; exact su.2.2.2.1  -- d8
    · clear h; rw [hx4]; exact su.2.2.1  -- d9
    · clear h; rw [ba.2.1, bb.2.1, g5 (40000 * a2.toNatClampNeg + x2_3.toNatClampNeg) (by omega)] at hσ_3
      refine ⟨rfl, rfl, ⟨fun k => by rw [hσ_3, ri1]; exact g1.1 k, fun k => by rw [hσ_3, ri2]; exact g1.2.1 k, fun k z => by rw [hσ_3, ri3 z]; exact g1.2.2.1 k z, fun k j z => by rw [hσ_3, ri3 z]; exact g1.2.2.2.1 k j z, fun k j => by rw [hσ_3, ri5]; exact g1.2.2.2.2 k j⟩, by rw [hx4]; exact su.1, by rw [hx4]; exact su.2.1, fun i hi => ?_, fun j hj => ?_⟩
      · rw [hx4, cn_succ g2 su.2.2.2.2.2.2.1] at hi
        rw [hσ_3, ri4]
        by_cases z : i = x2_3.toNatClampNeg
        · rw [if_pos (by rw [z]), z]
        · rw [if_neg (by omega)]; exact g4 i (by omega)
      · rw [hσ_3, ri4, if_neg (by omega)]; exact g5 j hj

end
section
set_option maxHeartbeats 1600000
/-! numbers of many places: their value -/
def dv (f : Nat → Int32) (o : Nat) : Nat → Nat
  | 0 => 0
  | n + 1 => dv f o n + (f (o + n)).toNatClampNeg * 65536 ^ n
def dgO (f : Nat → Int32) (o n : Nat) : Prop := ∀ i, i < n → 0 ≤ f (o + i) ∧ f (o + i) < 65536
theorem dg_lt {x : Int32} (h : 0 ≤ x ∧ x < 65536) : x.toNatClampNeg < 65536 := Nat.lt_of_lt_of_eq (cn_lt h.1 h.2) rfl
theorem dv_lt {f : Nat → Int32} {o : Nat} : ∀ {n : Nat}, dgO f o n → dv f o n < 65536 ^ n
  | 0, _ => Nat.one_pos
  | n + 1, h => by
    have ih := dv_lt (n := n) (fun i hi => h i (Nat.lt_succ_of_lt hi))
    have d := dg_lt (h n (Nat.lt_succ_self n))
    have m : (f (o + n)).toNatClampNeg * 65536 ^ n ≤ 65535 * 65536 ^ n := Nat.mul_le_mul_right _ (by omega)
    have e : 65536 ^ (n + 1) = 65536 ^ n * 65536 := Nat.pow_succ ..
    show dv f o n + (f (o + n)).toNatClampNeg * 65536 ^ n < _
    omega
theorem dv_congr {f g : Nat → Int32} {o p : Nat} : ∀ {n : Nat}, (∀ i, i < n → f (o + i) = g (p + i)) → dv f o n = dv g p n
  | 0, _ => rfl
  | n + 1, h => by
    have ih := dv_congr (n := n) (fun i hi => h i (Nat.lt_succ_of_lt hi))
    show dv f o n + (f (o + n)).toNatClampNeg * 65536 ^ n = dv g p n + (g (p + n)).toNatClampNeg * 65536 ^ n
    rw [ih, h n (Nat.lt_succ_self n)]
theorem dv_zero {f : Nat → Int32} {o m : Nat} : ∀ {n : Nat}, m ≤ n → (∀ i, m ≤ i → i < n → f (o + i) = 0) → dv f o n = dv f o m
  | 0, h, _ => by rw [Nat.le_zero.mp h]
  | n + 1, h, hz => by
    by_cases e : m = n + 1
    · rw [e]
    · have ih := dv_zero (n := n) (by omega) (fun i h1 h2 => hz i h1 (Nat.lt_succ_of_lt h2))
      show dv f o n + (f (o + n)).toNatClampNeg * 65536 ^ n = _
      rw [hz n (by omega) (Nat.lt_succ_self n), ih]
      exact Nat.add_eq_left.mpr (Nat.zero_mul _)
theorem dv_ge {f : Nat → Int32} {o n : Nat} (h : (f (o + n)).toNatClampNeg ≠ 0) : 65536 ^ n ≤ dv f o (n + 1) := by
  show _ ≤ dv f o n + (f (o + n)).toNatClampNeg * 65536 ^ n
  have : 1 * 65536 ^ n ≤ (f (o + n)).toNatClampNeg * 65536 ^ n := Nat.mul_le_mul_right _ (by omega)
  omega
theorem dv_cmp {f g : Nat → Int32} {o p k : Nat} : ∀ {n : Nat}, dgO f o n → k < n → (∀ i, k < i → i < n → f (o + i) = g (p + i)) → (f (o + k)).toNatClampNeg < (g (p + k)).toNatClampNeg → dv f o n < dv g p n
  | 0, _, hk, _, _ => absurd hk (Nat.not_lt_zero _)
  | n + 1, hf, hk, he, hl => by
    show dv f o n + (f (o + n)).toNatClampNeg * 65536 ^ n < dv g p n + (g (p + n)).toNatClampNeg * 65536 ^ n
    by_cases e : k = n
    · subst e
      have l := dv_lt (n := k) (fun i hi => hf i (Nat.lt_succ_of_lt hi))
      have m : ((f (o + k)).toNatClampNeg + 1) * 65536 ^ k ≤ (g (p + k)).toNatClampNeg * 65536 ^ k := Nat.mul_le_mul_right _ hl
      rw [Nat.add_mul, Nat.one_mul] at m
      omega
    · have ih := dv_cmp (n := n) (fun i hi => hf i (Nat.lt_succ_of_lt hi)) (by omega) (fun i h1 h2 => he i h1 (Nat.lt_succ_of_lt h2)) hl
      rw [he n (by omega) (Nat.lt_succ_self n)]
      omega
/-- number r of a state: its value; in order: places below 65536, no leading zero -/
abbrev nL (σ : rS) (r : Nat) : Nat := (σ.2.2.1 91 r).toNatClampNeg
def nV (σ : rS) (r : Nat) : Nat := dv (σ.2.2.1 90) (40000 * r) (nL σ r)
def numO (σ : rS) (r : Nat) : Prop := 0 ≤ σ.2.2.1 91 r ∧ σ.2.2.1 91 r ≤ 40000 ∧ dgO (σ.2.2.1 90) (40000 * r) (nL σ r) ∧ (nL σ r = 0 ∨ ∃ m, nL σ r = m + 1 ∧ (σ.2.2.1 90 (40000 * r + m)).toNatClampNeg ≠ 0)
theorem nV_len {σ : rS} {r s : Nat} (hr : numO σ r) (hs : numO σ s) (h : nL σ r < nL σ s) : nV σ r < nV σ s := by
  have l := dv_lt hr.2.2.1
  rcases hs.2.2.2 with z | ⟨m, z1, z2⟩
  · omega
  · have g := dv_ge z2
    have p : 65536 ^ nL σ r ≤ 65536 ^ m := Nat.pow_le_pow_right (by decide) (by omega)
    unfold nV
    rw [z1]
    omega

end
section
set_option maxHeartbeats 1600000
/-! the reference: numbers compared -/
theorem cm_b {l n : Int32} (h : ¬ l < 0) (h2 : l < n) (hn : n ≤ 40000) : 0 ≤ l ∧ l ≤ 40000 ∧ l < 40000 ∧ -1 ≤ l + -1 ∧ l + -1 < n ∧ 0 ≤ l + -1 + 1 ∧ l + -1 + 1 < l + 1 ∧ l + -1 + 1 = l ∧ l < 1000000 := by grind
theorem cm_0 {n : Int32} (h : 0 ≤ n) (hn : n ≤ 40000) : -1 ≤ n - 1 ∧ n - 1 < n ∧ n - 1 + 1 = n := by grind
theorem cm_1 {l : Int32} (h : l < 0) (h2 : -1 ≤ l) : l + 1 = 0 := by grind
theorem dg_d {x y d : Int32} (hx : 0 ≤ x ∧ x < 65536) (hy : 0 ≤ y ∧ y < 65536) (hd : d = x - y) : (d = 0 → x = y) ∧ (¬ d = 0 → 0 ≤ d → y < x) ∧ (¬ 0 ≤ d → x < y) := by grind
theorem compare_c {C : rCx} (hC : cOK C)  {σ : rS} {a1 : Int32} {a2 : Int32} {Q : Int32 → rS → Prop} (hp : 0 ≤ a1 ∧ a1 < 30 ∧ 0 ≤ a2 ∧ a2 < 30 ∧ numO σ a1.toNatClampNeg ∧ numO σ a2.toNatClampNeg) (h : ∀ (v : Int32), ((v = 0 ∧ nV σ a1.toNatClampNeg = nV σ a2.toNatClampNeg) ∨ (v = 1 ∧ nV σ a2.toNatClampNeg < nV σ a1.toNatClampNeg) ∨ (v = -1 ∧ nV σ a1.toNatClampNeg < nV σ a2.toNatClampNeg)) → Q v σ) : cI C 0 m_compare [.ref (co C), .int a1, .int a2] σ Q := by
  refine m_compare_run hC ?_
  unfold w_compare_0
  obtain ⟨h0, h1, h2, h3, hr, hs⟩ := hp
  refine ⟨ib_30.mpr ?_, ?_⟩
  · clear h; exact ⟨h0, h1⟩  -- b1
  refine ⟨ib_30.mpr ?_, ?_⟩
  · clear h; exact ⟨h2, h3⟩  -- b2
  refine ⟨fun c1 => ?_, fun c1 => ?_⟩
  · skip
    refine ⟨ib_30.mpr ?_, ?_⟩
    · clear h; exact ⟨h0, h1⟩  -- b3
    intro x2 hx2
    unfold w_compare_45
    refine ⟨fun n l1 l2 l3 τ => n = (l3 + 1).toNatClampNeg ∧ (σ = τ ∧ l1 = a1 ∧ l2 = a2 ∧ rd σ 91 a1 = rd σ 91 a2 ∧ -1 ≤ l3 ∧ l3 < rd σ 91 a1 ∧ (∀ i, (l3 + 1).toNatClampNeg ≤ i → i < nL σ a1.toNatClampNeg → σ.2.2.1 90 (40000 * a1.toNatClampNeg + i) = σ.2.2.1 90 (40000 * a2.toNatClampNeg + i))), ⟨_, rfl, ?_⟩, ?_⟩
    · clear h; have z := cm_0 hr.1 hr.2.1
      have e : x2 + 1 = rd σ 91 a1 := by rw [hx2]; exact z.2.2
      exact ⟨rfl, rfl, rfl, c1, by rw [hx2]; exact z.1, by rw [hx2]; exact z.2.1, fun i hi hj => absurd hj (Nat.not_lt.mpr (by rw [e] at hi; exact hi))⟩
    rintro n45 x45_1 x45_2 x45_3 _ ⟨hn45, rfl, i45⟩
    obtain ⟨e1, e2, g1, g2, g3, g4⟩ := i45
    rw [e1, e2]
    have el : nL σ a1.toNatClampNeg = nL σ a2.toNatClampNeg := by show (rd σ 91 a1).toNatClampNeg = (rd σ 91 a2).toNatClampNeg; rw [g1]
    refine ⟨fun c3 => ?_, fun c3 => ?_⟩
    · skip
      refine h _ ?_
      · clear h; refine Or.inl ⟨rfl, ?_⟩
        have z := cm_1 c3 g2
        rw [z] at g4
        unfold nV
        rw [← el]
        exact dv_congr (fun i hi => g4 i (Nat.zero_le _) hi)
    · skip
      have cb := cm_b c3 g3 hr.2.1
      have ba := bx h0 h1 cb.1 cb.2.1
      have bb := bx h2 h3 cb.1 cb.2.1
      have il : x45_3.toNatClampNeg < nL σ a1.toNatClampNeg := cn_lt cb.1 g3
      have dx := hr.2.2.1 _ il
      have dy := hs.2.2.1 _ (by rw [← el]; exact il)
      have cs := cn_succ cb.1 cb.2.2.2.2.2.2.2.2
      refine ⟨ib_1200000.mpr ?_, ?_⟩
      · clear h; exact ⟨ba.1, ba.2.2.1 cb.2.2.1⟩  -- b6
      refine ⟨ib_1200000.mpr ?_, ?_⟩
      · clear h; exact ⟨bb.1, bb.2.2.1 cb.2.2.1⟩  -- b7
      intro x4 hx4
      rw [ba.2.1, bb.2.1] at hx4
      have dd := dg_d dx dy hx4
      refine ⟨fun c5 => ?_, fun c5 => ?_⟩
      · skip
        intro x6 hx6
        refine ⟨_, cn_lt2 hn45 ?_ ?_, rfl, ?_⟩
        · clear h; rw [hx6]; exact cb.2.2.2.2.2.1  -- d8
        · clear h; rw [hx6]; exact cb.2.2.2.2.2.2.1  -- d9
        · clear h; refine ⟨rfl, rfl, rfl, g1, by rw [hx6]; exact cb.2.2.2.1, by rw [hx6]; exact cb.2.2.2.2.1, fun i hi hj => ?_⟩
          rw [hx6, cb.2.2.2.2.2.2.2.1] at hi
          by_cases z : i = x45_3.toNatClampNeg
          · rw [z]; exact dd.1 c5
          · exact g4 i (by rw [cs]; omega) hj
      · skip
        refine ⟨fun c7 => ?_, fun c7 => ?_⟩
        · skip
          refine h _ ?_
          · clear h; refine Or.inr (Or.inl ⟨rfl, ?_⟩)
            unfold nV
            rw [← el]
            exact dv_cmp (by rw [el]; exact hs.2.2.1) il (fun i h1' h2' => (g4 i (by rw [cs]; omega) h2').symm) (cn_lt dy.1 (dd.2.1 c5 c7))
        · skip
          refine h _ ?_
          · clear h; refine Or.inr (Or.inr ⟨rfl, ?_⟩)
            unfold nV
            rw [← el]
            exact dv_cmp hr.2.2.1 il (fun i h1' h2' => g4 i (by rw [cs]; omega) h2') (cn_lt dx.1 (dd.2.2 c7))
  · skip
    refine ⟨ib_30.mpr ?_, ?_⟩
    · clear h; exact ⟨h0, h1⟩  -- b13
    refine ⟨ib_30.mpr ?_, ?_⟩
    · clear h; exact ⟨h2, h3⟩  -- b14
    refine ⟨fun c8 => ?_, fun c8 => ?_⟩
    · skip
      refine h _ ?_
      · clear h; refine Or.inr (Or.inl ⟨rfl, nV_len hs hr ?_⟩)
        exact cn_lt hs.1 (Int32.lt_of_le_of_ne c8 (fun e => c1 e.symm))
    · skip
      refine h _ ?_
      · clear h; refine Or.inr (Or.inr ⟨rfl, nV_len hr hs ?_⟩)
        exact cn_lt hr.1 (Int32.not_le.mp c8)

end
section
set_option maxHeartbeats 1600000
/-! bits of small numbers -/
theorem bv_nn {x : Int32} (h0 : 0 ≤ x) : x.toInt = x.toBitVec.toNat := by
  have h := Int32.le_iff_toInt_le.mp h0
  rw [Int32.toInt_zero] at h
  have c : x.toInt = if 2 * x.toBitVec.toNat < 2 ^ 32 then (x.toBitVec.toNat : Int) else (x.toBitVec.toNat : Int) - (2 ^ 32 : Nat) := BitVec.toInt_eq_toNat_cond x.toBitVec
  have l : x.toBitVec.toNat < 2 ^ 32 := x.toBitVec.isLt
  split at c <;> omega
theorem and16 {x : Int32} (h0 : 0 ≤ x) : (x &&& 65535).toInt = x.toInt % 65536 ∧ 0 ≤ x &&& 65535 ∧ x &&& 65535 < 65536 := by
  have e : (x &&& 65535).toBitVec.toNat = x.toBitVec.toNat % 65536 := by
    rw [Int32.toBitVec_and, BitVec.toNat_and, show (65535 : Int32).toBitVec.toNat = 2 ^ 16 - 1 from rfl, Nat.and_two_pow_sub_one_eq_mod]
  have t : (x &&& 65535).toInt = ((x &&& 65535).toBitVec.toNat : Int) := BitVec.toInt_eq_toNat_of_lt (by rw [e]; omega)
  have b := bv_nn h0
  have r : (x &&& 65535).toInt = x.toInt % 65536 := by rw [t, e, b]; omega
  refine ⟨r, ?_, ?_⟩
  · rw [Int32.le_iff_toInt_le, Int32.toInt_zero, r]; omega
  · rw [Int32.lt_iff_toInt_lt, r, show (65536 : Int32).toInt = 65536 from rfl]; omega
theorem shr16 {x : Int32} : (x >>> ((16 : Int32) &&& 31)).toInt = x.toInt / 65536 := by
  have e : (x >>> ((16 : Int32) &&& 31)).toBitVec = x.toBitVec.sshiftRight 16 := by
    rw [Int32.toBitVec_shiftRight]
    rfl
  have t : (x >>> ((16 : Int32) &&& 31)).toInt = (x.toBitVec.sshiftRight 16).toInt := by rw [← e]; rfl
  rw [t, BitVec.toInt_sshiftRight, Int.shiftRight_eq_div_pow]
  rfl

end
section
set_option maxHeartbeats 1600000
/-! the reference: what a program's tokens say hangs on the tokens between its beginning and its end alone -/
def lc (S S' : Nat → Int32) (B T : Int32) : Prop := ∀ t : Int32, B ≤ t → t ≤ T → S' t.toNatClampNeg = S t.toNatClampNeg
theorem lc_1 {a B T : Int32} (hB : B ≤ a) (hT : a < T) (hT2 : T < 131074) : B ≤ a + 1 ∧ a + 1 ≤ T := by grind
theorem lc_2 {a B T : Int32} (h0 : 0 ≤ B) (hB : B ≤ a) (hT : a < T) (hT2 : T < 131074) : B ≤ a + 2 := by grind
theorem sg_L {S S' N N' : Nat → Int32} {B T a c : Int32} (hS : lc S S' B T) (hN : lc N N' B T) (hB : B ≤ a) (hT : a ≤ T) : sg S' N' a c = sg S N a c := by
  unfold sg; rw [hS a hB hT, hN a hB hT]
theorem eOp_L {S S' N N' R R' : Nat → Int32} {B T a st' a' : Int32} {W W' : eL} (hS : lc S S' B T) (hN : lc N N' B T) (hR : lc R R' B T) (hT2 : T < 131074) (hB : B ≤ a) (ha : a < a') (ha' : a' ≤ T) (h : eOp S N R a W st' a' W') : eOp S' N' R' a W st' a' W' := by
  have hT : a < T := Int32.lt_of_lt_of_le ha ha'
  have u := lc_1 hB hT hT2
  have l := Int32.le_of_lt hT
  unfold eOp
  rw [sg_L hS hN hB l, sg_L hS hN hB l, sg_L hS hN hB l, sg_L hS hN u.1 u.2, sg_L hS hN u.1 u.2, hS a hB l, hR a hB l, hS a' (Int32.le_trans hB (Int32.le_of_lt ha)) ha']
  exact h
theorem eBh_L {S S' N N' : Nat → Int32} {B T a st' a' : Int32} {W W' : eL} (hS : lc S S' B T) (hN : lc N N' B T) (hB : B ≤ a) (ha : a ≤ a') (ha' : a' ≤ T) (h : eBh S N a W st' a' W') : eBh S' N' a W st' a' W' := by
  have l := Int32.le_trans ha ha'
  have er : eRk S' N' a = eRk S N a := by unfold eRk; rw [hS a hB l, hN a hB l]
  unfold eBh
  rw [er, sg_L hS hN hB l, sg_L hS hN hB l, hN a hB l, hS a' (Int32.le_trans hB ha) ha']
  exact h
theorem eTo_L {S S' N N' R R' : Nat → Int32} {B T A : Int32} (hS : lc S S' B T) (hN : lc N N' B T) (hR : lc R R' B T) (hT2 : T < 131074) (hA : B ≤ A) {n : Nat} : ∀ {st a : Int32} {W : eL}, a ≤ T → eTo S N R A n st a W → eTo S' N' R' A n st a W := by
  induction n with
  | zero => intro st a W _ h; exact h
  | succ n ih =>
    rintro st a W ha ⟨p1, p2, p3, h1, h2, h3⟩
    have hle : p2 ≤ a := by rcases h3 with q | q; exact Int32.le_of_lt q; exact q.2 ▸ Int32.le_refl _
    have hB : B ≤ p2 := Int32.le_trans hA (eTo_ge h1)
    refine ⟨p1, p2, p3, ih (Int32.le_trans hle ha) h1, ?_, h3⟩
    rcases h2 with ⟨e, h2⟩ | ⟨e, h2⟩
    · have hlt : p2 < a := by
        rcases h3 with q | q
        · exact q
        · rw [q.1] at h2; exact absurd h2 (fun z => eOp_st z)
      exact Or.inl ⟨e, eOp_L hS hN hR hT2 hB hlt ha h2⟩
    · exact Or.inr ⟨e, eBh_L hS hN hB hle ha h2⟩
theorem ePa_L {S S' N N' R R' : Nat → Int32} {B T A e : Int32} (hS : lc S S' B T) (hN : lc N N' B T) (hR : lc R R' B T) (hT2 : T < 131074) (hA : B ≤ A) (he : e ≤ T) (h : ePa S N R A e) : ePa S' N' R' A e := by
  obtain ⟨n, hn⟩ := h
  exact ⟨n, eTo_L hS hN hR hT2 hA he hn⟩
theorem xO_L {S S' N N' R R' : Nat → Int32} {B T a : Int32} (hS : lc S S' B T) (hN : lc N N' B T) (hR : lc R R' B T) (hT2 : T < 131074) (h : xO S N R B T a) : xO S' N' R' B T a := by
  obtain ⟨h1, e, h2, h3, h4⟩ := h
  exact ⟨h1, e, ePa_L hS hN hR hT2 h1 (Int32.le_of_lt h4) h2, h3, h4⟩
theorem tgO_L {S S' N N' R R' : Nat → Int32} {B T a : Int32} (hS : lc S S' B T) (hN : lc N N' B T) (hR : lc R R' B T) (hT2 : T < 131074) (h : tgO S N R B T a) : tgO S' N' R' B T a := by
  obtain ⟨h1, h2, h4, h5⟩ := h
  have u := lc_1 h1 h2 hT2
  refine ⟨h1, h2, by rw [sg_L hS hN u.1 u.2]; exact h4, ?_⟩
  rw [hR a h1 (Int32.le_of_lt h2)]
  rcases h5 with q | q
  · exact Or.inl q
  · exact Or.inr ⟨q.1, xO_L hS hN hR hT2 q.2⟩
theorem gB_L {S S' N N' R R' : Nat → Int32} {B T : Int32} (hS : lc S S' B T) (hN : lc N N' B T) (hR : lc R R' B T) (hT2 : T < 131074) {k : Nat} : ∀ {a : Int32}, B ≤ a → gB S N R T k a → gB S' N' R' T k a := by
  induction k with
  | zero =>
    rintro a h0 ⟨e, h1, h2, h3, h4⟩
    exact ⟨e, ePa_L hS hN hR hT2 h0 (Int32.le_of_lt h3) h1, h2, h3, by rw [sg_L hS hN (Int32.le_trans h0 h2) (Int32.le_of_lt h3)]; exact h4⟩
  | succ k ih =>
    rintro a h0 ⟨e, h1, h2, h3, h4, h6⟩
    exact ⟨e, ePa_L hS hN hR hT2 h0 (Int32.le_of_lt h3) h1, h2, h3, by rw [sg_L hS hN (Int32.le_trans h0 h2) (Int32.le_of_lt h3)]; exact h4, ih (lc_1 (Int32.le_trans h0 h2) h3 hT2).1 h6⟩
theorem gN_L {S S' N N' R R' : Nat → Int32} {B T a : Int32} {n : Nat} (hS : lc S S' B T) (hN : lc N N' B T) (hR : lc R R' B T) (hT2 : T < 131074) (h0 : B ≤ a) (h : gN S N R T n a) : gN S' N' R' T n a := by
  cases n with
  | zero => exact ⟨by rw [sg_L hS hN h0 (Int32.le_of_lt h.2)]; exact h.1, h.2⟩
  | succ k => exact gB_L hS hN hR hT2 h0 h
theorem prB_L {S S' N N' R R' : Nat → Int32} {B T : Int32} (hS : lc S S' B T) (hN : lc N N' B T) (hR : lc R R' B T) (hT2 : T < 131074) {k : Nat} : ∀ {p : Int32}, B ≤ p → prB S N R T k p → prB S' N' R' T k p := by
  induction k with
  | zero =>
    rintro p h0 ⟨e1, e2, h1, h2, h3, h4, h5, h6, h7, h8⟩
    have g1 := Int32.le_trans h0 (Int32.le_of_lt h3)
    have g2 := Int32.le_trans g1 (Int32.le_trans h2 (Int32.le_of_lt h5))
    exact ⟨e1, e2, ePa_L hS hN hR hT2 g1 (Int32.le_trans (Int32.le_of_lt h5) (Int32.le_trans h6 (Int32.le_of_lt h7))) h1, h2, h3, ePa_L hS hN hR hT2 g2 (Int32.le_of_lt h7) h4, h5, h6, h7, by rw [sg_L hS hN (Int32.le_trans g2 h6) (Int32.le_of_lt h7)]; exact h8⟩
  | succ k ih =>
    rintro p h0 ⟨e1, e2, h1, h2, h3, h4, h5, h6, h7, h8, h9⟩
    have g1 := Int32.le_trans h0 (Int32.le_of_lt h3)
    have g2 := Int32.le_trans g1 (Int32.le_trans h2 (Int32.le_of_lt h5))
    exact ⟨e1, e2, ePa_L hS hN hR hT2 g1 (Int32.le_trans (Int32.le_of_lt h5) (Int32.le_trans h6 (Int32.le_of_lt h7))) h1, h2, h3, ePa_L hS hN hR hT2 g2 (Int32.le_of_lt h7) h4, h5, h6, h7, by rw [sg_L hS hN (Int32.le_trans g2 h6) (Int32.le_of_lt h7)]; exact h8, ih (Int32.le_trans g2 h6) h9⟩
theorem drO_L {S S' N N' R R' : Nat → Int32} {B T x : Int32} (hS : lc S S' B T) (hN : lc N N' B T) (hR : lc R R' B T) (hT2 : T < 131074) (hB : 0 ≤ B) (h0 : B ≤ x) (hx : x < T) (h : drO S N R T x) : drO S' N' R' T x := by
  have h2 := lc_2 hB h0 hx hT2
  have l := Int32.le_of_lt hx
  obtain ⟨d1, d2, d3⟩ := h
  unfold drO
  rw [hS x h0 l, hN x h0 l]
  refine ⟨fun z => ?_, fun z => ?_, fun z => ?_⟩
  · obtain ⟨e, e1, e2⟩ := d1 z
    exact ⟨e, ePa_L hS hN hR hT2 h2 (Int32.le_of_lt e2) e1, e2⟩
  · obtain ⟨e1, e2, g1, g2, g3, g4, g5⟩ := d2 z
    have m0 : x + 2 ≤ e1 := by obtain ⟨n, hn⟩ := g1; exact eTo_ge hn
    have m1 : B ≤ e1 + 1 := Int32.le_trans h2 (Int32.le_trans m0 (Int32.le_of_lt g2))
    exact ⟨e1, e2, ePa_L hS hN hR hT2 h2 (Int32.le_trans (Int32.le_of_lt g2) (Int32.le_trans g3 (Int32.le_of_lt g5))) g1, g2, g3, ePa_L hS hN hR hT2 m1 (Int32.le_of_lt g5) g4, g5⟩
  · obtain ⟨k, hk, hb⟩ := d3 z
    exact ⟨k, hk, prB_L hS hN hR hT2 h0 hb⟩
theorem stK_L {S S' N N' R R' : Nat → Int32} {B T k b x : Int32} (hS : lc S S' B T) (hN : lc N N' B T) (hR : lc R R' B T) (hT2 : T < 131074) (hB : 0 ≤ B) (h : stK S N R B T k b x) : stK S' N' R' B T k b x := by
  rcases h with ⟨rfl, h1, h2, h3, h5, h6, h7⟩ | ⟨rfl, h1, h2⟩ | ⟨rfl, h1, h2, h3, h4⟩ | ⟨rfl, h1, h2, h3, h4⟩ | ⟨rfl, h1, h2⟩ | ⟨h1, h2⟩
  · have g1 : B ≤ b + 1 := Int32.le_trans h1 (Int32.le_of_lt h2)
    have u := lc_1 g1 h3 hT2
    rw [up_2] at u
    refine Or.inl ⟨rfl, h1, h2, h3, by rw [sg_L hS hN u.1 u.2]; exact h5, by rw [hR (b + 1) g1 (Int32.le_of_lt h3)]; exact h6, xO_L hS hN hR hT2 h7⟩
  · exact Or.inr (Or.inl ⟨rfl, tgO_L hS hN hR hT2 h1, xO_L hS hN hR hT2 h2⟩)
  · exact Or.inr (Or.inr (Or.inl ⟨rfl, tgO_L hS hN hR hT2 h1, h2, h3, drO_L hS hN hR hT2 hB h2 h3 h4⟩))
  · exact Or.inr (Or.inr (Or.inr (Or.inl ⟨rfl, tgO_L hS hN hR hT2 h1, h2, h3, xO_L hS hN hR hT2 h4⟩)))
  · refine Or.inr (Or.inr (Or.inr (Or.inr (Or.inl ⟨rfl, ?_, fun z => ?_⟩))))
    · obtain ⟨c1, c2, c4, c5, n, c6⟩ := h1
      have u := lc_1 c1 c2 hT2
      exact ⟨c1, c2, by rw [hS x c1 (Int32.le_of_lt c2)]; exact c4, by rw [sg_L hS hN u.1 u.2]; exact c5, n, gN_L hS hN hR hT2 (lc_2 hB c1 c2 hT2) c6⟩
    · obtain ⟨c1, c2, c4, c5⟩ := h2 z
      have u := lc_1 c1 c2 hT2
      exact ⟨c1, c2, by rw [sg_L hS hN u.1 u.2]; exact c4, by rw [hR b c1 (Int32.le_of_lt c2)]; exact c5⟩
  · exact Or.inr (Or.inr (Or.inr (Or.inr (Or.inr ⟨h1, xO_L hS hN hR hT2 h2⟩))))
theorem lc_n {x n : Int32} {m : Nat} (h0 : 0 ≤ x) (h : x < n) (hn : n.toInt ≤ m) : x.toNatClampNeg < m := by
  have h1 := Int32.lt_iff_toInt_lt.mp h
  have h2 := Int32.le_iff_toInt_le.mp h0
  rw [Int32.toInt_zero] at h2
  have := cn_int h0
  omega
/-- a program in order stays so while its tokens and its tables stay -/
theorem progOK_L {σ τ : rS} {B T : Int32} (ht : tyAll σ) (h : progOK σ B T) (hS : lc (σ.2.2.1 5) (τ.2.2.1 5) B T) (hN : lc (σ.2.2.1 7) (τ.2.2.1 7) B T) (hR : lc (σ.2.2.1 39) (τ.2.2.1 39) B T) (h18 : τ.1 18 = σ.1 18) (h19 : τ.1 19 = σ.1 19) (h40 : τ.1 40 = σ.1 40) (hr : ∀ k, k = 30 ∨ k = 31 ∨ k = 32 ∨ k = 33 ∨ k = 34 ∨ k = 35 ∨ k = 36 ∨ k = 37 → ∀ j, j < 150 → τ.2.2.1 k j = σ.2.2.1 k j) (hf : ∀ k, k = 26 ∨ k = 29 → ∀ j, j < 10 → τ.2.2.1 k j = σ.2.2.1 k j) : progOK τ B T := by
  obtain ⟨h1, h2, h3, h4, h5, h6, h7, h8, h9, ha, hb⟩ := h
  have b19 : (σ.1 19).toInt ≤ 150 := by
    have := ht.1
    have z : σ.1 19 ≤ 150 := by clear hS hN hR hr hf h6 h9 ha hb; grind [tyF]
    exact Int32.le_iff_toInt_le.mp z
  have b18 : (σ.1 18).toInt ≤ 10 := by
    have := ht.1
    have z : σ.1 18 ≤ 10 := by clear hS hN hR hr hf h6 h9 ha hb; grind [tyF]
    exact Int32.le_iff_toInt_le.mp z
  have rs : ∀ k, k = 30 ∨ k = 31 ∨ k = 32 ∨ k = 33 ∨ k = 34 ∨ k = 35 ∨ k = 36 ∨ k = 37 → ∀ s : Int32, 0 ≤ s → s < σ.1 19 → τ.2.2.1 k s.toNatClampNeg = σ.2.2.1 k s.toNatClampNeg := fun k hk s s0 s1 => hr k hk _ (lc_n s0 s1 b19)
  have rf : ∀ k, k = 26 ∨ k = 29 → ∀ s : Int32, 0 ≤ s → s < σ.1 18 → τ.2.2.1 k s.toNatClampNeg = σ.2.2.1 k s.toNatClampNeg := fun k hk s s0 s1 => hf k hk _ (lc_n s0 s1 b18)
  refine ⟨h1, h2, h3, h4, by rw [rd, hS T h2 (Int32.le_refl _)]; exact h5, fun s s0 s1 => ?_, by rw [h40]; exact h7, by rw [h40, h18]; exact h8, fun s s0 s1 s5 => ?_, ?_, ?_⟩
  · rw [h19] at s1
    obtain ⟨g1, g2, g3, g4, g5⟩ := h6 s s0 s1
    refine ⟨?_, ?_, ?_, ?_, ?_⟩
    · rw [rd, rd, rd, rs 30 (by decide) s s0 s1, rs 31 (by decide) s s0 s1, rs 32 (by decide) s s0 s1]
      exact stK_L hS hN hR h3 h1 g1
    · rw [rd, rs 36 (by decide) s s0 s1]; exact g2
    · rw [h19, rs 33 (by decide) s s0 s1]; exact g3
    · rw [h19, rs 34 (by decide) s s0 s1]; exact g4
    · rw [h19, rs 35 (by decide) s s0 s1]; exact g5
  · rw [h19] at s1
    rw [rd, rs 30 (by decide) s s0 s1] at s5
    obtain ⟨k1, k2, k3⟩ := h9 s s0 s1 s5
    have c := stK_call (h6 s s0 s1).1 s5
    have x := rs 32 (by decide) s s0 s1
    have e : τ.2.2.1 39 (rd τ 32 s).toNatClampNeg = σ.2.2.1 39 (rd σ 32 s).toNatClampNeg := by
      rw [rd, x]; exact hR _ c.1 (Int32.le_of_lt c.2.1)
    have f0 : 0 ≤ σ.2.2.1 39 (rd σ 32 s).toNatClampNeg - 300 ∧ σ.2.2.1 39 (rd σ 32 s).toNatClampNeg - 300 < σ.1 18 := by
      clear k3 c x e hS hN hR hr hf rs rf h6 h9 ha hb
      have := ht.1
      grind [tyF]
    refine ⟨by rw [e]; exact k1, by rw [e, h18]; exact k2, ?_⟩
    rw [e, rf 26 (by decide) _ f0.1 f0.2, show rd τ 32 s = rd σ 32 s from x]
    exact gN_L hS hN hR h3 (lc_2 h1 c.1 c.2.1 h3) k3
  · rw [h18]
    intro f f0 f1
    rw [rd, rf 29 (by decide) f f0 f1, h19]
    exact ha f f0 f1
  · rw [h19]
    intro s s0 s1
    rw [rd, rs 37 (by decide) s s0 s1]
    exact hb s s0 s1

end
section
set_option maxHeartbeats 1600000
/-! the reference: program -/
abbrev zFF : List Nat := [0, 2, 3, 4, 10, 11, 12, 13, 14, 15, 16, 17, 18, 19, 40, 41, 42, 46, 47, 48, 49, 53, 55, 69, 70, 71, 72, 94, 106, 114]
abbrev zRR : List Nat := [5, 6, 7, 9, 20, 21, 22, 23, 24, 25, 26, 27, 28, 29, 30, 31, 32, 33, 34, 35, 36, 37, 38, 39, 43, 44, 45, 50, 51, 52, 54, 56]
theorem eB_mix {r r0 r1 : Nat → Int32} {lo hi : Int32} {n : Nat} (h0 : eB r0 lo hi) (h1 : eB r1 lo hi) (a : ∀ i, i < n → r i = r0 i) (b : ∀ j, n ≤ j → r j = r1 j) : eB r lo hi := by
  intro k
  by_cases h : k < n
  · rw [a k h]; exact h0 k
  · rw [b k (by omega)]; exact h1 k
theorem two_b {b c t T : Int32} (hb : b = 0 ∨ b = 65537) (hc : c = 0 ∨ c = 65537) (hne : c ≠ b) (hT : T < 131074) (hd : T.toInt - b.toInt ≤ 65536) (h1 : b ≤ t) (h2 : t ≤ T) : 0 ≤ t ∧ (t < c ∨ c + 65536 < t) := by
  have g2 := Int32.le_iff_toInt_le.mp h2
  rcases hb with rfl | rfl
  · rcases hc with rfl | rfl
    · exact absurd rfl hne
    · refine ⟨h1, Or.inl (Int32.lt_iff_toInt_lt.mpr ?_)⟩
      rw [show (65537 : Int32).toInt = 65537 from rfl]
      rw [show (0 : Int32).toInt = 0 from rfl] at hd
      omega
  · rcases hc with rfl | rfl
    · clear g2 hd; refine ⟨by grind, Or.inr (by grind)⟩
    · exact absurd rfl hne
/-- a program was read, or its reading failed and all is as before -/
def prQ (σ σ' : rS) : Prop := (σ'.1 3 = 0 ∨ σ'.1 3 = 65537) ∧ σ'.1 2 = 0 ∧ tyAll σ' ∧ (σ'.1 14 ≠ 0 → ∃ T, progOK σ' (σ'.1 3) T) ∧ frH zFF zRR σ σ' ∧ (((σ'.1 14 = σ.1 14 ∧ σ'.1 69 = σ.1 69 ∧ σ'.1 70 = σ.1 70 ∧ σ'.1 71 = σ.1 71 ∧ σ'.1 72 = σ.1 72 ∧ σ'.1 94 = σ.1 94 ∧ σ'.1 106 = σ.1 106 ∧ σ'.1 114 = σ.1 114)) ∨ (σ'.1 14 = 1 ∧ σ'.1 69 = 0 ∧ σ'.1 70 = 0 ∧ σ'.1 71 = 0 ∧ σ'.1 72 = 0 ∧ σ'.1 94 = 0 ∧ σ'.1 106 = -1 ∧ σ'.1 114 = 0))
theorem frZ_si {σ : rS} {k : Nat} {x : Int32} (hk : k ∈ zFF) : frH zFF zRR σ (siU σ k x) := ⟨fun q z => if_neg (fun e => z (by rw [e]; exact hk)), fun _ => rfl, fun _ _ => rfl, fun _ _ _ => rfl⟩
theorem frZ_q {σ τ : rS} (h : frH qFF qRR σ τ) : frH zFF zRR σ τ := ⟨fun k z => h.1 k (fun e => z ((by decide : ∀ k ∈ qFF, k ∈ zFF) k e)), h.2.1, fun k z => h.2.2.1 k (fun e => z ((by decide : ∀ k ∈ qRR, k ∈ zRR) k e)), h.2.2.2⟩
theorem ty_s {σ τ : rS} (h : tyAll σ) (hf : ∀ k, k = 15 ∨ k = 16 ∨ k = 17 ∨ k = 18 ∨ k = 19 ∨ k = 40 ∨ k = 41 ∨ k = 42 → τ.1 k = σ.1 k) (hr : ∀ k, k ≠ 54 → k ≠ 56 → τ.2.2.1 k = σ.2.2.1 k) : tyAll τ := by
  obtain ⟨h1, h3, h4, h5, h6⟩ := h
  refine ⟨?_, ?_, ?_, ?_, by rw [hr 37 (by decide) (by decide)]; exact h6⟩
  · show tyF _ _ _ _ _ _ _ _
    rw [hf 15 (by decide), hf 16 (by decide), hf 17 (by decide), hf 18 (by decide), hf 19 (by decide), hf 40 (by decide), hf 41 (by decide), hf 42 (by decide)]
    exact h1
  · show tyN _ _ _ _ _ _
    rw [hr 20 (by decide) (by decide), hr 22 (by decide) (by decide), hr 25 (by decide) (by decide), hr 28 (by decide) (by decide), hr 26 (by decide) (by decide), hr 27 (by decide) (by decide)]
    exact h3
  · show tyA _ _
    rw [hr 23 (by decide) (by decide), hr 24 (by decide) (by decide)]
    exact h4
  · show tyS _ _ _ _ _ _ _ _
    rw [hr 29 (by decide) (by decide), hr 33 (by decide) (by decide), hr 34 (by decide) (by decide), hr 35 (by decide) (by decide), hr 36 (by decide) (by decide), hr 38 (by decide) (by decide), hr 43 (by decide) (by decide), hr 44 (by decide) (by decide)]
    exact h5
theorem kept_s {σ τ υ : rS} (h : kept σ τ) (e : υ.2.2.1 54 = τ.2.2.1 54) : kept σ υ := by
  unfold kept at h ⊢
  rw [e]; exact h
theorem ty_back {σ σ7 υ : rS} (h : back σ σ7 υ) (h0 : tyAll σ) (h7 : tyAll σ7) : tyAll υ := by
  obtain ⟨b1, b15, b16, b17, b18, b19, b40, b3, b5, b6, b7, b8⟩ := h
  obtain ⟨f0, n0, a0, s0, t0⟩ := h0
  obtain ⟨f7, n7, a7, s7, t7⟩ := h7
  have m := fun (p : Nat × Nat × Nat) (hp : p ∈ kPt) lo hi (x0 : eB (σ.2.2.1 p.1) lo hi) (x7 : eB (σ7.2.2.1 p.1) lo hi) => eB_mix x0 x7 (b8 p hp).1 (b8 p hp).2
  have k43 : υ.2.2.1 43 = σ7.2.2.1 43 := b7 43 (by decide) (by decide)
  have k44 : υ.2.2.1 44 = σ7.2.2.1 44 := b7 44 (by decide) (by decide)
  refine ⟨?_, ⟨m (20, 8, 10) (by decide) _ _ n0.1 n7.1, m (22, 28, 3) (by decide) _ _ n0.2.1 n7.2.1, m (25, 37, 10) (by decide) _ _ n0.2.2.1 n7.2.2.1, m (28, 67, 80) (by decide) _ _ n0.2.2.2.1 n7.2.2.2.1, m (26, 47, 10) (by decide) _ _ n0.2.2.2.2.1 n7.2.2.2.2.1, m (27, 57, 10) (by decide) _ _ n0.2.2.2.2.2 n7.2.2.2.2.2⟩, ⟨m (23, 31, 3) (by decide) _ _ a0.1 a7.1, m (24, 34, 3) (by decide) _ _ a0.2 a7.2⟩, ⟨m (29, 147, 10) (by decide) _ _ s0.1 s7.1, m (33, 607, 150) (by decide) _ _ s0.2.1 s7.2.1, m (34, 757, 150) (by decide) _ _ s0.2.2.1 s7.2.2.1, m (35, 907, 150) (by decide) _ _ s0.2.2.2.1 s7.2.2.2.1, m (36, 1057, 150) (by decide) _ _ s0.2.2.2.2.1 s7.2.2.2.2.1, m (38, 1357, 150) (by decide) _ _ s0.2.2.2.2.2.1 s7.2.2.2.2.2.1, by rw [k43]; exact s7.2.2.2.2.2.2.1, by rw [k44]; exact s7.2.2.2.2.2.2.2⟩, m (37, 1207, 150) (by decide) _ _ t0 t7⟩
  show tyF _ _ _ _ _ _ _ _
  rw [b15, b16, b17, b18, b19, b40, b1 41 (by decide) (by decide) (by decide) (by decide) (by decide) (by decide) (by decide) (by decide), b1 42 (by decide) (by decide) (by decide) (by decide) (by decide) (by decide) (by decide) (by decide)]
  have g0 : tyF (σ.1 15) (σ.1 16) (σ.1 17) (σ.1 18) (σ.1 19) (σ.1 40) (σ.1 41) (σ.1 42) := f0
  have g7 : tyF (σ7.1 15) (σ7.1 16) (σ7.1 17) (σ7.1 18) (σ7.1 19) (σ7.1 40) (σ7.1 41) (σ7.1 42) := f7
  clear b1 b5 b6 b7 b8 n0 n7 a0 a7 s0 s7 t0 t7 m f0 f7
  grind [tyF]
theorem program_c {C : rCx} (hC : cOK C)  {σ : rS}  {Q : Int32 → rS → Prop} (hp : (σ.1 3 = 0 ∨ σ.1 3 = 65537) ∧ 0 ≤ σ.1 2 ∧ σ.1 2 ≤ 65536 ∧ tyAll σ ∧ (σ.1 14 ≠ 0 → ∃ T, progOK σ (σ.1 3) T)) (h : ∀ (v : Int32) (σ' : rS), (prQ σ σ') → Q v σ') : cI C 13 m_program [.ref (co C)] σ Q := by
  refine m_program_run hC ?_
  unfold w_program_0
  obtain ⟨hb, hs0, hs1, hT, hP⟩ := hp
  intro σ_1 hσ_1
  refine swingAll_c_s hC  (fun σ_2 q3 => ?_)
  have e1 : ∀ k, k ≠ 0 → σ_1.1 k = σ.1 k := fun k hk => by rw [hσ_1, si1, if_neg hk]
  have s1 : σ_1.2 = σ.2 := by rw [hσ_1, si2]
  have e2 : ∀ k, k ≠ 0 → k ≠ 55 → σ_2.1 k = σ.1 k := fun k z1 z2 => (q3.1.1 k z2).trans (e1 k z1)
  have r2 : ∀ k, k ≠ 54 → k ≠ 56 → σ_2.2.2.1 k = σ.2.2.1 k := fun k z1 z2 => (q3.1.2.2.1 k z1 z2).trans (by rw [s1])
  have T1 : tyAll σ_1 := ty_s hT (fun k hk => e1 k (by omega)) (fun k _ _ => by rw [s1])
  have T2 : tyAll σ_2 := ty_s hT (fun k hk => e2 k (by omega) (by omega)) r2
  have F2 : frH zFF zRR σ σ_2 := ⟨fun k z => e2 k (fun e => z (by rw [e]; decide)) (fun e => z (by rw [e]; decide)), fun k => (q3.1.2.1 k).trans (by rw [s1]), fun k z => r2 k (fun e => z (by rw [e]; decide)) (fun e => z (by rw [e]; decide)), fun k j _ => (q3.1.2.2.2.2 k j).trans (by rw [s1])⟩
  refine tellProgram_c hC  ?_ (fun σ_4 q5 => ?_)
  · clear h; exact ⟨by rw [e2 3 (by decide) (by decide)]; exact hb, by rw [e2 2 (by decide) (by decide)]; exact hs0, by rw [e2 2 (by decide) (by decide)]; exact hs1, T2⟩  -- p1
  intro σ_6 hσ_6
  intro σ_7 hσ_7
  obtain ⟨t1, t2, t3, t4, t5, t6, t7⟩ := q5
  have e7 : ∀ k, k ≠ 2 → k ≠ 53 → σ_7.1 k = σ_4.1 k := fun k z1 z2 => by rw [hσ_7, si1, if_neg z2, hσ_6, si1, if_neg z1]
  have v7 : σ_7.1 2 = 0 := by rw [hσ_7, si1, if_neg (by decide), hσ_6, si1, if_pos rfl]
  have s7 : σ_7.2 = σ_4.2 := by rw [hσ_7, si2, hσ_6, si2]
  have F7 : frH zFF zRR σ σ_7 := frH_tr F2 (frH_tr (frZ_q t1) (by rw [hσ_7, hσ_6]; exact frH_tr (frZ_si (by decide)) (frZ_si (by decide))))
  have T7 : tyAll σ_7 := ty_s t2 (fun k hk => e7 k (by omega) (by omega)) (fun k _ _ => by rw [s7])
  have k7 : ∀ k, k ∉ qFF → k ≠ 0 → k ≠ 55 → k ≠ 2 → k ≠ 53 → σ_7.1 k = σ.1 k := fun k z1 z2 z3 z4 z5 => (e7 k z4 z5).trans ((t1.1 k z1).trans (e2 k z2 z3))
  refine ⟨fun c8 => ?_, fun c8 => ?_⟩
  · skip
    intro σ_9 hσ_9
    intro σ_10 hσ_10
    intro σ_11 hσ_11
    intro σ_12 hσ_12
    intro σ_13 hσ_13
    intro σ_14 hσ_14
    intro σ_15 hσ_15
    intro σ_16 hσ_16
    refine h _ _ ?_
    · clear h; have s16 : σ_16.2 = σ_4.2 := by rw [hσ_16, si2, hσ_15, si2, hσ_14, si2, hσ_13, si2, hσ_12, si2, hσ_11, si2, hσ_10, si2, hσ_9, si2]; exact s7
      have e16 : ∀ k, k ≠ 14 → k ≠ 69 → k ≠ 94 → k ≠ 114 → k ≠ 106 → k ≠ 70 → k ≠ 71 → k ≠ 72 → σ_16.1 k = σ_7.1 k := fun k z1 z2 z3 z4 z5 z6 z7 z8 => by rw [hσ_16, si1, if_neg z8, hσ_15, si1, if_neg z7, hσ_14, si1, if_neg z6, hσ_13, si1, if_neg z5, hσ_12, si1, if_neg z4, hσ_11, si1, if_neg z3, hσ_10, si1, if_neg z2, hσ_9, si1, if_neg z1]
      have e4 : ∀ k, k ≠ 2 → k ≠ 53 → k ≠ 14 → k ≠ 69 → k ≠ 94 → k ≠ 114 → k ≠ 106 → k ≠ 70 → k ≠ 71 → k ≠ 72 → σ_16.1 k = σ_4.1 k := fun k y1 y2 z1 z2 z3 z4 z5 z6 z7 z8 => (e16 k z1 z2 z3 z4 z5 z6 z7 z8).trans (e7 k y1 y2)
      have f0 : σ_4.1 11 = 0 := by
        rw [e7 11 (by decide) (by decide)] at c8
        exact Int32.le_antisymm c8 t7
      obtain ⟨T, pk⟩ := t6 f0
      have d3 := e4 3 (by decide) (by decide) (by decide) (by decide) (by decide) (by decide) (by decide) (by decide) (by decide) (by decide)
      refine ⟨by rw [d3]; exact t3, by rw [e16 2 (by decide) (by decide) (by decide) (by decide) (by decide) (by decide) (by decide) (by decide)]; exact v7, ?_, fun _ => ⟨T, ?_⟩, ?_, Or.inr ⟨?_, ?_, ?_, ?_, ?_, ?_, ?_, ?_⟩⟩
      · exact ty_s t2 (fun k hk => e4 k (by omega) (by omega) (by omega) (by omega) (by omega) (by omega) (by omega) (by omega) (by omega) (by omega)) (fun k _ _ => by rw [s16])
      · rw [d3]
        exact progOK_L t2 pk (fun t _ _ => by rw [s16]) (fun t _ _ => by rw [s16]) (fun t _ _ => by rw [s16]) (e4 18 (by decide) (by decide) (by decide) (by decide) (by decide) (by decide) (by decide) (by decide) (by decide) (by decide)) (e4 19 (by decide) (by decide) (by decide) (by decide) (by decide) (by decide) (by decide) (by decide) (by decide) (by decide)) (e4 40 (by decide) (by decide) (by decide) (by decide) (by decide) (by decide) (by decide) (by decide) (by decide) (by decide)) (fun k _ j _ => by rw [s16]) (fun k _ j _ => by rw [s16])
      · refine frH_tr F7 ⟨fun k z => e16 k ?_ ?_ ?_ ?_ ?_ ?_ ?_ ?_, fun k => by rw [s16, s7], fun k _ => by rw [s16, s7], fun k j _ => by rw [s16, s7]⟩ <;> exact fun e => z (by rw [e]; decide)
      · rw [hσ_16, si1, if_neg (by decide), hσ_15, si1, if_neg (by decide), hσ_14, si1, if_neg (by decide), hσ_13, si1, if_neg (by decide), hσ_12, si1, if_neg (by decide), hσ_11, si1, if_neg (by decide), hσ_10, si1, if_neg (by decide), hσ_9, si1, if_pos rfl]
      · rw [hσ_16, si1, if_neg (by decide), hσ_15, si1, if_neg (by decide), hσ_14, si1, if_neg (by decide), hσ_13, si1, if_neg (by decide), hσ_12, si1, if_neg (by decide), hσ_11, si1, if_neg (by decide), hσ_10, si1, if_pos rfl]
      · rw [hσ_16, si1, if_neg (by decide), hσ_15, si1, if_neg (by decide), hσ_14, si1, if_pos rfl]
      · rw [hσ_16, si1, if_neg (by decide), hσ_15, si1, if_pos rfl]
      · rw [hσ_16, si1, if_pos rfl]
      · rw [hσ_16, si1, if_neg (by decide), hσ_15, si1, if_neg (by decide), hσ_14, si1, if_neg (by decide), hσ_13, si1, if_neg (by decide), hσ_12, si1, if_neg (by decide), hσ_11, si1, if_pos rfl]
      · rw [hσ_16, si1, if_neg (by decide), hσ_15, si1, if_neg (by decide), hσ_14, si1, if_neg (by decide), hσ_13, si1, if_pos rfl]
      · rw [hσ_16, si1, if_neg (by decide), hσ_15, si1, if_neg (by decide), hσ_14, si1, if_neg (by decide), hσ_13, si1, if_neg (by decide), hσ_12, si1, if_pos rfl]
  · skip
    refine swingAll_c_b hC σ_1 ?_ (fun σ_17 q18 => ?_)
    · clear h; exact kept_s q3.2 (by rw [s7]; exact t1.2.2.1 54 (by decide))  -- p3
    refine h _ _ ?_
    · clear h; have T17 := ty_back q18 T1 T7
      obtain ⟨b1, b15, b16, b17, b18, b19, b40, b3, b5, b6, b7, b8⟩ := q18
      have bf : ∀ k, k ∉ [55, 15, 16, 17, 18, 19, 40, 3] → σ_17.1 k = σ_7.1 k := fun k z => b1 k (fun e => z (by rw [e]; decide)) (fun e => z (by rw [e]; decide)) (fun e => z (by rw [e]; decide)) (fun e => z (by rw [e]; decide)) (fun e => z (by rw [e]; decide)) (fun e => z (by rw [e]; decide)) (fun e => z (by rw [e]; decide)) (fun e => z (by rw [e]; decide))
      have d3 : σ_17.1 3 = σ.1 3 := b3.trans (e1 3 (by decide))
      have kk : ∀ k, k ∉ [55, 15, 16, 17, 18, 19, 40, 3] → k ∉ qFF → k ≠ 0 → k ≠ 55 → k ≠ 2 → k ≠ 53 → σ_17.1 k = σ.1 k := fun k z1 z2 z3 z4 z5 z6 => (bf k z1).trans (k7 k z2 z3 z4 z5 z6)
      have d14 : σ_17.1 14 = σ.1 14 := kk 14 (by decide) (by decide) (by decide) (by decide) (by decide) (by decide)
      refine ⟨by rw [d3]; exact hb, by rw [bf 2 (by decide)]; exact v7, T17, fun z => ?_, ?_, Or.inl ⟨d14, kk 69 (by decide) (by decide) (by decide) (by decide) (by decide) (by decide), kk 70 (by decide) (by decide) (by decide) (by decide) (by decide) (by decide), kk 71 (by decide) (by decide) (by decide) (by decide) (by decide) (by decide), kk 72 (by decide) (by decide) (by decide) (by decide) (by decide) (by decide), kk 94 (by decide) (by decide) (by decide) (by decide) (by decide) (by decide), kk 106 (by decide) (by decide) (by decide) (by decide) (by decide) (by decide), kk 114 (by decide) (by decide) (by decide) (by decide) (by decide) (by decide)⟩⟩
      · rw [d14] at z
        obtain ⟨T, pk⟩ := hP z
        have tok : ∀ k, k = 5 ∨ k = 7 ∨ k = 39 → lc (σ.2.2.1 k) (σ_17.2.2.1 k) (σ.1 3) T := fun k hk t ht ht2 => by
          have w := two_b hb t3 (by rw [← e2 3 (by decide) (by decide)]; exact t4) pk.2.2.1 pk.2.2.2.1 ht ht2
          have x := t5 k (by omega) t w.1 w.2
          have y : σ_17.2.2.1 k = σ_4.2.2.1 k := by
            rcases hk with rfl | rfl | rfl
            · rw [b7 5 (by decide) (by decide), s7]
            · rw [b7 7 (by decide) (by decide), s7]
            · rw [b7 39 (by decide) (by decide), s7]
          rw [y]
          refine x.trans ?_
          rw [rd, r2 k (by omega) (by omega)]
        have rw1 : ∀ p ∈ kPt, ∀ j, j < p.2.2 → σ_17.2.2.1 p.1 j = σ.2.2.1 p.1 j := fun p hp j hj => by rw [(b8 p hp).1 j hj, s1]
        refine ⟨T, ?_⟩
        rw [d3]
        refine progOK_L hT pk (tok 5 (by decide)) (tok 7 (by decide)) (tok 39 (by decide)) (b18.trans (e1 18 (by decide))) (b19.trans (e1 19 (by decide))) (b40.trans (e1 40 (by decide))) (fun k hk j hj => ?_) (fun k hk j hj => ?_)
        · rcases hk with rfl | rfl | rfl | rfl | rfl | rfl | rfl | rfl
          · exact rw1 (30, 157, 150) (by decide) j hj
          · exact rw1 (31, 307, 150) (by decide) j hj
          · exact rw1 (32, 457, 150) (by decide) j hj
          · exact rw1 (33, 607, 150) (by decide) j hj
          · exact rw1 (34, 757, 150) (by decide) j hj
          · exact rw1 (35, 907, 150) (by decide) j hj
          · exact rw1 (36, 1057, 150) (by decide) j hj
          · exact rw1 (37, 1207, 150) (by decide) j hj
        · rcases hk with rfl | rfl
          · exact rw1 (26, 47, 10) (by decide) j hj
          · exact rw1 (29, 147, 10) (by decide) j hj
      · refine frH_tr F7 ⟨fun k z => bf k (fun e => z ((by decide : ∀ q ∈ [55, 15, 16, 17, 18, 19, 40, 3], q ∈ zFF) k e)), b5, fun k z => b7 k (fun e => z (by rw [e]; decide)) (fun p hp e => z (by rw [← e]; exact (by decide : ∀ p ∈ kPt, p.1 ∈ zRR) p hp)), fun k j _ => b6 k j⟩

end
section
set_option maxHeartbeats 1600000
/-! the reference: a program that runs: calls, ends of functions -/
/-- a program in order, its tables within their ranges -/
def rI (σ : rS) (B T : Int32) : Prop := tyAll σ ∧ progOK σ B T
abbrev rnF : List Nat := [10, 11, 12, 13, 46, 47, 48, 49, 58, 61, 62, 63, 66, 67]
abbrev rnR : List Nat := [50, 51, 52, 57, 59, 60, 64, 65, 68]
theorem rI_fr {σ τ : rS} {B T : Int32} (h : rI σ B T) (f : frG rnF rnR σ τ) : rI τ B T := by
  obtain ⟨h1, h2⟩ := h
  have rr := f.2.2.1
  have ff := f.1
  refine ⟨?_, progOK_L h1 h2 (fun t _ _ => by rw [rr 5 (by decide)]) (fun t _ _ => by rw [rr 7 (by decide)]) (fun t _ _ => by rw [rr 39 (by decide)]) (ff 18 (by decide)) (ff 19 (by decide)) (ff 40 (by decide)) (fun k hk j _ => ?_) (fun k hk j _ => ?_)⟩
  · obtain ⟨g1, g3, g4, g5, g6⟩ := h1
    refine ⟨?_, ?_, ?_, ?_, by rw [rr 37 (by decide)]; exact g6⟩
    · show tyF _ _ _ _ _ _ _ _
      rw [ff 15 (by decide), ff 16 (by decide), ff 17 (by decide), ff 18 (by decide), ff 19 (by decide), ff 40 (by decide), ff 41 (by decide), ff 42 (by decide)]
      exact g1
    · show tyN _ _ _ _ _ _
      rw [rr 20 (by decide), rr 22 (by decide), rr 25 (by decide), rr 28 (by decide), rr 26 (by decide), rr 27 (by decide)]
      exact g3
    · show tyA _ _
      rw [rr 23 (by decide), rr 24 (by decide)]
      exact g4
    · show tyS _ _ _ _ _ _ _ _
      rw [rr 29 (by decide), rr 33 (by decide), rr 34 (by decide), rr 35 (by decide), rr 36 (by decide), rr 38 (by decide), rr 43 (by decide), rr 44 (by decide)]
      exact g5
  · rcases hk with rfl | rfl | rfl | rfl | rfl | rfl | rfl | rfl
    · rw [rr 30 (by decide)]
    · rw [rr 31 (by decide)]
    · rw [rr 32 (by decide)]
    · rw [rr 33 (by decide)]
    · rw [rr 34 (by decide)]
    · rw [rr 35 (by decide)]
    · rw [rr 36 (by decide)]
    · rw [rr 37 (by decide)]
  · rcases hk with rfl | rfl
    · rw [rr 26 (by decide)]
    · rw [rr 29 (by decide)]
/-- the calls below the latest one stand at calling statements -/
def csL (σ : rS) (n : Int32) : Prop := ∀ c : Int32, 0 ≤ c → c < n → 0 ≤ rd σ 59 c ∧ rd σ 59 c < σ.1 19 ∧ rd σ 30 (rd σ 59 c) = 5
/-- calls of a program that runs, the latest at a statement -/
def csF (σ : rS) : Prop := (1 ≤ σ.1 58 ∧ σ.1 58 ≤ 12) ∧ csL σ (σ.1 58 - 1) ∧ 0 ≤ rd σ 59 (σ.1 58 - 1) ∧ rd σ 59 (σ.1 58 - 1) < σ.1 19
theorem frG_1 {F R : List Nat} {σ : rS} {k i : Nat} {x : Int32} (hk : k ∈ R) : frG F R σ (riU σ k i x) := ⟨fun _ _ => rfl, fun _ => rfl, fun q z => ri3 (fun e => z (by rw [e]; exact hk)), fun _ _ => rfl⟩
theorem frG_0 {F R : List Nat} {σ : rS} {k : Nat} {x : Int32} (hk : k ∈ F) : frG F R σ (siU σ k x) := ⟨fun q z => if_neg (fun e => z (by rw [e]; exact hk)), fun _ => rfl, fun _ _ => rfl, fun _ _ => rfl⟩
theorem c_m1 {x : Int32} (h1 : 1 ≤ x) (h2 : x ≤ 12) : 0 ≤ x - 1 ∧ x - 1 < 12 := by grind
theorem c_d0 {y : Int32} (h0 : 0 ≤ y) (h1 : y < 12) (h : ¬ y = 0) : 1 ≤ y ∧ y ≤ 12 ∧ 0 ≤ y - 1 ∧ y - 1 < 12 ∧ y - 1 < y := by grind
theorem c_d1 {x : Int32} (h1 : 1 ≤ x) (h2 : x ≤ 12) : x - 1 < x := by grind
theorem c_dn {x : Int32} (h1 : 1 ≤ x) (h2 : x ≤ 12) (h3 : ¬ x - 1 = 0) : 1 ≤ x - 1 ∧ x - 1 ≤ 12 ∧ 0 ≤ x - 1 - 1 ∧ x - 1 - 1 < 12 ∧ x - 1 - 1 < x - 1 ∧ x - 1 < x ∧ 0 ≤ x - 1 := by
  have m := c_m1 h1 h2
  have d := c_d0 m.1 m.2 h3
  exact ⟨d.1, d.2.1, d.2.2.1, d.2.2.2.1, d.2.2.2.2, c_d1 h1 h2, m.1⟩
theorem st_kind5 {σ : rS} {B T s : Int32} (h : rI σ B T) (h0 : 0 ≤ s) (h1 : s < σ.1 19) (hk : rd σ 30 s = 5) (hne : ¬ rd σ 31 s = rd σ 32 s) : 0 ≤ rd σ 31 s ∧ rd σ 31 s < 131074 ∧ validV (rd σ 39 (rd σ 31 s)) := by
  obtain ⟨-, h1', -, h3, -, -, h6, -⟩ := h
  rcases (h6 s h0 h1).1 with ⟨q, -⟩ | ⟨q, -⟩ | ⟨q, -⟩ | ⟨q, -⟩ | ⟨-, -, q⟩ | ⟨q, -⟩
  · rw [hk] at q; exact absurd q (by decide)
  · rw [hk] at q; exact absurd q (by decide)
  · rw [hk] at q; exact absurd q (by decide)
  · rw [hk] at q; exact absurd q (by decide)
  · obtain ⟨c1, c2, -, c4⟩ := q hne
    exact ⟨Int32.le_trans h1' c1, Int32.lt_trans c2 h3, c4⟩
  · rw [hk] at q; exact absurd q (by decide)
theorem s150 {σ : rS} {B T s : Int32} (h : rI σ B T) (h1 : s < σ.1 19) : s < 150 := by
  have t : tyF (σ.1 15) (σ.1 16) (σ.1 17) (σ.1 18) (σ.1 19) (σ.1 40) (σ.1 41) (σ.1 42) := h.1.1
  clear h
  grind [tyF]
theorem lt_pr {c x : Int32} (h1 : 1 ≤ x) (h2 : x ≤ 12) (h : c < x - 1) : c < x ∧ c ≠ x - 1 := by grind
theorem le_pr {c x y : Int32} (h1 : 1 ≤ x) (h2 : y ≤ 12) (h3 : x ≤ y) (h : c < x - 1) : c < y - 1 := by grind
theorem le_m1 {x y : Int32} (h1 : 1 ≤ x) (h3 : x ≤ y) : x - 1 ≤ y - 1 := by
  have e1 := i_sub (Int32.le_trans (by decide) h1) (by decide : (0 : Int32) ≤ 1)
  have e2 := i_sub (Int32.le_trans (by decide) (Int32.le_trans h1 h3)) (by decide : (0 : Int32) ≤ 1)
  have h := Int32.le_iff_toInt_le.mp h3
  refine Int32.le_iff_toInt_le.mpr ?_
  rw [e1, e2]; omega
theorem le_pr2 {x y : Int32} (h1 : 1 ≤ x) (h2 : y ≤ 12) (h3 : x ≤ y) (hz : ¬ x - 1 = 0) : x - 1 - 1 < y - 1 ∧ x - 1 ≤ y := by
  have d := c_dn h1 (Int32.le_trans h3 h2) hz
  exact ⟨Int32.lt_of_lt_of_le d.2.2.2.2.1 (le_m1 h1 h3), Int32.le_trans (Int32.le_of_lt d.2.2.2.2.2.1) h3⟩
theorem csF_set {τ : rS} {x : Int32} (h1 : 1 ≤ τ.1 58) (h12 : τ.1 58 ≤ 12) (hL : csL τ (τ.1 58 - 1)) (x0 : 0 ≤ x) (x1 : x < τ.1 19) : csF (riU τ 59 (τ.1 58 - 1).toNatClampNeg x) := by
  refine ⟨⟨h1, h12⟩, fun c c0 c1 => ?_, ?_, ?_⟩
  · have ne : c.toNatClampNeg ≠ (τ.1 58 - 1).toNatClampNeg := cn_ne c0 c1
    have e : rd (riU τ 59 (τ.1 58 - 1).toNatClampNeg x) 59 c = rd τ 59 c := by rw [rd, ri4, if_neg ne]
    rw [e]
    obtain ⟨a, b, d⟩ := hL c c0 c1
    exact ⟨a, b, by rw [rd, ri3 (by decide)]; exact d⟩
  · rw [rd, ri1, ri4, if_pos rfl]; exact x0
  · rw [rd, ri1, ri4, if_pos rfl, ri1]; exact x1
theorem csL_o {σ τ : rS} {n m : Int32} (h : csL σ n) (h59 : τ.2.2.1 59 = σ.2.2.1 59) (h30 : τ.2.2.1 30 = σ.2.2.1 30) (h19 : τ.1 19 = σ.1 19) (hm : ∀ c, c < m → c < n) : csL τ m := by
  intro c c0 c1
  simp only [rd]
  rw [h59, h30, h19]
  exact h c c0 (hm c c1)
theorem csF_o {σ τ : rS} (h : csF σ) (h59 : τ.2.2.1 59 = σ.2.2.1 59) (h30 : τ.2.2.1 30 = σ.2.2.1 30) (h19 : τ.1 19 = σ.1 19) (h58 : τ.1 58 = σ.1 58) : csF τ := by
  obtain ⟨h1, h2, h3, h4⟩ := h
  unfold csF
  simp only [rd]
  rw [h58, h59, h19]
  exact ⟨h1, csL_o h2 h59 h30 h19 (fun _ z => z), h3, h4⟩
theorem frG_S {F R : List Nat} {σ τ : rS} (h : (∀ k,  τ.1 k = σ.1 k) ∧ (∀ k,  τ.2.1 k = σ.2.1 k) ∧ (∀ k, k ≠ 57 → k ≠ 60 → τ.2.2.1 k = σ.2.2.1 k) ∧ (∀ k j, k ≠ 57 → k ≠ 60 → τ.2.2.1 k j = σ.2.2.1 k j) ∧ (∀ k j,  τ.2.2.2 k j = σ.2.2.2 k j)) (h1 : 57 ∈ R) (h2 : 60 ∈ R) : frG F R σ τ := ⟨fun k _ => h.1 k, h.2.1, fun k z => h.2.2.1 k (fun e => z (by rw [e]; exact h1)) (fun e => z (by rw [e]; exact h2)), h.2.2.2.2⟩
theorem vV_st {x c : Int32} (h : validV x) (h1 : 1 ≤ c) (h2 : c ≤ 12) : (400 ≤ x ∧ x < 434) ∨ (100 ≤ x ∧ x < 108 ∧ 1 ≤ c ∧ c ≤ 12) ∨ (0 ≤ x ∧ x < 34) := by grind [validV]
theorem up12 {x : Int32} (h1 : 1 ≤ x) (h2 : x ≤ 12) : x < x + 1 ∧ 0 ≤ x := by grind
theorem dn_up {x : Int32} : x = x - 1 + 1 := by grind
theorem up34 {x : Int32} (h0 : 0 ≤ x) (h : ¬ 34 ≤ x) : 0 ≤ 34 - (x + 1) ∧ 34 - (x + 1) < 34 - x ∧ 0 ≤ x + 1 ∧ x + 1 ≤ 34 ∧ x < 34 := by grind
theorem up8 {x : Int32} (h0 : 0 ≤ x) (h : ¬ 8 ≤ x) : 0 ≤ 8 - (x + 1) ∧ 8 - (x + 1) < 8 - x ∧ 0 ≤ x + 1 ∧ x + 1 ≤ 8 ∧ x < 8 ∧ x < 96 := by grind
theorem va_b {σ : rS} {B T x : Int32} (h : rI σ B T) (hx : ¬ σ.1 15 ≤ x) : x < 10 := by
  have t : tyF (σ.1 15) (σ.1 16) (σ.1 17) (σ.1 18) (σ.1 19) (σ.1 40) (σ.1 41) (σ.1 42) := h.1.1
  clear h
  grind [tyF]
theorem fn_10 {σ : rS} {B T x : Int32} (h : rI σ B T) (hx : x < σ.1 18) : x < 10 := by
  have t : tyF (σ.1 15) (σ.1 16) (σ.1 17) (σ.1 18) (σ.1 19) (σ.1 40) (σ.1 41) (σ.1 42) := h.1.1
  clear h
  grind [tyF]
theorem fo_b {σ : rS} {B T f : Int32} (h : rI σ B T) (f0 : 0 ≤ f) (f1 : f < σ.1 18) (hn : rd σ 29 f ≠ -1) : 0 ≤ rd σ 29 f ∧ rd σ 29 f < σ.1 19 := ⟨m1_0 (h.1.2.2.2.1.1 _).1 hn, h.2.2.2.2.2.2.2.2.2.2.1 f f0 f1⟩
theorem fl_b {σ : rS} {B T s : Int32} (h : rI σ B T) (s0 : 0 ≤ s) (s1 : s < σ.1 19) (hn : rd σ 37 s ≠ -1) : 0 ≤ rd σ 37 s ∧ rd σ 37 s < σ.1 19 := ⟨m1_0 (h.1.2.2.2.2 _).1 hn, h.2.2.2.2.2.2.2.2.2.2.2 s s0 s1⟩
theorem leave_c {C : rCx} (hC : cOK C) (B T : Int32) {σ : rS} {a1 : Int32} {Q : Int32 → rS → Prop} (hp : rI σ B T ∧ 1 ≤ σ.1 58 ∧ σ.1 58 ≤ 12 ∧ csL σ (σ.1 58 - 1)) (h : ∀ (v : Int32) (σ' : rS), (frG [58, 61] [57, 59, 60] σ σ' ∧ ((v = 0 ∧ csF σ') ∨ v = 1)) → Q v σ') : cI C 1 m_leave [.ref (co C), .int a1] σ Q := by
  refine m_leave_run hC ?_
  unfold w_leave_0
  obtain ⟨hI, h1, h12, hL⟩ := hp
  unfold w_leave_2
  refine ⟨fun n l2 τ => n = (τ.1 58).toNatClampNeg ∧ (frG [58] [57, 60] σ τ ∧ 1 ≤ τ.1 58 ∧ τ.1 58 ≤ σ.1 58), ⟨_, rfl, ?_⟩, ?_⟩
  · clear h; exact ⟨frG_refl, h1, Int32.le_refl _⟩  -- j1
  rintro n2 x2_2 σ2 ⟨hn2, i2⟩
  have hj69 : ∀ (l3 : Int32) (τ : rS), (frG [58] [57, 60] σ τ ∧ σ2.1 58 = τ.1 58 + 1 ∧ 1 ≤ τ.1 58 ∧ τ.1 58 ≤ σ.1 58 ∧ 0 ≤ l3 ∧ l3 < σ.1 19) → w_leave_69 C Q (fun l2' τ => ∃ k < n2, (fun n l2 τ => n = (τ.1 58).toNatClampNeg ∧ (frG [58] [57, 60] σ τ ∧ 1 ≤ τ.1 58 ∧ τ.1 58 ≤ σ.1 58)) k l2' τ) l3 τ := by
    rintro y69_3 τ69 j69
    unfold w_leave_69
    obtain ⟨jf, je, k1, k2, k4, k5⟩ := j69
    have k12 := Int32.le_trans k2 h12
    refine ⟨ib_150.mpr ?_, ?_⟩
    · clear h; exact ⟨k4, s150 hI k5⟩  -- b2
    refine ⟨fun c1 => ?_, fun c1 => ?_⟩
    · skip
      refine ⟨_, cn_lt2 hn2 ?_ ?_, rfl, ?_⟩
      · clear h; exact (up12 k1 k12).2  -- d3
      · clear h; rw [je]; exact (up12 k1 k12).1  -- d4
      · clear h; exact ⟨jf, k1, k2⟩  -- i5
    · skip
      refine ⟨ib_150.mpr ?_, ?_⟩
      · clear h; exact ⟨k4, s150 hI k5⟩  -- b6
      refine ⟨ib_12.mpr ?_, ?_⟩
      · clear h; exact c_m1 k1 k12  -- b7
      intro σ_2 hσ_2
      refine h _ _ ?_
      · clear h; have fl := fl_b hI k4 k5 (by rw [rd, ← jf.2.2.1 37 (by decide)]; exact c1)
        rw [rd, ← jf.2.2.1 37 (by decide), ← jf.1 19 (by decide)] at fl
        refine ⟨frG_tr (frG_mono jf (by decide) (by decide)) (by rw [hσ_2]; exact frG_1 (by decide)), Or.inl ⟨rfl, ?_⟩⟩
        rw [hσ_2]
        exact csF_set k1 k12 (csL_o hL (jf.2.2.1 59 (by decide)) (jf.2.2.1 30 (by decide)) (jf.1 19 (by decide)) (fun c hc => le_pr k1 h12 k2 hc)) fl.1 fl.2
  intro σ_3 hσ_3
  refine ⟨fun c4 => ?_, fun c4 => ?_⟩
  · skip
    refine ⟨ib_12.mpr ?_, ?_⟩
    · clear h; have e58 : σ_3.1 58 = σ2.1 58 - 1 := by rw [hσ_3, si1, if_pos rfl]
      have cd := c_dn i2.2.1 (Int32.le_trans i2.2.2 h12) (by rw [← e58]; exact c4)
      rw [e58]; exact ⟨cd.2.2.1, cd.2.2.2.1⟩
    intro x5 hx5
    have e58 : σ_3.1 58 = σ2.1 58 - 1 := by rw [hσ_3, si1, if_pos rfl]
    have cd := c_dn i2.2.1 (Int32.le_trans i2.2.2 h12) (by rw [← e58]; exact c4)
    have f3 : frG [58] [57, 60] σ σ_3 := frG_tr i2.1 (by rw [hσ_3]; exact frG_0 (by decide))
    have ex : x5 = rd σ 59 (σ_3.1 58 - 1) := by rw [hx5, f3.2.2.1 59 (by decide)]
    have lp := le_pr2 i2.2.1 h12 i2.2.2 (by rw [← e58]; exact c4)
    obtain ⟨g1, g2, g3⟩ := hL (σ_3.1 58 - 1) (by rw [e58]; exact cd.2.2.1) (by rw [e58]; exact lp.1)
    rw [← ex] at g1 g2 g3
    refine ⟨ib_150.mpr ?_, ?_⟩
    · clear h; exact ⟨g1, s150 hI g2⟩  -- b10
    refine ⟨ib_150.mpr ?_, ?_⟩
    · clear h; exact ⟨g1, s150 hI g2⟩  -- b11
    refine ⟨fun c6 => ?_, fun c6 => ?_⟩
    · skip
      refine hj69 _ _ ?_
      · clear h; exact ⟨f3, by rw [e58]; exact dn_up, by rw [e58]; exact cd.1, by rw [e58]; exact lp.2, g1, g2⟩  -- k12
    · skip
      refine ⟨ib_150.mpr ?_, ?_⟩
      · clear h; exact ⟨g1, s150 hI g2⟩  -- b13
      have k := st_kind5 hI g1 g2 g3 (by rw [rd, rd, ← f3.2.2.1 31 (by decide), ← f3.2.2.1 32 (by decide)]; exact c6)
      refine ⟨ib_131074.mpr ?_, ?_⟩
      · clear h; rw [f3.2.2.1 31 (by decide)]; exact ⟨k.1, k.2.1⟩  -- b14
      refine store_c hC  ?_ (fun σ_7 q8 => ?_)
      · clear h; rw [f3.2.2.1 31 (by decide), f3.2.2.1 39 (by decide), e58]
        exact vV_st k.2.2 cd.1 cd.2.1
      refine hj69 _ _ ?_
      · clear h; exact ⟨frG_tr f3 (frG_S q8 (by decide) (by decide)), by rw [q8.1 58, e58]; exact dn_up, by rw [q8.1 58, e58]; exact cd.1, by rw [q8.1 58, e58]; exact lp.2, g1, g2⟩  -- k16
  · skip
    intro σ_9 hσ_9
    refine h _ _ ?_
    · clear h; exact ⟨frG_tr (frG_mono i2.1 (by decide) (by decide)) (frG_tr (by rw [hσ_3]; exact frG_0 (by decide) : frG [58, 61] [57, 59, 60] σ2 σ_3) (by rw [hσ_9]; exact frG_0 (by decide))), Or.inr rfl⟩  -- q17

theorem moveTo_c {C : rCx} (hC : cOK C) (B T : Int32) {σ : rS} {a1 : Int32} {Q : Int32 → rS → Prop} (hp : rI σ B T ∧ 1 ≤ σ.1 58 ∧ σ.1 58 ≤ 12 ∧ csL σ (σ.1 58 - 1) ∧ (a1 ≠ -1 → 0 ≤ a1 ∧ a1 < σ.1 19)) (h : ∀ (v : Int32) (σ' : rS), (frG [58, 61] [57, 59, 60] σ σ' ∧ ((v = 0 ∧ csF σ') ∨ v = 1)) → Q v σ') : cI C 2 m_moveTo [.ref (co C), .int a1] σ Q := by
  refine m_moveTo_run hC ?_
  unfold w_moveTo_0
  obtain ⟨hI, h1, h12, hL, ha⟩ := hp
  refine ⟨fun c1 => ?_, fun c1 => ?_⟩
  · skip
    refine ⟨ib_12.mpr ?_, ?_⟩
    · clear h; exact c_m1 h1 h12  -- b1
    intro σ_2 hσ_2
    refine h _ _ ?_
    · clear h; exact ⟨by rw [hσ_2]; exact frG_1 (by decide), Or.inl ⟨rfl, by rw [hσ_2]; exact csF_set h1 h12 hL (ha c1).1 (ha c1).2⟩⟩  -- q2
  · skip
    refine leave_c hC B T ?_ (fun r3 σ_4 q5 => ?_)
    · clear h; exact ⟨hI, h1, h12, hL⟩  -- p3
    refine h _ _ ?_
    · clear h; exact q5  -- q4

theorem begin_c {C : rCx} (hC : cOK C) (B T : Int32) {σ : rS}  {Q : Int32 → rS → Prop} (hp : rI σ B T) (h : ∀ (v : Int32) (σ' : rS), (frG [58, 61] [57, 59, 60] σ σ' ∧ ((v = 0 ∧ csF σ') ∨ v = 1)) → Q v σ') : cI C 3 m_begin [.ref (co C)] σ Q := by
  refine m_begin_run hC ?_
  unfold w_begin_0
  unfold w_begin_2
  refine ⟨fun n l1 τ => n = (34 - l1).toNatClampNeg ∧ (frG [] [57] σ τ ∧ 0 ≤ l1 ∧ l1 ≤ 34), ⟨_, rfl, ?_⟩, ?_⟩
  · clear h; exact ⟨frG_refl, by decide, by decide⟩  -- j1
  rintro n2 x2_1 σ2 ⟨hn2, i2⟩
  have hj31 : ∀ (l1 : Int32) (s1 : Int32) (s2 : Int32) (τ : rS), (τ = σ2 ∧ l1 = x2_1 ∧ s1 = x2_1 ∧ ¬ 34 ≤ x2_1) → w_begin_31 C Q (fun l1' τ => ∃ k < n2, (fun n l1 τ => n = (34 - l1).toNatClampNeg ∧ (frG [] [57] σ τ ∧ 0 ≤ l1 ∧ l1 ≤ 34)) k l1' τ) l1 s1 s2 τ := by
    rintro y31_1 y31_s1 y31_s2 τ31 j31
    unfold w_begin_31
    obtain ⟨je, j1, j2, j3⟩ := j31
    have u := up34 i2.2.1 j3
    refine ⟨ib_34.mpr ?_, ?_⟩
    · clear h; rw [j2]; exact ⟨i2.2.1, u.2.2.2.2⟩  -- b2
    intro σ_1 hσ_1
    intro x2 hx2
    refine ⟨_, cn_lt2 hn2 ?_ ?_, rfl, ?_⟩
    · clear h; rw [hx2, j1]; exact u.1  -- d3
    · clear h; rw [hx2, j1]; exact u.2.1  -- d4
    · clear h; rw [hx2, j1]; exact ⟨frG_tr i2.1 (by rw [hσ_1, je]; exact frG_1 (by decide)), u.2.2.1, u.2.2.2.1⟩  -- i5
  refine ⟨fun c3 => ?_, fun c3 => ?_⟩
  · skip
    intro σ_4 hσ_4
    unfold w_begin_45
    refine ⟨fun n l1 τ => n = (8 - l1).toNatClampNeg ∧ (frG [58] [57, 60] σ τ ∧ τ.1 58 = 1 ∧ 0 ≤ l1 ∧ l1 ≤ 8), ⟨_, rfl, ?_⟩, ?_⟩
    · clear h; exact ⟨frG_tr (frG_mono i2.1 (by decide) (by decide)) (by rw [hσ_4]; exact frG_0 (by decide)), by rw [hσ_4, si1, if_pos rfl], by decide, by decide⟩  -- j6
    rintro n45 x45_1 σ45 ⟨hn45, i45⟩
    have m40 : σ45.1 40 = σ.1 40 := i45.1.1 40 (by decide)
    have pk := hp.2.2.2.2.2.2.2
    refine ⟨fun c5 => ?_, fun c5 => ?_⟩
    · skip
      refine ⟨ib_10.mpr ?_, ?_⟩
      · clear h; rw [m40]; exact ⟨pk.1, fn_10 hp pk.2.1⟩  -- b7
      refine moveTo_c hC B T ?_ (fun r6 σ_7 q8 => ?_)
      · clear h; refine ⟨rI_fr hp (frG_mono i45.1 (by decide) (by decide)), by rw [i45.2.1]; decide, by rw [i45.2.1]; decide, fun c c0 c1 => ?_, fun z => ?_⟩
        · rw [i45.2.1, show (1 : Int32) - 1 = 0 from by decide] at c1
          exact absurd c1 (Int32.not_lt.mpr c0)
        · rw [m40, i45.1.2.2.1 29 (by decide)] at z ⊢
          rw [i45.1.1 19 (by decide)]
          exact fo_b hp pk.1 pk.2.1 z
      refine h _ _ ?_
      · clear h; exact ⟨frG_tr (frG_mono i45.1 (by decide) (by decide)) q8.1, q8.2⟩  -- q9
    · skip
      have u := up8 i45.2.2.1 c5
      refine ⟨ib_96.mpr ?_, ?_⟩
      · clear h; exact ⟨i45.2.2.1, u.2.2.2.2.2⟩  -- b10
      intro σ_9 hσ_9
      intro x10 hx10
      refine ⟨_, cn_lt2 hn45 ?_ ?_, rfl, ?_⟩
      · clear h; rw [hx10]; exact u.1  -- d11
      · clear h; rw [hx10]; exact u.2.1  -- d12
      · clear h; rw [hx10]; exact ⟨frG_tr i45.1 (by rw [hσ_9]; exact frG_1 (by decide)), by rw [hσ_9, ri1]; exact i45.2.1, u.2.2.1, u.2.2.2.1⟩  -- i13
  · skip
    refine ⟨fun c11 => ?_, fun c11 => ?_⟩
    · skip
      refine hj31 _ _ _ _ ?_
      · clear h; exact ⟨rfl, rfl, rfl, c3⟩  -- k14
    · skip
      refine ⟨ib_10.mpr ?_, ?_⟩
      · clear h; exact ⟨i2.2.1, va_b hp (by rw [← i2.1.1 15 (by decide)]; exact c11)⟩  -- b15
      refine hj31 _ _ _ _ ?_
      · clear h; exact ⟨rfl, rfl, rfl, c3⟩  -- k16

end
