set_option maxHeartbeats 1600000
/-! the reference: sums of visits, quotients of sums -/
theorem hS_ne {σ : rS} {S : Rat} (h : hS σ S) (hn : S ≠ 0) : 0 < nV σ 4 := by
  obtain ⟨q, hq, w⟩ := h
  refine Nat.pos_of_ne_zero (fun z => hn ?_)
  have q0 : q = 0 := by
    have e := hq.2.2.1
    rw [z] at e
    exact Rat.num_eq_zero.mp e.symm
  rcases w with y | y
  · rw [y.2, q0]
  · rw [y.2, q0, Rat.neg_zero]
theorem vq_b {σ : rS} {k : Nat} {b : Int} (hv : vOK σ k) (b0 : 0 ≤ b) (b1 : b ≤ 2147483648) : fV σ k * mkRat b 1 ≤ (wB : Rat) ∧ (fV σ k * mkRat b 1).den ∣ gV σ k := by
  have f := fV_b hv
  constructor
  · unfold wB
    rw [Rat.natCast_mul]
    refine pr_2 f.1 (mk_nn (by decide) b0) f.2.1 (mk_leN (by decide) ?_)
    rw [show ((65536 ^ 2 : Nat) : Int) = 4294967296 from rfl]
    omega
  · have d : (fV σ k * mkRat b 1).den ∣ slV σ 102 (34 * k + 17) * 1 := Nat.dvd_trans den_mul (Nat.mul_dvd_mul f.2.2 (den_mk (by decide)))
    rw [Nat.mul_one] at d
    exact Nat.dvd_trans d (Nat.dvd_mul_right ..)
theorem kn2 : (15 : Int32).toNatClampNeg = 15 ∧ (16 : Int32).toNatClampNeg = 16 ∧ (17 : Int32).toNatClampNeg = 17 ∧ (18 : Int32).toNatClampNeg = 18 ∧ (19 : Int32).toNatClampNeg = 19 ∧ (20 : Int32).toNatClampNeg = 20 ∧ (21 : Int32).toNatClampNeg = 21 ∧ (22 : Int32).toNatClampNeg = 22 ∧ (23 : Int32).toNatClampNeg = 23 ∧ (24 : Int32).toNatClampNeg = 24 ∧ (25 : Int32).toNatClampNeg = 25 ∧ (26 : Int32).toNatClampNeg = 26 ∧ (27 : Int32).toNatClampNeg = 27 ∧ (28 : Int32).toNatClampNeg = 28 ∧ (29 : Int32).toNatClampNeg = 29 := ⟨rfl, rfl, rfl, rfl, rfl, rfl, rfl, rfl, rfl, rfl, rfl, rfl, rfl, rfl, rfl⟩
theorem sumVisits_c {C : rCx} (hC : cOK C) (s : Nat) {σ : rS} {a1 : Int32} {Q : rS → Prop} (hp : pOK σ ∧ s = (σ.1 70).toNatClampNeg ∧ (∀ k, k < s → vOK σ k)) (h : ∀ (σ' : rS), (frS [0, 1, 2, 3, 4, 5, 6, 7, 8, 9, 10] σ σ' ∧ ∃ S, siS σ σ' s 1000 S) → Q σ') : cV C 5 m_sumVisits [.ref (co C), .int a1] σ Q := by
  refine m_sumVisits_run hC ?_
  unfold w_sumVisits_0
  obtain ⟨hO, hs, hv⟩ := hp
  have n1000 := hO.1.1.2
  refine clearSum_c hC  (fun σ_1 q2 => ?_)
  unfold w_sumVisits_6
  refine ⟨fun n l1 l2 τ => n = (σ.1 70 - l2).toNatClampNeg ∧ (l1 = a1 ∧ frS [0, 1, 2, 3, 4, 5, 6, 7, 8, 9, 10] σ τ ∧ 0 ≤ l2 ∧ l2 ≤ σ.1 70 ∧ ∃ S, siS σ τ s l2.toNatClampNeg S), ⟨_, rfl, ?_⟩, ?_⟩
  · clear h; exact ⟨rfl, frS_mono q2.1 (sub_of rfl), by decide, hO.1.1.1, 0, siS_0 q2.2⟩  -- j1
  rintro n6 x6_1 x6_2 σ6 ⟨hn6, i6⟩
  have hj62 : ∀ (l1 : Int32) (l2 : Int32) (l3 : Int64) (s1 : Int64) (τ : rS), (l1 = a1 ∧ l2 = x6_2 ∧ ¬ σ.1 70 ≤ x6_2 ∧ l3.toInt.natAbs ≤ 2147483648 ∧ s1.toInt = (l3.toInt.natAbs : Int) ∧ frN [6, 7] σ6 τ ∧ numO τ 6 ∧ numO τ 7 ∧ fQ τ 6 7 = fV σ x6_2.toNatClampNeg ∧ 0 < nV τ 7 ∧ nL τ 6 ≤ 16 ∧ nL τ 7 ≤ 16) → w_sumVisits_62 C Q (fun l1' l2' τ => ∃ k < n6, (fun n l1 l2 τ => n = (σ.1 70 - l2).toNatClampNeg ∧ (l1 = a1 ∧ frS [0, 1, 2, 3, 4, 5, 6, 7, 8, 9, 10] σ τ ∧ 0 ≤ l2 ∧ l2 ≤ σ.1 70 ∧ ∃ S, siS σ τ s l2.toNatClampNeg S)) k l1' l2' τ) l1 l2 l3 s1 τ := by
    rintro y62_1 y62_2 y62_3 y62_s1 τ62 j62
    unfold w_sumVisits_62
    obtain ⟨e1, F, a0, a1', S, J⟩ := i6
    obtain ⟨y1, y2, y3, y4, y5, Y, o6, o7, e67, p7, l6, l7⟩ := j62
    have u := uk a0 y3 n1000
    have as := cn_succ a0 (Int32.lt_trans u.2.2.2.2.2 (by decide))
    have ks : x6_2.toNatClampNeg < s := by rw [hs]; exact cn_lt a0 u.2.2.2.2.1
    have s1000 : s ≤ 1000 := by rw [hs]; exact cn_le (y := 1000) rfl n1000
    have vq := vq_b (hv _ ks) (b := (y62_3.toInt.natAbs : Int)) (by omega) (by omega)
    have gb := gV_b hO hs hv ks
    refine scale_c hC  ?_ (fun σ_3 q4 => ?_)
    · clear h; exact ⟨o6, o7, p7, l64_0 y5 (by omega), by decide, by omega, by omega⟩  -- p2
    rw [e67, y5, show (1 : Int64).toInt.toNat = 1 from rfl] at q4
    have J3 := siS_N q4.1 (by decide) (by decide) (siS_N Y (by decide) (by decide) J)
    have F3 : frS [0, 1, 2, 3, 4, 5, 6, 7, 8, 9, 10] σ σ_3 := frS_tr F (frS_tr (frS_mono (frS_of Y) (sub_of rfl)) (frS_mono (frS_of q4.1) (sub_of rfl)))
    refine ⟨fun c5 => ?_, fun c5 => ?_⟩
    · skip
      refine add_c hC  ?_ (fun σ_6 q7 => ?_)
      · clear h; exact (siS_add (x := 1) (Or.inl rfl) hO hs hv (by omega) J3 q4.2 vq.1 vq.2 (prS_dvd ks) gb.1 gb.2).1  -- p3
      intro x8 hx8
      refine ⟨_, cn_lt2 hn6 ?_ ?_, rfl, ?_⟩
      · clear h; rw [hx8, y2]; exact u.1  -- d4
      · clear h; rw [hx8, y2]; exact u.2.1  -- d5
      · clear h; rw [hx8, y2, as]
        exact ⟨y1, frS_tr F3 (frS_mono q7.1 (sub_of rfl)), u.2.2.1, u.2.2.2.1, _, (siS_add (x := 1) (Or.inl rfl) hO hs hv (by omega) J3 q4.2 vq.1 vq.2 (prS_dvd ks) gb.1 gb.2).2 _ q7.2⟩
    · skip
      refine add_c hC  ?_ (fun σ_9 q10 => ?_)
      · clear h; exact (siS_add (x := -1) (Or.inr rfl) hO hs hv (by omega) J3 q4.2 vq.1 vq.2 (prS_dvd ks) gb.1 gb.2).1  -- p7
      intro x11 hx11
      refine ⟨_, cn_lt2 hn6 ?_ ?_, rfl, ?_⟩
      · clear h; rw [hx11, y2]; exact u.1  -- d8
      · clear h; rw [hx11, y2]; exact u.2.1  -- d9
      · clear h; rw [hx11, y2, as]
        exact ⟨y1, frS_tr F3 (frS_mono q10.1 (sub_of rfl)), u.2.2.1, u.2.2.2.1, _, (siS_add (x := -1) (Or.inr rfl) hO hs hv (by omega) J3 q4.2 vq.1 vq.2 (prS_dvd ks) gb.1 gb.2).2 _ q10.2⟩
  have hj29 : ∀ (l1 : Int32) (l2 : Int32) (s0 : Int64) (τ : rS), (l1 = a1 ∧ l2 = x6_2 ∧ ¬ σ.1 70 ≤ x6_2 ∧ s0.toInt.natAbs ≤ 2147483648 ∧ τ = σ6) → w_sumVisits_29 C Q (fun l1' l2' τ => ∃ k < n6, (fun n l1 l2 τ => n = (σ.1 70 - l2).toNatClampNeg ∧ (l1 = a1 ∧ frS [0, 1, 2, 3, 4, 5, 6, 7, 8, 9, 10] σ τ ∧ 0 ≤ l2 ∧ l2 ≤ σ.1 70 ∧ ∃ S, siS σ τ s l2.toNatClampNeg S)) k l1' l2' τ) l1 l2 s0 τ := by
    rintro y29_1 y29_2 y29_s0 τ29 j29
    unfold w_sumVisits_29
    obtain ⟨e1, F, a0, a1', S, J⟩ := i6
    obtain ⟨y1, y2, y3, y4, y5⟩ := j29
    have u := uk a0 y3 n1000
    have as := cn_succ a0 (Int32.lt_trans u.2.2.2.2.2 (by decide))
    have ks : x6_2.toNatClampNeg < s := by rw [hs]; exact cn_lt a0 u.2.2.2.2.1
    rw [y5, y2]
    refine isVisited_c hC  ?_ (fun r12 q14 => ?_)
    · clear h; exact ⟨a0, u.2.2.2.2.2⟩  -- p11
    refine ⟨fun c15 => ?_, fun c15 => ?_⟩
    · skip
      intro x16 hx16
      refine ⟨_, cn_lt2 hn6 ?_ ?_, rfl, ?_⟩
      · clear h; rw [hx16]; exact u.1  -- d12
      · clear h; rw [hx16]; exact u.2.1  -- d13
      · clear h; rw [hx16, as]; exact ⟨y1, F, u.2.2.1, u.2.2.2.1, S, siS_mono J (by omega)⟩  -- i14
    · skip
      refine ⟨fun c17 => ?_, fun c17 => ?_⟩
      · skip
        intro x18 hx18
        refine ⟨_, cn_lt2 hn6 ?_ ?_, rfl, ?_⟩
        · clear h; rw [hx18]; exact u.1  -- d15
        · clear h; rw [hx18]; exact u.2.1  -- d16
        · clear h; rw [hx18, as]; exact ⟨y1, F, u.2.2.1, u.2.2.2.1, S, siS_mono J (by omega)⟩  -- i17
      · skip
        refine loadVisits_c hC  ?_ (fun σ_19 q20 => ?_)
        · clear h; have V := vOK_f (F.2.2.1 102 (by decide) (by decide)) (hv _ ks)
          exact ⟨a0, u.2.2.2.2.2, V.1, V.2.1⟩
        have V := hv _ ks
        rw [(sl_f (m := 16) (F.2.2.1 102 (by decide) (by decide))).1, (sl_f (m := 16) (F.2.2.1 102 (by decide) (by decide))).1] at q20
        have e67 : fQ σ_19 6 7 = fV σ x6_2.toNatClampNeg := by unfold fQ fV; rw [q20.2.2.2.1, q20.2.2.2.2.1]
        have p7 : 0 < nV σ_19 7 := by rw [q20.2.2.2.2.1]; exact V.2.2
        refine ⟨fun c21 => ?_, fun c21 => ?_⟩
        · skip
          refine hj62 _ _ _ _ _ ?_
          · clear h; exact ⟨y1, rfl, y3, y4, (l64_pos (lg_ge.mp c21)).1, q20.1, q20.2.1, q20.2.2.1, e67, p7, q20.2.2.2.2.2.1, q20.2.2.2.2.2.2⟩  -- k19
        · skip
          refine hj62 _ _ _ _ _ ?_
          · clear h; exact ⟨y1, rfl, y3, y4, (l64_neg (fun z => c21 (lg_ge.mpr z)) y4).1, q20.1, q20.2.1, q20.2.2.1, e67, p7, q20.2.2.2.2.2.1, q20.2.2.2.2.2.2⟩  -- k20
  obtain ⟨e1, F, a0, a1', S, J⟩ := i6
  have e70 := F.1 70 (by decide)
  rw [e70]
  refine ⟨fun c22 => ?_, fun c22 => ?_⟩
  · skip
    refine h _ ?_
    · clear h; have s1000 : s ≤ 1000 := by rw [hs]; exact cn_le (y := 1000) rfl n1000
      have l := cn_l a1' a0
      exact ⟨F, S, siS_mono J (by omega)⟩
  · skip
    refine ⟨fun c23 => ?_, fun c23 => ?_⟩
    · skip
      refine hj29 _ _ _ _ ?_
      · clear h; exact ⟨e1, rfl, c22, one_64, rfl⟩  -- k22
    · skip
      refine ⟨ib_1000.mpr ?_, ?_⟩
      · clear h; have u := uk a0 c22 n1000
        exact ⟨a0, u.2.2.2.2.2⟩
      refine hj29 _ _ _ _ ?_
      · clear h; exact ⟨e1, rfl, c22, i32_abs, rfl⟩  -- k24

theorem sumOver_c {C : rCx} (hC : cOK C) (s : Nat) {σ : rS} {a1 : Int32} {a2 : Int32} {a3 : Int32} {a4 : Int32} {Q : rS → Prop} (hp : pOK σ ∧ s = (σ.1 70).toNatClampNeg ∧ (∀ k, k < s → vOK σ k) ∧ (a3 ≠ 0 → a1 = 7) ∧ swQ σ a4 0 0 ≠ 0) (h : ∀ (σ' : rS), (frS [0, 1, 2, 3, 4, 5, 6, 7, 8, 9, 10, 19, 20] σ σ' ∧ numO σ' 4 ∧ numO σ' 5 ∧ (σ'.1 92 = 1 ∨ σ'.1 92 = -1)) → Q σ') : cV C 7 m_sumOver [.ref (co C), .int a1, .int a2, .int a3, .int a4] σ Q := by
  refine m_sumOver_run hC ?_
  unfold w_sumOver_0
  obtain ⟨hO, hs, hv, h37, hne⟩ := hp
  refine sumWeights_c hC s ?_ (fun σ_1 q2 => ?_)
  · clear h; exact ⟨hO, hs, hv, h37⟩  -- p1
  intro x3 hx3
  have s1000 : s ≤ 1000 := by rw [hs]; exact cn_le (y := 1000) rfl hO.1.1.2
  have L1 := siS_L hO hs hv (by decide) q2.2
  refine copy_v hC  ?_ (fun σ_4 q5 => ?_)
  · clear h; simp only [kn, kn2]; exact ⟨by decide, by decide, by decide, by decide, by decide, L1.1⟩  -- p2
  simp only [kn, kn2] at q5
  have n5 := nV_fr q5.1 (k := 5) (by decide) L1.2.1
  refine copy_v hC  ?_ (fun σ_6 q7 => ?_)
  · clear h; simp only [kn, kn2]; exact ⟨by decide, by decide, by decide, by decide, by decide, n5.1⟩  -- p3
  simp only [kn, kn2] at q7
  have m19 := nV_fr q7.1 (k := 19) (by decide) q5.2.1
  have F6 : frS [0, 1, 2, 3, 4, 5, 6, 7, 8, 9, 10, 19, 20] σ σ_6 := frS_tr (frS_mono q2.1 (sub_of rfl)) (frS_tr (frS_mono (frS_of q5.1) (sub_of rfl)) (frS_mono (frS_of q7.1) (sub_of rfl)))
  refine sumWeights_c hC s ?_ (fun σ_8 q9 => ?_)
  · clear h; exact ⟨pOK_S hO F6, by rw [F6.1 70 (by decide)]; exact hs, fun k hk => vOK_f (F6.2.2.1 102 (by decide) (by decide)) (hv k hk), fun z => absurd rfl z⟩  -- p4
  rw [swQ_S F6] at q9
  have L8 := siS_L hO hs hv (by decide) (siS_gr F6 q9.2)
  have z4 := hS_ne q9.2.1 hne
  have v19 := nV_frS q9.1 (k := 19) (by decide) m19.1
  have v20 := nV_frS q9.1 (k := 20) (by decide) q7.2.1
  have l19 : nL σ_8 19 ≤ 18 * s + 1 + 20 := by have := L1.2.2.2.2.1; have := v19.2.2; have := m19.2.2; have := q5.2.2.2; omega
  have l20 : nL σ_8 20 ≤ 18 * s + 1 := by have := L1.2.2.2.1; have := v20.2.2; have := q7.2.2.2; have := n5.2.2; omega
  have p20' : 0 < nV σ_8 20 := by rw [v20.2.1, q7.2.2.1, n5.2.1]; exact L1.2.2.1
  refine times_c hC  ?_ (fun σ_10 q11 => ?_)
  · clear h; simp only [kn, kn2]
    exact ⟨by decide, by decide, by decide, by decide, by decide, by decide, by decide, by decide, v19.1, L8.2.1, by have := L8.2.2.2.1; omega⟩
  simp only [kn, kn2] at q11
  have w20 := nV_fr q11.1 (k := 20) (by decide) v20.1
  have w4 := nV_fr q11.1 (k := 4) (by decide) L8.1
  refine times_c hC  ?_ (fun σ_12 q13 => ?_)
  · clear h; simp only [kn, kn2]
    exact ⟨by decide, by decide, by decide, by decide, by decide, by decide, by decide, by decide, w20.1, w4.1, by have := L8.2.2.2.2.1; have := w20.2.2; have := w4.2.2; omega⟩
  simp only [kn, kn2] at q13
  have x8 := nV_fr q13.1 (k := 8) (by decide) q11.2.1
  refine copy_v hC  ?_ (fun σ_14 q15 => ?_)
  · clear h; simp only [kn, kn2]; exact ⟨by decide, by decide, by decide, by decide, by decide, x8.1⟩  -- p7
  simp only [kn, kn2] at q15
  have x9 := nV_fr q15.1 (k := 9) (by decide) q13.2.1
  refine copy_v hC  ?_ (fun σ_16 q17 => ?_)
  · clear h; simp only [kn, kn2]; exact ⟨by decide, by decide, by decide, by decide, by decide, x9.1⟩  -- p8
  simp only [kn, kn2] at q17
  have x4 := nV_fr q17.1 (k := 4) (by decide) q15.2.1
  refine reduce_c hC  ?_ (fun σ_18 q19 => ?_)
  · clear h; simp only [kn, kn2]
    refine ⟨by decide, by decide, by decide, by decide, by decide, x4.1, q17.2.1, ?_, ?_, ?_⟩
    · rw [q17.2.2.1, x9.2.1, q13.2.2.1, w20.2.1, w4.2.1]
      exact Nat.mul_pos p20' z4
    · have := x4.2.2; have := q15.2.2.2; have := x8.2.2; have := q11.2.2.2; have := L8.2.2.2.1; omega
    · have := q17.2.2.2; have := x9.2.2; have := q13.2.2.2; have := w20.2.2; have := w4.2.2; have := L8.2.2.2.2.1; omega
  intro σ_20 hσ_20
  refine h _ ?_
  · clear h; simp only [kn, kn2] at q19
    have F8 := frS_tr F6 (frS_mono q9.1 (sub_of rfl))
    have F18 : frS [0, 1, 2, 3, 4, 5, 6, 7, 8, 9, 10, 19, 20] σ σ_18 := frS_tr F8 (frS_tr (frS_mono (frS_of q11.1) (sub_of rfl)) (frS_tr (frS_mono (frS_of q13.1) (sub_of rfl)) (frS_tr (frS_mono (frS_of q15.1) (sub_of rfl)) (frS_tr (frS_mono (frS_of q17.1) (sub_of rfl)) (frS_mono (frS_of q19.1) (sub_of rfl))))))
    rw [hσ_20]
    refine ⟨frS_tr F18 frS_92, nV_92.2.1.mpr q19.2.1, nV_92.2.1.mpr q19.2.2.1, ?_⟩
    rw [hx3]
    exact L1.2.2.2.2.2
