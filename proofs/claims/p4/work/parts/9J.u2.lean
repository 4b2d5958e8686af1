set_option maxHeartbeats 1600000
/-! the reference: sums of weights -/
theorem l64_mul {x y : Int64} {a b : Int} (hx : x.toInt = a) (hy : y.toInt = b) (a0 : 0 ≤ a) (a1 : a ≤ 8000000) (b0 : 0 ≤ b) (b1 : b ≤ 2147483648) : (x * y).toInt = a * b ∧ 0 ≤ a * b := by
  have n : 0 ≤ a * b := Int.mul_nonneg a0 b0
  have m : a * b ≤ 8000000 * 2147483648 := Int.le_trans (Int.mul_le_mul_of_nonneg_right a1 b0) (Int.mul_le_mul_of_nonneg_left b1 (by omega))
  rw [Int64.toInt_mul, hx, hy]
  exact ⟨Int.bmod_eq_of_le (by omega) (by omega), n⟩
theorem l64_neg {x : Int64} (h : ¬ 0 ≤ x) (h2 : x.toInt.natAbs ≤ 2147483648) : (-x).toInt = (x.toInt.natAbs : Int) ∧ x.toInt ≤ 0 := by
  have z : x.toInt < 0 := by
    have y : ¬ 0 ≤ x.toInt := fun q => h (Int64.le_iff_toInt_le.mpr (by rw [Int64.toInt_zero]; exact q))
    omega
  rw [Int64.toInt_neg]
  refine ⟨?_, by omega⟩
  rw [Int.bmod_eq_of_le (by omega) (by omega)]
  omega
theorem l64_pos {x : Int64} (h : 0 ≤ x) : x.toInt = (x.toInt.natAbs : Int) ∧ 0 ≤ x.toInt := by
  have y := Int64.le_iff_toInt_le.mp h
  rw [Int64.toInt_zero] at y
  exact ⟨by omega, y⟩
theorem l64_z {x : Int64} (h : x = 0) : x.toInt = 0 := by rw [h]; rfl
theorem pr_2 {x y A B : Rat} (x0 : 0 ≤ x) (y0 : 0 ≤ y) (hx : x ≤ A) (hy : y ≤ B) : x * y ≤ A * B := by
  have z := pr_le (y := 1) x0 y0 hx Rat.le_refl hy
  rwa [Rat.mul_one] at z
theorem fV_b {σ : rS} {k : Nat} (hv : vOK σ k) : 0 ≤ fV σ k ∧ fV σ k ≤ ((65536 ^ 16 : Nat) : Rat) ∧ (fV σ k).den ∣ slV σ 102 (34 * k + 17) := by
  have u := sl_lt (M := 16) rfl hv.1
  unfold fV
  exact ⟨mk_nn hv.2.2 (by omega), Rat.le_trans (q_le mk_num) (Rat.natCast_le_natCast.mpr (Nat.le_of_lt u)), den_mk (Nat.ne_of_gt hv.2.2)⟩
theorem tw_b {σ : rS} {j i : Int32} (h : pOK σ) (j0 : 0 ≤ j) (j1 : j < σ.1 70) (i0 : σ.2.2.1 76 j.toNatClampNeg ≤ i) (i1 : i < σ.2.2.1 76 (j.toNatClampNeg + 1)) : 0 ≤ twI σ j.toNatClampNeg i.toNatClampNeg ∧ twI σ j.toNatClampNeg i.toNatClampNeg ≤ tTI σ j.toNatClampNeg ∧ 0 ≤ i ∧ i < 20000 ∧ i < σ.1 72 := by
  have st := ex_st h.1 j0 j1
  have k0 := Int32.le_trans st.1.1 i0
  have lo := cn_l i0 st.1.1
  have hl := cn_lt k0 i1
  have hd : i.toNatClampNeg - loN σ j.toNatClampNeg < leN σ j.toNatClampNeg := by unfold leN loN; omega
  have a := tw_nn h j0 j1 hd
  have b := tw_le h j0 j1 hd
  rw [show loN σ j.toNatClampNeg + (i.toNatClampNeg - loN σ j.toNatClampNeg) = i.toNatClampNeg by unfold loN; omega] at a b
  have l72 := Int32.lt_of_lt_of_le i1 st.2.2.1
  exact ⟨a, b, k0, Int32.lt_of_lt_of_le l72 h.1.2.2.1.2, l72⟩
theorem wt_I {σ τ : rS} {s : Nat} {i : Int32} {v : Int64} (h : (τ.2.2.1 81 s = 0 → v = (τ.2.2.1 79 i.toNatClampNeg).toInt64) ∧ (τ.2.2.1 81 s ≠ 0 → v = 1)) (e81 : τ.2.2.1 81 = σ.2.2.1 81) (e79 : τ.2.2.1 79 = σ.2.2.1 79) (ht : σ.2.2.1 81 s = 0 ∨ i = σ.2.2.1 76 s + σ.2.2.1 83 s) : v.toInt = twI σ s i.toNatClampNeg := by
  rw [e81, e79] at h
  unfold twI
  split
  · rename_i e; rw [h.1 e, Int32.toInt_toInt64]
  · rename_i e; rw [h.2 e, if_pos (by rw [ht.resolve_left e])]; rfl
theorem wq_b {σ : rS} {k : Nat} {w b : Int} (hv : vOK σ k) (w0 : 0 ≤ w) (w1 : w ≤ tTI σ k) (t1 : 1 ≤ tTI σ k) (b0 : 0 ≤ b) (b1 : b ≤ 2147483648) : fV σ k * mkRat (w * b) (tTI σ k).toNat ≤ (wB : Rat) ∧ (fV σ k * mkRat (w * b) (tTI σ k).toNat).den ∣ gV σ k := by
  have f := fV_b hv
  have T0 : 0 < (tTI σ k).toNat := by omega
  constructor
  · unfold wB
    rw [Rat.natCast_mul]
    refine pr_2 f.1 (mk_nn T0 (Int.mul_nonneg w0 b0)) f.2.1 (mk_leN T0 ?_)
    have m := Int.le_trans (Int.mul_le_mul_of_nonneg_right w1 b0) (Int.mul_le_mul_of_nonneg_left b1 (by omega : 0 ≤ tTI σ k))
    rw [show ((tTI σ k).toNat : Int) = tTI σ k by omega]
    rw [show ((65536 ^ 2 : Nat) : Int) = 4294967296 from rfl]
    omega
  · exact Nat.dvd_trans den_mul (Nat.mul_dvd_mul f.2.2 (den_mk (by omega)))
theorem addWeight_c {C : rCx} (hC : cOK C) (s c : Nat) (S : Rat) {σ : rS} {a1 : Int32} {a2 : Int32} {a3 : Int64} {Q : rS → Prop} (hp : pOK σ ∧ s = (σ.1 70).toNatClampNeg ∧ (∀ k, k < s → vOK σ k) ∧ 0 ≤ a1 ∧ a1 < σ.1 70 ∧ σ.2.2.1 76 a1.toNatClampNeg ≤ a2 ∧ a2 < σ.2.2.1 76 (a1.toNatClampNeg + 1) ∧ (σ.2.2.1 81 a1.toNatClampNeg = 0 ∨ a2 = σ.2.2.1 76 a1.toNatClampNeg + σ.2.2.1 83 a1.toNatClampNeg) ∧ a3.toInt.natAbs ≤ 2147483648 ∧ siS σ σ s c S ∧ c ≤ 100000) (h : ∀ (σ' : rS), (frS [0, 1, 2, 3, 4, 5, 6, 7, 8, 9, 10] σ σ' ∧ siS σ σ' s (c + 1) (S + fV σ a1.toNatClampNeg * mkRat (twI σ a1.toNatClampNeg a2.toNatClampNeg * a3.toInt) (tTI σ a1.toNatClampNeg).toNat)) → Q σ') : cV C 5 m_addWeight [.ref (co C), .int a1, .int a2, .long a3] σ Q := by
  refine m_addWeight_run hC ?_
  unfold w_addWeight_0
  obtain ⟨hO, hs, hv, h0, h1, i0, i1, ht, hb, J, hc⟩ := hp
  have k1 := Int32.lt_of_lt_of_le h1 hO.1.1.2
  have ks : a1.toNatClampNeg < s := by rw [hs]; exact cn_lt h0 h1
  have V := hv _ ks
  have tb := tT_b hO h0 h1
  have tw := tw_b hO h0 h1 i0 i1
  have gb := gV_b hO hs hv ks
  have wq := wq_b V tw.1 tw.2.1 tb.1 (b := (a3.toInt.natAbs : Int)) (by omega) (by omega)
  have hj30 : ∀ (l1 : Int32) (l3 : Int64) (s1 : Int64) (s2 : Int64) (τ : rS), (l1 = a1 ∧ l3 = a3 ∧ frN [6, 7] σ τ ∧ numO τ 6 ∧ numO τ 7 ∧ fQ τ 6 7 = fV σ a1.toNatClampNeg ∧ 0 < nV τ 7 ∧ nL τ 6 ≤ 16 ∧ nL τ 7 ≤ 16 ∧ s1.toInt = twI σ a1.toNatClampNeg a2.toNatClampNeg ∧ s2.toInt = (a3.toInt.natAbs : Int)) → w_addWeight_30 C Q  l1 l3 s1 s2 τ := by
    rintro y30_1 y30_3 y30_s1 y30_s2 τ30 j30
    unfold w_addWeight_30
    obtain ⟨y1, y2, Y, o6, o7, e67, p7, l6, l7, z1, z2⟩ := j30
    have m64 := l64_mul z1 z2 tw.1 (by omega) (by omega) (by omega)
    refine totalOf_c hC  ?_ (fun r1 q3 => ?_)
    · clear h; rw [y1]; exact ⟨h0, k1⟩  -- p1
    have T := tot_I q3
    rw [tT_f (Y.2.2.1 80 (by decide) (by decide)) (Y.2.2.1 81 (by decide) (by decide)), y1] at T
    refine scale_c hC  ?_ (fun σ_4 q5 => ?_)
    · clear h; exact ⟨o6, o7, p7, l64_0 m64.1 m64.2, l64_1 T tb.1, by omega, by omega⟩  -- p2
    rw [e67, m64.1, T] at q5
    have J4 := siS_N q5.1 (by decide) (by decide) (siS_N Y (by decide) (by decide) J)
    have F4 : frS [0, 1, 2, 3, 4, 5, 6, 7, 8, 9, 10] σ σ_4 := frS_tr (frS_mono (frS_of Y) (sub_of rfl)) (frS_mono (frS_of q5.1) (sub_of rfl))
    rw [y2]
    refine ⟨fun c6 => ?_, fun c6 => ?_⟩
    · skip
      refine add_c hC  ?_ (fun σ_7 q8 => ?_)
      · clear h; exact (siS_add (x := 1) (Or.inl rfl) hO hs hv hc J4 q5.2 wq.1 wq.2 (prS_dvd ks) gb.1 gb.2).1  -- p3
      refine h _ ?_
      · clear h; have A := (siS_add (x := 1) (Or.inl rfl) hO hs hv hc J4 q5.2 wq.1 wq.2 (prS_dvd ks) gb.1 gb.2).2 _ q8.2
        rw [sgn_mk (Or.inl ⟨rfl, (l64_pos (lg_ge.mp c6)).2⟩)] at A
        exact ⟨frS_tr F4 (frS_mono q8.1 (sub_of rfl)), A⟩
    · skip
      refine add_c hC  ?_ (fun σ_9 q10 => ?_)
      · clear h; exact (siS_add (x := -1) (Or.inr rfl) hO hs hv hc J4 q5.2 wq.1 wq.2 (prS_dvd ks) gb.1 gb.2).1  -- p5
      refine h _ ?_
      · clear h; have A := (siS_add (x := -1) (Or.inr rfl) hO hs hv hc J4 q5.2 wq.1 wq.2 (prS_dvd ks) gb.1 gb.2).2 _ q10.2
        rw [sgn_mk (Or.inr ⟨rfl, (l64_neg (fun z => c6 (lg_ge.mpr z)) hb).2⟩)] at A
        exact ⟨frS_tr F4 (frS_mono q10.1 (sub_of rfl)), A⟩
  refine ⟨fun c11 => ?_, fun c11 => ?_⟩
  · skip
    refine h _ ?_
    · clear h; rw [l64_z (lc_0.mp c11), Int.mul_zero, Rat.zero_mkRat, Rat.mul_zero, Rat.add_zero]
      exact ⟨frS_rf, siS_mono J (by omega)⟩
  · skip
    refine loadVisits_c hC  ?_ (fun σ_12 q13 => ?_)
    · clear h; exact ⟨h0, k1, V.1, V.2.1⟩  -- p8
    have e67 : fQ σ_12 6 7 = fV σ a1.toNatClampNeg := by unfold fQ fV; rw [q13.2.2.2.1, q13.2.2.2.2.1]
    have p7 : 0 < nV σ_12 7 := by rw [q13.2.2.2.2.1]; exact V.2.2
    refine weightOf_c hC  ?_ (fun r14 q16 => ?_)
    · clear h; exact ⟨h0, k1, tw.2.2.1, tw.2.2.2.1⟩  -- p9
    have W := wt_I q16 (q13.1.2.2.1 81 (by decide) (by decide)) (q13.1.2.2.1 79 (by decide) (by decide)) ht
    refine ⟨fun c17 => ?_, fun c17 => ?_⟩
    · skip
      refine hj30 _ _ _ _ _ ?_
      · clear h; exact ⟨rfl, rfl, q13.1, q13.2.1, q13.2.2.1, e67, p7, q13.2.2.2.2.2.1, q13.2.2.2.2.2.2, W, (l64_pos (lg_ge.mp c17)).1⟩  -- k10
    · skip
      refine hj30 _ _ _ _ _ ?_
      · clear h; exact ⟨rfl, rfl, q13.1, q13.2.1, q13.2.2.1, e67, p7, q13.2.2.2.2.2.1, q13.2.2.2.2.2.2, W, (l64_neg (fun z => c17 (lg_ge.mpr z)) hb).1⟩  -- k11
