set_option maxHeartbeats 1600000
/-! the reference: worths kept and loaded -/
theorem keepWorth_c {C : rCx} (hC : cOK C)  {σ : rS} {a1 : Int32} {Q : rS → Prop} (hp : 0 ≤ a1 ∧ a1 < 1000 ∧ numO σ 4 ∧ numO σ 5) (h : ∀ (σ' : rS), (frR 117 (34 * a1.toNatClampNeg) (34 * a1.toNatClampNeg + 34) (riU σ 118 a1.toNatClampNeg (σ.1 92)) σ' ∧ (nL σ 4 ≤ 16 → slN σ' 117 (34 * a1.toNatClampNeg) 16 ∧ slV σ' 117 (34 * a1.toNatClampNeg) = nV σ 4) ∧ (nL σ 5 ≤ 16 → slN σ' 117 (34 * a1.toNatClampNeg + 17) 16 ∧ slV σ' 117 (34 * a1.toNatClampNeg + 17) = nV σ 5)) → Q σ') : cV C 0 m_keepWorth [.ref (co C), .int a1] σ Q := by
  refine m_keepWorth_run hC ?_
  unfold w_keepWorth_0
  obtain ⟨h0, h1, h4, h5⟩ := hp
  have v0 := vx0 h0 h1
  have v1 := vx1 h0 h1 (j := 17) (by decide) (by decide)
  have v2 : (34 * a1 + 17).toNatClampNeg = 34 * a1.toNatClampNeg + 17 := v1.2
  intro x1 hx1
  refine ⟨ib_1000.mpr ?_, ?_⟩
  · clear h; exact ⟨h0, h1⟩  -- b1
  intro σ_2 hσ_2
  refine ⟨ib_30.mpr ?_, ?_⟩
  · clear h; decide  -- b2
  refine ⟨ib_34000.mpr ?_, ?_⟩
  · clear h; rw [hx1]; exact v0.1  -- b3
  intro σ_3 hσ_3
  refine ⟨ib_30.mpr ?_, ?_⟩
  · clear h; decide  -- b4
  refine ⟨ib_34000.mpr ?_, ?_⟩
  · clear h; rw [hx1]; exact v1.1  -- b5
  intro σ_4 hσ_4
  unfold w_keepWorth_44
  refine ⟨fun n l2 l3 τ => n = (16 - l3).toNatClampNeg ∧ (l2 = 34 * a1 ∧ frR 117 (34 * a1.toNatClampNeg) (34 * a1.toNatClampNeg + 34) (riU σ 118 a1.toNatClampNeg (σ.1 92)) τ ∧ τ.2.2.1 117 (34 * a1.toNatClampNeg) = σ.2.2.1 91 4 ∧ τ.2.2.1 117 (34 * a1.toNatClampNeg + 17) = σ.2.2.1 91 5 ∧ 0 ≤ l3 ∧ l3 ≤ 16 ∧ cpI (σ.2.2.1 90) (τ.2.2.1 117) 160000 (34 * a1.toNatClampNeg + 1) (nL σ 4) l3.toNatClampNeg ∧ cpI (σ.2.2.1 90) (τ.2.2.1 117) 200000 (34 * a1.toNatClampNeg + 17 + 1) (nL σ 5) l3.toNatClampNeg), ⟨_, rfl, ?_⟩, ?_⟩
  · clear h; rw [hx1, v0.2, hσ_2] at hσ_3
    rw [hx1, v2] at hσ_4
    simp only [kn] at hσ_3 hσ_4
    refine ⟨hx1, frR_tr (τ := σ_3) (by rw [hσ_3]; exact frR_w (by omega) (by omega)) (by rw [hσ_4]; exact frR_w (by omega) (by omega)), ?_, ?_, by decide, by decide, fun i hi => absurd hi (Nat.not_lt_zero i), fun i hi => absurd hi (Nat.not_lt_zero i)⟩
    · rw [hσ_4, ri4, if_neg (by omega), hσ_3, ri4, if_pos rfl, ri3 (by decide)]
    · rw [hσ_4, ri4, if_pos rfl, hσ_3, ri3 (by decide), ri3 (by decide)]
  rintro n44 x44_2 x44_3 σ44 ⟨hn44, i44⟩
  have hj118 : ∀ (l2 : Int32) (l3 : Int32) (s1 : Int32) (s2 : Int32) (τ : rS), (l2 = 34 * a1 ∧ l3 = x44_3 ∧ ¬ 16 ≤ x44_3 ∧ s1 = 34 * a1 + 18 + x44_3 ∧ (x44_3.toNatClampNeg < nL σ 5 → s2 = σ.2.2.1 90 (200000 + x44_3.toNatClampNeg)) ∧ ∃ x, (x44_3.toNatClampNeg < nL σ 4 → x = σ.2.2.1 90 (160000 + x44_3.toNatClampNeg)) ∧ τ = riU σ44 117 (34 * a1.toNatClampNeg + 1 + x44_3.toNatClampNeg) x) → w_keepWorth_118 C Q (fun l2' l3' τ => ∃ k < n44, (fun n l2 l3 τ => n = (16 - l3).toNatClampNeg ∧ (l2 = 34 * a1 ∧ frR 117 (34 * a1.toNatClampNeg) (34 * a1.toNatClampNeg + 34) (riU σ 118 a1.toNatClampNeg (σ.1 92)) τ ∧ τ.2.2.1 117 (34 * a1.toNatClampNeg) = σ.2.2.1 91 4 ∧ τ.2.2.1 117 (34 * a1.toNatClampNeg + 17) = σ.2.2.1 91 5 ∧ 0 ≤ l3 ∧ l3 ≤ 16 ∧ cpI (σ.2.2.1 90) (τ.2.2.1 117) 160000 (34 * a1.toNatClampNeg + 1) (nL σ 4) l3.toNatClampNeg ∧ cpI (σ.2.2.1 90) (τ.2.2.1 117) 200000 (34 * a1.toNatClampNeg + 17 + 1) (nL σ 5) l3.toNatClampNeg)) k l2' l3' τ) l2 l3 s1 s2 τ := by
    rintro y118_2 y118_3 y118_s1 y118_s2 τ118 j118
    unfold w_keepWorth_118
    obtain ⟨e2, F, c0, c1, k0, k1, P, R⟩ := i44
    obtain ⟨f2, f3, fk, fs, fx, x, gx, ft⟩ := j118
    have w := v16 k0 fk
    have s := vx h0 h1 (j := 18) (by decide) k0 (by show 18 + _ < _; omega)
    have s2 : (34 * a1 + 18 + x44_3).toNatClampNeg = 34 * a1.toNatClampNeg + 17 + 1 + x44_3.toNatClampNeg := s.2
    refine ⟨ib_34000.mpr ?_, ?_⟩
    · clear h; rw [fs]; exact s.1  -- b7
    intro σ_5 hσ_5
    intro x6 hx6
    refine ⟨_, cn_lt2 hn44 ?_ ?_, rfl, ?_⟩
    · clear h; rw [hx6, f3]; exact w.2.2.2.1  -- d8
    · clear h; rw [hx6, f3]; exact w.2.2.2.2.1  -- d9
    · clear h; rw [fs, s2] at hσ_5
      have r1 : ∀ i, τ118.2.2.1 117 i = if i = 34 * a1.toNatClampNeg + 1 + x44_3.toNatClampNeg then x else σ44.2.2.1 117 i := fun i => by rw [ft, ri4]
      have r2 : ∀ i, σ_5.2.2.1 117 i = if i = 34 * a1.toNatClampNeg + 17 + 1 + x44_3.toNatClampNeg then y118_s2 else τ118.2.2.1 117 i := fun i => by rw [hσ_5, ri4]
      refine ⟨f2, frR_tr F (frR_tr (τ := τ118) (by rw [ft]; exact frR_w (by omega) (by omega)) (by rw [hσ_5]; exact frR_w (by omega) (by omega))), by rw [r2, if_neg (by omega), r1, if_neg (by omega)]; exact c0, by rw [r2, if_neg (by omega), r1, if_neg (by omega)]; exact c1, by rw [hx6, f3]; exact w.2.1, by rw [hx6, f3]; exact w.2.2.1, ?_, ?_⟩
      · rw [hx6, f3, w.2.2.2.2.2.1]
        exact cp_s P gx (by rw [r2, if_neg (by omega), r1, if_pos rfl]) (fun i hi => by rw [r2, if_neg (by omega), r1, if_neg (by omega)])
      · rw [hx6, f3, w.2.2.2.2.2.1]
        exact cp_s R fx (by rw [r2, if_pos rfl]) (fun i hi => by rw [r2, if_neg (by omega), r1, if_neg (by omega)])
  have hj83 : ∀ (l2 : Int32) (l3 : Int32) (s1 : Int32) (s2 : Int32) (τ : rS), (τ = σ44 ∧ l2 = 34 * a1 ∧ l3 = x44_3 ∧ ¬ 16 ≤ x44_3 ∧ s1 = 34 * a1 + 1 + x44_3 ∧ (x44_3.toNatClampNeg < nL σ 4 → s2 = σ.2.2.1 90 (160000 + x44_3.toNatClampNeg))) → w_keepWorth_83 C Q (fun l2' l3' τ => ∃ k < n44, (fun n l2 l3 τ => n = (16 - l3).toNatClampNeg ∧ (l2 = 34 * a1 ∧ frR 117 (34 * a1.toNatClampNeg) (34 * a1.toNatClampNeg + 34) (riU σ 118 a1.toNatClampNeg (σ.1 92)) τ ∧ τ.2.2.1 117 (34 * a1.toNatClampNeg) = σ.2.2.1 91 4 ∧ τ.2.2.1 117 (34 * a1.toNatClampNeg + 17) = σ.2.2.1 91 5 ∧ 0 ≤ l3 ∧ l3 ≤ 16 ∧ cpI (σ.2.2.1 90) (τ.2.2.1 117) 160000 (34 * a1.toNatClampNeg + 1) (nL σ 4) l3.toNatClampNeg ∧ cpI (σ.2.2.1 90) (τ.2.2.1 117) 200000 (34 * a1.toNatClampNeg + 17 + 1) (nL σ 5) l3.toNatClampNeg)) k l2' l3' τ) l2 l3 s1 s2 τ := by
    rintro y83_2 y83_3 y83_s1 y83_s2 τ83 j83
    unfold w_keepWorth_83
    obtain ⟨e2, F, c0, c1, k0, k1, P, R⟩ := i44
    obtain ⟨ft, f2, f3, fk, fs, fx⟩ := j83
    have w := v16 k0 fk
    have s := vx h0 h1 (j := 1) (by decide) k0 (by show 1 + _ < _; omega)
    have s2 : (34 * a1 + 1 + x44_3).toNatClampNeg = 34 * a1.toNatClampNeg + 1 + x44_3.toNatClampNeg := s.2
    refine ⟨ib_34000.mpr ?_, ?_⟩
    · clear h; rw [fs]; exact s.1  -- b11
    intro σ_7 hσ_7
    refine ⟨ib_30.mpr ?_, ?_⟩
    · clear h; decide  -- b12
    rw [fs, s2, ft] at hσ_7
    have r91 : σ_7.2.2.1 91 = σ.2.2.1 91 := by rw [hσ_7, ri3 (by decide)]; exact (F.2.2.1 91 (by decide)).trans (ri3 (by decide))
    have r90 : σ_7.2.2.1 90 = σ.2.2.1 90 := by rw [hσ_7, ri3 (by decide)]; exact (F.2.2.1 90 (by decide)).trans (ri3 (by decide))
    have lc := cn_li (x := σ.2.2.1 91 5) (y := x44_3) h5.1 k0
    have bc := bxc (c := 200000) (by decide) (by decide) k0 w.1
    refine ⟨fun c8 => ?_, fun c8 => ?_⟩
    · skip
      refine hj118 _ _ _ _ _ ?_
      · clear h; simp only [kn] at c8
        rw [r91, f3, lc] at c8
        exact ⟨f2, f3, fk, by rw [f2, f3], fun z => absurd z (Nat.not_lt.mpr c8), _, fx, hσ_7⟩
    · skip
      refine ⟨ib_1200000.mpr ?_, ?_⟩
      · clear h; rw [f3]; exact bc.1  -- b14
      refine hj118 _ _ _ _ _ ?_
      · clear h; refine ⟨f2, f3, fk, by rw [f2, f3], fun _ => ?_, _, fx, hσ_7⟩
        rw [f3, bc.2, r90, kc.2.1]
  obtain ⟨e2, F, c0, c1, k0, k1, P, R⟩ := i44
  have r91 : σ44.2.2.1 91 = σ.2.2.1 91 := (F.2.2.1 91 (by decide)).trans (ri3 (by decide))
  have r90 : σ44.2.2.1 90 = σ.2.2.1 90 := (F.2.2.1 90 (by decide)).trans (ri3 (by decide))
  refine ⟨fun c9 => ?_, fun c9 => ?_⟩
  · skip
    refine h _ ?_
    · clear h; have n16 := (cn_li (x := 16) (by decide) k0).mp c9
      rw [show (16 : Int32).toNatClampNeg = 16 from rfl] at n16
      refine ⟨F, fun l => ?_, fun l => ?_⟩
      · exact gO_c (m := 40000) (o := 160000) h4 c0 (nl16 h4 l) (fun i hi => P i (by have z : i < nL σ 4 := hi; omega) hi)
      · exact gO_c (m := 40000) (o := 200000) h5 c1 (nl16 h5 l) (fun i hi => R i (by have z : i < nL σ 5 := hi; omega) hi)
  · skip
    have w := v16 k0 c9
    have lc := cn_li (x := σ.2.2.1 91 4) (y := x44_3) h4.1 k0
    have bc := bxc (c := 160000) (by decide) (by decide) k0 w.1
    refine ⟨ib_30.mpr ?_, ?_⟩
    · clear h; decide  -- b17
    refine ⟨fun c10 => ?_, fun c10 => ?_⟩
    · skip
      refine hj83 _ _ _ _ _ ?_
      · clear h; simp only [kn] at c10
        rw [r91, lc] at c10
        exact ⟨rfl, e2, rfl, c9, by rw [e2], fun z => absurd z (Nat.not_lt.mpr c10)⟩
    · skip
      refine ⟨ib_1200000.mpr ?_, ?_⟩
      · clear h; exact bc.1  -- b19
      refine hj83 _ _ _ _ _ ?_
      · clear h; refine ⟨rfl, e2, rfl, c9, by rw [e2], fun _ => ?_⟩
        rw [bc.2, r90, kc.1]

theorem loadWorth_c {C : rCx} (hC : cOK C)  {σ : rS} {a1 : Nat} {a2 : Int32} {Q : rS → Prop} (hp : (a1 = 115 ∨ a1 = 117) ∧ 0 ≤ a2 ∧ a2 < 1000 ∧ slN σ a1 (34 * a2.toNatClampNeg) 16 ∧ slN σ a1 (34 * a2.toNatClampNeg + 17) 16) (h : ∀ (σ' : rS), (frN [6, 7] σ σ' ∧ numO σ' 6 ∧ numO σ' 7 ∧ nV σ' 6 = slV σ a1 (34 * a2.toNatClampNeg) ∧ nV σ' 7 = slV σ a1 (34 * a2.toNatClampNeg + 17) ∧ nL σ' 6 ≤ 16 ∧ nL σ' 7 ≤ 16) → Q σ') : cV C 0 m_loadWorth [.ref (co C), .ref (cad C a1), .int a2] σ Q := by
  refine m_loadWorth_run hC ?_
  unfold w_loadWorth_0
  obtain ⟨hr, h0, h1, hn, hd⟩ := hp
  have n90 : a1 ≠ 90 := by omega
  have n91 : a1 ≠ 91 := by omega
  have hT : rT a1 = some (0, 34000) := by rcases hr with e | e <;> rw [e] <;> rfl
  have v0 := vx0 h0 h1
  have v1 := vx1 h0 h1 (j := 17) (by decide) (by decide)
  have v2 : (34 * a2 + 17).toNatClampNeg = 34 * a2.toNatClampNeg + 17 := v1.2
  have ln : (σ.2.2.1 a1 (34 * a2.toNatClampNeg)).toNatClampNeg ≤ 16 := (cn_li hn.1 (by decide)).mp hn.2.1
  have ld : (σ.2.2.1 a1 (34 * a2.toNatClampNeg + 17)).toNatClampNeg ≤ 16 := (cn_li hd.1 (by decide)).mp hd.2.1
  intro x1 hx1
  refine ⟨34000, ?_, ?_, ?_⟩
  · clear h; exact hT  -- t1
  · clear h; exact ib_34000.mpr (by rw [hx1]; exact v0.1)  -- b2
  refine ⟨ib_30.mpr ?_, ?_⟩
  · clear h; decide  -- b3
  intro σ_2 hσ_2
  refine ⟨34000, ?_, ?_, ?_⟩
  · clear h; exact hT  -- t4
  · clear h; exact ib_34000.mpr (by rw [hx1]; exact v1.1)  -- b5
  refine ⟨ib_30.mpr ?_, ?_⟩
  · clear h; decide  -- b6
  intro σ_3 hσ_3
  unfold w_loadWorth_31
  refine ⟨fun n l1 l3 l4 τ => n = (16 - l4).toNatClampNeg ∧ (l1 = a1 ∧ l3 = 34 * a2 ∧ frN [6, 7] σ τ ∧ τ.2.2.1 91 6 = σ.2.2.1 a1 (34 * a2.toNatClampNeg) ∧ τ.2.2.1 91 7 = σ.2.2.1 a1 (34 * a2.toNatClampNeg + 17) ∧ 0 ≤ l4 ∧ l4 ≤ 16 ∧ cpI (σ.2.2.1 a1) (τ.2.2.1 90) (34 * a2.toNatClampNeg + 1) 240000 16 l4.toNatClampNeg ∧ cpI (σ.2.2.1 a1) (τ.2.2.1 90) (34 * a2.toNatClampNeg + 17 + 1) 280000 16 l4.toNatClampNeg), ⟨_, rfl, ?_⟩, ?_⟩
  · clear h; rw [hx1, v0.2] at hσ_2
    rw [hx1, v2] at hσ_3
    simp only [kn] at hσ_2 hσ_3
    refine ⟨rfl, hx1, frN_tr (τ := σ_2) (frN_mono (l := [6]) (by rw [hσ_2]; exact frN_91) (sub_of rfl)) (frN_mono (l := [7]) (by rw [hσ_3]; exact frN_91) (sub_of rfl)), ?_, ?_, by decide, by decide, fun i hi => absurd hi (Nat.not_lt_zero i), fun i hi => absurd hi (Nat.not_lt_zero i)⟩
    · rw [hσ_3, ri4, if_neg (by decide), hσ_2, ri4, if_pos rfl]
    · rw [hσ_3, ri4, if_pos rfl, hσ_2, ri3 n91]
  rintro n31 x31_1 x31_3 x31_4 σ31 ⟨hn31, i31⟩
  obtain ⟨e1, e2, F, c0, c1, k0, k1, P, R⟩ := i31
  have tRow : σ31.2.2.1 a1 = σ.2.2.1 a1 := F.2.2.1 a1 n90 n91
  refine ⟨fun c4 => ?_, fun c4 => ?_⟩
  · skip
    refine h _ ?_
    · clear h; have n16 := (cn_li (x := 16) (by decide) k0).mp c4
      rw [show (16 : Int32).toNatClampNeg = 16 from rfl] at n16
      have N := gO_c (m' := 40000) (p := 240000) hn c0 (Int32.le_trans hn.2.1 (by decide)) (fun i hi => P i (by omega) (by omega))
      have D := gO_c (m' := 40000) (p := 280000) hd c1 (Int32.le_trans hd.2.1 (by decide)) (fun i hi => R i (by omega) (by omega))
      refine ⟨F, N.1, D.1, N.2, D.2, ?_, ?_⟩
      · show (σ31.2.2.1 91 6).toNatClampNeg ≤ 16
        rw [c0]; exact ln
      · show (σ31.2.2.1 91 7).toNatClampNeg ≤ 16
        rw [c1]; exact ld
  · skip
    have w := v16 k0 c4
    have s := vx h0 h1 (j := 1) (by decide) k0 (by show 1 + _ < _; omega)
    have s2 : (34 * a2 + 1 + x31_4).toNatClampNeg = 34 * a2.toNatClampNeg + 1 + x31_4.toNatClampNeg := s.2
    have s' := vx h0 h1 (j := 18) (by decide) k0 (by show 18 + _ < _; omega)
    have s3 : (34 * a2 + 18 + x31_4).toNatClampNeg = 34 * a2.toNatClampNeg + 17 + 1 + x31_4.toNatClampNeg := s'.2
    have bc := bxc (c := 240000) (by decide) (by decide) k0 w.1
    have bd := bxc (c := 280000) (by decide) (by decide) k0 w.1
    have b2 : (240000 + x31_4).toNatClampNeg = 40000 * 6 + x31_4.toNatClampNeg := bc.2
    have b3 : (280000 + x31_4).toNatClampNeg = 40000 * 7 + x31_4.toNatClampNeg := bd.2
    refine ⟨34000, ?_, ?_, ?_⟩
    · clear h; rw [e1]; exact hT  -- t9
    · clear h; exact ib_34000.mpr (by rw [e2]; exact s.1)  -- b10
    refine ⟨ib_1200000.mpr ?_, ?_⟩
    · clear h; exact bc.1  -- b11
    intro σ_5 hσ_5
    refine ⟨34000, ?_, ?_, ?_⟩
    · clear h; rw [e1]; exact hT  -- t12
    · clear h; exact ib_34000.mpr (by rw [e2]; exact s'.1)  -- b13
    refine ⟨ib_1200000.mpr ?_, ?_⟩
    · clear h; exact bd.1  -- b14
    intro σ_6 hσ_6
    intro x7 hx7
    refine ⟨_, cn_lt2 hn31 ?_ ?_, rfl, ?_⟩
    · clear h; rw [hx7]; exact w.2.2.2.1  -- d15
    · clear h; rw [hx7]; exact w.2.2.2.2.1  -- d16
    · clear h; rw [b2, e2, s2, e1, tRow] at hσ_5
      have uRow : σ_5.2.2.1 a1 = σ.2.2.1 a1 := by rw [hσ_5, ri3 n90]; exact tRow
      rw [b3, e2, s3, e1, uRow] at hσ_6
      have r1 : ∀ i, σ_5.2.2.1 90 i = if i = 40000 * 6 + x31_4.toNatClampNeg then σ.2.2.1 a1 (34 * a2.toNatClampNeg + 1 + x31_4.toNatClampNeg) else σ31.2.2.1 90 i := fun i => by rw [hσ_5, ri4]
      have r2 : ∀ i, σ_6.2.2.1 90 i = if i = 40000 * 7 + x31_4.toNatClampNeg then σ.2.2.1 a1 (34 * a2.toNatClampNeg + 17 + 1 + x31_4.toNatClampNeg) else σ_5.2.2.1 90 i := fun i => by rw [hσ_6, ri4]
      have r91 : σ_6.2.2.1 91 = σ31.2.2.1 91 := by rw [hσ_6, ri3 (by decide), hσ_5, ri3 (by decide)]
      refine ⟨e1, e2, frN_tr F (frN_tr (τ := σ_5) (frN_mono (l := [6]) (by rw [hσ_5]; exact frN_90 (by omega)) (sub_of rfl)) (frN_mono (l := [7]) (by rw [hσ_6]; exact frN_90 (by omega)) (sub_of rfl))), by rw [r91]; exact c0, by rw [r91]; exact c1, by rw [hx7]; exact w.2.1, by rw [hx7]; exact w.2.2.1, ?_, ?_⟩
      · rw [hx7, w.2.2.2.2.2.1]
        exact cp_s P (fun _ => rfl) (by rw [r2, if_neg (by omega), r1, if_pos (by omega)]) (fun i hi => by rw [r2, if_neg (by omega), r1, if_neg (by omega)])
      · rw [hx7, w.2.2.2.2.2.1]
        exact cp_s R (fun _ => rfl) (by rw [r2, if_pos (by omega)]) (fun i hi => by rw [r2, if_neg (by omega), r1, if_neg (by omega)])
