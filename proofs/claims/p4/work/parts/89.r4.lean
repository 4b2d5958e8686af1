set_option maxHeartbeats 1600000
/-! the reference: visits kept -/
theorem m34 {a : Int32} (h0 : 0 ≤ a) (h1 : a < 1000) : 0 ≤ 34 * a ∧ (34 * a).toInt = 34 * a.toInt ∧ a.toNatClampNeg < 1000 ∧ (34 * a).toNatClampNeg = 34 * a.toNatClampNeg := by
  have a2 := t0 h0
  have a3 := Int32.lt_iff_toInt_lt.mp h1
  rw [show (1000 : Int32).toInt = 1000 from rfl] at a3
  have e : (34 * a).toInt = 34 * a.toInt := by
    rw [Int32.toInt_mul, show (34 : Int32).toInt = 34 from rfl]
    exact Int.bmod_eq_of_le (by omega) (by omega)
  have z : 0 ≤ 34 * a := Int32.le_iff_toInt_le.mpr (by rw [e, Int32.toInt_zero]; omega)
  have c := cn_int h0
  have d := cn_int z
  exact ⟨z, e, by omega, by omega⟩
theorem vx {a j k : Int32} (h0 : 0 ≤ a) (h1 : a < 1000) (hj : 0 ≤ j) (hk : 0 ≤ k) (h : j.toNatClampNeg + k.toNatClampNeg < 34) : (0 ≤ 34 * a + j + k ∧ 34 * a + j + k < 34000) ∧ (34 * a + j + k).toNatClampNeg = 34 * a.toNatClampNeg + j.toNatClampNeg + k.toNatClampNeg := by
  have m := m34 h0 h1
  have a2 := t0 h0
  have a3 := Int32.lt_iff_toInt_lt.mp h1
  rw [show (1000 : Int32).toInt = 1000 from rfl] at a3
  have cj := cn_int hj
  have ck := cn_int hk
  have ca := cn_int h0
  have e1 := i_add m.1 hj (by omega)
  have z1 : 0 ≤ 34 * a + j := Int32.le_iff_toInt_le.mpr (by rw [e1, Int32.toInt_zero]; omega)
  have e2 := i_add z1 hk (by omega)
  have z2 : 0 ≤ 34 * a + j + k := Int32.le_iff_toInt_le.mpr (by rw [e2, Int32.toInt_zero]; omega)
  have c := cn_int z2
  exact ⟨⟨z2, Int32.lt_iff_toInt_lt.mpr (by rw [e2, show (34000 : Int32).toInt = 34000 from rfl]; omega)⟩, by omega⟩
theorem vx1 {a j : Int32} (h0 : 0 ≤ a) (h1 : a < 1000) (hj : 0 ≤ j) (h : j.toNatClampNeg < 34) : (0 ≤ 34 * a + j ∧ 34 * a + j < 34000) ∧ (34 * a + j).toNatClampNeg = 34 * a.toNatClampNeg + j.toNatClampNeg := by
  have s := vx h0 h1 hj (k := 0) (by decide) (by show _ + 0 < _; omega)
  rw [Int32.add_zero] at s
  exact s
theorem vx0 {a : Int32} (h0 : 0 ≤ a) (h1 : a < 1000) : (0 ≤ 34 * a ∧ 34 * a < 34000) ∧ (34 * a).toNatClampNeg = 34 * a.toNatClampNeg := by
  have s := vx1 h0 h1 (j := 0) (by decide) (by decide)
  rw [Int32.add_zero] at s
  exact s
theorem v16 {k : Int32} (k0 : 0 ≤ k) (h : ¬ 16 ≤ k) : k.toNatClampNeg < 16 ∧ 0 ≤ k + 1 ∧ k + 1 ≤ 16 ∧ 0 ≤ 16 - (k + 1) ∧ 16 - (k + 1) < 16 - k ∧ (k + 1).toNatClampNeg = k.toNatClampNeg + 1 ∧ k < 40000 ∧ k ≤ 40000 := by
  have l := cn_lt k0 (Int32.not_le.mp h)
  rw [show (16 : Int32).toNatClampNeg = 16 from rfl] at l
  have g : 0 ≤ k + 1 ∧ k + 1 ≤ 16 ∧ 0 ≤ 16 - (k + 1) ∧ 16 - (k + 1) < 16 - k ∧ k < 40000 ∧ k ≤ 40000 ∧ k < 1000000 := by grind
  exact ⟨l, g.1, g.2.1, g.2.2.1, g.2.2.2.1, cn_succ k0 g.2.2.2.2.2.2, g.2.2.2.2.1, g.2.2.2.2.2.1⟩
/-- places copied among 16, as far as the number reaches -/
def cpI (f g : Nat → Int32) (o p L k : Nat) : Prop := ∀ i, i < k → i < L → g (p + i) = f (o + i)
theorem cp_s {f g g' : Nat → Int32} {o p L k : Nat} {x : Int32} (h : cpI f g o p L k) (hx : k < L → x = f (o + k)) (hg : g' (p + k) = x) (ho : ∀ i, i < k → g' (p + i) = g (p + i)) : cpI f g' o p L (k + 1) := fun i hi hl => by
  by_cases e : i = k
  · rw [e, hg]; exact hx (by omega)
  · rw [ho i (by omega)]; exact h i (by omega) hl
theorem bxc {c k : Int32} (c0 : 0 ≤ c) (c1 : c ≤ 280000) (k0 : 0 ≤ k) (k1 : k.toNatClampNeg < 16) : (0 ≤ c + k ∧ c + k < 1200000) ∧ (c + k).toNatClampNeg = c.toNatClampNeg + k.toNatClampNeg := by
  have a := cn_int c0
  have b := cn_int k0
  have l := ti c1
  rw [show (280000 : Int32).toInt = 280000 from rfl] at l
  have e := i_add c0 k0 (by omega)
  have z : 0 ≤ c + k := Int32.le_iff_toInt_le.mpr (by rw [e, Int32.toInt_zero]; omega)
  have d := cn_int z
  exact ⟨⟨z, Int32.lt_iff_toInt_lt.mpr (by rw [e, show (1200000 : Int32).toInt = 1200000 from rfl]; omega)⟩, by omega⟩
theorem kc : (160000 : Int32).toNatClampNeg = 160000 ∧ (200000 : Int32).toNatClampNeg = 200000 ∧ (240000 : Int32).toNatClampNeg = 240000 ∧ (280000 : Int32).toNatClampNeg = 280000 := ⟨rfl, rfl, rfl, rfl⟩
theorem nl16 {σ : rS} {r : Nat} (hr : numO σ r) (h : nL σ r ≤ 16) : σ.2.2.1 91 r ≤ 16 := (cn_li hr.1 (by decide)).mpr h
theorem keepVisits_c {C : rCx} (hC : cOK C)  {σ : rS} {a1 : Int32} {Q : rS → Prop} (hp : 0 ≤ a1 ∧ a1 < 1000 ∧ numO σ 4 ∧ numO σ 5) (h : ∀ (σ' : rS), (frR 102 (34 * a1.toNatClampNeg) (34 * a1.toNatClampNeg + 34) σ σ' ∧ (nL σ 4 ≤ 16 → slN σ' 102 (34 * a1.toNatClampNeg) 16 ∧ slV σ' 102 (34 * a1.toNatClampNeg) = nV σ 4) ∧ (nL σ 5 ≤ 16 → slN σ' 102 (34 * a1.toNatClampNeg + 17) 16 ∧ slV σ' 102 (34 * a1.toNatClampNeg + 17) = nV σ 5)) → Q σ') : cV C 0 m_keepVisits [.ref (co C), .int a1] σ Q := by
  refine m_keepVisits_run hC ?_
  unfold w_keepVisits_0
  obtain ⟨h0, h1, h4, h5⟩ := hp
  have v0 := vx0 h0 h1
  have v1 := vx1 h0 h1 (j := 17) (by decide) (by decide)
  have v2 : (34 * a1 + 17).toNatClampNeg = 34 * a1.toNatClampNeg + 17 := v1.2
  intro x1 hx1
  refine ⟨ib_30.mpr ?_, ?_⟩
  · clear h; decide  -- b1
  refine ⟨ib_34000.mpr ?_, ?_⟩
  · clear h; rw [hx1]; exact v0.1  -- b2
  intro σ_2 hσ_2
  refine ⟨ib_30.mpr ?_, ?_⟩
  · clear h; decide  -- b3
  refine ⟨ib_34000.mpr ?_, ?_⟩
  · clear h; rw [hx1]; exact v1.1  -- b4
  intro σ_3 hσ_3
  unfold w_keepVisits_34
  refine ⟨fun n l2 l3 τ => n = (16 - l3).toNatClampNeg ∧ (l2 = 34 * a1 ∧ frR 102 (34 * a1.toNatClampNeg) (34 * a1.toNatClampNeg + 34) σ τ ∧ τ.2.2.1 102 (34 * a1.toNatClampNeg) = σ.2.2.1 91 4 ∧ τ.2.2.1 102 (34 * a1.toNatClampNeg + 17) = σ.2.2.1 91 5 ∧ 0 ≤ l3 ∧ l3 ≤ 16 ∧ cpI (σ.2.2.1 90) (τ.2.2.1 102) 160000 (34 * a1.toNatClampNeg + 1) (nL σ 4) l3.toNatClampNeg ∧ cpI (σ.2.2.1 90) (τ.2.2.1 102) 200000 (34 * a1.toNatClampNeg + 17 + 1) (nL σ 5) l3.toNatClampNeg), ⟨_, rfl, ?_⟩, ?_⟩
  · clear h; rw [hx1, v0.2] at hσ_2
    rw [hx1, v2] at hσ_3
    simp only [kn] at hσ_2 hσ_3
    refine ⟨hx1, frR_tr (τ := σ_2) (by rw [hσ_2]; exact frR_w (by omega) (by omega)) (by rw [hσ_3]; exact frR_w (by omega) (by omega)), ?_, ?_, by decide, by decide, fun i hi => absurd hi (Nat.not_lt_zero i), fun i hi => absurd hi (Nat.not_lt_zero i)⟩
    · rw [hσ_3, ri4, if_neg (by omega), hσ_2, ri4, if_pos rfl]
    · rw [hσ_3, ri4, if_pos rfl, hσ_2, ri3 (by decide)]
  rintro n34 x34_2 x34_3 σ34 ⟨hn34, i34⟩
  have hj108 : ∀ (l2 : Int32) (l3 : Int32) (s1 : Int32) (s2 : Int32) (τ : rS), (l2 = 34 * a1 ∧ l3 = x34_3 ∧ ¬ 16 ≤ x34_3 ∧ s1 = 34 * a1 + 18 + x34_3 ∧ (x34_3.toNatClampNeg < nL σ 5 → s2 = σ.2.2.1 90 (200000 + x34_3.toNatClampNeg)) ∧ ∃ x, (x34_3.toNatClampNeg < nL σ 4 → x = σ.2.2.1 90 (160000 + x34_3.toNatClampNeg)) ∧ τ = riU σ34 102 (34 * a1.toNatClampNeg + 1 + x34_3.toNatClampNeg) x) → w_keepVisits_108 C Q (fun l2' l3' τ => ∃ k < n34, (fun n l2 l3 τ => n = (16 - l3).toNatClampNeg ∧ (l2 = 34 * a1 ∧ frR 102 (34 * a1.toNatClampNeg) (34 * a1.toNatClampNeg + 34) σ τ ∧ τ.2.2.1 102 (34 * a1.toNatClampNeg) = σ.2.2.1 91 4 ∧ τ.2.2.1 102 (34 * a1.toNatClampNeg + 17) = σ.2.2.1 91 5 ∧ 0 ≤ l3 ∧ l3 ≤ 16 ∧ cpI (σ.2.2.1 90) (τ.2.2.1 102) 160000 (34 * a1.toNatClampNeg + 1) (nL σ 4) l3.toNatClampNeg ∧ cpI (σ.2.2.1 90) (τ.2.2.1 102) 200000 (34 * a1.toNatClampNeg + 17 + 1) (nL σ 5) l3.toNatClampNeg)) k l2' l3' τ) l2 l3 s1 s2 τ := by
    rintro y108_2 y108_3 y108_s1 y108_s2 τ108 j108
    unfold w_keepVisits_108
    obtain ⟨e2, F, c0, c1, k0, k1, P, R⟩ := i34
    obtain ⟨f2, f3, fk, fs, fx, x, gx, ft⟩ := j108
    have w := v16 k0 fk
    have s := vx h0 h1 (j := 18) (by decide) k0 (by show 18 + _ < _; omega)
    have s2 : (34 * a1 + 18 + x34_3).toNatClampNeg = 34 * a1.toNatClampNeg + 17 + 1 + x34_3.toNatClampNeg := s.2
    refine ⟨ib_34000.mpr ?_, ?_⟩
    · clear h; rw [fs]; exact s.1  -- b6
    intro σ_4 hσ_4
    intro x5 hx5
    refine ⟨_, cn_lt2 hn34 ?_ ?_, rfl, ?_⟩
    · clear h; rw [hx5, f3]; exact w.2.2.2.1  -- d7
    · clear h; rw [hx5, f3]; exact w.2.2.2.2.1  -- d8
    · clear h; rw [fs, s2] at hσ_4
      have r1 : ∀ i, τ108.2.2.1 102 i = if i = 34 * a1.toNatClampNeg + 1 + x34_3.toNatClampNeg then x else σ34.2.2.1 102 i := fun i => by rw [ft, ri4]
      have r2 : ∀ i, σ_4.2.2.1 102 i = if i = 34 * a1.toNatClampNeg + 17 + 1 + x34_3.toNatClampNeg then y108_s2 else τ108.2.2.1 102 i := fun i => by rw [hσ_4, ri4]
      refine ⟨f2, frR_tr F (frR_tr (τ := τ108) (by rw [ft]; exact frR_w (by omega) (by omega)) (by rw [hσ_4]; exact frR_w (by omega) (by omega))), by rw [r2, if_neg (by omega), r1, if_neg (by omega)]; exact c0, by rw [r2, if_neg (by omega), r1, if_neg (by omega)]; exact c1, by rw [hx5, f3]; exact w.2.1, by rw [hx5, f3]; exact w.2.2.1, ?_, ?_⟩
      · rw [hx5, f3, w.2.2.2.2.2.1]
        exact cp_s P gx (by rw [r2, if_neg (by omega), r1, if_pos rfl]) (fun i hi => by rw [r2, if_neg (by omega), r1, if_neg (by omega)])
      · rw [hx5, f3, w.2.2.2.2.2.1]
        exact cp_s R fx (by rw [r2, if_pos rfl]) (fun i hi => by rw [r2, if_neg (by omega), r1, if_neg (by omega)])
  have hj73 : ∀ (l2 : Int32) (l3 : Int32) (s1 : Int32) (s2 : Int32) (τ : rS), (τ = σ34 ∧ l2 = 34 * a1 ∧ l3 = x34_3 ∧ ¬ 16 ≤ x34_3 ∧ s1 = 34 * a1 + 1 + x34_3 ∧ (x34_3.toNatClampNeg < nL σ 4 → s2 = σ.2.2.1 90 (160000 + x34_3.toNatClampNeg))) → w_keepVisits_73 C Q (fun l2' l3' τ => ∃ k < n34, (fun n l2 l3 τ => n = (16 - l3).toNatClampNeg ∧ (l2 = 34 * a1 ∧ frR 102 (34 * a1.toNatClampNeg) (34 * a1.toNatClampNeg + 34) σ τ ∧ τ.2.2.1 102 (34 * a1.toNatClampNeg) = σ.2.2.1 91 4 ∧ τ.2.2.1 102 (34 * a1.toNatClampNeg + 17) = σ.2.2.1 91 5 ∧ 0 ≤ l3 ∧ l3 ≤ 16 ∧ cpI (σ.2.2.1 90) (τ.2.2.1 102) 160000 (34 * a1.toNatClampNeg + 1) (nL σ 4) l3.toNatClampNeg ∧ cpI (σ.2.2.1 90) (τ.2.2.1 102) 200000 (34 * a1.toNatClampNeg + 17 + 1) (nL σ 5) l3.toNatClampNeg)) k l2' l3' τ) l2 l3 s1 s2 τ := by
    rintro y73_2 y73_3 y73_s1 y73_s2 τ73 j73
    unfold w_keepVisits_73
    obtain ⟨e2, F, c0, c1, k0, k1, P, R⟩ := i34
    obtain ⟨ft, f2, f3, fk, fs, fx⟩ := j73
    have w := v16 k0 fk
    have s := vx h0 h1 (j := 1) (by decide) k0 (by show 1 + _ < _; omega)
    have s2 : (34 * a1 + 1 + x34_3).toNatClampNeg = 34 * a1.toNatClampNeg + 1 + x34_3.toNatClampNeg := s.2
    refine ⟨ib_34000.mpr ?_, ?_⟩
    · clear h; rw [fs]; exact s.1  -- b10
    intro σ_6 hσ_6
    refine ⟨ib_30.mpr ?_, ?_⟩
    · clear h; decide  -- b11
    rw [fs, s2, ft] at hσ_6
    have r91 : σ_6.2.2.1 91 = σ.2.2.1 91 := by rw [hσ_6, ri3 (by decide)]; exact F.2.2.1 91 (by decide)
    have r90 : σ_6.2.2.1 90 = σ.2.2.1 90 := by rw [hσ_6, ri3 (by decide)]; exact F.2.2.1 90 (by decide)
    have lc := cn_li (x := σ.2.2.1 91 5) (y := x34_3) h5.1 k0
    have bc := bxc (c := 200000) (by decide) (by decide) k0 w.1
    refine ⟨fun c7 => ?_, fun c7 => ?_⟩
    · skip
      refine hj108 _ _ _ _ _ ?_
      · clear h; simp only [kn] at c7
        rw [r91, f3, lc] at c7
        exact ⟨f2, f3, fk, by rw [f2, f3], fun z => absurd z (Nat.not_lt.mpr c7), _, fx, hσ_6⟩
    · skip
      refine ⟨ib_1200000.mpr ?_, ?_⟩
      · clear h; rw [f3]; exact bc.1  -- b13
      refine hj108 _ _ _ _ _ ?_
      · clear h; refine ⟨f2, f3, fk, by rw [f2, f3], fun _ => ?_, _, fx, hσ_6⟩
        rw [f3, bc.2, r90, kc.2.1]
  obtain ⟨e2, F, c0, c1, k0, k1, P, R⟩ := i34
  have r91 : σ34.2.2.1 91 = σ.2.2.1 91 := F.2.2.1 91 (by decide)
  have r90 : σ34.2.2.1 90 = σ.2.2.1 90 := F.2.2.1 90 (by decide)
  refine ⟨fun c8 => ?_, fun c8 => ?_⟩
  · skip
    refine h _ ?_
    · clear h; have n16 := (cn_li (x := 16) (by decide) k0).mp c8
      rw [show (16 : Int32).toNatClampNeg = 16 from rfl] at n16
      refine ⟨F, fun l => ?_, fun l => ?_⟩
      · exact gO_c (m := 40000) (o := 160000) h4 c0 (nl16 h4 l) (fun i hi => P i (by have z : i < nL σ 4 := hi; omega) hi)
      · exact gO_c (m := 40000) (o := 200000) h5 c1 (nl16 h5 l) (fun i hi => R i (by have z : i < nL σ 5 := hi; omega) hi)
  · skip
    have w := v16 k0 c8
    have lc := cn_li (x := σ.2.2.1 91 4) (y := x34_3) h4.1 k0
    have bc := bxc (c := 160000) (by decide) (by decide) k0 w.1
    refine ⟨ib_30.mpr ?_, ?_⟩
    · clear h; decide  -- b16
    refine ⟨fun c9 => ?_, fun c9 => ?_⟩
    · skip
      refine hj73 _ _ _ _ _ ?_
      · clear h; simp only [kn] at c9
        rw [r91, lc] at c9
        exact ⟨rfl, e2, rfl, c8, by rw [e2], fun z => absurd z (Nat.not_lt.mpr c9)⟩
    · skip
      refine ⟨ib_1200000.mpr ?_, ?_⟩
      · clear h; exact bc.1  -- b18
      refine hj73 _ _ _ _ _ ?_
      · clear h; refine ⟨rfl, e2, rfl, c8, by rw [e2], fun _ => ?_⟩
        rw [bc.2, r90, kc.1]

theorem loadVisits_c {C : rCx} (hC : cOK C)  {σ : rS} {a1 : Int32} {Q : rS → Prop} (hp : 0 ≤ a1 ∧ a1 < 1000 ∧ slN σ 102 (34 * a1.toNatClampNeg) 16 ∧ slN σ 102 (34 * a1.toNatClampNeg + 17) 16) (h : ∀ (σ' : rS), (frN [6, 7] σ σ' ∧ numO σ' 6 ∧ numO σ' 7 ∧ nV σ' 6 = slV σ 102 (34 * a1.toNatClampNeg) ∧ nV σ' 7 = slV σ 102 (34 * a1.toNatClampNeg + 17) ∧ nL σ' 6 ≤ 16 ∧ nL σ' 7 ≤ 16) → Q σ') : cV C 0 m_loadVisits [.ref (co C), .int a1] σ Q := by
  refine m_loadVisits_run hC ?_
  unfold w_loadVisits_0
  obtain ⟨h0, h1, hn, hd⟩ := hp
  have v0 := vx0 h0 h1
  have v1 := vx1 h0 h1 (j := 17) (by decide) (by decide)
  have v2 : (34 * a1 + 17).toNatClampNeg = 34 * a1.toNatClampNeg + 17 := v1.2
  have ln : (σ.2.2.1 102 (34 * a1.toNatClampNeg)).toNatClampNeg ≤ 16 := (cn_li hn.1 (by decide)).mp hn.2.1
  have ld : (σ.2.2.1 102 (34 * a1.toNatClampNeg + 17)).toNatClampNeg ≤ 16 := (cn_li hd.1 (by decide)).mp hd.2.1
  intro x1 hx1
  refine ⟨ib_34000.mpr ?_, ?_⟩
  · clear h; rw [hx1]; exact v0.1  -- b1
  refine ⟨ib_30.mpr ?_, ?_⟩
  · clear h; decide  -- b2
  intro σ_2 hσ_2
  refine ⟨ib_34000.mpr ?_, ?_⟩
  · clear h; rw [hx1]; exact v1.1  -- b3
  refine ⟨ib_30.mpr ?_, ?_⟩
  · clear h; decide  -- b4
  intro σ_3 hσ_3
  unfold w_loadVisits_36
  refine ⟨fun n l2 l3 τ => n = (16 - l3).toNatClampNeg ∧ (l2 = 34 * a1 ∧ frN [6, 7] σ τ ∧ τ.2.2.1 91 6 = σ.2.2.1 102 (34 * a1.toNatClampNeg) ∧ τ.2.2.1 91 7 = σ.2.2.1 102 (34 * a1.toNatClampNeg + 17) ∧ 0 ≤ l3 ∧ l3 ≤ 16 ∧ cpI (σ.2.2.1 102) (τ.2.2.1 90) (34 * a1.toNatClampNeg + 1) 240000 16 l3.toNatClampNeg ∧ cpI (σ.2.2.1 102) (τ.2.2.1 90) (34 * a1.toNatClampNeg + 17 + 1) 280000 16 l3.toNatClampNeg), ⟨_, rfl, ?_⟩, ?_⟩
  · clear h; rw [hx1, v0.2] at hσ_2
    rw [hx1, v2] at hσ_3
    simp only [kn] at hσ_2 hσ_3
    refine ⟨hx1, frN_tr (τ := σ_2) (frN_mono (l := [6]) (by rw [hσ_2]; exact frN_91) (sub_of rfl)) (frN_mono (l := [7]) (by rw [hσ_3]; exact frN_91) (sub_of rfl)), ?_, ?_, by decide, by decide, fun i hi => absurd hi (Nat.not_lt_zero i), fun i hi => absurd hi (Nat.not_lt_zero i)⟩
    · rw [hσ_3, ri4, if_neg (by decide), hσ_2, ri4, if_pos rfl]
    · rw [hσ_3, ri4, if_pos rfl, hσ_2, ri3 (by decide)]
  rintro n36 x36_2 x36_3 σ36 ⟨hn36, i36⟩
  obtain ⟨e2, F, c0, c1, k0, k1, P, R⟩ := i36
  have t102 : σ36.2.2.1 102 = σ.2.2.1 102 := F.2.2.1 102 (by decide) (by decide)
  refine ⟨fun c4 => ?_, fun c4 => ?_⟩
  · skip
    refine h _ ?_
    · clear h; have n16 := (cn_li (x := 16) (by decide) k0).mp c4
      rw [show (16 : Int32).toNatClampNeg = 16 from rfl] at n16
      have N := gO_c (m' := 40000) (p := 240000) hn c0 (Int32.le_trans hn.2.1 (by decide)) (fun i hi => P i (by omega) (by omega))
      have D := gO_c (m' := 40000) (p := 280000) hd c1 (Int32.le_trans hd.2.1 (by decide)) (fun i hi => R i (by omega) (by omega))
      refine ⟨F, N.1, D.1, N.2, D.2, ?_, ?_⟩
      · show (σ36.2.2.1 91 6).toNatClampNeg ≤ 16
        rw [c0]; exact ln
      · show (σ36.2.2.1 91 7).toNatClampNeg ≤ 16
        rw [c1]; exact ld
  · skip
    have w := v16 k0 c4
    have s := vx h0 h1 (j := 1) (by decide) k0 (by show 1 + _ < _; omega)
    have s2 : (34 * a1 + 1 + x36_3).toNatClampNeg = 34 * a1.toNatClampNeg + 1 + x36_3.toNatClampNeg := s.2
    have s' := vx h0 h1 (j := 18) (by decide) k0 (by show 18 + _ < _; omega)
    have s3 : (34 * a1 + 18 + x36_3).toNatClampNeg = 34 * a1.toNatClampNeg + 17 + 1 + x36_3.toNatClampNeg := s'.2
    have bc := bxc (c := 240000) (by decide) (by decide) k0 w.1
    have bd := bxc (c := 280000) (by decide) (by decide) k0 w.1
    have b2 : (240000 + x36_3).toNatClampNeg = 40000 * 6 + x36_3.toNatClampNeg := bc.2
    have b3 : (280000 + x36_3).toNatClampNeg = 40000 * 7 + x36_3.toNatClampNeg := bd.2
    refine ⟨ib_34000.mpr ?_, ?_⟩
    · clear h; rw [e2]; exact s.1  -- b7
    refine ⟨ib_1200000.mpr ?_, ?_⟩
    · clear h; exact bc.1  -- b8
    intro σ_5 hσ_5
    refine ⟨ib_34000.mpr ?_, ?_⟩
    · clear h; rw [e2]; exact s'.1  -- b9
    refine ⟨ib_1200000.mpr ?_, ?_⟩
    · clear h; exact bd.1  -- b10
    intro σ_6 hσ_6
    intro x7 hx7
    refine ⟨_, cn_lt2 hn36 ?_ ?_, rfl, ?_⟩
    · clear h; rw [hx7]; exact w.2.2.2.1  -- d11
    · clear h; rw [hx7]; exact w.2.2.2.2.1  -- d12
    · clear h; rw [b2, e2, s2, t102] at hσ_5
      have u102 : σ_5.2.2.1 102 = σ.2.2.1 102 := by rw [hσ_5, ri3 (by decide)]; exact t102
      rw [b3, e2, s3, u102] at hσ_6
      have r1 : ∀ i, σ_5.2.2.1 90 i = if i = 40000 * 6 + x36_3.toNatClampNeg then σ.2.2.1 102 (34 * a1.toNatClampNeg + 1 + x36_3.toNatClampNeg) else σ36.2.2.1 90 i := fun i => by rw [hσ_5, ri4]
      have r2 : ∀ i, σ_6.2.2.1 90 i = if i = 40000 * 7 + x36_3.toNatClampNeg then σ.2.2.1 102 (34 * a1.toNatClampNeg + 17 + 1 + x36_3.toNatClampNeg) else σ_5.2.2.1 90 i := fun i => by rw [hσ_6, ri4]
      have r91 : σ_6.2.2.1 91 = σ36.2.2.1 91 := by rw [hσ_6, ri3 (by decide), hσ_5, ri3 (by decide)]
      refine ⟨e2, frN_tr F (frN_tr (τ := σ_5) (frN_mono (l := [6]) (by rw [hσ_5]; exact frN_90 (by omega)) (sub_of rfl)) (frN_mono (l := [7]) (by rw [hσ_6]; exact frN_90 (by omega)) (sub_of rfl))), by rw [r91]; exact c0, by rw [r91]; exact c1, by rw [hx7]; exact w.2.1, by rw [hx7]; exact w.2.2.1, ?_, ?_⟩
      · rw [hx7, w.2.2.2.2.2.1]
        exact cp_s P (fun _ => rfl) (by rw [r2, if_neg (by omega), r1, if_pos (by omega)]) (fun i hi => by rw [r2, if_neg (by omega), r1, if_neg (by omega)])
      · rw [hx7, w.2.2.2.2.2.1]
        exact cp_s R (fun _ => rfl) (by rw [r2, if_pos (by omega)]) (fun i hi => by rw [r2, if_neg (by omega), r1, if_neg (by omega)])
