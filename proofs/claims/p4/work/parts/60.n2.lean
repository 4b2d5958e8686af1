set_option maxHeartbeats 1600000
/-! the reference: numbers compared -/
theorem cm_b {l n : Int32} (h : ¬ l < 0) (h2 : l < n) (hn : n ≤ 40000) : 0 ≤ l ∧ l ≤ 40000 ∧ l < 40000 ∧ -1 ≤ l + -1 ∧ l + -1 < n ∧ 0 ≤ l + -1 + 1 ∧ l + -1 + 1 < l + 1 ∧ l + -1 + 1 = l ∧ l < 1000000 := by grind
theorem cm_0 {n : Int32} (h : 0 ≤ n) (hn : n ≤ 40000) : -1 ≤ n - 1 ∧ n - 1 < n ∧ n - 1 + 1 = n := by grind
theorem cm_1 {l : Int32} (h : l < 0) (h2 : -1 ≤ l) : l + 1 = 0 := by grind
theorem dg_d {x y d : Int32} (hx : 0 ≤ x ∧ x < 65536) (hy : 0 ≤ y ∧ y < 65536) (hd : d = x - y) : (d = 0 → x = y) ∧ (¬ d = 0 → 0 ≤ d → y < x) ∧ (¬ 0 ≤ d → x < y) := by grind
theorem compare_c {C : rCx} (hC : cOK C)  {σ : rS} {a1 : Int32} {a2 : Int32} {Q : Int32 → rS → Prop} (hp : 0 ≤ a1 ∧ a1 < 30 ∧ 0 ≤ a2 ∧ a2 < 30 ∧ numO σ a1.toNatClampNeg ∧ numO σ a2.toNatClampNeg) (h : ∀ (v : Int32), ((v = 0 ∧ nV σ a1.toNatClampNeg = nV σ a2.toNatClampNeg) ∨ (v = 1 ∧ nV σ a2.toNatClampNeg < nV σ a1.toNatClampNeg) ∨ (v = -1 ∧ nV σ a1.toNatClampNeg < nV σ a2.toNatClampNeg)) → Q v σ) : cI C 0 m_compare [.ref (co C), .int a1, .int a2] σ Q := by
  refine m_compare_run hC ?_
  unfold w_compare_0
  obtain ⟨h0, h1, h2, h3, hr, hs⟩ := hp
  refine ⟨ib_30.mpr ?_, ?_⟩
  · clear h; exact ⟨h0, h1⟩  -- b1
  refine ⟨ib_30.mpr ?_, ?_⟩
  · clear h; exact ⟨h2, h3⟩  -- b2
  refine ⟨fun c1 => ?_, fun c1 => ?_⟩
  · skip
    refine ⟨ib_30.mpr ?_, ?_⟩
    · clear h; exact ⟨h0, h1⟩  -- b3
    intro x2 hx2
    unfold w_compare_45
    refine ⟨fun n l1 l2 l3 τ => n = (l3 + 1).toNatClampNeg ∧ (σ = τ ∧ l1 = a1 ∧ l2 = a2 ∧ rd σ 91 a1 = rd σ 91 a2 ∧ -1 ≤ l3 ∧ l3 < rd σ 91 a1 ∧ (∀ i, (l3 + 1).toNatClampNeg ≤ i → i < nL σ a1.toNatClampNeg → σ.2.2.1 90 (40000 * a1.toNatClampNeg + i) = σ.2.2.1 90 (40000 * a2.toNatClampNeg + i))), ⟨_, rfl, ?_⟩, ?_⟩
    · clear h; have z := cm_0 hr.1 hr.2.1
      have e : x2 + 1 = rd σ 91 a1 := by rw [hx2]; exact z.2.2
      exact ⟨rfl, rfl, rfl, c1, by rw [hx2]; exact z.1, by rw [hx2]; exact z.2.1, fun i hi hj => absurd hj (Nat.not_lt.mpr (by rw [e] at hi; exact hi))⟩
    rintro n45 x45_1 x45_2 x45_3 _ ⟨hn45, rfl, i45⟩
    obtain ⟨e1, e2, g1, g2, g3, g4⟩ := i45
    rw [e1, e2]
    have el : nL σ a1.toNatClampNeg = nL σ a2.toNatClampNeg := by show (rd σ 91 a1).toNatClampNeg = (rd σ 91 a2).toNatClampNeg; rw [g1]
    refine ⟨fun c3 => ?_, fun c3 => ?_⟩
    · skip
      refine h _ ?_
      · clear h; refine Or.inl ⟨rfl, ?_⟩
        have z := cm_1 c3 g2
        rw [z] at g4
        unfold nV
        rw [← el]
        exact dv_congr (fun i hi => g4 i (Nat.zero_le _) hi)
    · skip
      have cb := cm_b c3 g3 hr.2.1
      have ba := bx h0 h1 cb.1 cb.2.1
      have bb := bx h2 h3 cb.1 cb.2.1
      have il : x45_3.toNatClampNeg < nL σ a1.toNatClampNeg := cn_lt cb.1 g3
      have dx := hr.2.2.1 _ il
      have dy := hs.2.2.1 _ (by rw [← el]; exact il)
      have cs := cn_succ cb.1 cb.2.2.2.2.2.2.2.2
      refine ⟨ib_1200000.mpr ?_, ?_⟩
      · clear h; exact ⟨ba.1, ba.2.2.1 cb.2.2.1⟩  -- b6
      refine ⟨ib_1200000.mpr ?_, ?_⟩
      · clear h; exact ⟨bb.1, bb.2.2.1 cb.2.2.1⟩  -- b7
      intro x4 hx4
      rw [ba.2.1, bb.2.1] at hx4
      have dd := dg_d dx dy hx4
      refine ⟨fun c5 => ?_, fun c5 => ?_⟩
      · skip
        intro x6 hx6
        refine ⟨_, cn_lt2 hn45 ?_ ?_, rfl, ?_⟩
        · clear h; rw [hx6]; exact cb.2.2.2.2.2.1  -- d8
        · clear h; rw [hx6]; exact cb.2.2.2.2.2.2.1  -- d9
        · clear h; refine ⟨rfl, rfl, rfl, g1, by rw [hx6]; exact cb.2.2.2.1, by rw [hx6]; exact cb.2.2.2.2.1, fun i hi hj => ?_⟩
          rw [hx6, cb.2.2.2.2.2.2.2.1] at hi
          by_cases z : i = x45_3.toNatClampNeg
          · rw [z]; exact dd.1 c5
          · exact g4 i (by rw [cs]; omega) hj
      · skip
        refine ⟨fun c7 => ?_, fun c7 => ?_⟩
        · skip
          refine h _ ?_
          · clear h; refine Or.inr (Or.inl ⟨rfl, ?_⟩)
            unfold nV
            rw [← el]
            exact dv_cmp (by rw [el]; exact hs.2.2.1) il (fun i h1' h2' => (g4 i (by rw [cs]; omega) h2').symm) (cn_lt dy.1 (dd.2.1 c5 c7))
        · skip
          refine h _ ?_
          · clear h; refine Or.inr (Or.inr ⟨rfl, ?_⟩)
            unfold nV
            rw [← el]
            exact dv_cmp hr.2.2.1 il (fun i h1' h2' => g4 i (by rw [cs]; omega) h2') (cn_lt dx.1 (dd.2.2 c7))
  · skip
    refine ⟨ib_30.mpr ?_, ?_⟩
    · clear h; exact ⟨h0, h1⟩  -- b13
    refine ⟨ib_30.mpr ?_, ?_⟩
    · clear h; exact ⟨h2, h3⟩  -- b14
    refine ⟨fun c8 => ?_, fun c8 => ?_⟩
    · skip
      refine h _ ?_
      · clear h; refine Or.inr (Or.inl ⟨rfl, nV_len hs hr ?_⟩)
        exact cn_lt hs.1 (Int32.lt_of_le_of_ne c8 (fun e => c1 e.symm))
    · skip
      refine h _ ?_
      · clear h; refine Or.inr (Or.inr ⟨rfl, nV_len hr hs ?_⟩)
        exact cn_lt hr.1 (Int32.not_le.mp c8)
