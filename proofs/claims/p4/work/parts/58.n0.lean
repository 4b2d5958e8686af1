set_option maxHeartbeats 1600000
/-! the reference: numbers of many places -/
theorem cn_nat {x : Int32} {n : Nat} (h : x.toInt = n) : x.toNatClampNeg = n := by
  have : x.toNatClampNeg = x.toInt.toNat := rfl
  omega
theorem cn_int {x : Int32} (h : 0 ≤ x) : (x.toNatClampNeg : Int) = x.toInt := by
  have e : x.toNatClampNeg = x.toInt.toNat := rfl
  have h0 := Int32.le_iff_toInt_le.mp h
  rw [Int32.toInt_zero] at h0
  omega
/-- the place k of number a in the long row -/
theorem bx {a k : Int32} (h0 : 0 ≤ a) (h1 : a < 30) (h2 : 0 ≤ k) (h3 : k ≤ 40000) : 0 ≤ 40000 * a + k ∧ (40000 * a + k).toNatClampNeg = 40000 * a.toNatClampNeg + k.toNatClampNeg ∧ (k < 40000 → 40000 * a + k < 1200000) ∧ 40000 * a + k ≤ 1200000 := by
  have a0 := Int32.le_iff_toInt_le.mp h0
  have a1 := Int32.lt_iff_toInt_lt.mp h1
  have k0 := Int32.le_iff_toInt_le.mp h2
  have k1 := Int32.le_iff_toInt_le.mp h3
  rw [Int32.toInt_zero] at a0 k0
  rw [show (30 : Int32).toInt = 30 from rfl] at a1
  rw [show (40000 : Int32).toInt = 40000 from rfl] at k1
  have m : (40000 * a).toInt = 40000 * a.toInt := by
    rw [Int32.toInt_mul, show (40000 : Int32).toInt = 40000 from rfl, Int.bmod_eq_of_le] <;> omega
  have m0 : 0 ≤ 40000 * a := by rw [Int32.le_iff_toInt_le, Int32.toInt_zero, m]; omega
  have s : (40000 * a + k).toInt = 40000 * a.toInt + k.toInt := by rw [i_add m0 h2 (by omega), m]
  have ca := cn_int h0
  have ck := cn_int h2
  refine ⟨by rw [Int32.le_iff_toInt_le, Int32.toInt_zero, s]; omega, cn_nat (by rw [s]; omega), fun h => ?_, ?_⟩
  · have := Int32.lt_iff_toInt_lt.mp h
    rw [show (40000 : Int32).toInt = 40000 from rfl] at this
    rw [Int32.lt_iff_toInt_lt, s, show (1200000 : Int32).toInt = 1200000 from rfl]; omega
  · rw [Int32.le_iff_toInt_le, s, show (1200000 : Int32).toInt = 1200000 from rfl]; omega
theorem sub_a {a b : Int32} : a + b - 1 = a + (b - 1) := by grind
theorem pos_m {x : Int32} (h : ¬ x ≤ 0) (h2 : x ≤ 40000) : 0 ≤ x - 1 ∧ x - 1 < 40000 ∧ x - 1 ≤ 40000 ∧ x - 1 < x ∧ 0 < x ∧ x < 1000000 ∧ x - 1 ≤ x := by grind
theorem cp_b {l n : Int32} (h0 : 0 ≤ l) (h : ¬ n ≤ l) (hn : n ≤ 40000) : 0 ≤ l + 1 ∧ l + 1 ≤ n ∧ n - (l + 1) < n - l ∧ 0 ≤ n - (l + 1) ∧ l < 40000 ∧ l ≤ 40000 ∧ l < 1000000 ∧ l < n := by grind
theorem trim_c {C : rCx} (hC : cOK C)  {σ : rS} {a1 : Int32} {Q : rS → Prop} (hp : 0 ≤ a1 ∧ a1 < 30 ∧ 0 ≤ rd σ 91 a1 ∧ rd σ 91 a1 ≤ 40000) (h : ∀ (σ' : rS), (((∀ k,  σ'.1 k = σ.1 k) ∧ (∀ k,  σ'.2.1 k = σ.2.1 k) ∧ (∀ k, k ≠ 91 → σ'.2.2.1 k = σ.2.2.1 k) ∧ (∀ k j, k ≠ 91 → σ'.2.2.1 k j = σ.2.2.1 k j) ∧ (∀ k j,  σ'.2.2.2 k j = σ.2.2.2 k j)) ∧ (∀ k, k ≠ a1.toNatClampNeg → σ'.2.2.1 91 k = σ.2.2.1 91 k) ∧ 0 ≤ rd σ' 91 a1 ∧ rd σ' 91 a1 ≤ rd σ 91 a1 ∧ (∀ i, (rd σ' 91 a1).toNatClampNeg ≤ i → i < (rd σ 91 a1).toNatClampNeg → σ.2.2.1 90 (40000 * a1.toNatClampNeg + i) = 0) ∧ (rd σ' 91 a1 ≤ 0 ∨ σ.2.2.1 90 (40000 * a1.toNatClampNeg + (rd σ' 91 a1 - 1).toNatClampNeg) ≠ 0)) → Q σ') : cV C 0 m_trim [.ref (co C), .int a1] σ Q := by
  refine m_trim_run hC ?_
  obtain ⟨h0, h1, h2, h3⟩ := hp
  unfold w_trim_0
  refine ⟨fun n l1 τ => n = (rd τ 91 a1).toNatClampNeg ∧ (l1 = a1 ∧ ((∀ k,  τ.1 k = σ.1 k) ∧ (∀ k,  τ.2.1 k = σ.2.1 k) ∧ (∀ k, k ≠ 91 → τ.2.2.1 k = σ.2.2.1 k) ∧ (∀ k j, k ≠ 91 → τ.2.2.1 k j = σ.2.2.1 k j) ∧ (∀ k j,  τ.2.2.2 k j = σ.2.2.2 k j)) ∧ (∀ k, k ≠ a1.toNatClampNeg → τ.2.2.1 91 k = σ.2.2.1 91 k) ∧ 0 ≤ rd τ 91 a1 ∧ rd τ 91 a1 ≤ rd σ 91 a1 ∧ (∀ i, (rd τ 91 a1).toNatClampNeg ≤ i → i < (rd σ 91 a1).toNatClampNeg → σ.2.2.1 90 (40000 * a1.toNatClampNeg + i) = 0)), ⟨_, rfl, ?_⟩, ?_⟩
  · clear h; exact ⟨rfl, ⟨fun _ => rfl, fun _ => rfl, fun _ _ => rfl, fun _ _ _ => rfl, fun _ _ => rfl⟩, fun _ _ => rfl, h2, Int32.le_refl _, fun i hi hj => absurd hj (Nat.not_lt.mpr hi)⟩  -- j1
  rintro n0 x0_1 σ0 ⟨hn0, i0⟩
  obtain ⟨e1, g1, g2, g3, g4, g5⟩ := i0
  rw [e1]
  refine ⟨ib_30.mpr ?_, ?_⟩
  · clear h; exact ⟨h0, h1⟩  -- b2
  refine ⟨fun c1 => ?_, fun c1 => ?_⟩
  · skip
    refine h _ ?_
    · clear h; exact ⟨g1, g2, g3, g4, g5, Or.inl c1⟩  -- q3
  · skip
    refine ⟨ib_30.mpr ?_, ?_⟩
    · clear h; exact ⟨h0, h1⟩  -- b4
    have pm := pos_m c1 (Int32.le_trans g4 h3)
    have bb := bx h0 h1 pm.1 pm.2.2.1
    have r90 : σ0.2.2.1 90 = σ.2.2.1 90 := g1.2.2.1 90 (by decide)
    refine ⟨ib_1200000.mpr ?_, ?_⟩
    · clear h; rw [sub_a]; exact ⟨bb.1, bb.2.2.1 pm.2.1⟩  -- b5
    refine ⟨fun c2 => ?_, fun c2 => ?_⟩
    · skip
      refine h _ ?_
      · clear h; rw [sub_a, bb.2.1, r90] at c2
        exact ⟨g1, g2, g3, g4, g5, Or.inr c2⟩
    · skip
      refine ⟨ib_30.mpr ?_, ?_⟩
      · clear h; exact ⟨h0, h1⟩  -- b7
      refine ⟨ib_30.mpr ?_, ?_⟩
      · clear h; exact ⟨h0, h1⟩  -- b8
      intro σ_3 hσ_3
      refine ⟨_, cn_lt2 hn0 ?_ ?_, rfl, ?_⟩
      · clear h; have e : rd σ_3 91 a1 = rd σ0 91 a1 - 1 := by rw [rd, hσ_3, ri4, if_pos rfl]
        rw [e]; exact pm.1
      · clear h; have e : rd σ_3 91 a1 = rd σ0 91 a1 - 1 := by rw [rd, hσ_3, ri4, if_pos rfl]
        rw [e]; exact pm.2.2.2.1
      · clear h; have e : rd σ_3 91 a1 = rd σ0 91 a1 - 1 := by rw [rd, hσ_3, ri4, if_pos rfl]
        rw [sub_a, bb.2.1, r90] at c2
        refine ⟨rfl, ⟨fun k => by rw [hσ_3, ri1]; exact g1.1 k, fun k => by rw [hσ_3, ri2]; exact g1.2.1 k, fun k z => by rw [hσ_3, ri3 z]; exact g1.2.2.1 k z, fun k j z => by rw [hσ_3, ri3 z]; exact g1.2.2.2.1 k j z, fun k j => by rw [hσ_3, ri5]; exact g1.2.2.2.2 k j⟩, fun k hk => by rw [hσ_3, ri4, if_neg hk]; exact g2 k hk, by rw [e]; exact pm.1, by rw [e]; exact Int32.le_trans pm.2.2.2.2.2.2 g4, fun i hi hj => ?_⟩
        rw [e] at hi
        have cp : (rd σ0 91 a1).toNatClampNeg = (rd σ0 91 a1 - 1).toNatClampNeg + 1 := cn_pred pm.2.2.2.2.1 pm.2.2.2.2.2.1
        by_cases z : i = (rd σ0 91 a1 - 1).toNatClampNeg
        · rw [z]; exact c2
        · exact g5 i (by omega) hj

theorem copy_c {C : rCx} (hC : cOK C)  {σ : rS} {a1 : Int32} {a2 : Int32} {Q : rS → Prop} (hp : 0 ≤ a1 ∧ a1 < 30 ∧ 0 ≤ a2 ∧ a2 < 30 ∧ a1 ≠ a2 ∧ 0 ≤ rd σ 91 a2 ∧ rd σ 91 a2 ≤ 40000) (h : ∀ (σ' : rS), (((∀ k,  σ'.1 k = σ.1 k) ∧ (∀ k,  σ'.2.1 k = σ.2.1 k) ∧ (∀ k, k ≠ 90 → k ≠ 91 → σ'.2.2.1 k = σ.2.2.1 k) ∧ (∀ k j, k ≠ 90 → k ≠ 91 → σ'.2.2.1 k j = σ.2.2.1 k j) ∧ (∀ k j,  σ'.2.2.2 k j = σ.2.2.2 k j)) ∧ (∀ k, k ≠ a1.toNatClampNeg → σ'.2.2.1 91 k = σ.2.2.1 91 k) ∧ rd σ' 91 a1 = rd σ 91 a2 ∧ (∀ i, i < (rd σ 91 a2).toNatClampNeg → σ'.2.2.1 90 (40000 * a1.toNatClampNeg + i) = σ.2.2.1 90 (40000 * a2.toNatClampNeg + i)) ∧ (∀ j, (j < 40000 * a1.toNatClampNeg ∨ 40000 * a1.toNatClampNeg + 40000 ≤ j) → σ'.2.2.1 90 j = σ.2.2.1 90 j)) → Q σ') : cV C 0 m_copy [.ref (co C), .int a1, .int a2] σ Q := by
  refine m_copy_run hC ?_
  unfold w_copy_0
  obtain ⟨h0, h1, h2, h3, hne, h4, h5⟩ := hp
  unfold w_copy_2
  refine ⟨fun n l1 l2 l3 τ => n = (rd σ 91 a2 - l3).toNatClampNeg ∧ (l1 = a1 ∧ l2 = a2 ∧ ((∀ k,  τ.1 k = σ.1 k) ∧ (∀ k,  τ.2.1 k = σ.2.1 k) ∧ (∀ k, k ≠ 90 → τ.2.2.1 k = σ.2.2.1 k) ∧ (∀ k j, k ≠ 90 → τ.2.2.1 k j = σ.2.2.1 k j) ∧ (∀ k j,  τ.2.2.2 k j = σ.2.2.2 k j)) ∧ 0 ≤ l3 ∧ l3 ≤ rd σ 91 a2 ∧ (∀ i, i < l3.toNatClampNeg → τ.2.2.1 90 (40000 * a1.toNatClampNeg + i) = σ.2.2.1 90 (40000 * a2.toNatClampNeg + i)) ∧ (∀ j, (j < 40000 * a1.toNatClampNeg ∨ 40000 * a1.toNatClampNeg + 40000 ≤ j) → τ.2.2.1 90 j = σ.2.2.1 90 j)), ⟨_, rfl, ?_⟩, ?_⟩
  · clear h; exact ⟨rfl, rfl, ⟨fun _ => rfl, fun _ => rfl, fun _ _ => rfl, fun _ _ _ => rfl, fun _ _ => rfl⟩, by decide, h4, fun i hi => absurd hi (Nat.not_lt_zero i), fun _ _ => rfl⟩  -- j1
  rintro n2 x2_1 x2_2 x2_3 σ2 ⟨hn2, i2⟩
  obtain ⟨e1, e2, g1, g2, g3, g4, g5⟩ := i2
  rw [e1, e2]
  have e91 : σ2.2.2.1 91 = σ.2.2.1 91 := g1.2.2.1 91 (by decide)
  refine ⟨ib_30.mpr ?_, ?_⟩
  · clear h; exact ⟨h2, h3⟩  -- b2
  refine ⟨fun c1 => ?_, fun c1 => ?_⟩
  · skip
    refine ⟨ib_30.mpr ?_, ?_⟩
    · clear h; exact ⟨h2, h3⟩  -- b3
    refine ⟨ib_30.mpr ?_, ?_⟩
    · clear h; exact ⟨h0, h1⟩  -- b4
    intro σ_2 hσ_2
    refine h _ ?_
    · clear h; rw [e91] at c1
      have el : x2_3 = rd σ 91 a2 := sw_e g3 c1
      rw [el] at g4
      refine ⟨⟨fun k => by rw [hσ_2, ri1]; exact g1.1 k, fun k => by rw [hσ_2, ri2]; exact g1.2.1 k, fun k z1 z2 => by rw [hσ_2, ri3 z2]; exact g1.2.2.1 k z1, fun k j z1 z2 => by rw [hσ_2, ri3 z2]; exact g1.2.2.2.1 k j z1, fun k j => by rw [hσ_2, ri5]; exact g1.2.2.2.2 k j⟩, fun k hk => by rw [hσ_2, ri4, if_neg hk, e91], by rw [rd, hσ_2, ri4, if_pos rfl, e91], fun i hi => by rw [hσ_2, ri3 (by decide)]; exact g4 i hi, fun j hj => by rw [hσ_2, ri3 (by decide)]; exact g5 j hj⟩
  · skip
    rw [e91] at c1
    have su := cp_b g2 c1 h5
    have ba := bx h0 h1 g2 su.2.2.2.2.2.1
    have bb := bx h2 h3 g2 su.2.2.2.2.2.1
    have cl : x2_3.toNatClampNeg < 40000 := Nat.lt_of_lt_of_eq (cn_lt g2 su.2.2.2.2.1) rfl
    have cne : a1.toNatClampNeg ≠ a2.toNatClampNeg := fun e => hne (cn_inj h0 h2 e)
    refine ⟨ib_1200000.mpr ?_, ?_⟩
    · clear h; exact ⟨bb.1, bb.2.2.1 su.2.2.2.2.1⟩  -- b6
    refine ⟨ib_1200000.mpr ?_, ?_⟩
    · clear h; exact ⟨ba.1, ba.2.2.1 su.2.2.2.2.1⟩  -- b7
    intro σ_3 hσ_3
    intro x4 hx4
    refine ⟨_, cn_lt2 hn2 ?_ ?_, rfl, ?_⟩
    · clear h; rw [hx4]; exact su.2.2.2.1  -- d8
    · clear h; rw [hx4]; exact su.2.2.1  -- d9
    · clear h; rw [ba.2.1, bb.2.1, g5 (40000 * a2.toNatClampNeg + x2_3.toNatClampNeg) (by omega)] at hσ_3
      refine ⟨rfl, rfl, ⟨fun k => by rw [hσ_3, ri1]; exact g1.1 k, fun k => by rw [hσ_3, ri2]; exact g1.2.1 k, fun k z => by rw [hσ_3, ri3 z]; exact g1.2.2.1 k z, fun k j z => by rw [hσ_3, ri3 z]; exact g1.2.2.2.1 k j z, fun k j => by rw [hσ_3, ri5]; exact g1.2.2.2.2 k j⟩, by rw [hx4]; exact su.1, by rw [hx4]; exact su.2.1, fun i hi => ?_, fun j hj => ?_⟩
      · rw [hx4, cn_succ g2 su.2.2.2.2.2.2.1] at hi
        rw [hσ_3, ri4]
        by_cases z : i = x2_3.toNatClampNeg
        · rw [if_pos (by rw [z]), z]
        · rw [if_neg (by omega)]; exact g4 i (by omega)
      · rw [hσ_3, ri4, if_neg (by omega)]; exact g5 j hj
