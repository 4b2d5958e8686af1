set_option maxHeartbeats 1600000
/-! the reference: a program's tables kept and brought back -/
theorem cn_add {x y : Int32} (h0 : 0 ≤ x) (h1 : x ≤ 1600) (h2 : 0 ≤ y) (h3 : y ≤ 200) : (x + y).toNatClampNeg = x.toNatClampNeg + y.toNatClampNeg := by
  have a : (x + y).toNatClampNeg = (x + y).toInt.toNat := rfl
  have b : x.toNatClampNeg = x.toInt.toNat := rfl
  have c : y.toNatClampNeg = y.toInt.toNat := rfl
  have h0' := Int32.le_iff_toInt_le.mp h0
  have h1' := Int32.le_iff_toInt_le.mp h1
  have h2' := Int32.le_iff_toInt_le.mp h2
  have h3' := Int32.le_iff_toInt_le.mp h3
  rw [Int32.toInt_zero] at h0' h2'
  rw [show (1600 : Int32).toInt = 1600 from rfl] at h1'
  rw [show (200 : Int32).toInt = 200 from rfl] at h3'
  rw [a, b, c, i_add h0 h2 (by omega)]
  omega
theorem sw_b {l n c x : Int32} (h0 : 0 ≤ l) (h : ¬ n ≤ l) (hn : n ≤ 200) (hc0 : 0 ≤ c) (hc : c ≤ 1600) (hx : x = c + l) : 0 ≤ l + 1 ∧ l + 1 ≤ n ∧ n - (l + 1) < n - l ∧ 0 ≤ n - (l + 1) ∧ l < n ∧ l ≤ 200 ∧ 0 ≤ x ∧ x < 2048 ∧ x + 1 = c + (l + 1) ∧ l < 1000000 := by grind
theorem sw_e {l n : Int32} (h1 : l ≤ n) (h : n ≤ l) : l = n := by grind
theorem in_L {l n : Int32} {L : Nat} (h0 : 0 ≤ l) (h : l < n) (hL : n.toInt ≤ L) : inb l L := by
  rw [inb_iff]
  have h0' := Int32.le_iff_toInt_le.mp h0
  rw [Int32.toInt_zero] at h0'
  have := Int32.lt_iff_toInt_lt.mp h
  omega
theorem swing_c_s {C : rCx} (hC : cOK C) (L : Nat) {σ : rS} {a1 : Nat} {a2 : Int32} {a3 : Int32} {Q : rS → Prop} (hp : a3 = 0 ∧ rT a1 = some (0, L) ∧ a2.toInt ≤ L ∧ a1 ≠ 54 ∧ 0 ≤ σ.1 55 ∧ σ.1 55 ≤ 1600 ∧ 0 ≤ a2 ∧ a2 ≤ 200) (h : ∀ (σ' : rS), (((∀ k, k ≠ 55 → σ'.1 k = σ.1 k) ∧ (∀ k,  σ'.2.1 k = σ.2.1 k) ∧ (∀ k, k ≠ 54 → σ'.2.2.1 k = σ.2.2.1 k) ∧ (∀ k j, k ≠ 54 → σ'.2.2.1 k j = σ.2.2.1 k j) ∧ (∀ k j,  σ'.2.2.2 k j = σ.2.2.2 k j)) ∧ σ'.1 55 = σ.1 55 + a2 ∧ (∀ i, i < a2.toNatClampNeg → σ'.2.2.1 54 ((σ.1 55).toNatClampNeg + i) = σ.2.2.1 a1 i) ∧ (∀ j, j < (σ.1 55).toNatClampNeg → σ'.2.2.1 54 j = σ.2.2.1 54 j)) → Q σ') : cV C 0 m_swing [.ref (co C), .ref (cad C a1), .int a2, .int a3] σ Q := by
  refine m_swing_run hC ?_
  unfold w_swing_0
  obtain ⟨h3, hT, hL, h54, c0, c1, n0, n1⟩ := hp
  unfold w_swing_3
  refine ⟨fun n l1 l2 l3 l4 τ => n = (a2 - l4).toNatClampNeg ∧ (l1 = a1 ∧ l2 = a2 ∧ l3 = a3 ∧ ((∀ k, k ≠ 55 → τ.1 k = σ.1 k) ∧ (∀ k,  τ.2.1 k = σ.2.1 k) ∧ (∀ k, k ≠ 54 → τ.2.2.1 k = σ.2.2.1 k) ∧ (∀ k j, k ≠ 54 → τ.2.2.1 k j = σ.2.2.1 k j) ∧ (∀ k j,  τ.2.2.2 k j = σ.2.2.2 k j)) ∧ 0 ≤ l4 ∧ l4 ≤ a2 ∧ τ.1 55 = σ.1 55 + l4 ∧ (∀ i, i < l4.toNatClampNeg → τ.2.2.1 54 ((σ.1 55).toNatClampNeg + i) = σ.2.2.1 a1 i) ∧ (∀ j, j < (σ.1 55).toNatClampNeg → τ.2.2.1 54 j = σ.2.2.1 54 j)), ⟨_, rfl, ?_⟩, ?_⟩
  · clear h; exact ⟨rfl, rfl, rfl, ⟨fun _ _ => rfl, fun _ => rfl, fun _ _ => rfl, fun _ _ _ => rfl, fun _ _ => rfl⟩, by decide, n0, by rw [Int32.add_zero], fun i hi => absurd hi (Nat.not_lt_zero i), fun _ _ => rfl⟩  -- j1
  rintro n3 x3_1 x3_2 x3_3 x3_4 σ3 ⟨hn3, i3⟩
  obtain ⟨e1, e2, e3, g1, g2, g3, g4, g5, g6⟩ := i3
  have hj42 : ∀ (l1 : Nat) (l2 : Int32) (l3 : Int32) (l4 : Int32) (τ : rS), (l1 = a1 ∧ l2 = a2 ∧ l3 = a3 ∧ ¬ a2 ≤ x3_4 ∧ l4 = x3_4 ∧ τ = riU σ3 54 (σ3.1 55).toNatClampNeg (σ3.2.2.1 a1 x3_4.toNatClampNeg)) → w_swing_42 C Q (fun l1' l2' l3' l4' τ => ∃ k < n3, (fun n l1 l2 l3 l4 τ => n = (a2 - l4).toNatClampNeg ∧ (l1 = a1 ∧ l2 = a2 ∧ l3 = a3 ∧ ((∀ k, k ≠ 55 → τ.1 k = σ.1 k) ∧ (∀ k,  τ.2.1 k = σ.2.1 k) ∧ (∀ k, k ≠ 54 → τ.2.2.1 k = σ.2.2.1 k) ∧ (∀ k j, k ≠ 54 → τ.2.2.1 k j = σ.2.2.1 k j) ∧ (∀ k j,  τ.2.2.2 k j = σ.2.2.2 k j)) ∧ 0 ≤ l4 ∧ l4 ≤ a2 ∧ τ.1 55 = σ.1 55 + l4 ∧ (∀ i, i < l4.toNatClampNeg → τ.2.2.1 54 ((σ.1 55).toNatClampNeg + i) = σ.2.2.1 a1 i) ∧ (∀ j, j < (σ.1 55).toNatClampNeg → τ.2.2.1 54 j = σ.2.2.1 54 j))) k l1' l2' l3' l4' τ) l1 l2 l3 l4 τ := by
    rintro y42_1 y42_2 y42_3 y42_4 τ42 j42
    unfold w_swing_42
    intro σ_1 hσ_1
    intro x2 hx2
    obtain ⟨p1, p2, p3, p4, p5, p6⟩ := j42
    have su := sw_b g2 p4 n1 c0 c1 g4
    have ci : (σ3.1 55).toNatClampNeg = (σ.1 55).toNatClampNeg + x3_4.toNatClampNeg := by rw [g4, cn_add c0 c1 g2 su.2.2.2.2.2.1]
    refine ⟨_, cn_lt2 hn3 ?_ ?_, rfl, ?_⟩
    · clear h; rw [hx2, p5]; exact su.2.2.2.1  -- d2
    · clear h; rw [hx2, p5]; exact su.2.2.1  -- d3
    · clear h; refine ⟨p1, p2, p3, ⟨fun k z => ?_, fun k => ?_, fun k z => ?_, fun k j z => ?_, fun k j => ?_⟩, by rw [hx2, p5]; exact su.1, by rw [hx2, p5]; exact su.2.1, ?_, fun i hi => ?_, fun j hj => ?_⟩
      · rw [hσ_1, si1, if_neg z, p6, ri1]; exact g1.1 k z
      · rw [hσ_1, si2, p6, ri2]; exact g1.2.1 k
      · rw [hσ_1, si2, p6, ri3 z]; exact g1.2.2.1 k z
      · rw [hσ_1, si2, p6, ri3 z]; exact g1.2.2.2.1 k j z
      · rw [hσ_1, si2, p6, ri5]; exact g1.2.2.2.2 k j
      · rw [hσ_1, si1, if_pos rfl, p6, ri1, hx2, p5]; exact su.2.2.2.2.2.2.2.2.1
      · rw [hx2, p5, cn_succ g2 su.2.2.2.2.2.2.2.2.2] at hi
        rw [hσ_1, si2, p6, ri4, ci]
        by_cases e : i = x3_4.toNatClampNeg
        · rw [if_pos (by rw [e]), e, g1.2.2.1 a1 h54]
        · rw [if_neg (by omega)]; exact g5 i (by omega)
      · rw [hσ_1, si2, p6, ri4, ci, if_neg (by omega)]; exact g6 j hj
  refine ⟨fun c3 => ?_, fun c3 => ?_⟩
  · skip
    refine h _ ?_
    · clear h; rw [e2] at c3
      have el := sw_e g3 c3
      rw [el] at g4 g5
      exact ⟨g1, g4, g5, g6⟩
  · skip
    have c3' : ¬ a2 ≤ x3_4 := by rw [← e2]; exact c3
    have su := sw_b g2 c3' n1 c0 c1 g4
    refine ⟨fun c4 => ?_, fun c4 => ?_⟩
    · skip
      refine ⟨L, ?_, ?_, ?_⟩
      · clear h; rw [e1]; exact hT  -- t6
      · clear h; exact in_L g2 su.2.2.2.2.1 hL  -- b7
      refine ⟨ib_2048.mpr ?_, ?_⟩
      · clear h; exact ⟨su.2.2.2.2.2.2.1, su.2.2.2.2.2.2.2.1⟩  -- b8
      intro σ_5 hσ_5
      refine hj42 _ _ _ _ _ ?_
      · clear h; exact ⟨e1, e2, e3, c3', rfl, by rw [hσ_5, e1]⟩  -- k9
    · skip
      refine ⟨ib_2048.mpr ?_, ?_⟩
      · clear h; exact absurd (e3.trans h3) c4  -- b10
      refine ⟨L, ?_, ?_, ?_⟩
      · clear h; exact absurd (e3.trans h3) c4  -- t11
      · clear h; exact absurd (e3.trans h3) c4  -- b12
      intro σ_6 hσ_6
      refine hj42 _ _ _ _ _ ?_
      · clear h; exact absurd (e3.trans h3) c4  -- k13

theorem swing_c_b {C : rCx} (hC : cOK C) (L : Nat) {σ : rS} {a1 : Nat} {a2 : Int32} {a3 : Int32} {Q : rS → Prop} (hp : a3 ≠ 0 ∧ rT a1 = some (0, L) ∧ a2.toInt ≤ L ∧ a1 ≠ 54 ∧ 0 ≤ σ.1 55 ∧ σ.1 55 ≤ 1600 ∧ 0 ≤ a2 ∧ a2 ≤ 200) (h : ∀ (σ' : rS), (((∀ k, k ≠ 55 → σ'.1 k = σ.1 k) ∧ (∀ k,  σ'.2.1 k = σ.2.1 k) ∧ (∀ k, k ≠ a1 → σ'.2.2.1 k = σ.2.2.1 k) ∧ (∀ k j, k ≠ a1 → σ'.2.2.1 k j = σ.2.2.1 k j) ∧ (∀ k j,  σ'.2.2.2 k j = σ.2.2.2 k j)) ∧ σ'.1 55 = σ.1 55 + a2 ∧ (∀ i, i < a2.toNatClampNeg → σ'.2.2.1 a1 i = σ.2.2.1 54 ((σ.1 55).toNatClampNeg + i)) ∧ (∀ j, a2.toNatClampNeg ≤ j → σ'.2.2.1 a1 j = σ.2.2.1 a1 j)) → Q σ') : cV C 0 m_swing [.ref (co C), .ref (cad C a1), .int a2, .int a3] σ Q := by
  refine m_swing_run hC ?_
  unfold w_swing_0
  obtain ⟨h3, hT, hL, h54, c0, c1, n0, n1⟩ := hp
  unfold w_swing_3
  refine ⟨fun n l1 l2 l3 l4 τ => n = (a2 - l4).toNatClampNeg ∧ (l1 = a1 ∧ l2 = a2 ∧ l3 = a3 ∧ ((∀ k, k ≠ 55 → τ.1 k = σ.1 k) ∧ (∀ k,  τ.2.1 k = σ.2.1 k) ∧ (∀ k, k ≠ a1 → τ.2.2.1 k = σ.2.2.1 k) ∧ (∀ k j, k ≠ a1 → τ.2.2.1 k j = σ.2.2.1 k j) ∧ (∀ k j,  τ.2.2.2 k j = σ.2.2.2 k j)) ∧ 0 ≤ l4 ∧ l4 ≤ a2 ∧ τ.1 55 = σ.1 55 + l4 ∧ (∀ i, i < l4.toNatClampNeg → τ.2.2.1 a1 i = σ.2.2.1 54 ((σ.1 55).toNatClampNeg + i)) ∧ (∀ j, l4.toNatClampNeg ≤ j → τ.2.2.1 a1 j = σ.2.2.1 a1 j)), ⟨_, rfl, ?_⟩, ?_⟩
  · clear h; exact ⟨rfl, rfl, rfl, ⟨fun _ _ => rfl, fun _ => rfl, fun _ _ => rfl, fun _ _ _ => rfl, fun _ _ => rfl⟩, by decide, n0, by rw [Int32.add_zero], fun i hi => absurd hi (Nat.not_lt_zero i), fun _ _ => rfl⟩  -- j1
  rintro n3 x3_1 x3_2 x3_3 x3_4 σ3 ⟨hn3, i3⟩
  obtain ⟨e1, e2, e3, g1, g2, g3, g4, g5, g6⟩ := i3
  have hj42 : ∀ (l1 : Nat) (l2 : Int32) (l3 : Int32) (l4 : Int32) (τ : rS), (l1 = a1 ∧ l2 = a2 ∧ l3 = a3 ∧ ¬ a2 ≤ x3_4 ∧ l4 = x3_4 ∧ τ = riU σ3 a1 x3_4.toNatClampNeg (σ3.2.2.1 54 (σ3.1 55).toNatClampNeg)) → w_swing_42 C Q (fun l1' l2' l3' l4' τ => ∃ k < n3, (fun n l1 l2 l3 l4 τ => n = (a2 - l4).toNatClampNeg ∧ (l1 = a1 ∧ l2 = a2 ∧ l3 = a3 ∧ ((∀ k, k ≠ 55 → τ.1 k = σ.1 k) ∧ (∀ k,  τ.2.1 k = σ.2.1 k) ∧ (∀ k, k ≠ a1 → τ.2.2.1 k = σ.2.2.1 k) ∧ (∀ k j, k ≠ a1 → τ.2.2.1 k j = σ.2.2.1 k j) ∧ (∀ k j,  τ.2.2.2 k j = σ.2.2.2 k j)) ∧ 0 ≤ l4 ∧ l4 ≤ a2 ∧ τ.1 55 = σ.1 55 + l4 ∧ (∀ i, i < l4.toNatClampNeg → τ.2.2.1 a1 i = σ.2.2.1 54 ((σ.1 55).toNatClampNeg + i)) ∧ (∀ j, l4.toNatClampNeg ≤ j → τ.2.2.1 a1 j = σ.2.2.1 a1 j))) k l1' l2' l3' l4' τ) l1 l2 l3 l4 τ := by
    rintro y42_1 y42_2 y42_3 y42_4 τ42 j42
    unfold w_swing_42
    intro σ_1 hσ_1
    intro x2 hx2
    obtain ⟨p1, p2, p3, p4, p5, p6⟩ := j42
    have su := sw_b g2 p4 n1 c0 c1 g4
    have ci : (σ3.1 55).toNatClampNeg = (σ.1 55).toNatClampNeg + x3_4.toNatClampNeg := by rw [g4, cn_add c0 c1 g2 su.2.2.2.2.2.1]
    refine ⟨_, cn_lt2 hn3 ?_ ?_, rfl, ?_⟩
    · clear h; rw [hx2, p5]; exact su.2.2.2.1  -- d2
    · clear h; rw [hx2, p5]; exact su.2.2.1  -- d3
    · clear h; refine ⟨p1, p2, p3, ⟨fun k z => ?_, fun k => ?_, fun k z => ?_, fun k j z => ?_, fun k j => ?_⟩, by rw [hx2, p5]; exact su.1, by rw [hx2, p5]; exact su.2.1, ?_, fun i hi => ?_, fun j hj => ?_⟩
      · rw [hσ_1, si1, if_neg z, p6, ri1]; exact g1.1 k z
      · rw [hσ_1, si2, p6, ri2]; exact g1.2.1 k
      · rw [hσ_1, si2, p6, ri3 z]; exact g1.2.2.1 k z
      · rw [hσ_1, si2, p6, ri3 z]; exact g1.2.2.2.1 k j z
      · rw [hσ_1, si2, p6, ri5]; exact g1.2.2.2.2 k j
      · rw [hσ_1, si1, if_pos rfl, p6, ri1, hx2, p5]; exact su.2.2.2.2.2.2.2.2.1
      · rw [hx2, p5, cn_succ g2 su.2.2.2.2.2.2.2.2.2] at hi
        rw [hσ_1, si2, p6, ri4, ci]
        by_cases e : i = x3_4.toNatClampNeg
        · rw [if_pos e, e, g1.2.2.1 54 (fun z => h54 z.symm)]
        · rw [if_neg e]; exact g5 i (by omega)
      · rw [hx2, p5, cn_succ g2 su.2.2.2.2.2.2.2.2.2] at hj
        rw [hσ_1, si2, p6, ri4, if_neg (by omega)]; exact g6 j (by omega)
  refine ⟨fun c3 => ?_, fun c3 => ?_⟩
  · skip
    refine h _ ?_
    · clear h; rw [e2] at c3
      have el := sw_e g3 c3
      rw [el] at g4 g5 g6
      exact ⟨g1, g4, g5, g6⟩
  · skip
    have c3' : ¬ a2 ≤ x3_4 := by rw [← e2]; exact c3
    have su := sw_b g2 c3' n1 c0 c1 g4
    refine ⟨fun c4 => ?_, fun c4 => ?_⟩
    · skip
      refine ⟨L, ?_, ?_, ?_⟩
      · clear h; exact absurd (e3.symm.trans c4) h3  -- t6
      · clear h; exact absurd (e3.symm.trans c4) h3  -- b7
      refine ⟨ib_2048.mpr ?_, ?_⟩
      · clear h; exact absurd (e3.symm.trans c4) h3  -- b8
      intro σ_5 hσ_5
      refine hj42 _ _ _ _ _ ?_
      · clear h; exact absurd (e3.symm.trans c4) h3  -- k9
    · skip
      refine ⟨ib_2048.mpr ?_, ?_⟩
      · clear h; exact ⟨su.2.2.2.2.2.2.1, su.2.2.2.2.2.2.2.1⟩  -- b10
      refine ⟨L, ?_, ?_, ?_⟩
      · clear h; rw [e1]; exact hT  -- t11
      · clear h; exact in_L g2 su.2.2.2.2.1 hL  -- b12
      intro σ_6 hσ_6
      refine hj42 _ _ _ _ _ ?_
      · clear h; exact ⟨e1, e2, e3, c3', rfl, by rw [hσ_6, e1]⟩  -- k13
