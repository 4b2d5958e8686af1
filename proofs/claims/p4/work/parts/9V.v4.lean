set_option maxHeartbeats 1600000
/-! the reference: drawn, played -/
theorem shr33 {x : Int64} : 0 ≤ ((x.toUInt64 >>> ((33 : Int32).toInt64.toUInt64 &&& Int64.toUInt64 63)).toInt64).toInt ∧ ((x.toUInt64 >>> ((33 : Int32).toInt64.toUInt64 &&& Int64.toUInt64 63)).toInt64).toInt < 2147483648 := by
  have e : ((x.toUInt64 >>> ((33 : Int32).toInt64.toUInt64 &&& Int64.toUInt64 63)).toInt64).toBitVec.toNat = x.toBitVec.toNat / 8589934592 := by
    rw [UInt64.toBitVec_toInt64, UInt64.toBitVec_shiftRight, Int64.toBitVec_toUInt64, BitVec.ushiftRight_eq', BitVec.toNat_ushiftRight, Nat.shiftRight_eq_div_pow]
    rfl
  have lt : x.toBitVec.toNat < 2 ^ 64 := x.toBitVec.isLt
  have t : ((x.toUInt64 >>> ((33 : Int32).toInt64.toUInt64 &&& Int64.toUInt64 63)).toInt64).toInt = (((x.toUInt64 >>> ((33 : Int32).toInt64.toUInt64 &&& Int64.toUInt64 63)).toInt64).toBitVec.toNat : Int) := BitVec.toInt_eq_toNat_of_lt (by rw [e]; omega)
  rw [t, e]
  omega
theorem mod_r {x t : Int64} (x0 : 0 ≤ x.toInt) (x1 : x.toInt < 2147483648) (h0 : 0 < t.toInt) (h1 : t.toInt ≤ 8000000) : 0 ≤ (x - x / t * t).toInt ∧ (x - x / t * t).toInt < t.toInt := by
  have q : (x / t).toInt = x.toInt / t.toInt := by
    rw [Int64.toInt_div_of_ne_right _ _ (fun e => by rw [e] at h0; exact absurd h0 (by decide)), Int.tdiv_eq_ediv_of_nonneg x0]
  have d := Int.emod_add_mul_ediv x.toInt t.toInt
  have r0 := Int.emod_nonneg x.toInt (by omega : t.toInt ≠ 0)
  have r1 := Int.emod_lt_of_pos x.toInt h0
  have q0 : 0 ≤ x.toInt / t.toInt := Int.ediv_nonneg x0 (by omega)
  have p0 : 0 ≤ t.toInt * (x.toInt / t.toInt) := Int.mul_nonneg (by omega) q0
  have m : (x / t * t).toInt = t.toInt * (x.toInt / t.toInt) := by
    rw [Int64.toInt_mul, q, Int.mul_comm]
    exact Int.bmod_eq_of_le (by omega) (by omega)
  have s : (x - x / t * t).toInt = x.toInt - t.toInt * (x.toInt / t.toInt) := by
    rw [Int64.toInt_sub, m]
    exact Int.bmod_eq_of_le (by omega) (by omega)
  omega
def drF (σ τ : rS) : Prop := τ.1 = σ.1 ∧ (∀ k, k ≠ 112 → τ.2.1 k = σ.2.1 k) ∧ τ.2.2 = σ.2.2
theorem dr_up {x : Int32} (x0 : 0 ≤ x) (h : x < 63) : 0 ≤ x + 1 ∧ x + 1 < 64 ∧ 0 ≤ 63 - (x + 1) ∧ 63 - (x + 1) < 63 - x ∧ x < 1000000 := by grind
theorem dr_lt {x n : Int32} (x0 : 0 ≤ x) (hx : x < n) (n1 : n ≤ 64) (h : x.toNatClampNeg + 1 ≠ n.toNatClampNeg) : x + 1 < n := by
  have a := cn_lt x0 hx
  have s := cn_succ x0 (Int32.lt_trans (Int32.lt_of_lt_of_le hx n1) (by decide))
  have y0 : 0 ≤ x + 1 := by grind
  exact cn_ltr y0 (Int32.le_trans x0 (Int32.le_of_lt hx)) (by omega)
theorem drawn_c {C : rCx} (hC : cOK C)  {σ : rS}  {Q : Int32 → rS → Prop} (hp : oW σ ∧ 0 ≤ σ.1 109 ∧ 0 ≤ σ.1 104 ∧ σ.1 104 ≤ 200 ∧ (σ.1 113 = 0 → σ.1 109 ≤ σ.1 104)) (h : ∀ (v : Int32) (σ' : rS), (drF σ σ' ∧ (v = -1 ∨ v = -2 ∨ (0 ≤ v ∧ v < σ.1 63 ∧ (σ.1 113 = 0 → σ.1 109 < σ.1 104)))) → Q v σ') : cI C 1 m_drawn [.ref (co C)] σ Q := by
  refine m_drawn_run hC ?_
  unfold w_drawn_0
  obtain ⟨W, h9, h4, h4', hle⟩ := hp
  have tp := Int32.lt_iff_toInt_lt.mp W.2.2.2.2.1
  have tl := ti W.2.2.2.2.2
  rw [Int32.toInt_zero] at tp
  rw [show (8000000 : Int32).toInt = 8000000 from rfl] at tl
  have wn : ∀ i, i < (σ.1 63).toNatClampNeg → 0 ≤ (σ.2.2.1 65 i).toInt := fun i hi => t0 (W.2.2.1 i hi).1
  refine ⟨fun c1 => ?_, fun c1 => ?_⟩
  · skip
    intro σ_2 hσ_2
    refine ⟨?_, ?_⟩
    · clear h; intro z
      have e := congrArg Int64.toInt z
      rw [Int32.toInt_toInt64, hσ_2] at e
      have e2 : (σ.1 66).toInt = 0 := e
      omega
    intro x3 hx3
    refine ⟨ib_64.mpr ?_, ?_⟩
    · clear h; exact ⟨by decide, by decide⟩  -- b2
    intro x4 hx4
    unfold w_drawn_97
    refine ⟨fun n l1 l3 l4 τ => n = (63 - l3).toNatClampNeg ∧ (τ = σ_2 ∧ l1 = x3 ∧ 0 ≤ l3 ∧ l3 < σ.1 63 ∧ l4.toInt = wsum (σ.2.2.1 65) (l3.toNatClampNeg + 1)), ⟨_, rfl, ?_⟩, ?_⟩
    · clear h; refine ⟨rfl, rfl, by decide, Int32.lt_of_lt_of_le (by decide) W.1, ?_⟩
      rw [hx4, Int32.toInt_toInt64, hσ_2]
      show (σ.2.2.1 65 0).toInt = 0 + (σ.2.2.1 65 0).toInt
      omega
    rintro n97 x97_1 x97_3 x97_4 σ97 ⟨hn97, i97⟩
    obtain ⟨e1, e2, a0, a1, S⟩ := i97
    have D : drF σ σ97 := by
      rw [e1, hσ_2]
      exact ⟨rfl, fun k hk => if_neg hk, rfl⟩
    have m := mod_r (shr33 (x := σ_2.2.1 112)).1 (shr33 (x := σ_2.2.1 112)).2 (t := (σ_2.1 66).toInt64) (by rw [Int32.toInt_toInt64, hσ_2]; exact tp) (by rw [Int32.toInt_toInt64, hσ_2]; exact tl)
    rw [← hx3, Int32.toInt_toInt64] at m
    have m2 : x3.toInt < (σ.1 66).toInt := by
      have z := m.2
      rw [hσ_2] at z
      exact z
    have l1 := cn_lt a0 a1
    refine ⟨fun c5 => ?_, fun c5 => ?_⟩
    · skip
      refine h _ _ ?_
      · clear h; exact ⟨D, Or.inr (Or.inr ⟨a0, a1, fun z => absurd z c1⟩)⟩  -- q4
    · skip
      intro x6 hx6
      have le := lg_le.mp (Int32.not_lt.mp c5)
      rw [e2] at le
      have le2 := Int64.le_iff_toInt_le.mp le
      have lt := dr_lt a0 a1 W.2.1 (fun e => by
        rw [S, e, ← W.2.2.2.1] at le2
        omega)
      have n64 : (σ.1 63).toNatClampNeg ≤ 64 := cn_le (y := 64) rfl W.2.1
      have nx : x97_3.toNatClampNeg + 1 ≠ (σ.1 63).toNatClampNeg := fun e => by
        rw [S, e, ← W.2.2.2.1] at le2
        omega
      have u := dr_up a0 (cn_ltr a0 (by decide) (by rw [show (63 : Int32).toNatClampNeg = 63 from rfl]; omega))
      have as := cn_succ a0 u.2.2.2.2
      refine ⟨ib_64.mpr ?_, ?_⟩
      · clear h; rw [hx6]; exact ⟨u.1, u.2.1⟩  -- b5
      intro x7 hx7
      refine ⟨_, cn_lt2 hn97 ?_ ?_, rfl, ?_⟩
      · clear h; rw [hx6]; exact u.2.2.1  -- d6
      · clear h; rw [hx6]; exact u.2.2.2.1  -- d7
      · clear h; refine ⟨e1, e2, by rw [hx6]; exact u.1, by rw [hx6]; exact lt, ?_⟩
        have r65 : σ97.2.2.1 65 = σ.2.2.1 65 := by rw [D.2.2]
        have k2 : x97_3.toNatClampNeg + 1 < (σ.1 63).toNatClampNeg := by
          have z := cn_lt u.1 lt
          rw [as] at z
          exact z
        rw [hx7, hx6, r65, as]
        show _ = wsum (σ.2.2.1 65) (x97_3.toNatClampNeg + 1) + (σ.2.2.1 65 (x97_3.toNatClampNeg + 1)).toInt
        have b1 := wsum_mono (m := x97_3.toNatClampNeg + 1) wn (by omega)
        have b0 := wsum_mono (m := 0) (n := x97_3.toNatClampNeg + 1) (fun i hi => wn i (by omega)) (Nat.zero_le _)
        have w0 := W.2.2.1 _ k2
        have w2 := ti w0.2
        rw [show (1000000 : Int32).toInt = 1000000 from rfl] at w2
        exact l64_add S (Int32.toInt_toInt64 _) b0 (by rw [← W.2.2.2.1] at b1; omega) (t0 w0.1) (by omega)
  · skip
    have le := hle c1
    refine ⟨fun c8 => ?_, fun c8 => ?_⟩
    · skip
      refine ⟨ib_200.mpr ?_, ?_⟩
      · clear h; exact ⟨h9, Int32.lt_of_lt_of_le (Int32.lt_of_le_of_ne le c8) h4'⟩  -- b9
      refine isSlot_c hC  (fun r9 q11 => ?_)
      refine ⟨fun c12 => ?_, fun c12 => ?_⟩
      · skip
        refine h _ _ ?_
        · clear h; exact ⟨⟨rfl, fun _ _ => rfl, rfl⟩, Or.inr (Or.inl rfl)⟩  -- q10
      · skip
        refine ⟨ib_200.mpr ?_, ?_⟩
        · clear h; exact ⟨h9, Int32.lt_of_lt_of_le (Int32.lt_of_le_of_ne le c8) h4'⟩  -- b11
        refine h _ _ ?_
        · clear h; have q := q11.2.mp c12
          exact ⟨⟨rfl, fun _ _ => rfl, rfl⟩, Or.inr (Or.inr ⟨q.1, q.2, fun _ => Int32.lt_of_le_of_ne le c8⟩)⟩
    · skip
      refine h _ _ ?_
      · clear h; exact ⟨⟨rfl, fun _ _ => rfl, rfl⟩, Or.inl rfl⟩  -- q13

theorem py_b {a : Int32} (h0 : 0 ≤ a) (h1 : a < 39) (h : a.toInt < 0 ∨ 4 < a.toInt) : 0 ≤ a - 5 ∧ a - 5 < 34 := by
  have x := t0 h0
  have y : 5 ≤ a := Int32.le_iff_toInt_le.mpr (by rw [show (5 : Int32).toInt = 5 from rfl]; omega)
  grind
theorem py_c {a s : Int32} (s0 : 0 ≤ s) (s1 : s ≤ 34) (h : a < 5 + s) : a < 39 := by grind
theorem played_c {C : rCx} (hC : cOK C)  {σ : rS} {a1 : Int32} {Q : Int64 → rS → Prop} (hp : 0 ≤ σ.1 15 + σ.1 17 ∧ σ.1 15 + σ.1 17 ≤ 34) (h : ∀ (v : Int64) (σ' : rS), (frT [0] [] σ σ') → Q v σ') : cJ C 0 m_played [.ref (co C), .int a1] σ Q := by
  refine m_played_run hC ?_
  unfold w_played_0
  have hj36 : ∀ (l1 : Int32) (s1 : Int32) (τ : rS), (l1 = a1 ∧ τ = σ ∧ (¬ 0 < s1 → 0 ≤ a1 ∧ a1 < 39)) → w_played_36 C Q  l1 s1 τ := by
    rintro y36_1 y36_s1 τ36 j36
    unfold w_played_36
    intro σ_1 hσ_1
    obtain ⟨y1, y2, y3⟩ := j36
    have F : frT [0] [] σ σ_1 := by rw [hσ_1, y2]; exact frT_0 (by decide)
    have e0 : σ_1.1 0 = y36_s1 := by rw [hσ_1]; rfl
    rw [y1]
    refine ⟨fun c2 => ?_, fun c2 => ?_⟩
    · skip
      refine h _ _ ?_
      · clear h; exact F  -- q1
    · skip
      refine ⟨fun c3 => ?_, fun c3 => ?_⟩
      · skip
        refine ⟨fun c4 => ?_, fun c4 => ?_, fun c4 => ?_, fun c4 => ?_, fun c4 => ?_, fun c4 => ?_⟩
        · skip
          refine ⟨ib_34.mpr ?_, ?_⟩
          · clear h; have w := y3 (by rw [← e0]; exact c2)
            exact py_b w.1 w.2 c4
          refine h _ _ ?_
          · clear h; exact F  -- q3
        · skip
          refine h _ _ ?_
          · clear h; exact F  -- q4
        · skip
          refine h _ _ ?_
          · clear h; exact F  -- q5
        · skip
          refine h _ _ ?_
          · clear h; exact F  -- q6
        · skip
          refine h _ _ ?_
          · clear h; exact F  -- q7
        · skip
          refine h _ _ ?_
          · clear h; exact F  -- q8
      · skip
        refine h _ _ ?_
        · clear h; exact F  -- q9
  have hj27 : ∀ (l1 : Int32) (s1 : Int32) (s2 : Int32) (s3 : Int32) (τ : rS), (l1 = a1 ∧ τ = σ ∧ s1 = a1 ∧ s2 = 5 ∧ 0 ≤ s3 ∧ s3 ≤ 34 ∧ 0 ≤ a1) → w_played_27 C Q  l1 s1 s2 s3 τ := by
    rintro y27_1 y27_s1 y27_s2 y27_s3 τ27 j27
    unfold w_played_27
    obtain ⟨y1, y2, y3, y4, y5, y6, y7⟩ := j27
    rw [y3, y4]
    refine ⟨fun c5 => ?_, fun c5 => ?_⟩
    · skip
      refine hj36 _ _ _ ?_
      · clear h; exact ⟨y1, y2, fun _ => ⟨y7, py_c y5 y6 c5⟩⟩  -- k10
    · skip
      refine hj36 _ _ _ ?_
      · clear h; exact ⟨y1, y2, fun z => absurd (by decide) z⟩  -- k11
  refine ⟨fun c6 => ?_, fun c6 => ?_⟩
  · skip
    refine hj36 _ _ _ ?_
    · clear h; exact ⟨rfl, rfl, fun z => absurd (by decide) z⟩  -- k12
  · skip
    refine ⟨fun c7 => ?_, fun c7 => ?_⟩
    · skip
      refine hj27 _ _ _ _ _ ?_
      · clear h; exact ⟨rfl, rfl, rfl, rfl, by decide, by decide, Int32.not_lt.mp c6⟩  -- k13
    · skip
      refine hj27 _ _ _ _ _ ?_
      · clear h; exact ⟨rfl, rfl, rfl, rfl, hp.1, hp.2, Int32.not_lt.mp c6⟩  -- k14
